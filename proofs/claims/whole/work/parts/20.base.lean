/-! small rows: reads whose value is known, loops, numbers -/
theorem so_v {α : Type} {f : Nat → Nat → Nat → Nat → α} {r j q n : Nat} {ρ : Nat → Nat → α} {v : α} (h : ρ q n = v) : so f r j ρ r j q n = v := by rw [so_s]; exact h
section
variable {F : Nat → Nat → Option zE} {al : Nat → zR} {d c s mid pc pc' len : Nat} {ls ls' : List (Option zV)} {st st' : List zV} {Q : Option zV → zM → Prop} {a : List Nat} {z : Int} {I : zI} {L : zL} {P : zP} {S : zS} {top : Nat} {r j q n idx ci f : Nat} {v : Int32}
theorem Ew.ialdnV (hF : F mid pc = some (.iaload, len, a, z)) (hS : (S r j q).1 = 20) (hn : n < (S r j q).2) (hN : (S r j q).2 < 5000) (hpc : pc + len = pc') (hv : I r j q n = v) (k : Ew F al d c s mid pc' ls (zi v :: st) (I, L, P, S, top) Q) : Ew F al d c s mid pc ls (zi (nI n) :: zr (some (r, j, q)) :: st) (I, L, P, S, top) Q := Ew.ialdn hF hS hn hN hpc (by rw [hv]; exact k)
theorem Ew.caldnV (hF : F mid pc = some (.caload, len, a, z)) (hS : (S r j q).1 = 22) (hn : n < (S r j q).2) (hN : (S r j q).2 < 5000) (hpc : pc + len = pc') (hv : I r j q n = v) (k : Ew F al d c s mid pc' ls (zi v :: st) (I, L, P, S, top) Q) : Ew F al d c s mid pc ls (zi (nI n) :: zr (some (r, j, q)) :: st) (I, L, P, S, top) Q := Ew.caldn hF hS hn hN hpc (by rw [hv]; exact k)
theorem Ew.getiV (hF : F mid pc = some (.getfield idx, len, [ci, f, 0], z)) (hS : (S r j q).1 = ci + 1) (hv : I r j q f = v) (hpc : pc + len = pc') (k : Ew F al d c s mid pc' ls (zi v :: st) (I, L, P, S, top) Q) : Ew F al d c s mid pc ls (zr (some (r, j, q)) :: st) (I, L, P, S, top) Q := Ew.geti hF hS hpc (by rw [hv]; exact k)
theorem Ew.getbV (hF : F mid pc = some (.getfield idx, len, [ci, f, 3], z)) (hS : (S r j q).1 = ci + 1) (hv : I r j q f = v) (hpc : pc + len = pc') (k : Ew F al d c s mid pc' ls (zi v :: st) (I, L, P, S, top) Q) : Ew F al d c s mid pc ls (zr (some (r, j, q)) :: st) (I, L, P, S, top) Q := Ew.getb hF hS hpc (by rw [hv]; exact k)
end
theorem loopN (E : Nat → Prop) (n : Nat) (hs : ∀ k, k < n → E (k + 1) → E k) (he : E n) : E 0 := by
  have h : ∀ m, m ≤ n → E (n - m) := by
    intro m
    induction m with
    | zero => intro _; exact he
    | succ m ih =>
      intro hm
      have := ih (by omega)
      rw [show n - m = (n - (m + 1)) + 1 by omega] at this
      exact hs _ (by omega) this
  have := h n (Nat.le_refl n)
  rw [Nat.sub_self] at this
  exact this
theorem zlt {a b : Nat} (h : a < b) (hb : b < 5000) : nI a < nI b := nI_lt h (by omega)
theorem zle {a b : Nat} (h : a ≤ b) (hb : b < 5000) : nI a ≤ nI b := nI_le h (by omega)
theorem znlt {a b : Nat} (h : b ≤ a) (ha : a < 5000) : ¬ nI a < nI b := nI_nlt h (by omega)
theorem znle {a b : Nat} (h : a < b) (hb : b < 5000) : ¬ nI b ≤ nI a := nI_ge h (by omega)
theorem zeq {a b : Nat} (ha : a < 5000) (hb : b < 5000) : nI a = nI b ↔ a = b := nI_eq (by omega) (by omega)
theorem zlt_iff {a b : Nat} (ha : a < 5000) (hb : b < 5000) : nI a < nI b ↔ a < b := nI_ltI (by omega) (by omega)
theorem zle_iff {a b : Nat} (ha : a < 5000) (hb : b < 5000) : nI a ≤ nI b ↔ a ≤ b := nI_leI (by omega) (by omega)
theorem zin_iff (v a b : Int64) : (¬ lg_cmp v a < 0 ∧ ¬ 0 < lg_cmp v b) ↔ (a ≤ v ∧ v ≤ b) := by
  have h1 : lg_cmp v a < 0 ↔ ¬ a ≤ v := by
    rw [← lg_cmp_ge, Int32.not_le]
  have h2 : 0 < lg_cmp v b ↔ ¬ v ≤ b := by
    unfold lg_cmp
    rw [Int64.not_le]
    by_cases h : v > b
    · rw [if_pos h]
      exact ⟨fun _ => h, fun _ => by decide⟩
    · rw [if_neg h]
      constructor
      · intro g
        split at g <;> exact absurd g (by decide)
      · intro g
        exact absurd g h
  rw [h1, h2]
  exact ⟨fun ⟨x, y⟩ => ⟨Classical.not_not.mp x, Classical.not_not.mp y⟩, fun ⟨x, y⟩ => ⟨fun g => g x, fun g => g y⟩⟩
/-- an int between two small bounds, seen as a long -/
theorem zrange (x : Int32) (m : Nat) (hm : m < 5000) : (lN 0 ≤ x.toInt64 ∧ x.toInt64 ≤ lN m) ↔ ∃ t, t ≤ m ∧ x = nI t := by
  have e : x.toInt64.toInt = x.toInt := Int32.toInt_toInt64 x
  have e0 : (lN 0).toInt = 0 := rfl
  have em : (lN m).toInt = (m : Int) := lN_toInt (by omega)
  rw [Int64.le_iff_toInt_le, Int64.le_iff_toInt_le, e, e0, em]
  constructor
  · intro ⟨h1, h2⟩
    refine ⟨x.toInt.toNat, by omega, ?_⟩
    apply Int32.toInt_inj.mp
    rw [nI_toInt (by omega)]
    omega
  · rintro ⟨t, ht, rfl⟩
    rw [nI_toInt (by omega)]
    omega
