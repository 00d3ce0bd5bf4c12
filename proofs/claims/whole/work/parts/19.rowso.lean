/-! rows over one object's parts -/
def so {α : Type} (f : Nat → Nat → α) (r j : Nat) (v : α) : Nat → Nat → α := zup f r (zup (f r) j v)
def zu {α : Type} (f : Nat → Nat → α) (q n : Nat) (v : α) : Nat → Nat → α := zup f q (zup (f q) n v)
abbrev OM (X : zM) (r j : Nat) (ρ : Nat → Nat → Int32) (l : Nat → Nat → Int64) : zM := (so X.1 r j ρ, so X.2.1 r j l, zpj X.2.2.1, zsj X.2.2.2.1, X.2.2.2.2)
theorem so_s {α : Type} (f : Nat → Nat → α) (r j : Nat) (v : α) : so f r j v r j = v := by simp [so, zup]
theorem so_n {α : Type} (f : Nat → Nat → α) {r j r' j' : Nat} (v : α) (h : ¬ (r' = r ∧ j' = j)) : so f r j v r' j' = f r' j' := by
  unfold so zup
  by_cases h1 : r' = r
  · subst h1
    have h2 : ¬ j' = j := fun e => h ⟨rfl, e⟩
    simp [h2]
  · simp [h1]
theorem so_id {α : Type} (f : Nat → Nat → α) (r j : Nat) : so f r j (f r j) = f := by
  funext r' j'
  by_cases h : r' = r ∧ j' = j
  · obtain ⟨rfl, rfl⟩ := h
    exact so_s _ _ _ _
  · exact so_n _ _ h
theorem so_so {α : Type} (f : Nat → Nat → α) (r j : Nat) (v w : α) : so (so f r j v) r j w = so f r j w := by
  funext r' j'
  by_cases h : r' = r ∧ j' = j
  · obtain ⟨rfl, rfl⟩ := h
    rw [so_s, so_s]
  · rw [so_n _ _ h, so_n _ _ h, so_n _ _ h]
theorem so_up {α : Type} (f : Nat → Nat → Nat → Nat → α) (r j : Nat) (ρ : Nat → Nat → α) (q n : Nat) (v : α) : zup4 (so f r j ρ) r j q n v = so f r j (zu ρ q n v) := by
  have e : zup4 (so f r j ρ) r j q n v = so (so f r j ρ) r j (zu (so f r j ρ r j) q n v) := rfl
  rw [e, so_so, so_s]
theorem zu_s {α : Type} (f : Nat → Nat → α) (q n : Nat) (v : α) : zu f q n v q n = v := by simp [zu, zup]
theorem zu_q {α : Type} (f : Nat → Nat → α) (q n : Nat) (v : α) {q' : Nat} (h : ¬ q' = q) : zu f q n v q' = f q' := by
  unfold zu
  exact zup_n _ _ h
theorem zu_i {α : Type} (f : Nat → Nat → α) (q n : Nat) (v : α) (n' : Nat) : zu f q n v q n' = if n' = n then v else f q n' := by
  unfold zu
  rw [zup_s]
  rfl
theorem zu_row {α : Type} (f : Nat → Nat → α) (q n : Nat) (v : α) : zu f q n v q = zup (f q) n v := by
  unfold zu
  rw [zup_s]
section
variable {F : Nat → Nat → Option zE} {al : Nat → zR} {d c s mid pc pc' len : Nat} {ls ls' : List (Option zV)} {st st' : List zV} {Q : Option zV → zM → Prop} {a : List Nat} {z : Int} {X : zM} {r j q n idx ci f : Nat} {ρ : Nat → Nat → Int32} {l : Nat → Nat → Int64}
theorem Ew.ialdxO {x : Int32} (hF : F mid pc = some (.iaload, len, a, z)) (hS : (zsj X.2.2.2.1 r j q).1 = 20) (hn : vp_in x (zsj X.2.2.2.1 r j q).2) (hpc : pc + len = pc') (k : Ew F al d c s mid pc' ls (zi (ρ q x.toNatClampNeg) :: st) (OM X r j ρ l) Q) : Ew F al d c s mid pc ls (zi x :: zr (some (r, j, q)) :: st) (OM X r j ρ l) Q := Ew.ialdx hF hS hn hpc (by rw [so_s]; exact k)
theorem Ew.ialdnO (hF : F mid pc = some (.iaload, len, a, z)) (hS : (zsj X.2.2.2.1 r j q).1 = 20) (hn : n < (zsj X.2.2.2.1 r j q).2) (hN : (zsj X.2.2.2.1 r j q).2 < 5000) (hpc : pc + len = pc') (k : Ew F al d c s mid pc' ls (zi (ρ q n) :: st) (OM X r j ρ l) Q) : Ew F al d c s mid pc ls (zi (nI n) :: zr (some (r, j, q)) :: st) (OM X r j ρ l) Q := Ew.ialdn hF hS hn hN hpc (by rw [so_s]; exact k)
theorem Ew.caldxO {x : Int32} (hF : F mid pc = some (.caload, len, a, z)) (hS : (zsj X.2.2.2.1 r j q).1 = 22) (hn : vp_in x (zsj X.2.2.2.1 r j q).2) (hpc : pc + len = pc') (k : Ew F al d c s mid pc' ls (zi (ρ q x.toNatClampNeg) :: st) (OM X r j ρ l) Q) : Ew F al d c s mid pc ls (zi x :: zr (some (r, j, q)) :: st) (OM X r j ρ l) Q := Ew.caldx hF hS hn hpc (by rw [so_s]; exact k)
theorem Ew.caldnO (hF : F mid pc = some (.caload, len, a, z)) (hS : (zsj X.2.2.2.1 r j q).1 = 22) (hn : n < (zsj X.2.2.2.1 r j q).2) (hN : (zsj X.2.2.2.1 r j q).2 < 5000) (hpc : pc + len = pc') (k : Ew F al d c s mid pc' ls (zi (ρ q n) :: st) (OM X r j ρ l) Q) : Ew F al d c s mid pc ls (zi (nI n) :: zr (some (r, j, q)) :: st) (OM X r j ρ l) Q := Ew.caldn hF hS hn hN hpc (by rw [so_s]; exact k)
theorem Ew.laldxO {x : Int32} (hF : F mid pc = some (.laload, len, a, z)) (hS : (zsj X.2.2.2.1 r j q).1 = 21) (hn : vp_in x (zsj X.2.2.2.1 r j q).2) (hpc : pc + len = pc') (k : Ew F al d c s mid pc' ls (zl (l q x.toNatClampNeg) :: st) (OM X r j ρ l) Q) : Ew F al d c s mid pc ls (zi x :: zr (some (r, j, q)) :: st) (OM X r j ρ l) Q := Ew.laldx hF hS hn hpc (by rw [so_s]; exact k)
theorem Ew.laldnO (hF : F mid pc = some (.laload, len, a, z)) (hS : (zsj X.2.2.2.1 r j q).1 = 21) (hn : n < (zsj X.2.2.2.1 r j q).2) (hN : (zsj X.2.2.2.1 r j q).2 < 5000) (hpc : pc + len = pc') (k : Ew F al d c s mid pc' ls (zl (l q n) :: st) (OM X r j ρ l) Q) : Ew F al d c s mid pc ls (zi (nI n) :: zr (some (r, j, q)) :: st) (OM X r j ρ l) Q := Ew.laldn hF hS hn hN hpc (by rw [so_s]; exact k)
theorem Ew.iastxO {x v : Int32} (hF : F mid pc = some (.iastore, len, a, z)) (h9 : ¬ r = 9) (hS : (zsj X.2.2.2.1 r j q).1 = 20) (hn : vp_in x (zsj X.2.2.2.1 r j q).2) (hpc : pc + len = pc') (k : Ew F al d c s mid pc' ls st (OM X r j (zu ρ q x.toNatClampNeg v) l) Q) : Ew F al d c s mid pc ls (zi v :: zi x :: zr (some (r, j, q)) :: st) (OM X r j ρ l) Q := Ew.iastx hF h9 hS hn hpc (by rw [so_up]; exact k)
theorem Ew.iastnO {v : Int32} (hF : F mid pc = some (.iastore, len, a, z)) (h9 : ¬ r = 9) (hS : (zsj X.2.2.2.1 r j q).1 = 20) (hn : n < (zsj X.2.2.2.1 r j q).2) (hN : (zsj X.2.2.2.1 r j q).2 < 5000) (hpc : pc + len = pc') (k : Ew F al d c s mid pc' ls st (OM X r j (zu ρ q n v) l) Q) : Ew F al d c s mid pc ls (zi v :: zi (nI n) :: zr (some (r, j, q)) :: st) (OM X r j ρ l) Q := Ew.iastn hF h9 hS hn hN hpc (by rw [so_up]; exact k)
theorem Ew.castxO {x v : Int32} (hF : F mid pc = some (.castore, len, a, z)) (hS : (zsj X.2.2.2.1 r j q).1 = 22) (hn : vp_in x (zsj X.2.2.2.1 r j q).2) (hpc : pc + len = pc') (k : Ew F al d c s mid pc' ls st (OM X r j (zu ρ q x.toNatClampNeg (vp_nar .char v)) l) Q) : Ew F al d c s mid pc ls (zi v :: zi x :: zr (some (r, j, q)) :: st) (OM X r j ρ l) Q := Ew.castx hF hS hn hpc (by rw [so_up]; exact k)
theorem Ew.castnO {v : Int32} (hF : F mid pc = some (.castore, len, a, z)) (hS : (zsj X.2.2.2.1 r j q).1 = 22) (hn : n < (zsj X.2.2.2.1 r j q).2) (hN : (zsj X.2.2.2.1 r j q).2 < 5000) (hpc : pc + len = pc') (k : Ew F al d c s mid pc' ls st (OM X r j (zu ρ q n (vp_nar .char v)) l) Q) : Ew F al d c s mid pc ls (zi v :: zi (nI n) :: zr (some (r, j, q)) :: st) (OM X r j ρ l) Q := Ew.castn hF hS hn hN hpc (by rw [so_up]; exact k)
theorem Ew.lastxO {x : Int32} {v : Int64} (hF : F mid pc = some (.lastore, len, a, z)) (hS : (zsj X.2.2.2.1 r j q).1 = 21) (hn : vp_in x (zsj X.2.2.2.1 r j q).2) (hpc : pc + len = pc') (k : Ew F al d c s mid pc' ls st (OM X r j ρ (zu l q x.toNatClampNeg v)) Q) : Ew F al d c s mid pc ls (zl v :: zi x :: zr (some (r, j, q)) :: st) (OM X r j ρ l) Q := Ew.lastx hF hS hn hpc (by rw [so_up]; exact k)
theorem Ew.lastnO {v : Int64} (hF : F mid pc = some (.lastore, len, a, z)) (hS : (zsj X.2.2.2.1 r j q).1 = 21) (hn : n < (zsj X.2.2.2.1 r j q).2) (hN : (zsj X.2.2.2.1 r j q).2 < 5000) (hpc : pc + len = pc') (k : Ew F al d c s mid pc' ls st (OM X r j ρ (zu l q n v)) Q) : Ew F al d c s mid pc ls (zl v :: zi (nI n) :: zr (some (r, j, q)) :: st) (OM X r j ρ l) Q := Ew.lastn hF hS hn hN hpc (by rw [so_up]; exact k)
theorem Ew.getiO (hF : F mid pc = some (.getfield idx, len, [ci, f, 0], z)) (hS : (zsj X.2.2.2.1 r j q).1 = ci + 1) (hpc : pc + len = pc') (k : Ew F al d c s mid pc' ls (zi (ρ q f) :: st) (OM X r j ρ l) Q) : Ew F al d c s mid pc ls (zr (some (r, j, q)) :: st) (OM X r j ρ l) Q := Ew.geti hF hS hpc (by rw [so_s]; exact k)
theorem Ew.getbO (hF : F mid pc = some (.getfield idx, len, [ci, f, 3], z)) (hS : (zsj X.2.2.2.1 r j q).1 = ci + 1) (hpc : pc + len = pc') (k : Ew F al d c s mid pc' ls (zi (ρ q f) :: st) (OM X r j ρ l) Q) : Ew F al d c s mid pc ls (zr (some (r, j, q)) :: st) (OM X r j ρ l) Q := Ew.getb hF hS hpc (by rw [so_s]; exact k)
theorem Ew.getlO (hF : F mid pc = some (.getfield idx, len, [ci, f, 1], z)) (hS : (zsj X.2.2.2.1 r j q).1 = ci + 1) (hpc : pc + len = pc') (k : Ew F al d c s mid pc' ls (zl (l q f) :: st) (OM X r j ρ l) Q) : Ew F al d c s mid pc ls (zr (some (r, j, q)) :: st) (OM X r j ρ l) Q := Ew.getl hF hS hpc (by rw [so_s]; exact k)
theorem Ew.putiO {x : Int32} (hF : F mid pc = some (.putfield idx, len, [ci, f, 0], z)) (hS : (zsj X.2.2.2.1 r j q).1 = ci + 1) (hpc : pc + len = pc') (k : Ew F al d c s mid pc' ls st (OM X r j (zu ρ q f x) l) Q) : Ew F al d c s mid pc ls (zi x :: zr (some (r, j, q)) :: st) (OM X r j ρ l) Q := Ew.puti hF hS hpc (by rw [so_up]; exact k)
theorem Ew.putbO {x : Int32} (hF : F mid pc = some (.putfield idx, len, [ci, f, 3], z)) (hS : (zsj X.2.2.2.1 r j q).1 = ci + 1) (hx : x = 0 ∨ x = 1) (hpc : pc + len = pc') (k : Ew F al d c s mid pc' ls st (OM X r j (zu ρ q f x) l) Q) : Ew F al d c s mid pc ls (zi x :: zr (some (r, j, q)) :: st) (OM X r j ρ l) Q := Ew.putb hF hS hx hpc (by rw [so_up]; exact k)
theorem Ew.putlO {x : Int64} (hF : F mid pc = some (.putfield idx, len, [ci, f, 1], z)) (hS : (zsj X.2.2.2.1 r j q).1 = ci + 1) (hpc : pc + len = pc') (k : Ew F al d c s mid pc' ls st (OM X r j ρ (zu l q f x)) Q) : Ew F al d c s mid pc ls (zl x :: zr (some (r, j, q)) :: st) (OM X r j ρ l) Q := Ew.putl hF hS hpc (by rw [so_up]; exact k)
end
theorem ztw_o {pc : Nat} {dflt lo hi : Int} {offs : Array Int} {x : Int32} {pc' m n : Nat} (h : x.toInt < m ∨ (m : Int) + n ≤ x.toInt) (h1 : (m : Int) = lo) (h2 : (m : Int) + n = hi + 1) (h3 : zj pc dflt = pc') : ztw pc dflt lo hi offs x = pc' := by
  unfold ztw
  rw [if_pos (by omega)]
  exact h3
theorem zno {x : Int32} {m n : Nat} (hm : m + n < 2 ^ 31) (h : ∀ k, k < n → ¬ x = nI (m + k)) : x.toInt < m ∨ (m : Int) + n ≤ x.toInt := by
  by_cases h0 : x.toInt < m
  · exact Or.inl h0
  · refine Or.inr ?_
    rw [← Int.not_lt]
    intro h1
    have e : x = nI (m + (x.toInt.toNat - m)) := by
      apply Int32.toInt_inj.mp
      rw [nI_toInt (by omega)]
      omega
    exact h (x.toInt.toNat - m) (by omega) e
