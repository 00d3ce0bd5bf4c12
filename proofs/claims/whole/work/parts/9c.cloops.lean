/-! the class: loops of gates -/
section
variable {d c s : Nat} {B : Nat → Nat} {X : zM} {ρ : Nat → Nat → Int32} {l : Nat → Nat → Int64} {Q : Option zV → zM → Prop}
theorem sp_cBhA {z : Nat} (hB : cOr ρ B) (hz : z < 64) (k : Q (some (zi (nI (lNx B z 6)))) (OM X 0 0 ρ l)) : Ev (d + 1) c s 12 0 [some (zr (some (0, 0, 12))), some (zi (nI z)), none, none] [] (OM X 0 0 ρ l) Q := by
  refine g12_0 ?_
  have lp : ∀ m, m ≤ 6 → Ev (d + 1) c s 12 4 [some (zr (some (0, 0, 12))), some (zi (nI z)), some (zi (nI (lNx B z (6 - m)))), some (zi (nI (6 - m)))] [] (OM X 0 0 ρ l) Q := by
    intro m
    induction m with
    | zero => exact fun _ => g12_4 (by omega) (fun _ => k) (fun g => by omega) (fun g => by omega) (fun g => by omega)
    | succ m ih =>
      intro hm
      have e1 : 6 - (m + 1) + 1 = 6 - m := by omega
      have en : lNx B z (6 - m) = lNx B z (6 - (m + 1)) ||| if z.testBit (6 - (m + 1)) = true then B (6 - (m + 1)) else 0 := by rw [← e1]; rfl
      have cb := cHas_bit (v := z) (k := 6 - (m + 1)) (by omega) hz
      have ih := ih (by omega)
      refine g12_4 (by omega) (fun g => by omega) (fun _ _ => by omega) (fun _ q => ?_) (fun _ q => ?_)
      · rw [e1, (hB _ (by omega)).2, zorN]
        rw [en, if_pos (cb.mp q)] at ih
        exact ih
      · rw [e1]
        rw [en, if_neg (fun e => q (cb.mpr e)), Nat.or_zero] at ih
        exact ih
  exact lp 6 (Nat.le_refl _)
theorem sp_cLoT {g : Nat} (hg : g < 6) (hB : cOr ρ B) (k : Q (some (zi (if lLo B g = 0 then -4 else nI (lLo B g)))) (OM X 0 0 ρ l)) : Ev (d + 2) c s 11 0 [some (zr (some (0, 0, 12))), some (zi (nI g)), none, none] [] (OM X 0 0 ρ l) Q := by
  refine g11_0 ?_
  rw [z1s hg]
  have key : ∀ f n z, n + f = 7 → 0 < n → z < 64 → Q (some (zi (if lLoF B g f n z = 0 then -4 else nI (lLoF B g f n z)))) (OM X 0 0 ρ l) → Ev (d + 2) c s 11 7 [some (zr (some (0, 0, 12))), some (zi (nI g)), some (zi (nI z)), some (zi (nI n))] [] (OM X 0 0 ρ l) Q := by
    intro f
    induction f with
    | zero =>
      intro n z hn _ hz hk
      exact g11_7 (d := d + 1) (by omega) (fun _ => hk) (fun q => by omega)
    | succ f ih =>
      intro n z hn h0 hz hk
      have hz' := lNx_lt (B := B) (fun h hh => (hB h hh).1) z 6 (Nat.le_refl 6)
      have ht := cHas_bit (v := lNx B z 6) (k := g) hg hz'
      unfold lLoF at hk
      refine g11_7 (d := d + 1) (by omega) (fun q => by omega) (fun _ => sp_cBhA (d := d) hB hz (g11_18 (d := d + 1) (fun q => ?_) (fun q => ?_)))
      · rw [if_pos (ht.mp q), if_neg (by omega)] at hk
        exact hk
      · rw [if_neg (fun e => q (ht.mpr e))] at hk
        exact ih (n + 1) _ (by omega) (by omega) hz' hk
  exact key 6 1 _ (by decide) (by decide) (Nat.pow_lt_pow_right (by decide) hg) k
theorem lLo_le (B : Nat → Nat) (g : Nat) : lLo B g < 8 := lLoF_le B g 6 1 _
theorem lLe_m4 (B : Nat → Nat) : ∀ g, lLe B g = -4 ∨ ∃ n, 0 < n ∧ n < 8 ∧ lLe B g = nI n := by
  intro g
  induction g with
  | zero => exact Or.inl rfl
  | succ g ih =>
    have := lLo_le B g
    unfold lLe
    split
    · exact ih
    · split
      · exact Or.inr ⟨_, by omega, this, rfl⟩
      · split
        · exact Or.inr ⟨_, by omega, this, rfl⟩
        · exact ih
theorem sp_cTlL {w : Int32} (hB : cOr ρ B) (k : Q (some (zi (if w = 0 then (if lSe B 6 = 0 then nI 0 else nI 1) else if w = nI 1 then lLe B 6 else nI (lSe B 6)))) (OM X 0 0 ρ l)) : Ev (d + 3) c s 9 0 [some (zr (some (0, 0, 12))), some (zi w), none, none, none, none] [] (OM X 0 0 ρ l) Q := by
  refine g9_0 ?_
  have lp : ∀ m, m ≤ 6 → ∀ o5, Ev (d + 3) c s 9 8 [some (zr (some (0, 0, 12))), some (zi w), some (zi (lLe B (6 - m))), some (zi (nI (lSe B (6 - m)))), some (zi (nI (6 - m))), o5] [] (OM X 0 0 ρ l) Q := by
    intro m
    induction m with
    | zero =>
      intro _ o5
      have hs := lSe_lt B 6
      have hs : lSe B 6 < 64 := hs
      have e0 : nI (lSe B (6 - 0)) = 0 ↔ lSe B 6 = 0 := zeq (by show lSe B 6 < 5000; omega) (by decide)
      refine g9_8 (by omega) (fun _ q1 q2 => ?_) (fun _ q1 q2 => ?_) (fun _ q1 q2 => ?_) (fun _ q1 q2 => ?_) (fun g => by omega)
      · rw [if_neg q1, if_neg q2] at k; exact k
      · rw [if_neg q1, if_pos q2] at k; exact k
      · rw [if_pos q1, if_pos (e0.mp q2)] at k; exact k
      · rw [if_pos q1, if_neg (fun e => q2 (e0.mpr e))] at k; exact k
    | succ m ih =>
      intro hm o5
      have e1 : 6 - (m + 1) + 1 = 6 - m := by omega
      have hg : 6 - (m + 1) < 6 := by omega
      have h8 := lLo_le B (6 - (m + 1))
      have el : lLe B (6 - m) = if lLo B (6 - (m + 1)) = 0 then lLe B (6 - (m + 1)) else if lLe B (6 - (m + 1)) < 0 then nI (lLo B (6 - (m + 1))) else if nI (lLo B (6 - (m + 1))) < lLe B (6 - (m + 1)) then nI (lLo B (6 - (m + 1))) else lLe B (6 - (m + 1)) := by rw [← e1]; rfl
      have es : lSe B (6 - m) = lSe B (6 - (m + 1)) + if lLo B (6 - (m + 1)) = 0 then 0 else 2 ^ (6 - (m + 1)) := by rw [← e1]; rfl
      have ih := ih (by omega)
      rw [el, es] at ih
      have zo := zor hg (lSe_lt B (6 - (m + 1)))
      refine g9_8 (d := d + 2) (by omega) (fun g => by omega) (fun g => by omega) (fun g => by omega) (fun g => by omega) (fun _ => sp_cLoT (d := d) hg hB ?_)
      by_cases h0 : lLo B (6 - (m + 1)) = 0
      · rw [if_pos h0]
        rw [if_pos h0, if_pos h0, Nat.add_zero] at ih
        refine g9_21 (d := d + 2) (fun _ => ?_) (fun q => absurd rfl q) (fun q => absurd rfl q)
        rw [e1]
        exact ih _
      · rw [if_neg h0]
        rw [if_neg h0, if_neg h0] at ih
        have n4 : ¬ nI (lLo B (6 - (m + 1))) = -4 := fun e => by
          have := nI_pos (n := lLo B (6 - (m + 1))) (by omega)
          rw [e] at this
          exact this (by decide)
        refine g9_21 (d := d + 2) (fun q => absurd q n4) (fun _ q => ?_) (fun _ q => ?_)
        · rw [e1, zo]
          rcases lLe_m4 B (6 - (m + 1)) with e | ⟨n, n0, n8, e⟩
          · exact absurd e q
          · have np : ¬ lLe B (6 - (m + 1)) < 0 := by rw [e]; exact nI_pos (by omega)
            rw [if_neg np] at ih
            exact ih _
        · rw [e1, zo]
          rw [if_pos (by rw [q]; decide)] at ih
          exact ih _
  exact lp 6 (Nat.le_refl _) none
end
theorem sp_cIsA {d c s a b : Nat} {τ : Nat → Nat → Int32} {X : zM} {ρ : Nat → Nat → Int32} {l : Nat → Nat → Int64} {Q : Option zV → zM → Prop} (ha : a < 6) (hb : b < 6) (hB : cOr ρ (fun a => rBeN τ a 6)) (k1 : rAh τ a b → Q (some (zi (nI 1))) (OM X 0 0 ρ l)) (k0 : ¬ rAh τ a b → Q (some (zi (nI 0))) (OM X 0 0 ρ l)) : Ev (d + 1) c s 8 0 [some (zr (some (0, 0, 12))), some (zi (nI a)), some (zi (nI b))] [] (OM X 0 0 ρ l) Q := by
  have h := hB a ha
  have e : cHas (ρ 13 a) (nI b) ↔ rAh τ a b := by
    rw [h.2]
    exact (cHas_bit hb h.1).trans (rBeN_bit τ a 6 b hb)
  exact g8_0 ha (fun q => k1 (e.mp q)) (fun q => k0 (fun g => q (e.mpr g)))
