/-! the class: who holds what behind one step -/
theorem nI_0lt {m : Nat} (h : m < 5000) : 0 < nI m ↔ 0 < m := by
  rw [show (0 : Int32) = nI 0 from rfl]
  exact nI_ltI (by omega) (by omega)
theorem nI_dec : ∀ m, m < 32 → ∀ n, n < 32 → nI n = nI m + -1 → m = n + 1 := by decide +kernel
/-- a step of a trace: what it is, and what it does to the count at its gate -/
def cStp (τ : Nat → Nat → Int32) (t D kd G m m' : Nat) : Prop := (kd < 3 ∧ G < 6 ∧ τ 10 (30 * t + D) = nI kd ∧ τ 11 (30 * t + D) = nI G ∧ (¬ kd = 2 → τ 12 (30 * t + D) = 0)) ∧ (∀ x, ¬ x = nI G → rIns τ t (D + 1) x = rIns τ t D x) ∧ (m < 5000 ∧ m' < 5000 ∧ rIns τ t D (nI G) = nI m ∧ rIns τ t (D + 1) (nI G) = nI m') ∧ (kd = 0 → m' = m + 1) ∧ (kd = 1 → m = m' + 1) ∧ (kd = 2 → m' = m)
theorem cStp_of {τ : Nat → Nat → Int32} (hO : cOk τ) {t D : Nat} (ht : t < 4) (hD : D < rM τ t) : ∃ kd G m m', cStp τ t D kd G m m' := by
  obtain ⟨h30, h13, hk, _, hm⟩ := hO t ht
  obtain ⟨kd, G, a, b, e0, e1, e2⟩ := hk D hD
  obtain ⟨m, hm1, em⟩ := hm D (by omega) G b
  obtain ⟨m', hm2, em'⟩ := hm (D + 1) (by omega) G b
  have step := em'
  unfold rIns at step
  rw [em, e1, if_pos rfl, e0] at step
  refine ⟨kd, G, m, m', ⟨a, b, e0, e1, e2⟩, fun x hx => ?_, ⟨by omega, by omega, em, em'⟩, fun q => ?_, fun q => ?_, fun q => ?_⟩
  · show rIns τ t D x + _ = _
    rw [e1, if_neg (fun q => hx q.symm)]
    exact Int32.add_zero _
  · subst q
    rw [if_pos (show nI 0 = 0 from rfl), nI_add] at step
    exact ((zeq (by omega) (by omega)).mp step).symm
  · subst q
    rw [if_neg (by decide), if_pos rfl] at step
    exact nI_dec m (by omega) m' (by omega) step.symm
  · subst q
    rw [if_neg (by decide), if_neg (by decide), nI_add] at step
    exact ((zeq (by omega) (by omega)).mp step).symm
section
variable {τ : Nat → Nat → Int32} {w w' : Nat → Int32} {g t D kd G m m' : Nat} {x y : Int32}
theorem cUq_step (hs : cStp τ t D kd G m m') (ht : t < 4) (eD : rD (zw τ w) t = D) (hD : D < 4999) (h : ∀ u, u < 4 → ¬ u = t → w' (10 + 4 * u + 1) = w (10 + 4 * u + 1)) (h1 : w' (10 + 4 * t + 1) = nI (D + 1)) (hE : kd = 0 → rHold (zw τ w) (nI G) = -4 ∨ rHold (zw τ w) (nI G) = nI t) (hu : cUq τ w) : cUq τ w' := by
  obtain ⟨⟨k3, g6, _⟩, hne, ⟨hm, hm', em, em'⟩, q0, q1, q2⟩ := hs
  have key : ∀ g u, u < 4 → ¬ u = t → 0 < rIns τ t (D + 1) (nI g) → 0 < rIns τ u (rD (zw τ w) u) (nI g) → False := by
    intro g u hu4 hut i1 i2
    by_cases e : nI g = nI G
    · rw [e] at i1 i2
      rcases (show kd = 0 ∨ kd = 1 ∨ kd = 2 by omega) with q | q | q
      · rw [← rHold_iff hu G hu4] at i2
        rcases hE q with e' | e'
        · rw [e'] at i2; exact nI_ne4 (by omega) i2.symm
        · rw [e'] at i2; exact hut ((zeq (by omega) (by omega)).mp i2).symm
      · have i3 : 0 < rIns τ t D (nI G) := by rw [em, nI_0lt hm]; have := q1 q; omega
        rw [← eD] at i3
        exact hut (hu G u t hu4 ht i2 i3)
      · have i3 : 0 < rIns τ t D (nI G) := by rw [em]; rw [em', q2 q] at i1; exact i1
        rw [← eD] at i3
        exact hut (hu G u t hu4 ht i2 i3)
    · rw [hne _ e, ← eD] at i1
      exact hut (hu g u t hu4 ht i2 i1)
  intro g a b ha hb i1 i2
  by_cases ea : a = t
  · by_cases eb : b = t
    · rw [ea, eb]
    · subst ea
      rw [rD_e h1 (by omega)] at i1
      rw [rD_s (h b hb eb)] at i2
      exact absurd (key g b hb eb i1 i2) id
  · by_cases eb : b = t
    · subst eb
      rw [rD_e h1 (by omega)] at i2
      rw [rD_s (h a ha ea)] at i1
      exact absurd (key g a ha ea i2 i1) id
    · rw [rD_s (h a ha ea)] at i1
      rw [rD_s (h b hb eb)] at i2
      exact hu g a b ha hb i1 i2
/-- the count at a gate stays as it is -/
theorem cHd_keep (ht : t < 4) (eD : rD (zw τ w) t = D) (hD : D < 4999) (h : ∀ u, u < 4 → ¬ u = t → w' (10 + 4 * u + 1) = w (10 + 4 * u + 1)) (h1 : w' (10 + 4 * t + 1) = nI (D + 1)) (e : rIns τ t (D + 1) (nI g) = rIns τ t D (nI g)) (hh : cHd τ w g x y) : cHd τ w' g x y := by
  have all : ∀ u, u < 4 → rIns τ u (rD (zw τ w') u) (nI g) = rIns τ u (rD (zw τ w) u) (nI g) := by
    intro u hu
    by_cases eu : u = t
    · subst eu; rw [rD_e h1 (by omega), eD, e]
    · rw [rD_s (h u hu eu)]
  rcases hh with ⟨a, ha, e1, i1, e2⟩ | ⟨e1, e2, i1⟩
  · refine Or.inl ⟨a, ha, e1, ?_, ?_⟩ <;> rw [all a ha] <;> assumption
  · refine Or.inr ⟨e1, e2, fun u hu => ?_⟩
    rw [all u hu]
    exact i1 u hu
theorem cHd_in (hs : cStp τ t D 0 G m m') (ht : t < 4) (eD : rD (zw τ w) t = D) (hD : D < 4999) (h1 : w' (10 + 4 * t + 1) = nI (D + 1)) (hx : x = -4 ∨ x = nI t) (hh : cHd τ w G x y) : cHd τ w' G (nI t) (y + nI 1) := by
  obtain ⟨_, _, ⟨hm, hm', em, em'⟩, q0, _, _⟩ := hs
  have q := q0 rfl
  have ey : y = nI m := by
    rcases hh with ⟨a, ha, e1, i1, e2⟩ | ⟨e1, e2, i1⟩
    · rcases hx with e | e
      · rw [e] at e1; exact absurd e1.symm (nI_ne4 (by omega))
      · rw [e] at e1
        have := (zeq (by omega) (by omega)).mp e1
        subst this
        rw [e2, eD, em]
    · have := i1 t ht
      rw [eD, em, nI_0lt hm] at this
      rw [e2, show m = 0 by omega]
  refine Or.inl ⟨t, ht, rfl, ?_, ?_⟩
  · rw [rD_e h1 (by omega), em', nI_0lt hm']; omega
  · rw [rD_e h1 (by omega), em', ey, q, nI_add]
theorem cHd_out (hs : cStp τ t D 1 G m m') (ht : t < 4) (eD : rD (zw τ w) t = D) (hD : D < 4999) (h : ∀ u, u < 4 → ¬ u = t → w' (10 + 4 * u + 1) = w (10 + 4 * u + 1)) (h1 : w' (10 + 4 * t + 1) = nI (D + 1)) (hu : cUq τ w) (hh : cHd τ w G x y) : cHd τ w' G (if y - nI 1 = 0 then -4 else x) (y - nI 1) := by
  obtain ⟨_, _, ⟨hm, hm', em, em'⟩, _, q1, _⟩ := hs
  have q := q1 rfl
  have i0 : 0 < rIns τ t (rD (zw τ w) t) (nI G) := by rw [eD, em, nI_0lt hm]; omega
  have exy : x = nI t ∧ y = nI m := by
    rcases hh with ⟨a, ha, e1, i1, e2⟩ | ⟨e1, e2, i1⟩
    · have := hu G a t ha ht i1 i0
      subst this
      exact ⟨e1, by rw [e2, eD, em]⟩
    · exact absurd i0 (i1 t ht)
  have e : y - nI 1 = nI m' := by
    rw [exy.2, q, ← nI_add]
    exact Int32.add_sub_cancel _ _
  rw [e]
  by_cases z : m' = 0
  · subst z
    rw [if_pos (show nI 0 = 0 from rfl)]
    refine Or.inr ⟨rfl, rfl, fun u hu4 => ?_⟩
    by_cases eu : u = t
    · subst eu
      rw [rD_e h1 (by omega), em']
      decide
    · rw [rD_s (h u hu4 eu)]
      exact fun i => eu (hu G u t hu4 ht i i0)
  · rw [if_neg (fun q => z ((zeq (by omega) (by omega)).mp (q.trans (show (0 : Int32) = nI 0 from rfl))))]
    refine Or.inl ⟨t, ht, exy.1, ?_, ?_⟩
    · rw [rD_e h1 (by omega), em', nI_0lt hm']; omega
    · rw [rD_e h1 (by omega), em']
end
