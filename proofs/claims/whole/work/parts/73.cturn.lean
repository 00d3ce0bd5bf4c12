/-! the class: tables tell rows while rows change -/
section
variable {τ ρ ρ' : Nat → Nat → Int32} {w w' : Nat → Int32} {t : Nat}
theorem cTI.hd (h : cTI τ ρ w) (hu : cUq τ w) {g : Nat} (hg : g < 6) : cHd τ w g (ρ 4 g) (ρ 5 g) := by
  rw [(h.2.1 g hg).2.1, (h.2.1 g hg).2.2]
  exact cHd_to hu
theorem rWait_s {u : Nat} (h0 : w' (10 + 4 * u) = w (10 + 4 * u)) (h1 : w' (10 + 4 * u + 1) = w (10 + 4 * u + 1)) : rWait (zw τ w') u = rWait (zw τ w) u := by
  unfold rWait
  rw [rD_s h1, show zw τ w' 1 (10 + 4 * u) = zw τ w 1 (10 + 4 * u) from h0]
  rfl
theorem rWait_n {u : Nat} (h : ¬ w (10 + 4 * u) = nI 2) : rWait (zw τ w) u = -4 := if_neg h
/-- one task changes -/
theorem cTI_gen (h : cTI τ ρ w) (hu' : cUq τ w') (t : Nat) (f : ρ' 0 2 = w' 0 ∧ ρ' 0 3 = w' 1 ∧ ρ' 0 4 = w' 3 ∧ ρ' 0 5 = w' 2) (g6 : ∀ g, g < 6 → ρ' 3 g = w' (4 + g) ∧ cHd τ w' g (ρ' 4 g) (ρ' 5 g)) (o : ∀ u, u < 4 → ¬ u = t → (∀ q, 6 ≤ q → q ≤ 10 → ρ' q u = ρ q u) ∧ ∀ i, i < 4 → w' (10 + 4 * u + i) = w (10 + 4 * u + i)) (m : ρ' 6 t = w' (10 + 4 * t) ∧ ρ' 7 t = w' (10 + 4 * t + 1) ∧ ρ' 8 t = rWait (zw τ w') t ∧ ρ' 9 t = w' (10 + 4 * t + 2) ∧ ρ' 10 t = w' (10 + 4 * t + 3)) : cTI τ ρ' w' := by
  refine ⟨f, fun g hg => ?_, fun u hu => ?_⟩
  · obtain ⟨e1, e2⟩ := cHd_of hu' (g6 g hg).2
    exact ⟨(g6 g hg).1, e1, e2⟩
  · by_cases e : u = t
    · subst e; exact m
    · obtain ⟨oq, ow⟩ := o u hu e
      obtain ⟨a, b, c, d, e'⟩ := h.2.2 u hu
      have w0 := ow 0 (by decide)
      have w1 := ow 1 (by decide)
      have w2 := ow 2 (by decide)
      have w3 := ow 3 (by decide)
      rw [oq 6 (by decide) (by decide), oq 7 (by decide) (by decide), oq 8 (by decide) (by decide), oq 9 (by decide) (by decide), oq 10 (by decide) (by decide), w1, w2, w3, rWait_s w0 w1, show w' (10 + 4 * u) = w (10 + 4 * u) from w0]
      exact ⟨a, b, c, d, e'⟩
theorem cTI_beg (h : cTI τ ρ w) (hu : cUq τ w) (ht : t < 4) : cTI τ (zu (zu ρ 9 t (ρ 0 5)) 0 5 (ρ 0 5 + nI 1)) (zup (zup w (10 + 4 * t + 2) (w 2)) 2 (w 2 + nI 1)) := by
  obtain ⟨⟨f0, f1, f2, f3⟩, hg, hq⟩ := h
  have sm : ∀ u, u < 4 → (zup (zup w (10 + 4 * t + 2) (w 2)) 2 (w 2 + nI 1)) (10 + 4 * u + 1) = w (10 + 4 * u + 1) := fun u hu => by rw [zup_n _ _ (by omega), zup_n _ _ (by omega)]
  have h' : cTI τ ρ w := ⟨⟨f0, f1, f2, f3⟩, hg, hq⟩
  refine cTI_gen h' (cUq_same sm hu) t ⟨?_, ?_, ?_, ?_⟩ (fun g hg' => ⟨?_, ?_⟩) (fun u hu hne => ⟨fun q h1 h2 => ?_, fun i hi => ?_⟩) ?_
  · rw [zu_i_ne (by omega), zu_i_ne (by omega), zup_n _ _ (by omega), zup_n _ _ (by omega)]; exact f0
  · rw [zu_i_ne (by omega), zu_i_ne (by omega), zup_n _ _ (by omega), zup_n _ _ (by omega)]; exact f1
  · rw [zu_i_ne (by omega), zu_i_ne (by omega), zup_n _ _ (by omega), zup_n _ _ (by omega)]; exact f2
  · rw [zu_e, zup_s, f3]
  · rw [zu_i_ne (by omega), zu_i_ne (by omega), zup_n _ _ (by omega), zup_n _ _ (by omega)]; exact (hg g hg').1
  · rw [zu_i_ne (by omega), zu_i_ne (by omega), zu_i_ne (by omega), zu_i_ne (by omega)]
    exact cHd_same sm (h'.hd hu hg')
  · rw [zu_i_ne (by omega), zu_i_ne (by omega)]
  · rw [zup_n _ _ (by omega), zup_n _ _ (by omega)]
  · obtain ⟨a, b, c, d, e⟩ := hq t ht
    rw [rWait_s (w := w) (by rw [zup_n _ _ (by omega), zup_n _ _ (by omega)]) (sm t ht)]
    refine ⟨?_, ?_, ?_, ?_, ?_⟩
    · rw [zu_i_ne (by omega), zu_i_ne (by omega), zup_n _ _ (by omega), zup_n _ _ (by omega)]; exact a
    · rw [zu_i_ne (by omega), zu_i_ne (by omega), zup_n _ _ (by omega), zup_n _ _ (by omega)]; exact b
    · rw [zu_i_ne (by omega), zu_i_ne (by omega)]; exact c
    · rw [zu_i_ne (by omega), zu_e, zup_n _ _ (by omega), zup_s, f3]
    · rw [zu_i_ne (by omega), zu_i_ne (by omega), zup_n _ _ (by omega), zup_n _ _ (by omega)]; exact e
theorem cTI_stay (h : cTI τ ρ w) (hu : cUq τ w) (ht : t < 4) {x y : Int32} (hy : y = rWait (zw τ (zup w (10 + 4 * t) x)) t) {ρ' : Nat → Nat → Int32} (e' : ∀ q i, ρ' q i = if q = 6 ∧ i = t then x else if q = 8 ∧ i = t then y else ρ q i) : cTI τ ρ' (zup w (10 + 4 * t) x) ∧ cUq τ (zup w (10 + 4 * t) x) := by
  have sm : ∀ u, u < 4 → (zup w (10 + 4 * t) x) (10 + 4 * u + 1) = w (10 + 4 * u + 1) := fun u hu => by rw [zup_n _ _ (by omega)]
  have ne : ∀ q i, ¬ (q = 6 ∧ i = t) → ¬ (q = 8 ∧ i = t) → ρ' q i = ρ q i := fun q i h1 h2 => by rw [e', if_neg h1, if_neg h2]
  obtain ⟨f0, f1, f2, f3⟩ := h.1
  refine ⟨cTI_gen h (cUq_same sm hu) t ⟨?_, ?_, ?_, ?_⟩ (fun g hg' => ⟨?_, ?_⟩) (fun u hu hne => ⟨fun q h1 h2 => ?_, fun i hi => ?_⟩) ?_, cUq_same sm hu⟩
  · rw [ne _ _ (by omega) (by omega), zup_n _ _ (by omega)]; exact f0
  · rw [ne _ _ (by omega) (by omega), zup_n _ _ (by omega)]; exact f1
  · rw [ne _ _ (by omega) (by omega), zup_n _ _ (by omega)]; exact f2
  · rw [ne _ _ (by omega) (by omega), zup_n _ _ (by omega)]; exact f3
  · rw [ne _ _ (by omega) (by omega), zup_n _ _ (by omega)]; exact (h.2.1 g hg').1
  · rw [ne _ _ (by omega) (by omega), ne _ _ (by omega) (by omega)]
    exact cHd_same sm (h.hd hu hg')
  · rw [ne _ _ (by omega) (by omega)]
  · rw [zup_n _ _ (by omega)]
  · obtain ⟨a, b, c, d, e⟩ := h.2.2 t ht
    refine ⟨?_, ?_, ?_, ?_, ?_⟩
    · rw [e', if_pos ⟨rfl, rfl⟩, zup_s]
    · rw [ne _ _ (by omega) (by omega), zup_n _ _ (by omega)]; exact b
    · rw [e', if_neg (by omega), if_pos ⟨rfl, rfl⟩]; exact hy
    · rw [ne _ _ (by omega) (by omega), zup_n _ _ (by omega)]; exact d
    · rw [ne _ _ (by omega) (by omega), zup_n _ _ (by omega)]; exact e
end
theorem zu_if {f : Nat → Nat → Int32} {q n q' n' : Nat} {v : Int32} : zu f q n v q' n' = if q' = q ∧ n' = n then v else f q' n' := by
  by_cases h : q' = q ∧ n' = n
  · obtain ⟨rfl, rfl⟩ := h
    rw [zu_e, if_pos ⟨rfl, rfl⟩]
  · rw [if_neg h, zu_i_ne h]
