/-! the class: who holds what, while steps go on -/
/-- rows of traces are as traces are -/
def cOk (τ : Nat → Nat → Int32) : Prop := ∀ t, t < 4 → rM τ t ≤ 30 ∧ τ 13 t = nI (rM τ t) ∧ (∀ k, k < rM τ t → ∃ kd g, kd < 3 ∧ g < 6 ∧ τ 10 (30 * t + k) = nI kd ∧ τ 11 (30 * t + k) = nI g ∧ (¬ kd = 2 → τ 12 (30 * t + k) = 0)) ∧ (∀ g, g < 6 → rIns τ t (rM τ t) (nI g) = nI 0) ∧ ∀ k, k ≤ rM τ t → ∀ g, g < 6 → ∃ m, m ≤ k ∧ rIns τ t k (nI g) = nI m
theorem rIns_t {τ : Nat → Nat → Int32} {t : Nat} {T : tT} (hz : zTrR τ t T) (g : Int32) : ∀ n, n ≤ T.n → rIns τ t n g = tIns T.2 n g := by
  intro n
  induction n with
  | zero => intro _; rfl
  | succ n ih =>
    intro hn
    obtain ⟨e0, e1, _⟩ := hz.2.1 n (by omega)
    unfold rIns tIns
    rw [ih (by omega), e0, e1]
    rfl
theorem cOk_of {τ : Nat → Nat → Int32} {T : Nat → tT} (h : ∀ t, t < 4 → zTrR τ t (T t) ∧ tOk (T t)) : cOk τ := by
  intro t ht
  obtain ⟨hz, h30, hk, he, hm⟩ := h t ht
  have eM : rM τ t = (T t).n := by unfold rM; rw [hz.1]; exact nI_clamp (by omega)
  rw [eM]
  refine ⟨h30, hz.1, fun k hk' => ?_, fun g hg => ?_, fun k hk' g hg => ?_⟩
  · obtain ⟨kd, g, a, b, c, d, e⟩ := hk k hk'
    obtain ⟨e0, e1, e2⟩ := hz.2.1 k hk'
    exact ⟨kd, g, a, b, e0.trans c, e1.trans d, fun q => e2.trans (e q)⟩
  · rw [rIns_t hz _ _ (Nat.le_refl _)]; exact he g hg
  · rw [rIns_t hz _ _ hk']; exact hm k hk' g hg
theorem cOk.tr {τ : Nat → Nat → Int32} (h : cOk τ) : rTr τ := by
  intro t ht
  obtain ⟨h1, h2, h3, _⟩ := h t ht
  refine ⟨h2, h1, fun k hk => ?_⟩
  obtain ⟨kd, g, _, b, _, d, _⟩ := h3 k hk
  have e : rG τ t k = g := by unfold rG; rw [d]; exact nI_clamp (by omega)
  rw [e]
  exact ⟨d, b⟩
/-- a gate's holder and how often, by who is in it -/
def cHd (τ : Nat → Nat → Int32) (w : Nat → Int32) (g : Nat) (x y : Int32) : Prop := (∃ t, t < 4 ∧ x = nI t ∧ 0 < rIns τ t (rD (zw τ w) t) (nI g) ∧ y = rIns τ t (rD (zw τ w) t) (nI g)) ∨ (x = -4 ∧ y = nI 0 ∧ ∀ t, t < 4 → ¬ 0 < rIns τ t (rD (zw τ w) t) (nI g))
theorem nI_ne4 {n : Nat} (h : n < 2 ^ 31) : ¬ nI n = -4 := by
  intro e
  have := nI_pos h
  rw [e] at this
  exact this (by decide)
section
variable {τ : Nat → Nat → Int32} {w w' : Nat → Int32} {g t : Nat} {x y : Int32}
theorem cHd_to (hu : cUq τ w) : cHd τ w g (rHold (zw τ w) (nI g)) (aDeep τ w (nI g)) := by
  unfold aDeep
  rcases rHoldL_cases (zw τ w) (nI g) 4 with e | ⟨t, ht, e⟩
  · have e : rHold (zw τ w) (nI g) = -4 := e
    refine Or.inr ⟨e, ?_, fun t ht h => ?_⟩
    · rw [e, if_pos zm4]
    · rw [(rHold_iff hu g ht).mpr h] at e
      exact nI_ne4 (by omega) e
  · have e : rHold (zw τ w) (nI g) = nI t := e
    refine Or.inl ⟨t, ht, e, (rHold_iff hu g ht).mp e, ?_⟩
    rw [e, if_neg (nI_pos (by omega)), nI_clamp (by omega)]
theorem cHd_of (hu : cUq τ w) (h : cHd τ w g x y) : x = rHold (zw τ w) (nI g) ∧ y = aDeep τ w (nI g) := by
  rcases h with ⟨t, ht, e1, h1, e2⟩ | ⟨e1, e2, h1⟩
  · have e := (rHold_iff hu g ht).mpr h1
    unfold aDeep
    rw [e, if_neg (nI_pos (by omega)), nI_clamp (by omega)]
    exact ⟨e1, e2⟩
  · rcases cHd_to (g := g) hu with ⟨t, ht, _, h2, _⟩ | ⟨e3, e4, _⟩
    · exact absurd h2 (h1 t ht)
    · rw [e3, e4]; exact ⟨e1, e2⟩
theorem rD_e {E : Nat} (h : w (10 + 4 * t + 1) = nI E) (hE : E < 5000) : rD (zw τ w) t = E := by
  rw [rD_zw, h]
  exact nI_clamp (by omega)
theorem rD_s {u : Nat} (h : w' (10 + 4 * u + 1) = w (10 + 4 * u + 1)) : rD (zw τ w') u = rD (zw τ w) u := by
  rw [rD_zw, rD_zw, h]
/-- no steps are done or undone -/
theorem cHd_same (h : ∀ u, u < 4 → w' (10 + 4 * u + 1) = w (10 + 4 * u + 1)) (hh : cHd τ w g x y) : cHd τ w' g x y := by
  rcases hh with ⟨t, ht, e1, h1, e2⟩ | ⟨e1, e2, h1⟩
  · refine Or.inl ⟨t, ht, e1, ?_, ?_⟩ <;> rw [rD_s (h t ht)] <;> assumption
  · refine Or.inr ⟨e1, e2, fun t ht => ?_⟩
    rw [rD_s (h t ht)]
    exact h1 t ht
theorem cUq_same (h : ∀ u, u < 4 → w' (10 + 4 * u + 1) = w (10 + 4 * u + 1)) (hu : cUq τ w) : cUq τ w' := by
  intro g t u ht hu'
  rw [rD_s (h t ht), rD_s (h u hu')]
  exact hu g t u ht hu'
/-- one has done nothing: it is in no gate -/
theorem rIns_0 {u : Nat} (h : w' (10 + 4 * t + 1) = nI 0) : ¬ 0 < rIns τ t (rD (zw τ w') t) (nI u) := by
  rw [rD_e h (by decide)]
  exact show ¬ 0 < nI 0 by decide
theorem cUq_free (ht : t < 4) (h : ∀ u, u < 4 → ¬ u = t → w' (10 + 4 * u + 1) = w (10 + 4 * u + 1)) (h0 : w' (10 + 4 * t + 1) = nI 0) (hu : cUq τ w) : cUq τ w' := by
  intro g a b ha hb h1 h2
  by_cases ea : a = t
  · subst ea; exact absurd h1 (rIns_0 h0)
  · by_cases eb : b = t
    · subst eb; exact absurd h2 (rIns_0 h0)
    · rw [rD_s (h a ha ea)] at h1
      rw [rD_s (h b hb eb)] at h2
      exact hu g a b ha hb h1 h2
theorem cHd_free (ht : t < 4) (h : ∀ u, u < 4 → ¬ u = t → w' (10 + 4 * u + 1) = w (10 + 4 * u + 1)) (h0 : w' (10 + 4 * t + 1) = nI 0) (hu : cUq τ w) (hh : cHd τ w g x y) : cHd τ w' g (if x = nI t then -4 else x) (if x = nI t then nI 0 else y) := by
  rcases hh with ⟨a, ha, e1, h1, e2⟩ | ⟨e1, e2, h1⟩
  · by_cases e : a = t
    · subst e
      rw [if_pos e1, if_pos e1]
      refine Or.inr ⟨rfl, rfl, fun u hu' h2 => ?_⟩
      by_cases eu : u = a
      · subst eu; exact rIns_0 h0 h2
      · rw [rD_s (h u hu' eu)] at h2
        exact eu (hu g u a hu' ha h2 h1)
    · have n : ¬ x = nI t := by rw [e1]; exact fun q => e ((zeq (by omega) (by omega)).mp q)
      rw [if_neg n, if_neg n]
      refine Or.inl ⟨a, ha, e1, ?_, ?_⟩ <;> rw [rD_s (h a ha e)] <;> assumption
  · have n : ¬ x = nI t := by rw [e1]; exact fun q => nI_ne4 (by omega) q.symm
    rw [if_neg n, if_neg n]
    refine Or.inr ⟨e1, e2, fun u hu' h2 => ?_⟩
    by_cases eu : u = t
    · subst eu; exact rIns_0 h0 h2
    · rw [rD_s (h u hu' eu)] at h2
      exact h1 u hu' h2
end
