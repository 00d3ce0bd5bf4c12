/-! the class: tables tell rows behind a step, and behind a fall -/
section
variable {τ ρ ρ' ρ1 : Nat → Nat → Int32} {w w' W : Nat → Int32} {t D kd G m m' st : Nat} {T : tT}
theorem cTI_stepc (h : cTI τ ρ w) (hu' : cUq τ W) (ht : t < 4) (hD : D < 4999) (h3 : ∀ q i, ¬ (q = 3 ∨ q = 4 ∨ q = 5) → ρ1 q i = ρ q i) (hg : ∀ g, g < 6 → ρ1 3 g = W (4 + g) ∧ cHd τ W g (ρ1 4 g) (ρ1 5 g)) (hW : ∀ i, (i < 4 ∨ 10 ≤ i) → ¬ i = 10 + 4 * t → ¬ i = 10 + 4 * t + 1 → W i = w i) (hW0 : W (10 + 4 * t) = nI st) (hW1 : W (10 + 4 * t + 1) = nI (D + 1)) (hst : ¬ nI st = nI 2) : cTI τ (zu (zu (zu ρ1 7 t (nI (D + 1))) 8 t (-4)) 6 t (nI st)) W := by
  obtain ⟨f0, f1, f2, f3⟩ := h.1
  obtain ⟨a, b, c, d, e⟩ := h.2.2 t ht
  refine cTI_gen h hu' t ⟨?_, ?_, ?_, ?_⟩ (fun g hg' => ?_) (fun u hu hne => ⟨fun q h1 h2 => ?_, fun i hi => ?_⟩) ⟨?_, ?_, ?_, ?_, ?_⟩
  · rw [zu_i_ne (by omega), zu_i_ne (by omega), zu_i_ne (by omega), h3 _ _ (by omega), hW _ (by omega) (by omega) (by omega)]; exact f0
  · rw [zu_i_ne (by omega), zu_i_ne (by omega), zu_i_ne (by omega), h3 _ _ (by omega), hW _ (by omega) (by omega) (by omega)]; exact f1
  · rw [zu_i_ne (by omega), zu_i_ne (by omega), zu_i_ne (by omega), h3 _ _ (by omega), hW _ (by omega) (by omega) (by omega)]; exact f2
  · rw [zu_i_ne (by omega), zu_i_ne (by omega), zu_i_ne (by omega), h3 _ _ (by omega), hW _ (by omega) (by omega) (by omega)]; exact f3
  · rw [zu_i_ne (by omega), zu_i_ne (by omega), zu_i_ne (by omega), zu_i_ne (by omega), zu_i_ne (by omega), zu_i_ne (by omega), zu_i_ne (by omega), zu_i_ne (by omega), zu_i_ne (by omega)]
    exact hg g hg'
  · rw [zu_i_ne (by omega), zu_i_ne (by omega), zu_i_ne (by omega), h3 _ _ (by omega)]
  · rw [hW _ (by omega) (by omega) (by omega)]
  · rw [zu_e, hW0]
  · rw [zu_i_ne (by omega), zu_i_ne (by omega), zu_e, hW1]
  · rw [zu_i_ne (by omega), zu_e, rWait_n (by rw [hW0]; exact hst)]
  · rw [zu_i_ne (by omega), zu_i_ne (by omega), zu_i_ne (by omega), h3 _ _ (by omega), hW _ (by omega) (by omega) (by omega)]; exact d
  · rw [zu_i_ne (by omega), zu_i_ne (by omega), zu_i_ne (by omega), h3 _ _ (by omega), hW _ (by omega) (by omega) (by omega)]; exact e
theorem cTI_step (h : cTI τ ρ w) (hu : cUq τ w) (ht : t < 4) (hs : cStp τ t D kd G m m') (eD : rD (zw τ w) t = D) (hD : D < 4999) (hE : kd = 0 → ρ 4 G = -4 ∨ ρ 4 G = nI t) (hst : ¬ nI st = nI 2) : cTI τ (zu (zu (cStR (τ 10 (30 * t + D)) G (τ 12 (30 * t + D)) t D ρ) 8 t (-4)) 6 t (nI st)) (zup (rStepW τ t w D) (10 + 4 * t) (nI st)) ∧ cUq τ (zup (rStepW τ t w D) (10 + 4 * t) (nI st)) := by
  obtain ⟨⟨k3, g6, e0, e1, e2⟩, hne, ⟨hm, hm', em, em'⟩, q0, q1, q2⟩ := id hs
  have eR : rG τ t D = G := by unfold rG; rw [e1]; exact nI_clamp (by omega)
  have W0 : zup (rStepW τ t w D) (10 + 4 * t) (nI st) (10 + 4 * t) = nI st := zup_s _ _ _
  have W1 : zup (rStepW τ t w D) (10 + 4 * t) (nI st) (10 + 4 * t + 1) = nI (D + 1) := by
    unfold rStepW
    rw [zup_n _ _ (by omega), eR, zup_n _ _ (by omega), zup_s]
  have Wi : ∀ i, (i < 4 ∨ 10 ≤ i) → ¬ i = 10 + 4 * t → ¬ i = 10 + 4 * t + 1 → zup (rStepW τ t w D) (10 + 4 * t) (nI st) i = w i := by
    intro i h1 h2 h3
    unfold rStepW
    rw [zup_n _ _ h2, eR, zup_n _ _ (by omega), zup_n _ _ h3, zup_n _ _ h2]
  have Wg : ∀ g, g < 6 → zup (rStepW τ t w D) (10 + 4 * t) (nI st) (4 + g) = if g = G then w (4 + G) + τ 12 (30 * t + D) else w (4 + g) := by
    intro g hg
    unfold rStepW
    rw [zup_n _ _ (by omega), eR]
    by_cases e : g = G
    · subst e
      rw [if_pos rfl, zup_s, zup_n _ _ (by omega), zup_n _ _ (by omega)]
    · rw [if_neg e, zup_n _ _ (by omega), zup_n _ _ (by omega), zup_n _ _ (by omega)]
  generalize zup (rStepW τ t w D) (10 + 4 * t) (nI st) = W at W0 W1 Wi Wg ⊢
  have oth : ∀ u, u < 4 → ¬ u = t → W (10 + 4 * u + 1) = w (10 + 4 * u + 1) := fun u hu hne => Wi _ (by omega) (by omega) (by omega)
  have hu' : cUq τ W := cUq_step hs ht eD hD oth W1 (fun q => by rw [← (h.2.1 G g6).2.1]; exact hE q) hu
  refine ⟨?_, hu'⟩
  have hcell : ¬ kd = 2 → ∀ g, g < 6 → ρ 3 g = W (4 + g) := by
    intro q g hg
    rw [Wg g hg, e2 q, (h.2.1 g hg).1]
    by_cases e : g = G
    · subst e; rw [if_pos rfl]; exact (Int32.add_zero _).symm
    · rw [if_neg e]
  have hoth : ∀ g, g < 6 → ¬ g = G → cHd τ W g (ρ 4 g) (ρ 5 g) := fun g hg e => cHd_keep ht eD hD oth W1 (hne _ (fun q => e ((zeq (by omega) (by omega)).mp q))) (h.hd hu hg)
  unfold cStR
  rw [e0]
  rcases (show kd = 0 ∨ kd = 1 ∨ kd = 2 by omega) with q | q | q
  · subst q
    rw [if_pos (show nI 0 = 0 from rfl)]
    refine cTI_stepc h hu' ht hD (fun q i hq => ?_) (fun g hg => ⟨?_, ?_⟩) Wi W0 W1 hst
    · rw [zu_i_ne (by omega), zu_i_ne (by omega)]
    · rw [zu_i_ne (by omega), zu_i_ne (by omega)]; exact hcell (by decide) g hg
    · by_cases e : g = G
      · subst e
        rw [zu_i_ne (by omega), zu_e, zu_e]
        exact cHd_in hs ht eD hD W1 (hE rfl) (h.hd hu hg)
      · rw [zu_i_ne (by omega), zu_i_ne (by omega), zu_i_ne (by omega), zu_i_ne (by omega)]; exact hoth g hg e
  · subst q
    rw [if_neg (by decide), if_pos rfl]
    have ho := cHd_out hs ht eD hD oth W1 hu (h.hd hu g6)
    by_cases z : ρ 5 G - nI 1 = 0
    · rw [if_pos z] at ho ⊢
      refine cTI_stepc h hu' ht hD (fun q i hq => ?_) (fun g hg => ⟨?_, ?_⟩) Wi W0 W1 hst
      · rw [zu_i_ne (by omega), zu_i_ne (by omega)]
      · rw [zu_i_ne (by omega), zu_i_ne (by omega)]; exact hcell (by decide) g hg
      · by_cases e : g = G
        · subst e
          rw [zu_e, zu_i_ne (by omega), zu_e]
          exact ho
        · rw [zu_i_ne (by omega), zu_i_ne (by omega), zu_i_ne (by omega), zu_i_ne (by omega)]; exact hoth g hg e
    · rw [if_neg z] at ho ⊢
      refine cTI_stepc h hu' ht hD (fun q i hq => ?_) (fun g hg => ⟨?_, ?_⟩) Wi W0 W1 hst
      · rw [zu_i_ne (by omega)]
      · rw [zu_i_ne (by omega)]; exact hcell (by decide) g hg
      · by_cases e : g = G
        · subst e
          rw [zu_i_ne (by omega), zu_e]
          exact ho
        · rw [zu_i_ne (by omega), zu_i_ne (by omega)]; exact hoth g hg e
  · subst q
    rw [if_neg (by decide), if_neg (by decide)]
    refine cTI_stepc h hu' ht hD (fun q i hq => ?_) (fun g hg => ⟨?_, ?_⟩) Wi W0 W1 hst
    · rw [zu_i_ne (by omega)]
    · rw [Wg g hg]
      by_cases e : g = G
      · subst e; rw [zu_e, if_pos rfl, (h.2.1 g hg).1]
      · rw [zu_i_ne (by omega), if_neg e]; exact (h.2.1 g hg).1
    · rw [zu_i_ne (by omega), zu_i_ne (by omega)]
      by_cases e : g = G
      · subst e
        exact cHd_keep ht eD hD oth W1 (by rw [em, em', q2 rfl]) (h.hd hu hg)
      · exact hoth g hg e
/-- one begins from the front: its gates are free -/
theorem cTI_idle (h : cTI τ ρ w) (hu : cUq τ w) (ht : t < 4) {x : Int32} (hc : ∀ g, g < 6 → ρ1 3 g = W (4 + g)) (h45 : ∀ g, g < 6 → ρ1 4 g = (if ρ 4 g = nI t then -4 else ρ 4 g) ∧ ρ1 5 g = (if ρ 4 g = nI t then nI 0 else ρ 5 g)) (h3 : ∀ q i, ¬ (q = 3 ∨ q = 4 ∨ q = 5) → ρ1 q i = ρ q i) (hW : ∀ i, (i < 4 ∨ 10 ≤ i) → (i < 10 + 4 * t ∨ 14 + 4 * t ≤ i) → W i = w i) (hW0 : W (10 + 4 * t) = nI 0) (hW1 : W (10 + 4 * t + 1) = nI 0) (hW2 : W (10 + 4 * t + 2) = -4) (hW3 : W (10 + 4 * t + 3) = x) : cTI τ (zu (cIdR t ρ1) 10 t x) W ∧ cUq τ W := by
  obtain ⟨f0, f1, f2, f3⟩ := h.1
  have oth : ∀ u, u < 4 → ¬ u = t → W (10 + 4 * u + 1) = w (10 + 4 * u + 1) := fun u hu hne => hW _ (by omega) (by omega)
  have hu' : cUq τ W := cUq_free ht oth hW1 hu
  unfold cIdR
  refine ⟨cTI_gen h hu' t ⟨?_, ?_, ?_, ?_⟩ (fun g hg' => ⟨?_, ?_⟩) (fun u hu hne => ⟨fun q h1 h2 => ?_, fun i hi => ?_⟩) ⟨?_, ?_, ?_, ?_, ?_⟩, hu'⟩
  · rw [zu_i_ne (by omega), zu_i_ne (by omega), zu_i_ne (by omega), zu_i_ne (by omega), zu_i_ne (by omega), h3 _ _ (by omega), hW _ (by omega) (by omega)]; exact f0
  · rw [zu_i_ne (by omega), zu_i_ne (by omega), zu_i_ne (by omega), zu_i_ne (by omega), zu_i_ne (by omega), h3 _ _ (by omega), hW _ (by omega) (by omega)]; exact f1
  · rw [zu_i_ne (by omega), zu_i_ne (by omega), zu_i_ne (by omega), zu_i_ne (by omega), zu_i_ne (by omega), h3 _ _ (by omega), hW _ (by omega) (by omega)]; exact f2
  · rw [zu_i_ne (by omega), zu_i_ne (by omega), zu_i_ne (by omega), zu_i_ne (by omega), zu_i_ne (by omega), h3 _ _ (by omega), hW _ (by omega) (by omega)]; exact f3
  · rw [zu_i_ne (by omega), zu_i_ne (by omega), zu_i_ne (by omega), zu_i_ne (by omega), zu_i_ne (by omega)]; exact hc g hg'
  · rw [zu_i_ne (by omega), zu_i_ne (by omega), zu_i_ne (by omega), zu_i_ne (by omega), zu_i_ne (by omega), zu_i_ne (by omega), zu_i_ne (by omega), zu_i_ne (by omega), zu_i_ne (by omega), zu_i_ne (by omega), (h45 g hg').1, (h45 g hg').2]
    exact cHd_free ht oth hW1 hu (h.hd hu hg')
  · rw [zu_i_ne (by omega), zu_i_ne (by omega), zu_i_ne (by omega), zu_i_ne (by omega), zu_i_ne (by omega), h3 _ _ (by omega)]
  · rw [hW _ (by omega) (by omega)]
  · rw [zu_i_ne (by omega), zu_i_ne (by omega), zu_i_ne (by omega), zu_i_ne (by omega), zu_e, hW0]
  · rw [zu_i_ne (by omega), zu_i_ne (by omega), zu_i_ne (by omega), zu_e, hW1]
  · rw [zu_i_ne (by omega), zu_i_ne (by omega), zu_e, rWait_n (by rw [hW0]; decide)]
  · rw [zu_i_ne (by omega), zu_e, hW2]
  · rw [zu_e, hW3]
end
