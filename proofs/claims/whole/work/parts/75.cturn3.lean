/-! the class: tables, turns -/
/-- the traces of a table -/
def cPs (X : zM) (j bb : Nat) (τ : Nat → Nat → Int32) : Prop := ∀ t, t < 4 → ∃ n T, X.2.2.1 2 j 2 t = some (3, n, 0) ∧ cTr X.1 X.2.2.1 X.2.2.2.1 bb n T ∧ zTrR τ t T ∧ tOk T
theorem cPs.ok {X : zM} {j bb : Nat} {τ : Nat → Nat → Int32} (h : cPs X j bb τ) : cOk τ := by
  have key : ∀ t, ∃ T : tT, t < 4 → zTrR τ t T ∧ tOk T := by
    intro t
    by_cases ht : t < 4
    · obtain ⟨n, T, _, _, a, b⟩ := h t ht
      exact ⟨T, fun _ => ⟨a, b⟩⟩
    · exact ⟨(0, fun _ _ => 0), fun g => absurd g ht⟩
  exact cOk_of (T := fun t => Classical.choose (key t)) fun t ht => Classical.choose_spec (key t) ht
theorem cWt_of {τ : Nat → Nat → Int32} {w : Nat → Int32} (hO : cOk τ) (hR : rRw τ w) : cWt τ w := by
  intro t ht
  by_cases h : w (10 + 4 * t) = nI 2
  · obtain ⟨kd, g, _, b, _, e, _⟩ := (hO t ht).2.2.1 _ ((hR t ht).2.2.1 h)
    refine Or.inr ⟨g, b, ?_⟩
    unfold rWait
    rw [if_pos (show zw τ w 1 (10 + 4 * t) = nI 2 from h)]
    exact e
  · exact Or.inl (rWait_n h)
theorem cFree_all {τ ρ : Nat → Nat → Int32} {w : Nat → Int32} {t D : Nat} {T : tT} : (∀ q i, ¬ (q = 3 ∨ q = 4 ∨ q = 5) → cWdR T t D ρ q i = ρ q i) ∧ ∀ g, g < 6 → (cWdR T t D ρ 4 g = if ρ 4 g = nI t then -4 else ρ 4 g) ∧ cWdR T t D ρ 5 g = if ρ 4 g = nI t then nI 0 else ρ 5 g := by
  unfold cWdR
  refine ⟨fun q i h => ?_, fun g hg => ?_⟩
  · rw [cFreeL_q _ _ (by omega) (by omega), cAddL_q _ _ _ (by omega)]
  · rw [(cFreeL_45 t _ 6 g).1, (cFreeL_45 t _ 6 g).2, cAddL_q _ _ _ (by omega), cAddL_q _ _ _ (by omega)]
    by_cases h : ρ 4 g = nI t
    · exact ⟨by rw [if_pos ⟨hg, h⟩, if_pos h], by rw [if_pos ⟨hg, h⟩, if_pos h]⟩
    · exact ⟨by rw [if_neg (fun q => h q.2), if_neg h], by rw [if_neg (fun q => h q.2), if_neg h]⟩
theorem cTI_fall {τ ρ : Nat → Nat → Int32} {w : Nat → Int32} {t : Nat} {T : tT} (h : cTI τ ρ w) (hu : cUq τ w) (ht : t < 4) (hO : cOk τ) (hR : rRw τ w) (hT : tOk T) (hz : zTrR τ t T) (hn : rD (zw τ w) t ≤ T.n) : cTI τ (zu (cIdR t (cWdR T t (rD (zw τ w) t) ρ)) 10 t ((cIdR t (cWdR T t (rD (zw τ w) t) ρ)) 10 t + nI 1)) (rFallW τ t w) ∧ cUq τ (rFallW τ t w) := by
  have hg : rGok τ t (rD (zw τ w) t) := rGall_of hO.tr hR t ht
  have a := (cFree_all (τ := τ) (w := w) (t := t) (D := rD (zw τ w) t) (T := T) (ρ := ρ)).1
  have ex : (cIdR t (cWdR T t (rD (zw τ w) t) ρ)) 10 t + nI 1 = rFallW τ t w (10 + 4 * t + 3) := by
    unfold cIdR rFallW rIdleW
    rw [zu_i_ne (by omega), zu_i_ne (by omega), zu_i_ne (by omega), zu_i_ne (by omega), a _ _ (by omega), (h.2.2 t ht).2.2.2.2, zup_n _ _ (by omega), zup_n _ _ (by omega), zup_n _ _ (by omega), zup_s, rComeW_at _ _ (by omega) _ hg]
  rw [ex]
  refine cTI_idle h hu ht (fun g hg' => ?_) (cFree_all (τ := τ) (w := w)).2 a (fun i h1 h2 => ?_) ?_ ?_ ?_ rfl
  · unfold cWdR rFallW rIdleW
    rw [cFreeL_q _ _ (by omega) (by omega), cAddL_w hT hz (fun g hg => (h.2.1 g hg).1) _ hn g hg', zup_n _ _ (by omega), zup_n _ _ (by omega), zup_n _ _ (by omega), zup_n _ _ (by omega)]
  · unfold rFallW rIdleW
    rw [zup_n _ _ (by omega), zup_n _ _ (by omega), zup_n _ _ (by omega), zup_n _ _ (by omega), rComeW_at _ _ h1 _ hg]
  · unfold rFallW rIdleW
    rw [zup_n _ _ (by omega), zup_n _ _ (by omega), zup_s]
  · unfold rFallW rIdleW
    rw [zup_n _ _ (by omega), zup_s]
  · unfold rFallW rIdleW
    rw [zup_s]
section
variable {d c s j t bb G : Nat} {τ : Nat → Nat → Int32} {w : Nat → Int32} {X : zM} {ρ : Nat → Nat → Int32} {l : Nat → Nat → Int64} {Q : Option zV → zM → Prop}
theorem sp_cAwait (hj : j < 15) (ht : t < 4) (hP : cPs X j bb τ) (h : cTI τ ρ w) (hu : cUq τ w) (hR : rRw τ w) (hD : rD (zw τ w) t < rM τ t) (hG : τ 11 (30 * t + rD (zw τ w) t) = nI G) (hn : cNm (rWw t w)) (k : ∀ ρ', cTI τ ρ' (rWaitsW τ t w) → cUq τ (rWaitsW τ t w) → Q (some (zi (rWaitsR τ t w))) (OM X 2 j ρ' l)) : Ev (d + 3) c s 82 0 [some (zr (some (2, j, 0))), some (zi (nI t)), some (zi (nI G)), none, none] [] (OM X 2 j ρ l) Q := by
  have hO := hP.ok
  have hR2 : rRw τ (rWw t w) := hR.wait hO.tr ht hD
  have hW2 : cWt τ (rWw t w) := cWt_of hO hR2
  have hy : nI G = rWait (zw τ (zup w (10 + 4 * t) (nI 2))) t := by
    unfold rWait
    rw [if_pos (show zw τ (zup w (10 + 4 * t) (nI 2)) 1 (10 + 4 * t) = nI 2 from zup_s _ _ _), rD_s (w := w) (by rw [zup_n _ _ (by omega)])]
    exact hG.symm
  have hst := cTI_stay (ρ' := zu (zu ρ 6 t (nI 2)) 8 t (nI G)) h hu ht hy (fun q i => by
    rw [zu_if, zu_if]
    by_cases h6 : q = 6 ∧ i = t
    · rw [if_pos h6, if_neg (by omega), if_pos h6]
    · rw [if_neg h6, if_neg h6])
  obtain ⟨h2, hu2⟩ := hst
  have h2 : cTI τ (zu (zu ρ 6 t (nI 2)) 8 t (nI G)) (rWw t w) := h2
  have hu2 : cUq τ (rWw t w) := hu2
  have e1 : rWw t w 1 = w 1 := by unfold rWw; rw [zup_n _ _ (by omega)]
  have er : ρ 0 3 = w 1 := h.1.2.1
  unfold rWaitsR rWaitsW at k
  refine g82_0 (τ := τ) (w := rWw t w) hj ht ht ht h2 hW2 (fun _ _ => h2) (fun _ _ => hu2) (fun _ _ => hn) (fun g1 _ => ?_) (fun g1 g2 => ?_) (fun g1 g2 => ?_) (fun g1 => ?_)
  · rcases rRing_bits (zw τ (rWw t w)) ht with e | ⟨r, hr, _, e⟩
    · exact absurd e g1
    · exact ⟨r, hr, e⟩
  · rw [er] at g2
    rw [if_neg g1, if_neg g1, if_neg g2, if_neg g2] at k
    obtain ⟨v, hv, ev⟩ := rVic_some (zw τ (rWw t w)) ht g1
    rw [ev] at k ⊢
    rw [nI_clamp (by omega), nI_add] at k
    obtain ⟨n, T, pt, hc, hz, hT⟩ := hP v hv
    have eM : rM τ v = T.n := by unfold rM; rw [hz.1]; exact nI_clamp (by have := hT.1; omega)
    have hn' : rD (zw τ (rWw t w)) v ≤ T.n := by rw [← eM]; exact (hR2 v hv).2.1
    have hf := cTI_fall h2 hu2 hv hO hR2 hT hz hn'
    exact g82_42 (D := rD (zw τ (rWw t w)) v) hj hv hc pt ((h2.2.2 v hv).2.1.trans (hR2 v hv).1) hT hn' hv hv hv (k _ hf.1 hf.2)
  · rw [er] at g2
    rw [if_neg g1, if_neg g1, if_pos g2, if_pos g2] at k
    exact k _ h2 hu2
  · rw [if_pos g1, if_pos g1] at k
    exact k _ h2 hu2
end
