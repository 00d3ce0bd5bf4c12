/-! the reference: more calls that change the row -/
theorem zu37 {ρ ρ' : Nat → Nat → Int32} (h : rFr ρ ρ') (v : Int32) : rFr ρ (zu ρ' 0 37 v) := by
  intro q i h1 h2 h26 h0
  rw [zu_i_ne (by omega)]
  exact h q i h1 h2 h26 h0
theorem rHs37 {ρ : Nat → Nat → Int32} {H : List (Nat → Int32)} (h : rHs ρ H) (v : Int32) : rHs (zu ρ 0 37 v) H := by
  refine ⟨?_, h.2.1, ?_⟩
  · rw [zu_i_ne (by omega)]; exact h.1
  · rw [zu_q _ _ _ _ (by decide)]; exact h.2.2
/-- rows that turns leave are rows -/
theorem rRw.fall {ρ : Nat → Nat → Int32} {w : Nat → Int32} (hT : rTr ρ) (hR : rRw ρ w) {t : Nat} (ht : t < 4) : rRw ρ (rFallW ρ t w) := by
  have hg := rGall_of hT hR t ht
  refine hR.one t (fun u hu hne => ?_) (D := 0) (st := 0) ?_ (by omega) (hT t ht).2.1 ?_ (by omega) (fun h => absurd h (by decide))
  · unfold rFallW rIdleW
    rw [zup_n _ _ (by omega), zup_n _ _ (by omega), zup_n _ _ (by omega), zup_n _ _ (by omega), zup_n _ _ (by omega), zup_n _ _ (by omega), zup_n _ _ (by omega), zup_n _ _ (by omega)]
    exact ⟨rComeW_at _ _ (by omega) _ hg, rComeW_at _ _ (by omega) _ hg⟩
  · unfold rFallW rIdleW
    rw [zup_n _ _ (by omega), zup_s]
  · unfold rFallW rIdleW
    rw [zup_n _ _ (by omega), zup_n _ _ (by omega), zup_s]
theorem rRw.waits {ρ : Nat → Nat → Int32} {w : Nat → Int32} (hT : rTr ρ) (hR : rRw ρ w) {t : Nat} (ht : t < 4) (hD : rD (zw ρ w) t < rM ρ t) : rRw ρ (rWaitsW ρ t w) := by
  have hW := hR.wait hT ht hD
  unfold rWaitsW
  split
  · exact hW
  · split
    · exact hW
    · rename_i h _
      obtain ⟨v, hv, e2⟩ := rVic_some (zw ρ (rWw t w)) ht h
      rw [e2, nI_clamp (by omega)]
      exact hW.fall hT hv
theorem rRw.turn {ρ : Nat → Nat → Int32} {w : Nat → Int32} (hT : rTr ρ) (hR : rRw ρ w) {t : Nat} (ht : t < 4) : rRw ρ (rTurnW ρ t w) := by
  have hB := hR.beg t
  have hm := hT t ht
  unfold rTurnW
  generalize rBegW t w = v at hB ⊢
  have ends : ∀ v', rRw ρ v' → rRw ρ (rEndW ρ t v') := by
    intro v' h'
    have hd := h' t ht
    refine h'.one t (fun u hu hne => ?_) (D := rD (zw ρ v') t) (st := if ρ 14 t = 0 then 3 else 4) ?_ hd.2.1 hm.2.1 ?_ (by split <;> omega) (fun h => ?_)
    · unfold rEndW
      exact ⟨zup_n _ _ (by omega), zup_n _ _ (by omega)⟩
    · unfold rEndW
      rw [zup_n _ _ (by omega)]
      exact hd.1
    · unfold rEndW
      rw [zup_s]
      split <;> rfl
    · exfalso
      by_cases e : ρ 14 t = 0
      · rw [if_pos e] at h; omega
      · rw [if_neg e] at h; omega
  split
  · rename_i hD
    have hS : rRw ρ (rStepW ρ t v (rD (zw ρ v) t)) := by
      have hg := (hm.2.2 _ hD).2
      refine hB.one t (fun u hu hne => ?_) (D := rD (zw ρ v) t + 1) (st := 1) ?_ (by omega) hm.2.1 ?_ (by omega) (fun h => absurd h (by decide))
      · unfold rStepW
        rw [zup_n _ _ (by omega), zup_n _ _ (by omega), zup_n _ _ (by omega), zup_n _ _ (by omega), zup_n _ _ (by omega), zup_n _ _ (by omega)]
        exact ⟨rfl, rfl⟩
      · unfold rStepW
        rw [zup_n _ _ (by omega), zup_s]
      · unfold rStepW
        rw [zup_n _ _ (by omega), zup_n _ _ (by omega), zup_s]
    split
    · exact hB.waits hT ht hD
    · split
      · exact hS
      · exact ends _ hS
  · exact ends _ hB
theorem rRw.lay {ρ : Nat → Nat → Int32} {w : Nat → Int32} (hT : rTr ρ) (hR : rRw ρ w) : ∀ t, t ≤ 4 → rRw ρ (rLayL ρ w t) := by
  intro t
  induction t with
  | zero => intro _; exact hR
  | succ t ih =>
    intro ht
    have h := ih (by omega)
    have hg := rGall_of hT h t (by omega)
    refine h.one t (fun u hu hne => ?_) (D := 0) (st := 0) ?_ (by omega) (hT t (by omega)).2.1 ?_ (by omega) (fun h => absurd h (by decide))
    · exact ⟨rLay1_at hg (by omega) (by omega), rLay1_at hg (by omega) (by omega)⟩
    · show rLay1 ρ t _ _ = _
      unfold rLay1 rIdleW
      rw [zup_n _ _ (by omega), zup_n _ _ (by omega), zup_s]
    · show rLay1 ρ t _ _ = _
      unfold rLay1 rIdleW
      rw [zup_n _ _ (by omega), zup_n _ _ (by omega), zup_n _ _ (by omega), zup_s]
theorem rLayL_ag {ρ ρ' : Nat → Nat → Int32} (h : rAg ρ ρ') (hT : rTr ρ) {w : Nat → Int32} (hR : rRw ρ w) : ∀ t, t ≤ 4 → rLayL ρ' w t = rLayL ρ w t := by
  intro t
  induction t with
  | zero => intro _; rfl
  | succ t ih =>
    intro ht
    show rLay1 ρ' t (rLayL ρ' w t) = rLay1 ρ t (rLayL ρ w t)
    rw [ih (by omega)]
    have hr := (hR.lay hT t (by omega)) t (by omega)
    unfold rLay1
    rw [show rD (zw ρ' (rLayL ρ w t)) t = rD (zw ρ (rLayL ρ w t)) t from rfl, rComeW_ag h (by omega) _ _ _ hr.2.1]
theorem rLaysW_tx {ρ : Nat → Nat → Int32} (hT : rTr ρ) {w : Nat → Int32} (hR : rRw ρ w) {i : Nat} (hi : i = 0 ∨ 26 ≤ i) : rLaysW ρ w i = w i := by
  unfold rLaysW
  split
  · rfl
  · rw [zup_n _ _ (by omega)]
    exact rLayL_at hT hR 4 (Nat.le_refl 4) i (by omega)
theorem g211_0 {d c s : Nat} {H : List (Nat → Int32)} {w v : Nat → Int32} {X : zM} {ρ : Nat → Nat → Int32} {l : Nat → Nat → Int64} {Q : Option zV → zM → Prop}
    (b1 : ∀ ρ1 : Nat → Nat → Int32, (rHd ρ w ρ1) → rTr ρ1)
    (b2 : ∀ ρ1 : Nat → Nat → Int32, (rHd ρ w ρ1) → rRw ρ1 w)
    (h1 : ∀ ρ1 : Nat → Nat → Int32, (rHd ρ w ρ1) → ((rLaysR w) < 0) → Q (some (zi (rLaysR w))) (OM X 1 0 (zw ρ1 (rLaysW ρ1 w)) l))
    (b3 : ∀ ρ1 : Nat → Nat → Int32, (rHd ρ w ρ1) → (0 ≤ (rLaysR w)) → rHs ρ1 H)
    (b4 : ∀ ρ1 : Nat → Nat → Int32, (rHd ρ w ρ1) → (0 ≤ (rLaysR w)) → ∀ i, i < 270 → ρ1 26 i = v i)
    (h2 : ∀ ρ1 : Nat → Nat → Int32, (rHd ρ w ρ1) → (0 ≤ (rLaysR w)) → ∀ ρ2 : Nat → Nat → Int32, (rNo ρ1 ρ2 (hNote H v)) → Q (some (zi (rLaysR w))) (OM X 1 0 (zw ρ2 (rLaysW ρ1 w)) l)) : Ev (d + 3) c s 211 0 [some (zr (some (1, 0, 0))), none] [] (OM X 1 0 (zw ρ w) l) Q := by
  refine Ew.ld f211_0 rfl rfl rfl rfl ?_
  refine Ew.call0 (ls0 := [some (zr (some (1, 0, 0))), none]) f211_1 rfl (Nat.le_of_ble_eq_true rfl) rfl rfl (Nat.le_of_ble_eq_true rfl) rfl (Nat.le_of_ble_eq_true rfl) rfl rfl ?_
  refine sp_holds' (fun ρ1 f1 => ?_)
  show Ev (d + 3) c s 211 4 [some (zr (some (1, 0, 0))), none] [] (OM X 1 0 (zw ρ1 w) l) Q
  refine Ew.ld f211_4 rfl rfl rfl rfl ?_
  refine Ew.call0 (ls0 := [some (zr (some (1, 0, 0))), none, none]) f211_5 rfl (Nat.le_of_ble_eq_true rfl) rfl rfl (Nat.le_of_ble_eq_true rfl) rfl (Nat.le_of_ble_eq_true rfl) rfl rfl ?_
  refine sp_lays (b1 ρ1 f1) (b2 ρ1 f1) ?_
  show Ev (d + 3) c s 211 8 [some (zr (some (1, 0, 0))), none] [zi (rLaysR w)] (OM X 1 0 (zw ρ1 (rLaysW ρ1 w)) l) Q
  refine Ew.sr (ls' := [some (zr (some (1, 0, 0))), some (zi (rLaysR w))]) f211_8 rfl rfl (Nat.le_of_ble_eq_true rfl) rfl rfl ?_
  refine Ew.ld f211_9 rfl rfl rfl rfl ?_
  refine Ew.ifc f211_10 rfl rfl (fun c1 => ?_) (fun c1 => ?_)
  · refine Ew.ld f211_17 rfl rfl rfl rfl ?_
    refine Ew.ireti f211_18 ?_
    exact h1 ρ1 f1 c1
  · refine Ew.ld f211_13 rfl rfl rfl rfl ?_
    refine Ew.call0 (ls0 := [some (zr (some (1, 0, 0))), none]) f211_14 rfl (Nat.le_of_ble_eq_true rfl) rfl rfl (Nat.le_of_ble_eq_true rfl) rfl (Nat.le_of_ble_eq_true rfl) rfl rfl ?_
    refine sp_notes' (b3 ρ1 f1 (Int32.not_lt.mp c1)) (b4 ρ1 f1 (Int32.not_lt.mp c1)) (fun ρ2 f2 => ?_)
    show Ev (d + 3) c s 211 17 [some (zr (some (1, 0, 0))), some (zi (rLaysR w))] [] (OM X 1 0 (zw ρ2 (rLaysW ρ1 w)) l) Q
    refine Ew.ld f211_17 rfl rfl rfl rfl ?_
    refine Ew.ireti f211_18 ?_
    exact h2 ρ1 f1 (Int32.not_lt.mp c1) ρ2 f2
def aLay (σ : zSt) : Int32 × zSt := if rNot0 σ.w 4 = 0 ∧ σ.w 2 = 0 then (-2, σ) else (nI (rNot0 σ.w 4), (zup (rLayL (tτ σ.w) σ.w 4) 2 (nI 0), hNote σ.H σ.w, σ.2.2))
theorem rp_lay {d c s B : Nat} {σ : zSt} {X : zM} {ρ : Nat → Nat → Int32} {l : Nat → Nat → Int64} {Q : Option zV → zM → Prop} (hG : zGood B σ) (hR : zRef ρ l σ) (k : ∀ ρ' l', zRef ρ' l' (aLay σ).2 → Q (some (zi (aLay σ).1)) (OM X 1 0 ρ' l')) : Ev (d + 3) c s 211 0 [some (zr (some (1, 0, 0))), none] [] (OM X 1 0 ρ l) Q := by
  have hTx := hG.1.2.1
  rw [← hR.zw]
  have hag : ∀ ρ2, rFr ρ ρ2 → rTr ρ2 ∧ rRw ρ2 σ.w ∧ rAg ρ2 (tτ σ.w) := by
    intro ρ2 hf
    have h2 := rTrs_fr hR.2.2.2.2.2 hf
    exact ⟨rTr_of hTx h2, rRw_of hTx h2 hG.1.2.2.1, rAg_τ hTx h2⟩
  refine g211_0 (H := σ.H) (v := σ.w) (fun ρ1 hd => (hag ρ1 hd.1).1) (fun ρ1 hd => (hag ρ1 hd.1).2.1) (fun ρ1 hd h => ?_) (fun ρ1 hd h => rHs_hd hR.2.1 hd) (fun ρ1 hd h => hd.2.2.2) (fun ρ1 hd h ρ2 hn => ?_)
  · unfold rLaysR at h
    unfold aLay at k
    have hle := rNot0_le σ.w 4
    by_cases hc : rNot0 σ.w 4 = 0 ∧ σ.w 2 = 0
    · have e1 : rLaysR σ.w = -2 := by unfold rLaysR; rw [if_pos hc]
      have e2 : rLaysW ρ1 σ.w = σ.w := by unfold rLaysW; rw [if_pos hc]
      rw [e1, e2]
      rw [if_pos hc] at k
      exact k _ _ (hR.step hd.1 (rHs_hd hR.2.1 hd) (fun _ _ => rfl))
    · rw [if_neg hc] at h
      exact absurd h (nI_pos (by omega))
  · unfold rLaysR at h
    unfold aLay at k
    by_cases hc : rNot0 σ.w 4 = 0 ∧ σ.w 2 = 0
    · rw [if_pos hc] at h
      exact absurd h (by decide)
    · obtain ⟨h1, h2, h3⟩ := hag ρ1 hd.1
      have e1 : rLaysR σ.w = nI (rNot0 σ.w 4) := by unfold rLaysR; rw [if_neg hc]
      have e2 : rLaysW ρ1 σ.w = zup (rLayL ρ1 σ.w 4) 2 (nI 0) := by unfold rLaysW; rw [if_neg hc]
      have e3 := rLayL_ag h3 h1 h2 4 (Nat.le_refl 4)
      rw [if_neg hc, e3, ← e2] at k
      rw [e1]
      exact k _ _ (hR.step (hd.1.trans hn.1) hn.2 (fun i hi => rLaysW_tx h1 h2 hi))
