/-! the reference: calls that change the row -/
def rHd (ρ : Nat → Nat → Int32) (w : Nat → Int32) (ρ' : Nat → Nat → Int32) : Prop := rFr ρ ρ' ∧ ρ' 0 = ρ 0 ∧ ρ' 2 = ρ 2 ∧ ∀ i, i < 270 → ρ' 26 i = w i
theorem sp_holds' {d c s : Nat} {w : Nat → Int32} {X : zM} {ρ : Nat → Nat → Int32} {l : Nat → Nat → Int64} {Q : Option zV → zM → Prop} (k : ∀ ρ', rHd ρ w ρ' → Q none (OM X 1 0 (zw ρ' w) l)) : Ev d c s 174 0 [some (zr (some (1, 0, 0))), none] [] (OM X 1 0 (zw ρ w) l) Q := by
  refine sp_holds (k _ ⟨fun q i h1 h2 h26 _ => ?_, ?_, ?_, fun i hi => ?_⟩)
  · rw [zup_n _ _ h26]
  · exact zup_n _ _ (by decide)
  · exact zup_n _ _ (by decide)
  · rw [zup_s]
    unfold zcp
    rw [if_pos hi]
theorem rPs_last {p f f' : Nat → Int32} {G : List (Nat → Int32)} (h : rPs p (G ++ [f])) (e : ∀ i, i < 270 → f i = f' i) : rPs p (G ++ [f']) := by
  intro k hk i hi
  rw [List.length_append, List.length_singleton] at hk
  have h1 := h k (by rw [List.length_append, List.length_singleton]; exact hk) i hi
  rw [h1]
  by_cases hl : k = G.length
  · subst hl
    simp only [List.getElem_concat_length]
    exact e i hi
  · rw [List.getElem_append_left (by omega), List.getElem_append_left (by omega)]
def rNo (ρ ρ' : Nat → Nat → Int32) (H : List (Nat → Int32)) : Prop := rFr ρ ρ' ∧ rHs ρ' H
theorem sp_notes' {d c s : Nat} {w : Nat → Int32} {X : zM} {ρ : Nat → Nat → Int32} {l : Nat → Nat → Int64} {Q : Option zV → zM → Prop} {H : List (Nat → Int32)} {f : Nat → Int32} (hH : rHs ρ H) (hf : ∀ i, i < 270 → ρ 26 i = f i) (k : ∀ ρ', rNo ρ ρ' (hNote H f) → Q none (OM X 1 0 (zw ρ' w) l)) : Ev d c s 175 0 [some (zr (some (1, 0, 0))), none] [] (OM X 1 0 (zw ρ w) l) Q := by
  refine sp_notes hH (fun ρ' h1 h2 _ => k ρ' ⟨h1, ?_, ?_, ?_⟩)
  · rw [h2.1]
    unfold hNote
    rw [List.length_append, List.length_append]
    rfl
  · exact hNote_len hH.2.1
  · exact rPs_last h2.2.2 hf
/-- what frames keep -/
theorem rTrs_fr {ρ ρ' : Nat → Nat → Int32} {w : Nat → Int32} (h : rTrs ρ w) (hf : rFr ρ ρ') : rTrs ρ' w := by
  have e : ∀ q, 10 ≤ q → q ≤ 18 → ρ' q = ρ q := fun q h1 h2 => hf.row (by omega) (by omega) (by omega) (by omega)
  intro t ht
  have := h t ht
  unfold zTrR at this ⊢
  rw [e 13 (by decide) (by decide), e 14 (by decide) (by decide), e 15 (by decide) (by decide), e 16 (by decide) (by decide), e 17 (by decide) (by decide), e 18 (by decide) (by decide), e 10 (by decide) (by decide), e 11 (by decide) (by decide), e 12 (by decide) (by decide)]
  exact this
theorem tTr_eq {w w' : Nat → Int32} (h : ∀ i, (i = 0 ∨ 26 ≤ i) → w' i = w i) (t : Nat) : tTr w' t = tTr w t := by
  have e1 : tL w' t = tL w t := by
    unfold tL
    rw [h (26 + 61 * t) (Or.inr (by omega))]
    congr 1
    funext k
    rw [h (26 + 61 * t + 1 + k) (Or.inr (by omega))]
  have e2 : tG w' = tG w := by
    unfold tG
    rw [h 0 (Or.inl rfl)]
  unfold tTr
  rw [e1, e2]
theorem rImg_fr {ρ ρ' : Nat → Nat → Int32} {K : Option ((Nat → Int32) × List (Nat → Int32))} (h : rImg ρ K) (hf : rFr ρ ρ') : rImg ρ' K := by
  have e3 : ρ' 3 = ρ 3 := hf.row (by decide) (by decide) (by decide) (by decide)
  have e4 : ρ' 4 = ρ 4 := hf.row (by decide) (by decide) (by decide) (by decide)
  have e5 : ρ' 0 5 = ρ 0 5 := hf 0 5 (by decide) (by decide) (by decide) (by decide)
  unfold rImg at h ⊢
  rw [e3, e4, e5]
  exact h
theorem rTape_fr {ρ ρ' : Nat → Nat → Int32} {T : List Nat} (h : rTape ρ T) (hf : rFr ρ ρ') : rTape ρ' T := by
  have e5 : ρ' 5 = ρ 5 := hf.row (by decide) (by decide) (by decide) (by decide)
  have e7 : ρ' 0 7 = ρ 0 7 := hf 0 7 (by decide) (by decide) (by decide) (by decide)
  unfold rTape at h ⊢
  rw [e5, e7]
  exact h
theorem rShe_fr {ρ ρ' : Nat → Nat → Int32} {l : Nat → Nat → Int64} {S : Nat → Option (Nat × Nat × (Nat → Int64))} (h : rShe ρ l S) (hf : rFr ρ ρ') : rShe ρ' l S := by
  have e6 : ρ' 6 = ρ 6 := hf.row (by decide) (by decide) (by decide) (by decide)
  have e7 : ρ' 7 = ρ 7 := hf.row (by decide) (by decide) (by decide) (by decide)
  unfold rShe at h ⊢
  rw [e6, e7]
  exact h
theorem rFr_zw {ρ ρ' : Nat → Nat → Int32} (h : rFr ρ ρ') (w : Nat → Int32) : rFr ρ (zw ρ' w) := fun q i h1 h2 h26 h0 => (zup_n _ _ h1 ▸ h q i h1 h2 h26 h0 : zup ρ' 1 w q i = ρ q i)
/-- row and rows kept change, the rest is a frame -/
theorem zRef.step {ρ ρ' : Nat → Nat → Int32} {l : Nat → Nat → Int64} {σ : zSt} (h : zRef ρ l σ) (hf : rFr ρ ρ') {H' : List (Nat → Int32)} (hH : rHs ρ' H') {w' : Nat → Int32} (hw : ∀ i, (i = 0 ∨ 26 ≤ i) → w' i = σ.w i) : zRef (zw ρ' w') l (w', H', σ.2.2) := by
  obtain ⟨_, _, a3, a4, a5, a6⟩ := h
  refine ⟨zup_s _ _ _, hH, rImg_fr a3 (rFr_zw hf w'), rTape_fr a4 (rFr_zw hf w'), rShe_fr a5 (rFr_zw hf w'), ?_⟩
  intro t ht
  have := rTrs_fr a6 hf t ht
  show zTrR (zw ρ' w') t (tTr w' t)
  rw [tTr_eq hw t]
  exact this
theorem zRef.zw {ρ : Nat → Nat → Int32} {l : Nat → Nat → Int64} {σ : zSt} (h : zRef ρ l σ) : zw ρ σ.w = ρ := by
  rw [← h.1]
  exact zw_id ρ
theorem rHs_hd {ρ ρ' : Nat → Nat → Int32} {w : Nat → Int32} {H : List (Nat → Int32)} (h : rHs ρ H) (hd : rHd ρ w ρ') : rHs ρ' H := by
  unfold rHs at h ⊢
  rw [hd.2.1, hd.2.2.1]
  exact h
/-- numbers below a bound -/
def aIx (x : Int32) (N : Nat) : Option Nat := if x < 0 then none else if N ≤ x.toNatClampNeg then none else some x.toNatClampNeg
theorem aIx_some {N t : Nat} (ht : t < N) (hN : N < 2 ^ 31) : aIx (nI t) N = some t := by
  unfold aIx
  rw [if_neg (nI_pos (by omega)), nI_clamp (by omega), if_neg (by omega)]
theorem aIx_none {x : Int32} {N : Nat} (hN : N < 2 ^ 31) (h : ¬ ∃ t, t < N ∧ x = nI t) : aIx x N = none := by
  unfold aIx
  by_cases h0 : x < 0
  · rw [if_pos h0]
  · rw [if_neg h0]
    obtain ⟨j, hj, e⟩ := nI_of h0
    rw [e, nI_clamp hj]
    by_cases hn : N ≤ j
    · rw [if_pos hn]
    · exact absurd ⟨j, by omega, e⟩ h
theorem zrangeL {x : Int32} {m : Nat} (hm : m < 5000) (h : lN 0 ≤ x.toInt64 ∧ x.toInt64 ≤ lN m) : ∃ t, t < m + 1 ∧ x = nI t := by
  obtain ⟨t, ht, e⟩ := (zrange x m hm).mp h
  exact ⟨t, by omega, e⟩
theorem zrangeN {x : Int32} {m : Nat} (hm : m < 5000) (h : ¬ (lN 0 ≤ x.toInt64 ∧ x.toInt64 ≤ lN m)) : aIx x (m + 1) = none := aIx_none (by omega) fun ⟨t, ht, e⟩ => h ((zrange x m hm).mpr ⟨t, by omega, e⟩)
/-- rows that change but in texts and gates -/
theorem rBegW_tx {t : Nat} (ht : t < 4) (w : Nat → Int32) {i : Nat} (hi : i = 0 ∨ 26 ≤ i) : rBegW t w i = w i := rBeg_at w (by omega) (by omega)
theorem rFallW_tx {ρ : Nat → Nat → Int32} {t : Nat} (ht : t < 4) {w : Nat → Int32} (hg : rGok ρ t (rD (zw ρ w) t)) {i : Nat} (hi : i = 0 ∨ 26 ≤ i) : rFallW ρ t w i = w i := by
  unfold rFallW rIdleW
  rw [zup_n _ _ (by omega), zup_n _ _ (by omega), zup_n _ _ (by omega), zup_n _ _ (by omega)]
  exact rComeW_at _ _ (by omega) _ hg
theorem rWaitsW_tx {ρ : Nat → Nat → Int32} (hT : rTr ρ) {t : Nat} (ht : t < 4) {w : Nat → Int32} (hR : rRw ρ w) (hD : rD (zw ρ w) t < rM ρ t) {i : Nat} (hi : i = 0 ∨ 26 ≤ i) : rWaitsW ρ t w i = w i := by
  have hW := hR.wait hT ht hD
  have e : rWw t w i = w i := by unfold rWw; rw [zup_n _ _ (by omega)]
  unfold rWaitsW
  split
  · exact e
  · split
    · exact e
    · rename_i h _
      obtain ⟨v, hv, e2⟩ := rVic_some (zw ρ (rWw t w)) ht h
      rw [e2, nI_clamp (by omega), rFallW_tx hv (rGall_of hT hW v hv) hi]
      exact e
theorem rTurnW_tx {ρ : Nat → Nat → Int32} (hT : rTr ρ) {t : Nat} (ht : t < 4) {w : Nat → Int32} (hR : rRw ρ w) {i : Nat} (hi : i = 0 ∨ 26 ≤ i) : rTurnW ρ t w i = w i := by
  have hB := hR.beg t
  have hm := hT t ht
  have e0 := rBegW_tx ht w hi
  have eE : ∀ v, rEndW ρ t v i = v i := by intro v; unfold rEndW; rw [zup_n _ _ (by omega)]
  unfold rTurnW
  rw [← e0]
  generalize rBegW t w = v at hB ⊢
  split
  · rename_i hD
    have eS : rStepW ρ t v (rD (zw ρ v) t) i = v i := by
      have := (hm.2.2 _ hD).2
      unfold rStepW
      rw [zup_n _ _ (by omega), zup_n _ _ (by omega), zup_n _ _ (by omega)]
    split
    · exact rWaitsW_tx hT ht hB hD hi
    · split
      · exact eS
      · rw [eE]; exact eS
  · exact eE v
theorem g204_0 {d c s : Nat} {x : Int32} {w : Nat → Int32} {X : zM} {ρ : Nat → Nat → Int32} {l : Nat → Nat → Int64} {Q : Option zV → zM → Prop}
    (h1 : (lN 0 ≤ x.toInt64 ∧ x.toInt64 ≤ lN 3) → Ev (d + 2) c s 204 10 [some (zr (some (1, 0, 0))), some (zi x)] [] (OM X 1 0 (zw ρ w) l) Q)
    (h2 : (¬ (lN 0 ≤ x.toInt64 ∧ x.toInt64 ≤ lN 3)) → Q (some (zi ((-1)))) (OM X 1 0 (zw ρ w) l)) : Ev (d + 2) c s 204 0 [some (zr (some (1, 0, 0))), some (zi x)] [] (OM X 1 0 (zw ρ w) l) Q := by
  refine Ew.ld f204_0 rfl rfl rfl rfl ?_
  refine Ew.op (st' := zl x.toInt64 :: _) f204_1 rfl rfl ?_
  refine Ew.call0 (ls0 := [some (zl x.toInt64), none]) f204_2 rfl (Nat.le_of_ble_eq_true rfl) rfl rfl (Nat.le_of_ble_eq_true rfl) trivial (Nat.le_of_ble_eq_true rfl) rfl rfl ?_
  refine sp_isTask (fun c1 => ?_) (fun c1 => ?_)
  · refine Ew.ifc f204_5 rfl rfl (fun _ => ?_) (fun h => absurd (show ¬ ((nI 1) : Int32) = 0 by decide) h)
    exact h1 c1
  · refine Ew.ifc f204_5 rfl rfl (fun h => absurd h (show ¬ (¬ ((nI 0) : Int32) = 0) by decide)) (fun _ => ?_)
    refine Ew.op (st' := zi ((-1)) :: _) f204_8 rfl rfl ?_
    refine Ew.ireti f204_9 ?_
    exact h2 c1
theorem g204_10 {d c s : Nat} {t : Nat} {H : List (Nat → Int32)} {w v : Nat → Int32} {X : zM} {ρ : Nat → Nat → Int32} {l : Nat → Nat → Int64} {Q : Option zV → zM → Prop}
    (b1 : 10 + 4 * t < 270)
    (b2 : ((w (10 + 4 * t)) < (nI 3)) → ∀ ρ1 : Nat → Nat → Int32, (rHd ρ w ρ1) → rHs ρ1 H)
    (b3 : ((w (10 + 4 * t)) < (nI 3)) → ∀ ρ1 : Nat → Nat → Int32, (rHd ρ w ρ1) → ∀ i, i < 270 → ρ1 26 i = v i)
    (b4 : ((w (10 + 4 * t)) < (nI 3)) → ∀ ρ1 : Nat → Nat → Int32, (rHd ρ w ρ1) → ∀ ρ2 : Nat → Nat → Int32, (rNo ρ1 ρ2 (hNote H v)) → t < 4)
    (b5 : ((w (10 + 4 * t)) < (nI 3)) → ∀ ρ1 : Nat → Nat → Int32, (rHd ρ w ρ1) → ∀ ρ2 : Nat → Nat → Int32, (rNo ρ1 ρ2 (hNote H v)) → rTr ρ2)
    (b6 : ((w (10 + 4 * t)) < (nI 3)) → ∀ ρ1 : Nat → Nat → Int32, (rHd ρ w ρ1) → ∀ ρ2 : Nat → Nat → Int32, (rNo ρ1 ρ2 (hNote H v)) → rRw ρ2 w)
    (h1 : ((w (10 + 4 * t)) < (nI 3)) → ∀ ρ1 : Nat → Nat → Int32, (rHd ρ w ρ1) → ∀ ρ2 : Nat → Nat → Int32, (rNo ρ1 ρ2 (hNote H v)) → Q (some (zi (rTurnR ρ2 t w))) (OM X 1 0 (zw ρ2 (rTurnW ρ2 t w)) l))
    (h2 : ((nI 3) ≤ (w (10 + 4 * t))) → Q (some (zi ((-2)))) (OM X 1 0 (zw ρ w) l)) : Ev (d + 7) c s 204 10 [some (zr (some (1, 0, 0))), some (zi (nI t))] [] (OM X 1 0 (zw ρ w) l) Q := by
  refine Ew.ld f204_10 rfl rfl rfl rfl ?_
  refine Ew.ld f204_11 rfl rfl rfl rfl ?_
  refine Ew.call0 (ls0 := [some (zr (some (1, 0, 0))), some (zi (nI t))]) f204_12 rfl (Nat.le_of_ble_eq_true rfl) rfl rfl (Nat.le_of_ble_eq_true rfl) rfl (Nat.le_of_ble_eq_true rfl) rfl rfl ?_
  refine Ew.ld f201_0 rfl rfl rfl rfl ?_
  refine Ew.ld f201_1 rfl rfl rfl rfl ?_
  refine Ew.op (st' := zi (nI 0) :: _) f201_2 rfl rfl ?_
  refine Ew.call0 (ls0 := [some (zr (some (1, 0, 0))), some (zi (nI t)), some (zi (nI 0))]) f201_3 rfl (Nat.le_of_ble_eq_true rfl) rfl rfl (Nat.le_of_ble_eq_true rfl) rfl (Nat.le_of_ble_eq_true rfl) rfl rfl ?_
  refine Ew.ld f156_0 rfl rfl rfl rfl ?_
  refine Ew.getp (v := some (1, 0, 1)) f156_1 rfl rfl rfl ?_
  refine Ew.op (st' := zi (nI 10) :: _) f156_4 rfl rfl ?_
  refine Ew.op (st' := zi (nI 4) :: _) f156_6 rfl rfl ?_
  refine Ew.ld f156_7 rfl rfl rfl rfl ?_
  refine Ew.muln f156_8 rfl ?_
  refine Ew.addn f156_9 rfl ?_
  refine Ew.ld f156_10 rfl rfl rfl rfl ?_
  refine Ew.addn f156_11 rfl ?_
  refine Ew.ialdnO f156_12 rfl b1 (Nat.le_of_ble_eq_true rfl) rfl ?_
  refine Ew.ireti f156_13 ?_
  show Ev (d + 6) 0 0 201 6 [some (zr (some (1, 0, 0))), some (zi (nI t))] [zi (w (10 + 4 * t))] (OM X 1 0 (zw ρ w) l) (fun r M' => Ev (d + 7) c s 204 15 [some (zr (some (1, 0, 0))), some (zi (nI t))] (zpush r []) M' Q)
  refine Ew.op (st' := zi (nI 3) :: _) f201_6 rfl rfl ?_
  refine Ew.icmp f201_7 rfl rfl (fun c1 => ?_) (fun c1 => ?_)
  · refine Ew.op (st' := zi (nI 0) :: _) f201_14 rfl rfl ?_
    refine Ew.iretb f201_15 (Or.inl rfl) ?_
    show Ev (d + 7) c s 204 15 [some (zr (some (1, 0, 0))), some (zi (nI t))] [zi (nI 0)] (OM X 1 0 (zw ρ w) l) Q
    refine Ew.ifc f204_15 rfl rfl (fun _ => ?_) (fun h => absurd (show ((nI 0) : Int32) = 0 by decide) h)
    refine Ew.ld f204_21 rfl rfl rfl rfl ?_
    refine Ew.call0 (ls0 := [some (zr (some (1, 0, 0))), none]) f204_22 rfl (Nat.le_of_ble_eq_true rfl) rfl rfl (Nat.le_of_ble_eq_true rfl) rfl (Nat.le_of_ble_eq_true rfl) rfl rfl ?_
    refine sp_holds' (fun ρ1 f1 => ?_)
    show Ev (d + 7) c s 204 25 [some (zr (some (1, 0, 0))), some (zi (nI t))] [] (OM X 1 0 (zw ρ1 w) l) Q
    refine Ew.ld f204_25 rfl rfl rfl rfl ?_
    refine Ew.call0 (ls0 := [some (zr (some (1, 0, 0))), none]) f204_26 rfl (Nat.le_of_ble_eq_true rfl) rfl rfl (Nat.le_of_ble_eq_true rfl) rfl (Nat.le_of_ble_eq_true rfl) rfl rfl ?_
    refine sp_notes' (b2 c1 ρ1 f1) (b3 c1 ρ1 f1) (fun ρ2 f2 => ?_)
    show Ev (d + 7) c s 204 29 [some (zr (some (1, 0, 0))), some (zi (nI t))] [] (OM X 1 0 (zw ρ2 w) l) Q
    refine Ew.ld f204_29 rfl rfl rfl rfl ?_
    refine Ew.ld f204_30 rfl rfl rfl rfl ?_
    refine Ew.call0 (ls0 := [some (zr (some (1, 0, 0))), some (zi (nI t)), none, none]) f204_31 rfl (Nat.le_of_ble_eq_true rfl) rfl rfl (Nat.le_of_ble_eq_true rfl) rfl (Nat.le_of_ble_eq_true rfl) rfl rfl ?_
    refine sp_turns (b4 c1 ρ1 f1 ρ2 f2) (b5 c1 ρ1 f1 ρ2 f2) (b6 c1 ρ1 f1 ρ2 f2) ?_
    show Ev (d + 7) c s 204 34 [some (zr (some (1, 0, 0))), some (zi (nI t))] [zi (rTurnR ρ2 t w)] (OM X 1 0 (zw ρ2 (rTurnW ρ2 t w)) l) Q
    refine Ew.ireti f204_34 ?_
    exact h1 c1 ρ1 f1 ρ2 f2
  · refine Ew.op (st' := zi (nI 1) :: _) f201_10 rfl rfl ?_
    refine Ew.goto f201_11 rfl ?_
    refine Ew.iretb f201_15 (Or.inr rfl) ?_
    show Ev (d + 7) c s 204 15 [some (zr (some (1, 0, 0))), some (zi (nI t))] [zi (nI 1)] (OM X 1 0 (zw ρ w) l) Q
    refine Ew.ifc f204_15 rfl rfl (fun h => absurd h (show ¬ (((nI 1) : Int32) = 0) by decide)) (fun _ => ?_)
    refine Ew.op (st' := zi ((-2)) :: _) f204_18 rfl rfl ?_
    refine Ew.ireti f204_20 ?_
    exact h2 (Int32.not_lt.mp c1)
def aTurn (σ : zSt) (x : Int32) : Int32 × zSt := match aIx x 4 with
  | none => (-1, σ)
  | some t => if nI 3 ≤ σ.w (10 + 4 * t) then (-2, σ) else (rTurnR (tτ σ.w) t σ.w, (rTurnW (tτ σ.w) t σ.w, hNote σ.H σ.w, σ.2.2))
theorem rp_turn {d c s B : Nat} {x : Int32} {σ : zSt} {X : zM} {ρ : Nat → Nat → Int32} {l : Nat → Nat → Int64} {Q : Option zV → zM → Prop} (hG : zGood B σ) (hR : zRef ρ l σ) (k : ∀ ρ' l', zRef ρ' l' (aTurn σ x).2 → Q (some (zi (aTurn σ x).1)) (OM X 1 0 ρ' l')) : Ev (d + 7) c s 204 0 [some (zr (some (1, 0, 0))), some (zi x)] [] (OM X 1 0 ρ l) Q := by
  have hTx := hG.1.2.1
  rw [← hR.zw]
  refine g204_0 (fun h => ?_) (fun h => ?_)
  · obtain ⟨t, ht, rfl⟩ := zrangeL (by decide) h
    have ht : t < 4 := ht
    unfold aTurn at k
    rw [aIx_some ht (by decide)] at k
    simp only [] at k
    have hag : ∀ ρ2, rFr ρ ρ2 → rTr ρ2 ∧ rRw ρ2 σ.w ∧ rTurnR (tτ σ.w) t σ.w = rTurnR ρ2 t σ.w ∧ rTurnW (tτ σ.w) t σ.w = rTurnW ρ2 t σ.w := by
      intro ρ2 hf
      have h2 := rTrs_fr hR.2.2.2.2.2 hf
      have h3 := rTr_of hTx h2
      have h4 := rRw_of hTx h2 hG.1.2.2.1
      exact ⟨h3, h4, rTurn_ag (rAg_τ hTx h2) h3 h4 ht⟩
    refine g204_10 (H := σ.H) (v := σ.w) (by omega) (fun _ ρ1 hd => rHs_hd hR.2.1 hd) (fun _ ρ1 hd => hd.2.2.2) (fun _ _ _ _ _ => ht) (fun _ ρ1 hd ρ2 hn => (hag ρ2 (hd.1.trans hn.1)).1) (fun _ ρ1 hd ρ2 hn => (hag ρ2 (hd.1.trans hn.1)).2.1) (fun h1 ρ1 hd ρ2 hn => ?_) (fun h1 => ?_)
    · rw [if_neg (Int32.not_le.mpr h1)] at k
      obtain ⟨h3, h4, e1, e2⟩ := hag ρ2 (hd.1.trans hn.1)
      rw [e1, e2] at k
      exact k _ _ (hR.step (hd.1.trans hn.1) hn.2 (fun i hi => rTurnW_tx h3 ht h4 hi))
    · rw [if_pos h1] at k
      rw [hR.zw]
      exact k _ _ hR
  · unfold aTurn at k
    rw [zrangeN (by decide) h] at k
    rw [hR.zw]
    exact k _ _ hR
