/-! the reference: what is told is kept, or all is as it was; gone -/
theorem g187_0 {d c s : Nat} {w : Nat → Int32} {X : zM} {ρ : Nat → Nat → Int32} {l : Nat → Nat → Int64} {Q : Option zV → zM → Prop}
    (h1 : Ev d 0 0 169 0 [some (zr (some (1, 0, 0))), none] [] (OM X 1 0 (zw ρ w) l) (fun r M' => Ev (d + 1) c s 187 4 [some (zr (some (1, 0, 0))), none] (zpush r []) M' Q)) : Ev (d + 1) c s 187 0 [some (zr (some (1, 0, 0))), none] [] (OM X 1 0 (zw ρ w) l) Q := by
  refine Ew.ld f187_0 rfl rfl rfl rfl ?_
  refine Ew.call0 (ls0 := [some (zr (some (1, 0, 0))), none]) f187_1 rfl (Nat.le_of_ble_eq_true rfl) rfl rfl (Nat.le_of_ble_eq_true rfl) rfl (Nat.le_of_ble_eq_true rfl) rfl rfl ?_
  exact h1
theorem g187_4 {d c s : Nat} {H : List (Nat → Int32)} {w v : Nat → Int32} {X : zM} {ρ : Nat → Nat → Int32} {l : Nat → Nat → Int64} {Q : Option zV → zM → Prop}
    (b1 : rHs ρ H)
    (b2 : ∀ i, i < 270 → ρ 26 i = v i)
    (h1 : ∀ ρ1 : Nat → Nat → Int32, (rNo ρ ρ1 (hNote H v)) → Q (some (zi (nI 1))) (OM X 1 0 (zw ρ1 w) l)) : Ev (d + 1) c s 187 4 [some (zr (some (1, 0, 0))), none] [zi (nI 1)] (OM X 1 0 (zw ρ w) l) Q := by
  refine Ew.sr (ls' := [some (zr (some (1, 0, 0))), some (zi (nI 1))]) f187_4 rfl rfl (Nat.le_of_ble_eq_true rfl) rfl rfl ?_
  refine Ew.ld f187_5 rfl rfl rfl rfl ?_
  refine Ew.ifc f187_6 rfl rfl (fun h => absurd h (show ¬ (((nI 1) : Int32) = 0) by decide)) (fun _ => ?_)
  refine Ew.ld f187_9 rfl rfl rfl rfl ?_
  refine Ew.call0 (ls0 := [some (zr (some (1, 0, 0))), none]) f187_10 rfl (Nat.le_of_ble_eq_true rfl) rfl rfl (Nat.le_of_ble_eq_true rfl) rfl (Nat.le_of_ble_eq_true rfl) rfl rfl ?_
  refine sp_notes' b1 b2 (fun ρ1 f1 => ?_)
  show Ev (d + 1) c s 187 13 [some (zr (some (1, 0, 0))), some (zi (nI 1))] [] (OM X 1 0 (zw ρ1 w) l) Q
  refine Ew.op (st' := zi (nI 1) :: _) f187_13 rfl rfl ?_
  refine Ew.iretb f187_14 (Or.inr rfl) ?_
  exact h1 ρ1 f1
theorem g187_4z {d c s : Nat} {w : Nat → Int32} {X : zM} {ρ : Nat → Nat → Int32} {l : Nat → Nat → Int64} {Q : Option zV → zM → Prop}
    (h1 : Ev d 0 0 169 0 [some (zr (some (1, 0, 0))), none] [] (OM X 1 0 (zw ρ (zcp (ρ 26) w 270)) l) (fun r M' => Ev (d + 1) c s 187 23 [some (zr (some (1, 0, 0))), some (zi (nI 0))] (zpush r []) M' Q)) : Ev (d + 1) c s 187 4 [some (zr (some (1, 0, 0))), none] [zi (nI 0)] (OM X 1 0 (zw ρ w) l) Q := by
  refine Ew.sr (ls' := [some (zr (some (1, 0, 0))), some (zi (nI 0))]) f187_4 rfl rfl (Nat.le_of_ble_eq_true rfl) rfl rfl ?_
  refine Ew.ld f187_5 rfl rfl rfl rfl ?_
  refine Ew.ifc f187_6 rfl rfl (fun _ => ?_) (fun h => absurd (show ((nI 0) : Int32) = 0 by decide) h)
  refine Ew.ld f187_15 rfl rfl rfl rfl ?_
  refine Ew.call0 (ls0 := [some (zr (some (1, 0, 0))), none]) f187_16 rfl (Nat.le_of_ble_eq_true rfl) rfl rfl (Nat.le_of_ble_eq_true rfl) rfl (Nat.le_of_ble_eq_true rfl) rfl rfl ?_
  refine sp_returns ?_
  show Ev (d + 1) c s 187 19 [some (zr (some (1, 0, 0))), some (zi (nI 0))] [] (OM X 1 0 (zw ρ (zcp (ρ 26) w 270)) l) Q
  refine Ew.ld f187_19 rfl rfl rfl rfl ?_
  refine Ew.call0 (ls0 := [some (zr (some (1, 0, 0))), none]) f187_20 rfl (Nat.le_of_ble_eq_true rfl) rfl rfl (Nat.le_of_ble_eq_true rfl) rfl (Nat.le_of_ble_eq_true rfl) rfl rfl ?_
  exact h1
theorem g187_23 {d c s : Nat} {w : Nat → Int32} {X : zM} {ρ : Nat → Nat → Int32} {l : Nat → Nat → Int64} {Q : Option zV → zM → Prop}
    (h1 : Q (some (zi (nI 0))) (OM X 1 0 (zw ρ w) l)) : Ev d c s 187 23 [some (zr (some (1, 0, 0))), some (zi (nI 0))] [zi (nI 1)] (OM X 1 0 (zw ρ w) l) Q := by
  refine Ew.ifc f187_23 rfl rfl (fun h => absurd h (show ¬ (((nI 1) : Int32) = 0) by decide)) (fun _ => ?_)
  refine Ew.ld f187_26 rfl rfl rfl rfl ?_
  refine Ew.ifc f187_27 rfl rfl (fun _ => ?_) (fun h => absurd (show ((nI 0) : Int32) = 0 by decide) h)
  refine Ew.op (st' := zi (nI 0) :: _) f187_34 rfl rfl ?_
  refine Ew.iretb f187_35 (Or.inl rfl) ?_
  exact h1
theorem sp_isKept {d c s : Nat} {w w' : Nat → Int32} {H : List (Nat → Int32)} {σ : zSt} {X : zM} {ρ : Nat → Nat → Int32} {l : Nat → Nat → Int64} {Q : Option zV → zM → Prop} (hT : tTb w') (hw : tTx w) (h26 : ∀ i, i < 270 → ρ 26 i = w i) (hE : ∀ i, 270 ≤ i → w' i = w i) (hH : rHs ρ H) (hr : rRest ρ l σ) (k1 : ¬ tOv w' → ∀ ρ', rRest ρ' l σ → rHs ρ' (hNote H w) → rTrs ρ' w' → Q (some (zi (nI 1))) (OM X 1 0 (zw ρ' w') l)) (k0 : tOv w' → ∀ ρ', rRest ρ' l σ → rHs ρ' H → rTrs ρ' w → Q (some (zi (nI 0))) (OM X 1 0 (zw ρ' w) l)) : Ev (d + 6) c s 187 0 [some (zr (some (1, 0, 0))), none] [] (OM X 1 0 (zw ρ w') l) Q := by
  refine g187_0 (sp_laysTraces hT (fun ho ρ1 hf ht => ?_) (fun ho ρ1 hf => ?_))
  · refine g187_4 (H := H) (v := w) (rHs_l hH hf) (fun i hi => ?_) (fun ρ2 hn => ?_)
    · rw [hf.row (by decide) (by decide) (by decide)]
      exact h26 i hi
    · exact k1 ho ρ2 ((hr.l hf).fr hn.1) hn.2 (rTrs_fr ht hn.1)
  · refine g187_4z ?_
    have e : zcp (ρ1 26) w' 270 = w := by
      funext i
      unfold zcp
      split
      · rename_i hi
        rw [hf.row (by decide) (by decide) (by decide)]
        exact h26 i hi
      · rename_i hi
        exact hE i (by omega)
    rw [e]
    refine sp_laysTraces hw.tb (fun _ ρ2 hf2 ht2 => ?_) (fun g => absurd g hw.no)
    exact g187_23 (k0 ho ρ2 ((hr.l hf).l hf2) (rHs_l (rHs_l hH hf) hf2) ht2)
/-- whether some trace is too long -/
def tOvB (w : Nat → Int32) : Bool := (List.range 4).any fun t => decide (¬ (pRun (pF (tL w t)) (tG w)).1.2.1 10 = 0)
theorem tOvB_iff (w : Nat → Int32) : tOvB w = true ↔ tOv w := by
  unfold tOvB tOv
  rw [List.any_eq_true]
  constructor
  · rintro ⟨t, ht, h⟩
    exact ⟨t, List.mem_range.mp ht, (of_decide_eq_true h : ¬ (pRun (pF (tL w t)) (tG w)).1.2.1 10 = 0)⟩
  · rintro ⟨t, ht, h⟩
    exact ⟨t, List.mem_range.mpr ht, decide_eq_true (show ¬ (pRun (pF (tL w t)) (tG w)).1.2.1 10 = 0 from h)⟩
theorem g189_0 {d c s : Nat} {x : Int32} {w : Nat → Int32} {X : zM} {ρ : Nat → Nat → Int32} {l : Nat → Nat → Int64} {Q : Option zV → zM → Prop}
    (h1 : (lN 0 ≤ x.toInt64 ∧ x.toInt64 ≤ lN 5) → Ev (d + 2) c s 189 9 [some (zr (some (1, 0, 0))), some (zi x), none] [] (OM X 1 0 (zw ρ w) l) Q)
    (h2 : (¬ (lN 0 ≤ x.toInt64 ∧ x.toInt64 ≤ lN 5)) → Q (some (zi ((-1)))) (OM X 1 0 (zw ρ w) l)) : Ev (d + 2) c s 189 0 [some (zr (some (1, 0, 0))), some (zi x), none] [] (OM X 1 0 (zw ρ w) l) Q := by
  refine Ew.ld f189_0 rfl rfl rfl rfl ?_
  refine Ew.call0 (ls0 := [some (zi x)]) f189_1 rfl (Nat.le_of_ble_eq_true rfl) rfl rfl (Nat.le_of_ble_eq_true rfl) trivial (Nat.le_of_ble_eq_true rfl) rfl rfl ?_
  refine sp_isGate (fun c1 => ?_) (fun c1 => ?_)
  · refine Ew.ifc f189_4 rfl rfl (fun _ => ?_) (fun h => absurd (show ¬ ((nI 1) : Int32) = 0 by decide) h)
    exact h1 c1
  · refine Ew.ifc f189_4 rfl rfl (fun h => absurd h (show ¬ (¬ ((nI 0) : Int32) = 0) by decide)) (fun _ => ?_)
    refine Ew.op (st' := zi ((-1)) :: _) f189_7 rfl rfl ?_
    refine Ew.ireti f189_8 ?_
    exact h2 c1
theorem g189_9 {d c s : Nat} {g : Nat} {w : Nat → Int32} {X : zM} {ρ : Nat → Nat → Int32} {l : Nat → Nat → Int64} {Q : Option zV → zM → Prop}
    (h1 : ((rBusy (zw ρ w)) = 0) → ∀ ρ1 : Nat → Nat → Int32, (rHd ρ w ρ1) → Ev (d + 2) c s 189 37 [some (zr (some (1, 0, 0))), some (zi (nI g)), some (zi (nI 0))] [] (OM X 1 0 (zw ρ1 (zup w 0 ((w 0) ^^^ ((nI 1) <<< ((nI g) &&& 31))))) l) Q)
    (h2 : (¬ (rBusy (zw ρ w)) = 0) → Q (some (zi ((-2)))) (OM X 1 0 (zw ρ w) l)) : Ev (d + 2) c s 189 9 [some (zr (some (1, 0, 0))), some (zi (nI g)), none] [] (OM X 1 0 (zw ρ w) l) Q := by
  refine Ew.ld f189_9 rfl rfl rfl rfl ?_
  refine Ew.call0 (ls0 := [some (zr (some (1, 0, 0))), none, none]) f189_10 rfl (Nat.le_of_ble_eq_true rfl) rfl rfl (Nat.le_of_ble_eq_true rfl) rfl (Nat.le_of_ble_eq_true rfl) rfl rfl ?_
  refine sp_isBusy ?_
  show Ev (d + 2) c s 189 13 [some (zr (some (1, 0, 0))), some (zi (nI g)), none] [zi (rBusy (zw ρ w))] (OM X 1 0 (zw ρ w) l) Q
  refine Ew.ifc f189_13 rfl rfl (fun c1 => ?_) (fun c1 => ?_)
  · refine Ew.ld f189_19 rfl rfl rfl rfl ?_
    refine Ew.call0 (ls0 := [some (zr (some (1, 0, 0))), none]) f189_20 rfl (Nat.le_of_ble_eq_true rfl) rfl rfl (Nat.le_of_ble_eq_true rfl) rfl (Nat.le_of_ble_eq_true rfl) rfl rfl ?_
    refine sp_holds' (fun ρ1 f1 => ?_)
    show Ev (d + 2) c s 189 23 [some (zr (some (1, 0, 0))), some (zi (nI g)), none] [] (OM X 1 0 (zw ρ1 w) l) Q
    refine Ew.ld f189_23 rfl rfl rfl rfl ?_
    refine Ew.getp (v := some (1, 0, 1)) f189_24 rfl rfl rfl ?_
    refine Ew.op (st' := zi (nI 0) :: _) f189_27 rfl rfl ?_
    refine Ew.op (st' := zi (nI 0) :: zr (some (1, 0, 1)) :: zi (nI 0) :: zr (some (1, 0, 1)) :: _) f189_28 rfl rfl ?_
    refine Ew.ialdnO f189_29 rfl (show 0 < 270 by decide) (Nat.le_of_ble_eq_true rfl) rfl ?_
    refine Ew.op (st' := zi (nI 1) :: _) f189_30 rfl rfl ?_
    refine Ew.ld f189_31 rfl rfl rfl rfl ?_
    refine Ew.op (st' := zi ((nI 1) <<< ((nI g) &&& 31)) :: _) f189_32 rfl rfl ?_
    refine Ew.op (st' := zi ((w 0) ^^^ ((nI 1) <<< ((nI g) &&& 31))) :: _) f189_33 rfl rfl ?_
    refine Ew.iastnO f189_34 (by decide) rfl (show 0 < 270 by decide) (Nat.le_of_ble_eq_true rfl) rfl ?_
    rw [zw_up]
    refine Ew.op (st' := zi (nI 0) :: _) f189_35 rfl rfl ?_
    refine Ew.sr (ls' := [some (zr (some (1, 0, 0))), some (zi (nI g)), some (zi (nI 0))]) f189_36 rfl rfl (Nat.le_of_ble_eq_true rfl) rfl rfl ?_
    exact h1 c1 ρ1 f1
  · refine Ew.op (st' := zi ((-2)) :: _) f189_16 rfl rfl ?_
    refine Ew.ireti f189_18 ?_
    exact h2 c1
theorem g189_37 {d c s : Nat} {g t : Nat} {w : Nat → Int32} {X : zM} {ρ : Nat → Nat → Int32} {l : Nat → Nat → Int64} {Q : Option zV → zM → Prop} (nb_t : t < 5000)
    (h1 : (4 ≤ t) → Ev (d + 1) 0 0 187 0 [some (zr (some (1, 0, 0))), none] [] (OM X 1 0 (zw ρ w) l) (fun r M' => Ev (d + 2) c s 189 57 [some (zr (some (1, 0, 0))), some (zi (nI g)), some (zi (nI t))] (zpush r []) M' Q))
    (b1 : (t < 4) → 10 + 4 * t < 270)
    (b2 : (t < 4) → 10 + 4 * t + 1 < 270)
    (b3 : (t < 4) → 10 + 4 * t + 2 < 270)
    (h2 : (t < 4) → Ev (d + 2) c s 189 37 [some (zr (some (1, 0, 0))), some (zi (nI g)), some (zi (nI (t + 1)))] [] (OM X 1 0 (zw ρ (zup (zup (zup w (10 + 4 * t) (nI 0)) (10 + 4 * t + 1) (nI 0)) (10 + 4 * t + 2) ((-4)))) l) Q) : Ev (d + 2) c s 189 37 [some (zr (some (1, 0, 0))), some (zi (nI g)), some (zi (nI t))] [] (OM X 1 0 (zw ρ w) l) Q := by
  refine Ew.ld f189_37 rfl rfl rfl rfl ?_
  refine Ew.op (st' := zi (nI 4) :: _) f189_38 rfl rfl ?_
  refine Ew.icmp f189_39 rfl rfl (fun c1 => ?_) (fun c1 => ?_)
  · refine Ew.ld f189_53 rfl rfl rfl rfl ?_
    refine Ew.call0 (ls0 := [some (zr (some (1, 0, 0))), none]) f189_54 rfl (Nat.le_of_ble_eq_true rfl) rfl rfl (Nat.le_of_ble_eq_true rfl) rfl (Nat.le_of_ble_eq_true rfl) rfl rfl ?_
    exact h1 ((zle_iff (by decide) nb_t).mp c1)
  · refine Ew.ld f189_42 rfl rfl rfl rfl ?_
    refine Ew.ld f189_43 rfl rfl rfl rfl ?_
    refine Ew.call0 (ls0 := [some (zr (some (1, 0, 0))), some (zi (nI t))]) f189_44 rfl (Nat.le_of_ble_eq_true rfl) rfl rfl (Nat.le_of_ble_eq_true rfl) rfl (Nat.le_of_ble_eq_true rfl) rfl rfl ?_
    refine Ew.ld f178_0 rfl rfl rfl rfl ?_
    refine Ew.ld f178_1 rfl rfl rfl rfl ?_
    refine Ew.op (st' := zi (nI 0) :: _) f178_2 rfl rfl ?_
    refine Ew.op (st' := zi (nI 0) :: _) f178_3 rfl rfl ?_
    refine Ew.call0 (ls0 := [some (zr (some (1, 0, 0))), some (zi (nI t)), some (zi (nI 0)), some (zi (nI 0))]) f178_4 rfl (Nat.le_of_ble_eq_true rfl) rfl rfl (Nat.le_of_ble_eq_true rfl) rfl (Nat.le_of_ble_eq_true rfl) rfl rfl ?_
    refine Ew.ld f157_0 rfl rfl rfl rfl ?_
    refine Ew.getp (v := some (1, 0, 1)) f157_1 rfl rfl rfl ?_
    refine Ew.op (st' := zi (nI 10) :: _) f157_4 rfl rfl ?_
    refine Ew.op (st' := zi (nI 4) :: _) f157_6 rfl rfl ?_
    refine Ew.ld f157_7 rfl rfl rfl rfl ?_
    refine Ew.muln f157_8 rfl ?_
    refine Ew.addn f157_9 rfl ?_
    refine Ew.ld f157_10 rfl rfl rfl rfl ?_
    refine Ew.addn f157_11 rfl ?_
    refine Ew.ld f157_12 rfl rfl rfl rfl ?_
    refine Ew.iastnO f157_13 (by decide) rfl (b1 (Nat.not_le.mp fun e => c1 ((zle_iff (by decide) nb_t).mpr e))) (Nat.le_of_ble_eq_true rfl) rfl ?_
    rw [zw_up]
    refine Ew.vret f157_14 ?_
    show Ev (d + 1) 0 0 178 7 [some (zr (some (1, 0, 0))), some (zi (nI t))] [] (OM X 1 0 (zw ρ (zup w (10 + 4 * t) (nI 0))) l) (fun r M' => Ev (d + 2) c s 189 47 [some (zr (some (1, 0, 0))), some (zi (nI g)), some (zi (nI t))] (zpush r []) M' Q)
    refine Ew.ld f178_7 rfl rfl rfl rfl ?_
    refine Ew.ld f178_8 rfl rfl rfl rfl ?_
    refine Ew.op (st' := zi (nI 1) :: _) f178_9 rfl rfl ?_
    refine Ew.op (st' := zi (nI 0) :: _) f178_10 rfl rfl ?_
    refine Ew.call0 (ls0 := [some (zr (some (1, 0, 0))), some (zi (nI t)), some (zi (nI 1)), some (zi (nI 0))]) f178_11 rfl (Nat.le_of_ble_eq_true rfl) rfl rfl (Nat.le_of_ble_eq_true rfl) rfl (Nat.le_of_ble_eq_true rfl) rfl rfl ?_
    refine Ew.ld f157_0 rfl rfl rfl rfl ?_
    refine Ew.getp (v := some (1, 0, 1)) f157_1 rfl rfl rfl ?_
    refine Ew.op (st' := zi (nI 10) :: _) f157_4 rfl rfl ?_
    refine Ew.op (st' := zi (nI 4) :: _) f157_6 rfl rfl ?_
    refine Ew.ld f157_7 rfl rfl rfl rfl ?_
    refine Ew.muln f157_8 rfl ?_
    refine Ew.addn f157_9 rfl ?_
    refine Ew.ld f157_10 rfl rfl rfl rfl ?_
    refine Ew.addn f157_11 rfl ?_
    refine Ew.ld f157_12 rfl rfl rfl rfl ?_
    refine Ew.iastnO f157_13 (by decide) rfl (b2 (Nat.not_le.mp fun e => c1 ((zle_iff (by decide) nb_t).mpr e))) (Nat.le_of_ble_eq_true rfl) rfl ?_
    rw [zw_up]
    refine Ew.vret f157_14 ?_
    show Ev (d + 1) 0 0 178 14 [some (zr (some (1, 0, 0))), some (zi (nI t))] [] (OM X 1 0 (zw ρ (zup (zup w (10 + 4 * t) (nI 0)) (10 + 4 * t + 1) (nI 0))) l) (fun r M' => Ev (d + 2) c s 189 47 [some (zr (some (1, 0, 0))), some (zi (nI g)), some (zi (nI t))] (zpush r []) M' Q)
    refine Ew.ld f178_14 rfl rfl rfl rfl ?_
    refine Ew.ld f178_15 rfl rfl rfl rfl ?_
    refine Ew.op (st' := zi (nI 2) :: _) f178_16 rfl rfl ?_
    refine Ew.op (st' := zi ((-4)) :: _) f178_17 rfl rfl ?_
    refine Ew.call0 (ls0 := [some (zr (some (1, 0, 0))), some (zi (nI t)), some (zi (nI 2)), some (zi ((-4)))]) f178_19 rfl (Nat.le_of_ble_eq_true rfl) rfl rfl (Nat.le_of_ble_eq_true rfl) rfl (Nat.le_of_ble_eq_true rfl) rfl rfl ?_
    refine Ew.ld f157_0 rfl rfl rfl rfl ?_
    refine Ew.getp (v := some (1, 0, 1)) f157_1 rfl rfl rfl ?_
    refine Ew.op (st' := zi (nI 10) :: _) f157_4 rfl rfl ?_
    refine Ew.op (st' := zi (nI 4) :: _) f157_6 rfl rfl ?_
    refine Ew.ld f157_7 rfl rfl rfl rfl ?_
    refine Ew.muln f157_8 rfl ?_
    refine Ew.addn f157_9 rfl ?_
    refine Ew.ld f157_10 rfl rfl rfl rfl ?_
    refine Ew.addn f157_11 rfl ?_
    refine Ew.ld f157_12 rfl rfl rfl rfl ?_
    refine Ew.iastnO f157_13 (by decide) rfl (b3 (Nat.not_le.mp fun e => c1 ((zle_iff (by decide) nb_t).mpr e))) (Nat.le_of_ble_eq_true rfl) rfl ?_
    rw [zw_up]
    refine Ew.vret f157_14 ?_
    show Ev (d + 1) 0 0 178 22 [some (zr (some (1, 0, 0))), some (zi (nI t))] [] (OM X 1 0 (zw ρ (zup (zup (zup w (10 + 4 * t) (nI 0)) (10 + 4 * t + 1) (nI 0)) (10 + 4 * t + 2) ((-4)))) l) (fun r M' => Ev (d + 2) c s 189 47 [some (zr (some (1, 0, 0))), some (zi (nI g)), some (zi (nI t))] (zpush r []) M' Q)
    refine Ew.vret f178_22 ?_
    show Ev (d + 2) c s 189 47 [some (zr (some (1, 0, 0))), some (zi (nI g)), some (zi (nI t))] [] (OM X 1 0 (zw ρ (zup (zup (zup w (10 + 4 * t) (nI 0)) (10 + 4 * t + 1) (nI 0)) (10 + 4 * t + 2) ((-4)))) l) Q
    refine Ew.iinc (v := nI (t + 1)) (ls' := [some (zr (some (1, 0, 0))), some (zi (nI g)), some (zi (nI (t + 1)))]) f189_47 rfl (nI_1 _) rfl rfl ?_
    refine Ew.goto f189_50 rfl ?_
    exact h2 (Nat.not_le.mp fun e => c1 ((zle_iff (by decide) nb_t).mpr e))
theorem g189_57 {d c s : Nat} {g t : Nat} {w : Nat → Int32} {X : zM} {ρ : Nat → Nat → Int32} {l : Nat → Nat → Int64} {Q : Option zV → zM → Prop}
    (h1 : (¬ (((w 0) >>> ((nI g) &&& 31)) &&& (nI 1)) = (nI 1)) → Q (some (zi (nI 0))) (OM X 1 0 (zw ρ w) l))
    (h2 : ((((w 0) >>> ((nI g) &&& 31)) &&& (nI 1)) = (nI 1)) → Q (some (zi (nI 1))) (OM X 1 0 (zw ρ w) l)) : Ev (d + 1) c s 189 57 [some (zr (some (1, 0, 0))), some (zi (nI g)), some (zi (nI t))] [zi (nI 1)] (OM X 1 0 (zw ρ w) l) Q := by
  refine Ew.ifc f189_57 rfl rfl (fun _ => ?_) (fun h => absurd (show ¬ ((nI 1) : Int32) = 0 by decide) h)
  refine Ew.ld f189_65 rfl rfl rfl rfl ?_
  refine Ew.getp (v := some (1, 0, 1)) f189_66 rfl rfl rfl ?_
  refine Ew.op (st' := zi (nI 0) :: _) f189_69 rfl rfl ?_
  refine Ew.ialdnO f189_70 rfl (show 0 < 270 by decide) (Nat.le_of_ble_eq_true rfl) rfl ?_
  refine Ew.ld f189_71 rfl rfl rfl rfl ?_
  refine Ew.call0 (ls0 := [some (zi (w 0)), some (zi (nI g))]) f189_72 rfl (Nat.le_of_ble_eq_true rfl) rfl rfl (Nat.le_of_ble_eq_true rfl) trivial (Nat.le_of_ble_eq_true rfl) rfl rfl ?_
  refine Ew.ld f152_0 rfl rfl rfl rfl ?_
  refine Ew.ld f152_1 rfl rfl rfl rfl ?_
  refine Ew.op (st' := zi ((w 0) >>> ((nI g) &&& 31)) :: _) f152_2 rfl rfl ?_
  refine Ew.op (st' := zi (nI 1) :: _) f152_3 rfl rfl ?_
  refine Ew.op (st' := zi (((w 0) >>> ((nI g) &&& 31)) &&& (nI 1)) :: _) f152_4 rfl rfl ?_
  refine Ew.op (st' := zi (nI 1) :: _) f152_5 rfl rfl ?_
  refine Ew.icmp f152_6 rfl rfl (fun c1 => ?_) (fun c1 => ?_)
  · refine Ew.op (st' := zi (nI 0) :: _) f152_13 rfl rfl ?_
    refine Ew.iretb f152_14 (Or.inl rfl) ?_
    show Ev (d + 1) c s 189 75 [some (zr (some (1, 0, 0))), some (zi (nI g)), some (zi (nI t))] [zi (nI 0)] (OM X 1 0 (zw ρ w) l) Q
    refine Ew.ifc f189_75 rfl rfl (fun _ => ?_) (fun h => absurd (show ((nI 0) : Int32) = 0 by decide) h)
    refine Ew.op (st' := zi (nI 0) :: _) f189_82 rfl rfl ?_
    refine Ew.ireti f189_83 ?_
    exact h1 c1
  · refine Ew.op (st' := zi (nI 1) :: _) f152_9 rfl rfl ?_
    refine Ew.goto f152_10 rfl ?_
    refine Ew.iretb f152_14 (Or.inr rfl) ?_
    show Ev (d + 1) c s 189 75 [some (zr (some (1, 0, 0))), some (zi (nI g)), some (zi (nI t))] [zi (nI 1)] (OM X 1 0 (zw ρ w) l) Q
    refine Ew.ifc f189_75 rfl rfl (fun h => absurd h (show ¬ (((nI 1) : Int32) = 0) by decide)) (fun _ => ?_)
    refine Ew.op (st' := zi (nI 1) :: _) f189_78 rfl rfl ?_
    refine Ew.goto f189_79 rfl ?_
    refine Ew.ireti f189_83 ?_
    exact h2 (Classical.not_not.mp c1)
theorem g189_57z {d c s : Nat} {g t : Nat} {w : Nat → Int32} {X : zM} {ρ : Nat → Nat → Int32} {l : Nat → Nat → Int64} {Q : Option zV → zM → Prop}
    (h1 : Q (some (zi ((-3)))) (OM X 1 0 (zw ρ w) l)) : Ev d c s 189 57 [some (zr (some (1, 0, 0))), some (zi (nI g)), some (zi (nI t))] [zi (nI 0)] (OM X 1 0 (zw ρ w) l) Q := by
  refine Ew.ifc f189_57 rfl rfl (fun h => absurd h (show ¬ (¬ ((nI 0) : Int32) = 0) by decide)) (fun _ => ?_)
  refine Ew.op (st' := zi ((-3)) :: _) f189_60 rfl rfl ?_
  refine Ew.goto f189_62 rfl ?_
  refine Ew.ireti f189_83 ?_
  exact h1
def rIdL (w : Nat → Int32) : Nat → Nat → Int32
  | 0 => w
  | t + 1 => rIdleW t (rIdL w t)
theorem rIdleW_at {t i : Nat} (w : Nat → Int32) (h : i < 10 + 4 * t ∨ 13 + 4 * t ≤ i) : rIdleW t w i = w i := by
  unfold rIdleW
  rw [zup_n _ _ (by omega), zup_n _ _ (by omega), zup_n _ _ (by omega)]
theorem rIdL_at (w : Nat → Int32) {i : Nat} (h : i < 10 ∨ 26 ≤ i) : ∀ n, n ≤ 4 → rIdL w n i = w i := by
  intro n
  induction n with
  | zero => intro _; rfl
  | succ n ih =>
    intro hn
    show rIdleW n (rIdL w n) i = w i
    rw [rIdleW_at _ (by omega)]
    exact ih (by omega)
def aGoneW (g : Nat) (w : Nat → Int32) : Nat → Int32 := rIdL (zup w 0 (w 0 ^^^ (nI 1 <<< (nI g &&& 31)))) 4
def aGone (σ : zSt) (x : Int32) : Int32 × zSt := match aIx x 6 with
  | none => (-1, σ)
  | some g => if aBusy σ.w = 0 then (if tOvB (aGoneW g σ.w) = true then (-3, σ) else (if (aGoneW g σ.w 0 >>> (nI g &&& 31)) &&& nI 1 = nI 1 then nI 1 else nI 0, (aGoneW g σ.w, hNote σ.H σ.w, σ.2.2))) else (-2, σ)
theorem zxor6 {v g : Nat} (hg : g < 6) (hv : v < 64) : nI v ^^^ (nI 1 <<< (nI g &&& 31)) = nI (v ^^^ 2 ^ g) ∧ v ^^^ 2 ^ g < 64 := by
  have h : ∀ g, g < 6 → ∀ v, v < 64 → nI v ^^^ (nI 1 <<< (nI g &&& 31)) = nI (v ^^^ 2 ^ g) ∧ v ^^^ 2 ^ g < 64 := by decide
  exact h g hg v hv
theorem tL_eq {w w' : Nat → Int32} (h : ∀ i, 26 ≤ i → w' i = w i) (t : Nat) : tL w' t = tL w t := by
  unfold tL
  rw [h (26 + 61 * t) (by omega)]
  congr 1
  funext k
  rw [h (26 + 61 * t + 1 + k) (by omega)]
theorem aGoneW_tb {w : Nat → Int32} (h : tTx w) {g : Nat} (hg : g < 6) : tTb (aGoneW g w) := by
  obtain ⟨⟨h1, h2⟩, h3⟩ := h
  obtain ⟨z1, z2⟩ := zxor6 hg h2
  have e0 : aGoneW g w 0 = nI (tG w ^^^ 2 ^ g) := by
    unfold aGoneW
    rw [rIdL_at _ (by omega) 4 (Nat.le_refl 4), zup_s]
    rw [← z1, ← h1]
  have eh : ∀ i, 26 ≤ i → aGoneW g w i = w i := fun i hi => by
    unfold aGoneW
    rw [rIdL_at _ (by omega) 4 (Nat.le_refl 4), zup_n _ _ (by omega)]
  have eg : tG (aGoneW g w) = tG w ^^^ 2 ^ g := by
    show (aGoneW g w 0).toNatClampNeg = _
    rw [e0]
    exact nI_clamp (by omega)
  refine ⟨⟨by rw [eg]; exact e0, by rw [eg]; exact z2⟩, fun t ht => ?_⟩
  obtain ⟨⟨a1, a2⟩, a3, _⟩ := h3 t ht
  rw [tL_eq eh t]
  refine ⟨⟨by rw [eh _ (by omega)]; exact a1, fun k hk => by rw [eh _ (by omega)]; exact a2 k hk⟩, a3⟩
theorem rp_gone {d c s B : Nat} {x : Int32} {σ : zSt} {X : zM} {ρ : Nat → Nat → Int32} {l : Nat → Nat → Int64} {Q : Option zV → zM → Prop} (hG : zGood B σ) (hR : zRef ρ l σ) (k : ∀ ρ' l', zRef ρ' l' (aGone σ x).2 → Q (some (zi (aGone σ x).1)) (OM X 1 0 ρ' l')) : Ev (d + 7) c s 189 0 [some (zr (some (1, 0, 0))), some (zi x), none] [] (OM X 1 0 ρ l) Q := by
  have hTx := hG.1.2.1
  rw [← hR.zw]
  refine g189_0 (fun h => ?_) (fun h => ?_)
  · obtain ⟨g, hg, rfl⟩ := zrangeL (by decide) h
    have hg : g < 6 := hg
    unfold aGone at k
    rw [aIx_some hg (by decide)] at k
    simp only [] at k
    have eB : rBusy (zw ρ σ.w) = aBusy σ.w := rBusyL_zw _ _ _ _
    refine g189_9 (fun hb ρ1 hd => ?_) (fun hb => ?_)
    · rw [eB] at hb
      rw [if_pos hb] at k
      refine loopN (fun t => Ev (d + 7) c s 189 37 [some (zr (some (1, 0, 0))), some (zi (nI g)), some (zi (nI t))] [] (OM X 1 0 (zw ρ1 (rIdL (zup σ.w 0 (σ.w 0 ^^^ (nI 1 <<< (nI g &&& 31)))) t)) l) Q) 4 (fun t ht hE => ?_) ?_
      · exact g189_37 (by omega) (fun g => by omega) (fun _ => by omega) (fun _ => by omega) (fun _ => by omega) (fun _ => hE)
      · refine g189_37 (by omega) (fun _ => ?_) (fun g => by omega) (fun g => by omega) (fun g => by omega) (fun g => by omega)
        show Ev (d + 6) 0 0 187 0 _ [] (OM X 1 0 (zw ρ1 (aGoneW g σ.w)) l) _
        refine sp_isKept (w := σ.w) (H := σ.H) (σ := σ) (aGoneW_tb hTx hg) hTx hd.2.2.2 (fun i hi => ?_) (rHs_hd hR.2.1 hd) (hR.rest.fr hd.1) (fun ho ρ2 q1 q2 q3 => ?_) (fun ho ρ2 q1 q2 q3 => ?_)
        · unfold aGoneW
          rw [rIdL_at _ (by omega) 4 (Nat.le_refl 4), zup_n _ _ (by omega)]
        · rw [if_neg (fun e => ho ((tOvB_iff _).mp e))] at k
          refine g189_57 (fun hz => ?_) (fun hz => ?_)
          · rw [if_neg hz] at k
            exact k _ _ (zRef_mk q1 q2 q3)
          · rw [if_pos hz] at k
            exact k _ _ (zRef_mk q1 q2 q3)
        · rw [if_pos ((tOvB_iff _).mpr ho)] at k
          exact g189_57z (k _ _ (zRef_mk q1 q2 q3))
    · rw [eB] at hb
      rw [if_neg hb] at k
      rw [hR.zw]
      exact k _ _ hR
  · unfold aGone at k
    rw [zrangeN (by decide) h] at k
    rw [hR.zw]
    exact k _ _ hR
