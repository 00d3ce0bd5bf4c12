/-! the reference: draws, laying, rules -/
theorem tTr_ok {w : Nat → Int32} (h : tTx w) {t : Nat} (ht : t < 4) : tOk (tTr w t) := pTrace_ok (h.2 t ht).2.2
theorem rM_of {ρ : Nat → Nat → Int32} {w : Nat → Int32} (h : tTx w) (hr : rTrs ρ w) {t : Nat} (ht : t < 4) : rM ρ t = (tTr w t).n := by
  unfold rM
  rw [(hr t ht).1]
  exact nI_clamp (by have := (tTr_ok h ht).1; omega)
theorem rTr_of {ρ : Nat → Nat → Int32} {w : Nat → Int32} (h : tTx w) (hr : rTrs ρ w) : rTr ρ := by
  intro t ht
  have hk := tTr_ok h ht
  have e := rM_of h hr ht
  rw [e]
  refine ⟨(hr t ht).1, hk.1, fun k hkn => ?_⟩
  obtain ⟨kd, g, _, hg, _, e1, _⟩ := hk.2.1 k hkn
  have e2 : ρ 11 (30 * t + k) = nI g := (((hr t ht).2.1 k hkn).2.1).trans e1
  unfold rG
  rw [e2, nI_clamp (by omega)]
  exact ⟨rfl, hg⟩
theorem rTrs_τ {w : Nat → Int32} (h : tTx w) : rTrs (tτ w) w := by
  intro t ht
  have hk := tTr_ok h ht
  exact ⟨rfl, fun k hkn => ⟨zTau_10 _ (by have := hk.1; omega), zTau_11 _ (by have := hk.1; omega), zTau_12 _ (by have := hk.1; omega)⟩, rfl, rfl, rfl, rfl, rfl⟩
theorem rAg_τ {ρ : Nat → Nat → Int32} {w : Nat → Int32} (h : tTx w) (hr : rTrs ρ w) : rAg ρ (tτ w) := rAg_of fun t ht => ⟨hr t ht, (tTr_ok h ht).1⟩
theorem rRw_of {ρ : Nat → Nat → Int32} {w v : Nat → Int32} (h : tTx w) (hr : rTrs ρ w) (hR : rRw (tτ w) v) : rRw ρ v := by
  intro t ht
  have := hR t ht
  rw [rM_of h (rTrs_τ h) ht] at this
  rw [rM_of h hr ht]
  exact this
theorem g205_0 {d c s : Nat} {w : Nat → Int32} {X : zM} {ρ : Nat → Nat → Int32} {l : Nat → Nat → Int64} {Q : Option zV → zM → Prop}
    (h1 : Q (some (zi (((zup w 3 ((((((w 3).toInt64) * (lN 1103515245)) + (lN 12345)) &&& (lN 2147483647)).toInt32)) 3) / (nI 65536)))) (OM X 1 0 (zw ρ (zup w 3 ((((((w 3).toInt64) * (lN 1103515245)) + (lN 12345)) &&& (lN 2147483647)).toInt32))) l)) : Ev d c s 205 0 [some (zr (some (1, 0, 0)))] [] (OM X 1 0 (zw ρ w) l) Q := by
  refine Ew.ld f205_0 rfl rfl rfl rfl ?_
  refine Ew.getp (v := some (1, 0, 1)) f205_1 rfl rfl rfl ?_
  refine Ew.op (st' := zi (nI 3) :: _) f205_4 rfl rfl ?_
  refine Ew.ld f205_5 rfl rfl rfl rfl ?_
  refine Ew.getp (v := some (1, 0, 1)) f205_6 rfl rfl rfl ?_
  refine Ew.op (st' := zi (nI 3) :: _) f205_9 rfl rfl ?_
  refine Ew.ialdnO f205_10 rfl (show 3 < 270 by decide) (Nat.le_of_ble_eq_true rfl) rfl ?_
  refine Ew.op (st' := zl ((w 3).toInt64) :: _) f205_11 rfl rfl ?_
  refine Ew.op (st' := zl (lN 1103515245) :: _) f205_12 rfl rfl ?_
  refine Ew.op (st' := zl (((w 3).toInt64) * (lN 1103515245)) :: _) f205_15 rfl rfl ?_
  refine Ew.op (st' := zl (lN 12345) :: _) f205_16 rfl rfl ?_
  refine Ew.op (st' := zl ((((w 3).toInt64) * (lN 1103515245)) + (lN 12345)) :: _) f205_19 rfl rfl ?_
  refine Ew.op (st' := zl (lN 2147483647) :: _) f205_20 rfl rfl ?_
  refine Ew.op (st' := zl (((((w 3).toInt64) * (lN 1103515245)) + (lN 12345)) &&& (lN 2147483647)) :: _) f205_23 rfl rfl ?_
  refine Ew.op (st' := zi ((((((w 3).toInt64) * (lN 1103515245)) + (lN 12345)) &&& (lN 2147483647)).toInt32) :: _) f205_24 rfl rfl ?_
  refine Ew.iastnO f205_25 (by decide) rfl (show 3 < 270 by decide) (Nat.le_of_ble_eq_true rfl) rfl ?_
  rw [zw_up]
  refine Ew.ld f205_26 rfl rfl rfl rfl ?_
  refine Ew.getp (v := some (1, 0, 1)) f205_27 rfl rfl rfl ?_
  refine Ew.op (st' := zi (nI 3) :: _) f205_30 rfl rfl ?_
  refine Ew.ialdnO f205_31 rfl (show 3 < 270 by decide) (Nat.le_of_ble_eq_true rfl) rfl ?_
  refine Ew.op (st' := zi (nI 65536) :: _) f205_32 rfl rfl ?_
  refine Ew.idiv f205_35 (by decide) rfl ?_
  refine Ew.ireti f205_36 ?_
  exact h1
theorem g207_0 {d c s : Nat} {z n : Int32} {X : zM} {ρ : Nat → Nat → Int32} {l : Nat → Nat → Int64} {Q : Option zV → zM → Prop}
    (h1 : Ev d c s 207 4 [some (zi z), some (zi n), some (zi n), some (zi (nI 0))] [] (OM X 1 0 ρ l) Q) : Ev d c s 207 0 [some (zi z), some (zi n), none, none] [] (OM X 1 0 ρ l) Q := by
  refine Ew.ld f207_0 rfl rfl rfl rfl ?_
  refine Ew.sr (ls' := [some (zi z), some (zi n), some (zi n), none]) f207_1 rfl rfl (Nat.le_of_ble_eq_true rfl) rfl rfl ?_
  refine Ew.op (st' := zi (nI 0) :: _) f207_2 rfl rfl ?_
  refine Ew.sr (ls' := [some (zi z), some (zi n), some (zi n), some (zi (nI 0))]) f207_3 rfl rfl (Nat.le_of_ble_eq_true rfl) rfl rfl ?_
  exact h1
theorem g207_4 {d c s : Nat} {k : Nat} {z n x : Int32} {X : zM} {ρ : Nat → Nat → Int32} {l : Nat → Nat → Int64} {Q : Option zV → zM → Prop}
    (h1 : (¬ ((z >>> ((nI k) &&& 31)) &&& (nI 1)) = (nI 1)) → (¬ ((z >>> ((nI k) &&& 31)) &&& (nI 1)) = (nI 1)) → Ev (d + 1) c s 207 4 [some (zi z), some (zi n), some (zi (x - (nI 0))), some (zi (nI (k + 1)))] [] (OM X 1 0 ρ l) Q)
    (h2 : (¬ ((z >>> ((nI k) &&& 31)) &&& (nI 1)) = (nI 1)) → (((z >>> ((nI k) &&& 31)) &&& (nI 1)) = (nI 1)) → Ev (d + 1) c s 207 4 [some (zi z), some (zi n), some (zi (x - (nI 1))), some (zi (nI (k + 1)))] [] (OM X 1 0 ρ l) Q)
    (h3 : (((z >>> ((nI k) &&& 31)) &&& (nI 1)) = (nI 1)) → (x ≤ 0) → Q (some (zi (nI k))) (OM X 1 0 ρ l))
    (h4 : (((z >>> ((nI k) &&& 31)) &&& (nI 1)) = (nI 1)) → (0 < x) → (¬ ((z >>> ((nI k) &&& 31)) &&& (nI 1)) = (nI 1)) → Ev (d + 1) c s 207 4 [some (zi z), some (zi n), some (zi (x - (nI 0))), some (zi (nI (k + 1)))] [] (OM X 1 0 ρ l) Q)
    (h5 : (((z >>> ((nI k) &&& 31)) &&& (nI 1)) = (nI 1)) → (0 < x) → (((z >>> ((nI k) &&& 31)) &&& (nI 1)) = (nI 1)) → Ev (d + 1) c s 207 4 [some (zi z), some (zi n), some (zi (x - (nI 1))), some (zi (nI (k + 1)))] [] (OM X 1 0 ρ l) Q) : Ev (d + 1) c s 207 4 [some (zi z), some (zi n), some (zi x), some (zi (nI k))] [] (OM X 1 0 ρ l) Q := by
  refine Ew.ld f207_4 rfl rfl rfl rfl ?_
  refine Ew.ld f207_5 rfl rfl rfl rfl ?_
  refine Ew.call0 (ls0 := [some (zi z), some (zi (nI k))]) f207_6 rfl (Nat.le_of_ble_eq_true rfl) rfl rfl (Nat.le_of_ble_eq_true rfl) trivial (Nat.le_of_ble_eq_true rfl) rfl rfl ?_
  refine Ew.ld f152_0 rfl rfl rfl rfl ?_
  refine Ew.ld f152_1 rfl rfl rfl rfl ?_
  refine Ew.op (st' := zi (z >>> ((nI k) &&& 31)) :: _) f152_2 rfl rfl ?_
  refine Ew.op (st' := zi (nI 1) :: _) f152_3 rfl rfl ?_
  refine Ew.op (st' := zi ((z >>> ((nI k) &&& 31)) &&& (nI 1)) :: _) f152_4 rfl rfl ?_
  refine Ew.op (st' := zi (nI 1) :: _) f152_5 rfl rfl ?_
  refine Ew.icmp f152_6 rfl rfl (fun c1 => ?_) (fun c1 => ?_)
  · refine Ew.op (st' := zi (nI 0) :: _) f152_13 rfl rfl ?_
    refine Ew.iretb f152_14 (Or.inl rfl) ?_
    show Ev (d + 1) c s 207 9 [some (zi z), some (zi n), some (zi x), some (zi (nI k))] [zi (nI 0)] (OM X 1 0 ρ l) Q
    refine Ew.ifc f207_9 rfl rfl (fun _ => ?_) (fun h => absurd (show ((nI 0) : Int32) = 0 by decide) h)
    refine Ew.ld f207_16 rfl rfl rfl rfl ?_
    refine Ew.ld f207_17 rfl rfl rfl rfl ?_
    refine Ew.ld f207_18 rfl rfl rfl rfl ?_
    refine Ew.call0 (ls0 := [some (zi z), some (zi (nI k))]) f207_19 rfl (Nat.le_of_ble_eq_true rfl) rfl rfl (Nat.le_of_ble_eq_true rfl) trivial (Nat.le_of_ble_eq_true rfl) rfl rfl ?_
    refine Ew.ld f152_0 rfl rfl rfl rfl ?_
    refine Ew.ld f152_1 rfl rfl rfl rfl ?_
    refine Ew.op (st' := zi (z >>> ((nI k) &&& 31)) :: _) f152_2 rfl rfl ?_
    refine Ew.op (st' := zi (nI 1) :: _) f152_3 rfl rfl ?_
    refine Ew.op (st' := zi ((z >>> ((nI k) &&& 31)) &&& (nI 1)) :: _) f152_4 rfl rfl ?_
    refine Ew.op (st' := zi (nI 1) :: _) f152_5 rfl rfl ?_
    refine Ew.icmp f152_6 rfl rfl (fun c2 => ?_) (fun c2 => ?_)
    · refine Ew.op (st' := zi (nI 0) :: _) f152_13 rfl rfl ?_
      refine Ew.iretb f152_14 (Or.inl rfl) ?_
      show Ev (d + 1) c s 207 22 [some (zi z), some (zi n), some (zi x), some (zi (nI k))] [zi (nI 0), zi x] (OM X 1 0 ρ l) Q
      refine Ew.ifc f207_22 rfl rfl (fun _ => ?_) (fun h => absurd (show ((nI 0) : Int32) = 0 by decide) h)
      refine Ew.op (st' := zi (nI 0) :: _) f207_29 rfl rfl ?_
      refine Ew.op (st' := zi (x - (nI 0)) :: _) f207_30 rfl rfl ?_
      refine Ew.sr (ls' := [some (zi z), some (zi n), some (zi (x - (nI 0))), some (zi (nI k))]) f207_31 rfl rfl (Nat.le_of_ble_eq_true rfl) rfl rfl ?_
      refine Ew.iinc (v := nI (k + 1)) (ls' := [some (zi z), some (zi n), some (zi (x - (nI 0))), some (zi (nI (k + 1)))]) f207_32 rfl (nI_1 _) rfl rfl ?_
      refine Ew.goto f207_35 rfl ?_
      exact h1 c1 c2
    · refine Ew.op (st' := zi (nI 1) :: _) f152_9 rfl rfl ?_
      refine Ew.goto f152_10 rfl ?_
      refine Ew.iretb f152_14 (Or.inr rfl) ?_
      show Ev (d + 1) c s 207 22 [some (zi z), some (zi n), some (zi x), some (zi (nI k))] [zi (nI 1), zi x] (OM X 1 0 ρ l) Q
      refine Ew.ifc f207_22 rfl rfl (fun h => absurd h (show ¬ (((nI 1) : Int32) = 0) by decide)) (fun _ => ?_)
      refine Ew.op (st' := zi (nI 1) :: _) f207_25 rfl rfl ?_
      refine Ew.goto f207_26 rfl ?_
      refine Ew.op (st' := zi (x - (nI 1)) :: _) f207_30 rfl rfl ?_
      refine Ew.sr (ls' := [some (zi z), some (zi n), some (zi (x - (nI 1))), some (zi (nI k))]) f207_31 rfl rfl (Nat.le_of_ble_eq_true rfl) rfl rfl ?_
      refine Ew.iinc (v := nI (k + 1)) (ls' := [some (zi z), some (zi n), some (zi (x - (nI 1))), some (zi (nI (k + 1)))]) f207_32 rfl (nI_1 _) rfl rfl ?_
      refine Ew.goto f207_35 rfl ?_
      exact h2 c1 (Classical.not_not.mp c2)
  · refine Ew.op (st' := zi (nI 1) :: _) f152_9 rfl rfl ?_
    refine Ew.goto f152_10 rfl ?_
    refine Ew.iretb f152_14 (Or.inr rfl) ?_
    show Ev (d + 1) c s 207 9 [some (zi z), some (zi n), some (zi x), some (zi (nI k))] [zi (nI 1)] (OM X 1 0 ρ l) Q
    refine Ew.ifc f207_9 rfl rfl (fun h => absurd h (show ¬ (((nI 1) : Int32) = 0) by decide)) (fun _ => ?_)
    refine Ew.ld f207_12 rfl rfl rfl rfl ?_
    refine Ew.ifc f207_13 rfl rfl (fun c3 => ?_) (fun c3 => ?_)
    · refine Ew.ld f207_38 rfl rfl rfl rfl ?_
      refine Ew.ireti f207_39 ?_
      exact h3 (Classical.not_not.mp c1) c3
    · refine Ew.ld f207_16 rfl rfl rfl rfl ?_
      refine Ew.ld f207_17 rfl rfl rfl rfl ?_
      refine Ew.ld f207_18 rfl rfl rfl rfl ?_
      refine Ew.call0 (ls0 := [some (zi z), some (zi (nI k))]) f207_19 rfl (Nat.le_of_ble_eq_true rfl) rfl rfl (Nat.le_of_ble_eq_true rfl) trivial (Nat.le_of_ble_eq_true rfl) rfl rfl ?_
      refine Ew.ld f152_0 rfl rfl rfl rfl ?_
      refine Ew.ld f152_1 rfl rfl rfl rfl ?_
      refine Ew.op (st' := zi (z >>> ((nI k) &&& 31)) :: _) f152_2 rfl rfl ?_
      refine Ew.op (st' := zi (nI 1) :: _) f152_3 rfl rfl ?_
      refine Ew.op (st' := zi ((z >>> ((nI k) &&& 31)) &&& (nI 1)) :: _) f152_4 rfl rfl ?_
      refine Ew.op (st' := zi (nI 1) :: _) f152_5 rfl rfl ?_
      refine Ew.icmp f152_6 rfl rfl (fun c4 => ?_) (fun c4 => ?_)
      · refine Ew.op (st' := zi (nI 0) :: _) f152_13 rfl rfl ?_
        refine Ew.iretb f152_14 (Or.inl rfl) ?_
        show Ev (d + 1) c s 207 22 [some (zi z), some (zi n), some (zi x), some (zi (nI k))] [zi (nI 0), zi x] (OM X 1 0 ρ l) Q
        refine Ew.ifc f207_22 rfl rfl (fun _ => ?_) (fun h => absurd (show ((nI 0) : Int32) = 0 by decide) h)
        refine Ew.op (st' := zi (nI 0) :: _) f207_29 rfl rfl ?_
        refine Ew.op (st' := zi (x - (nI 0)) :: _) f207_30 rfl rfl ?_
        refine Ew.sr (ls' := [some (zi z), some (zi n), some (zi (x - (nI 0))), some (zi (nI k))]) f207_31 rfl rfl (Nat.le_of_ble_eq_true rfl) rfl rfl ?_
        refine Ew.iinc (v := nI (k + 1)) (ls' := [some (zi z), some (zi n), some (zi (x - (nI 0))), some (zi (nI (k + 1)))]) f207_32 rfl (nI_1 _) rfl rfl ?_
        refine Ew.goto f207_35 rfl ?_
        exact h4 (Classical.not_not.mp c1) (Int32.not_le.mp c3) c4
      · refine Ew.op (st' := zi (nI 1) :: _) f152_9 rfl rfl ?_
        refine Ew.goto f152_10 rfl ?_
        refine Ew.iretb f152_14 (Or.inr rfl) ?_
        show Ev (d + 1) c s 207 22 [some (zi z), some (zi n), some (zi x), some (zi (nI k))] [zi (nI 1), zi x] (OM X 1 0 ρ l) Q
        refine Ew.ifc f207_22 rfl rfl (fun h => absurd h (show ¬ (((nI 1) : Int32) = 0) by decide)) (fun _ => ?_)
        refine Ew.op (st' := zi (nI 1) :: _) f207_25 rfl rfl ?_
        refine Ew.goto f207_26 rfl ?_
        refine Ew.op (st' := zi (x - (nI 1)) :: _) f207_30 rfl rfl ?_
        refine Ew.sr (ls' := [some (zi z), some (zi n), some (zi (x - (nI 1))), some (zi (nI k))]) f207_31 rfl rfl (Nat.le_of_ble_eq_true rfl) rfl rfl ?_
        refine Ew.iinc (v := nI (k + 1)) (ls' := [some (zi z), some (zi n), some (zi (x - (nI 1))), some (zi (nI (k + 1)))]) f207_32 rfl (nI_1 _) rfl rfl ?_
        refine Ew.goto f207_35 rfl ?_
        exact h5 (Classical.not_not.mp c1) (Int32.not_le.mp c3) (Classical.not_not.mp c4)
theorem g210_0 {d c s : Nat} {r : Int32} {w : Nat → Int32} {X : zM} {ρ : Nat → Nat → Int32} {l : Nat → Nat → Int64} {Q : Option zV → zM → Prop}
    (h1 : ((lN 0) ≤ r.toInt64 ∧ r.toInt64 ≤ (lN 4)) → (¬ (w 1) = r) → Q (some (zi (w 1))) (OM X 1 0 (zw ρ (zup w 1 r)) l))
    (h2 : ((lN 0) ≤ r.toInt64 ∧ r.toInt64 ≤ (lN 4)) → ((w 1) = r) → Q (some (zi ((-2)))) (OM X 1 0 (zw ρ (zup w 1 r)) l))
    (h3 : (¬ ((lN 0) ≤ r.toInt64 ∧ r.toInt64 ≤ (lN 4))) → Q (some (zi ((-1)))) (OM X 1 0 (zw ρ w) l)) : Ev (d + 1) c s 210 0 [some (zr (some (1, 0, 0))), some (zi r), none] [] (OM X 1 0 (zw ρ w) l) Q := by
  refine Ew.ld f210_0 rfl rfl rfl rfl ?_
  refine Ew.op (st' := zl r.toInt64 :: _) f210_1 rfl rfl ?_
  refine Ew.op (st' := zl (lN 0) :: _) f210_2 rfl rfl ?_
  refine Ew.op (st' := zl (lN 4) :: _) f210_3 rfl rfl ?_
  refine Ew.call0 (ls0 := [some (zl r.toInt64), none, some (zl (lN 0)), none, some (zl (lN 4)), none]) f210_6 rfl (Nat.le_of_ble_eq_true rfl) rfl rfl (Nat.le_of_ble_eq_true rfl) trivial (Nat.le_of_ble_eq_true rfl) rfl rfl ?_
  refine sp_in (fun c1 => ?_) (fun c1 => ?_)
  · refine Ew.ifc f210_9 rfl rfl (fun _ => ?_) (fun h => absurd (show ¬ ((nI 1) : Int32) = 0 by decide) h)
    refine Ew.ld f210_14 rfl rfl rfl rfl ?_
    refine Ew.getp (v := some (1, 0, 1)) f210_15 rfl rfl rfl ?_
    refine Ew.op (st' := zi (nI 1) :: _) f210_18 rfl rfl ?_
    refine Ew.ialdnO f210_19 rfl (show 1 < 270 by decide) (Nat.le_of_ble_eq_true rfl) rfl ?_
    refine Ew.sr (ls' := [some (zr (some (1, 0, 0))), some (zi r), some (zi (w 1))]) f210_20 rfl rfl (Nat.le_of_ble_eq_true rfl) rfl rfl ?_
    refine Ew.ld f210_21 rfl rfl rfl rfl ?_
    refine Ew.getp (v := some (1, 0, 1)) f210_22 rfl rfl rfl ?_
    refine Ew.op (st' := zi (nI 1) :: _) f210_25 rfl rfl ?_
    refine Ew.ld f210_26 rfl rfl rfl rfl ?_
    refine Ew.iastnO f210_27 (by decide) rfl (show 1 < 270 by decide) (Nat.le_of_ble_eq_true rfl) rfl ?_
    rw [zw_up]
    refine Ew.ld f210_28 rfl rfl rfl rfl ?_
    refine Ew.ld f210_29 rfl rfl rfl rfl ?_
    refine Ew.icmp f210_30 rfl rfl (fun c2 => ?_) (fun c2 => ?_)
    · refine Ew.ld f210_38 rfl rfl rfl rfl ?_
      refine Ew.ireti f210_39 ?_
      exact h1 c1 c2
    · refine Ew.op (st' := zi ((-2)) :: _) f210_33 rfl rfl ?_
      refine Ew.goto f210_35 rfl ?_
      refine Ew.ireti f210_39 ?_
      exact h2 c1 (Classical.not_not.mp c2)
  · refine Ew.ifc f210_9 rfl rfl (fun h => absurd h (show ¬ (¬ ((nI 0) : Int32) = 0) by decide)) (fun _ => ?_)
    refine Ew.op (st' := zi ((-1)) :: _) f210_12 rfl rfl ?_
    refine Ew.ireti f210_13 ?_
    exact h3 c1

/-- what is drawn -/
def rDrw (w : Nat → Int32) : Int32 := (((w 3).toInt64 * lN 1103515245 + lN 12345) &&& lN 2147483647).toInt32
theorem zmask (y : Int64) : ∃ m, m < 2147483648 ∧ (y &&& lN 2147483647).toInt32 = nI m := by
  refine ⟨(y.toBitVec &&& 2147483647#64).toNat, ?_, ?_⟩
  · rw [BitVec.toNat_and]
    exact Nat.lt_succ_of_le Nat.and_le_right
  · apply Int32.toBitVec_inj.mp
    rw [Int64.toBitVec_toInt32, BitVec.signExtend_eq_setWidth_of_le _ (by decide), Int64.toBitVec_and]
    apply BitVec.eq_of_toNat_eq
    rw [BitVec.toNat_setWidth]
    show _ = (BitVec.ofNat 32 _).toNat
    rw [BitVec.toNat_ofNat]
    rfl
theorem rDrw_nat (w : Nat → Int32) : ∃ m, m < 2147483648 ∧ rDrw w = nI m := zmask _
/-- the number that is drawn -/
def rX (w : Nat → Int32) : Nat := (rDrw w).toNatClampNeg / 65536
theorem rX_lt (w : Nat → Int32) : rX w < 32768 := by
  obtain ⟨m, hm, e⟩ := rDrw_nat w
  unfold rX
  rw [e, nI_clamp (by omega)]
  omega
theorem rX_eq (w : Nat → Int32) : rDrw w / nI 65536 = nI (rX w) := by
  obtain ⟨m, hm, e⟩ := rDrw_nat w
  unfold rX
  rw [e, nI_clamp (by omega)]
  exact pk_div (by omega) (by decide) (by decide)
def rDrwW (w : Nat → Int32) : Nat → Int32 := zup w 3 (rDrw w)
theorem sp_draws {d c s : Nat} {w : Nat → Int32} {X : zM} {ρ : Nat → Nat → Int32} {l : Nat → Nat → Int64} {Q : Option zV → zM → Prop} (k : Q (some (zi (nI (rX w)))) (OM X 1 0 (zw ρ (rDrwW w)) l)) : Ev d c s 205 0 [some (zr (some (1, 0, 0)))] [] (OM X 1 0 (zw ρ w) l) Q := by
  refine g205_0 ?_
  rw [zup_s]
  have e := rX_eq w
  unfold rDrw at e
  rw [e]
  exact k
def rRuR (w : Nat → Int32) (r : Int32) : Int32 := if w 1 = r then -2 else w 1
theorem sp_rules {d c s : Nat} {r : Int32} {w : Nat → Int32} {X : zM} {ρ : Nat → Nat → Int32} {l : Nat → Nat → Int64} {Q : Option zV → zM → Prop} (hr : ∀ j, j < 5 → r = nI j → Q (some (zi (rRuR w r))) (OM X 1 0 (zw ρ (zup w 1 r)) l)) (hn : ¬ (lN 0 ≤ r.toInt64 ∧ r.toInt64 ≤ lN 4) → Q (some (zi (-1))) (OM X 1 0 (zw ρ w) l)) : Ev (d + 1) c s 210 0 [some (zr (some (1, 0, 0))), some (zi r), none] [] (OM X 1 0 (zw ρ w) l) Q := by
  have key : (lN 0 ≤ r.toInt64 ∧ r.toInt64 ≤ lN 4) → ∃ j, j < 5 ∧ r = nI j := by
    intro h
    obtain ⟨j, hj, e⟩ := (zrange r 4 (by decide)).mp h
    exact ⟨j, by omega, e⟩
  refine g210_0 (fun h1 h2 => ?_) (fun h1 h2 => ?_) hn
  · obtain ⟨j, hj, e⟩ := key h1
    have := hr j hj e
    unfold rRuR at this
    rw [if_neg h2] at this
    exact this
  · obtain ⟨j, hj, e⟩ := key h1
    have := hr j hj e
    unfold rRuR at this
    rw [if_pos h2] at this
    exact this
/-- the one of a set that has so many ahead of it -/
def rNthL (v : Nat) : Nat → Nat → Nat → Nat
  | 0, _, k => k
  | m + 1, x, k => if v.testBit k = true then (if x = 0 then k else rNthL v m (x - 1) (k + 1)) else rNthL v m x (k + 1)
def rNth (v x : Nat) : Nat := rNthL v 4 x 0
theorem rNth_ok : ∀ v, v < 16 → ∀ x, x < rSzL 7 (nI v) → rNth v x < 4 ∧ v.testBit (rNth v x) = true := by
  have h : ∀ v, v < 16 → ∀ x, x < 7 → x < rSzL 7 (nI v) → rNth v x < 4 ∧ v.testBit (rNth v x) = true := by decide
  have h7 : ∀ v, v < 16 → rSzL 7 (nI v) ≤ 7 := by decide
  intro v hv x hx
  exact h v hv x (by have := h7 v hv; omega) hx
theorem sp_nth {d c s v x : Nat} {X : zM} {ρ : Nat → Nat → Int32} {l : Nat → Nat → Int64} {Q : Option zV → zM → Prop} (hv : v < 16) (hx : x < 5000) (h4 : rNth v x < 4) (k : Q (some (zi (nI (rNth v x)))) (OM X 1 0 ρ l)) : Ev (d + 1) c s 207 0 [some (zi (nI v)), some (zi (nI x)), none, none] [] (OM X 1 0 ρ l) Q := by
  refine g207_0 ?_
  have key : ∀ m, m ≤ 4 → ∀ y, y < 5000 → rNthL v m y (4 - m) < 4 → Q (some (zi (nI (rNthL v m y (4 - m))))) (OM X 1 0 ρ l) → Ev (d + 1) c s 207 4 [some (zi (nI v)), some (zi (nI x)), some (zi (nI y)), some (zi (nI (4 - m)))] [] (OM X 1 0 ρ l) Q := by
    intro m
    induction m with
    | zero => intro _ y _ h _; exact absurd h (Nat.lt_irrefl 4)
    | succ m ih =>
      intro hm y hy h hk
      have hb := zhas4 (v := v) (k := 4 - (m + 1)) (by omega) hv
      unfold rNthL at h hk
      rw [show 4 - (m + 1) + 1 = 4 - m by omega] at h hk
      by_cases ht : v.testBit (4 - (m + 1)) = true
      · rw [if_pos ht] at h hk
        by_cases h0 : y = 0
        · subst h0
          rw [if_pos rfl] at h hk
          refine g207_4 (fun g => absurd (hb.mpr ht) g) (fun g => absurd (hb.mpr ht) g) (fun _ _ => hk) (fun _ _ g => absurd (hb.mpr ht) g) (fun _ g => absurd g (by decide))
        · rw [if_neg h0] at h hk
          refine g207_4 (fun g => absurd (hb.mpr ht) g) (fun g => absurd (hb.mpr ht) g) (fun _ g => absurd g (nI_nle (by omega) (by omega))) (fun _ _ g => absurd (hb.mpr ht) g) (fun _ _ _ => ?_)
          rw [pk_sub (by omega), show 4 - (m + 1) + 1 = 4 - m by omega]
          exact ih (by omega) (y - 1) (by omega) h hk
      · rw [if_neg ht] at h hk
        have hb' : ¬ ((nI v >>> (nI (4 - (m + 1)) &&& 31)) &&& nI 1 = nI 1) := fun g => ht (hb.mp g)
        refine g207_4 (fun _ _ => ?_) (fun _ g => absurd g hb') (fun g => absurd g hb') (fun g => absurd g hb') (fun g => absurd g hb')
        rw [show nI y - nI 0 = nI y from pk_sub (Nat.zero_le y), show 4 - (m + 1) + 1 = 4 - m by omega]
        exact ih (by omega) y hy h hk
  exact key 4 (Nat.le_refl 4) x hx h4 k
/-- those that are left, as a set of numbers -/
theorem rLeftL_nat (ρ : Nat → Nat → Int32) : ∀ n, n ≤ 4 → ∃ v, v < 2 ^ n ∧ rLeftL ρ n = nI v ∧ ∀ t, t < n → (v.testBit t = true ↔ ¬ nI 3 ≤ ρ 1 (10 + 4 * t)) := by
  intro n
  induction n with
  | zero => intro _; exact ⟨0, by decide, rfl, fun t ht => absurd ht (Nat.not_lt_zero t)⟩
  | succ n ih =>
    intro hn
    obtain ⟨v, hv, e, hb⟩ := ih (by omega)
    have h2 : 2 ^ (n + 1) = 2 ^ n + 2 ^ n := by rw [Nat.pow_succ]; omega
    unfold rLeftL
    rw [e]
    by_cases hc : nI 3 ≤ ρ 1 (10 + 4 * n)
    · rw [if_pos hc, zor0]
      refine ⟨v, by omega, rfl, fun t ht => ?_⟩
      by_cases et : t = n
      · subst et
        rw [Nat.testBit_lt_two_pow hv]
        exact ⟨fun h => absurd h (by decide), fun h => absurd hc h⟩
      · exact hb t (by omega)
    · rw [if_neg hc, zor (by omega) hv]
      refine ⟨v + 2 ^ n, by omega, rfl, fun t ht => ?_⟩
      by_cases et : t = n
      · subst et
        rw [Nat.add_comm, Nat.testBit_two_pow_add_eq, Nat.testBit_lt_two_pow hv]
        exact ⟨fun _ => hc, fun _ => rfl⟩
      · rw [Nat.add_comm, Nat.testBit_two_pow_add_gt (by omega)]
        exact hb t (by omega)
theorem g209_0 {d c s : Nat} {w : Nat → Int32} {X : zM} {ρ : Nat → Nat → Int32} {l : Nat → Nat → Int64} {Q : Option zV → zM → Prop}
    (h1 : Ev d c s 209 4 [some (zr (some (1, 0, 0))), some (zi (nI 0)), some (zi (nI 0))] [] (OM X 1 0 (zw ρ w) l) Q) : Ev d c s 209 0 [some (zr (some (1, 0, 0))), none, none] [] (OM X 1 0 (zw ρ w) l) Q := by
  refine Ew.op (st' := zi (nI 0) :: _) f209_0 rfl rfl ?_
  refine Ew.sr (ls' := [some (zr (some (1, 0, 0))), some (zi (nI 0)), none]) f209_1 rfl rfl (Nat.le_of_ble_eq_true rfl) rfl rfl ?_
  refine Ew.op (st' := zi (nI 0) :: _) f209_2 rfl rfl ?_
  refine Ew.sr (ls' := [some (zr (some (1, 0, 0))), some (zi (nI 0)), some (zi (nI 0))]) f209_3 rfl rfl (Nat.le_of_ble_eq_true rfl) rfl rfl ?_
  exact h1
theorem g209_4 {d c s : Nat} {n t : Nat} {w : Nat → Int32} {X : zM} {ρ : Nat → Nat → Int32} {l : Nat → Nat → Int64} {Q : Option zV → zM → Prop} (nb_t : t < 5000) (nb_n : n < 5000)
    (h1 : (4 ≤ t) → (¬ n = 0) → Ev (d + 1) c s 209 50 [some (zr (some (1, 0, 0))), some (zi (nI n)), some (zi (nI 0))] [] (OM X 1 0 (zw ρ w) l) Q)
    (h2 : (4 ≤ t) → (n = 0) → (¬ (w 2) = 0) → Ev (d + 1) c s 209 50 [some (zr (some (1, 0, 0))), some (zi (nI n)), some (zi (nI 0))] [] (OM X 1 0 (zw ρ w) l) Q)
    (h3 : (4 ≤ t) → (n = 0) → ((w 2) = 0) → Q (some (zi ((-2)))) (OM X 1 0 (zw ρ w) l))
    (b1 : (t < 4) → 10 + 4 * t < 270)
    (h4 : (t < 4) → ((w (10 + 4 * t)) = 0) → Ev (d + 1) c s 209 4 [some (zr (some (1, 0, 0))), some (zi (nI n)), some (zi (nI (t + 1)))] [] (OM X 1 0 (zw ρ w) l) Q)
    (h5 : (t < 4) → (¬ (w (10 + 4 * t)) = 0) → Ev (d + 1) c s 209 4 [some (zr (some (1, 0, 0))), some (zi (nI (n + 1))), some (zi (nI (t + 1)))] [] (OM X 1 0 (zw ρ w) l) Q) : Ev (d + 1) c s 209 4 [some (zr (some (1, 0, 0))), some (zi (nI n)), some (zi (nI t))] [] (OM X 1 0 (zw ρ w) l) Q := by
  refine Ew.ld f209_4 rfl rfl rfl rfl ?_
  refine Ew.op (st' := zi (nI 4) :: _) f209_5 rfl rfl ?_
  refine Ew.icmp f209_6 rfl rfl (fun c1 => ?_) (fun c1 => ?_)
  · refine Ew.ld f209_32 rfl rfl rfl rfl ?_
    refine Ew.ifc f209_33 rfl rfl (fun c2 => ?_) (fun c2 => ?_)
    · refine Ew.op (st' := zi (nI 0) :: _) f209_48 rfl rfl ?_
      refine Ew.sr (ls' := [some (zr (some (1, 0, 0))), some (zi (nI n)), some (zi (nI 0))]) f209_49 rfl rfl (Nat.le_of_ble_eq_true rfl) rfl rfl ?_
      exact h1 ((zle_iff (by decide) nb_t).mp c1) (fun e => c2 ((zeq nb_n (by decide)).mpr e))
    · refine Ew.ld f209_36 rfl rfl rfl rfl ?_
      refine Ew.getp (v := some (1, 0, 1)) f209_37 rfl rfl rfl ?_
      refine Ew.op (st' := zi (nI 2) :: _) f209_40 rfl rfl ?_
      refine Ew.ialdnO f209_41 rfl (show 2 < 270 by decide) (Nat.le_of_ble_eq_true rfl) rfl ?_
      refine Ew.ifc f209_42 rfl rfl (fun c3 => ?_) (fun c3 => ?_)
      · refine Ew.op (st' := zi (nI 0) :: _) f209_48 rfl rfl ?_
        refine Ew.sr (ls' := [some (zr (some (1, 0, 0))), some (zi (nI n)), some (zi (nI 0))]) f209_49 rfl rfl (Nat.le_of_ble_eq_true rfl) rfl rfl ?_
        exact h2 ((zle_iff (by decide) nb_t).mp c1) ((zeq nb_n (by decide)).mp (Classical.not_not.mp c2)) c3
      · refine Ew.op (st' := zi ((-2)) :: _) f209_45 rfl rfl ?_
        refine Ew.ireti f209_47 ?_
        exact h3 ((zle_iff (by decide) nb_t).mp c1) ((zeq nb_n (by decide)).mp (Classical.not_not.mp c2)) (Classical.not_not.mp c3)
  · refine Ew.ld f209_9 rfl rfl rfl rfl ?_
    refine Ew.ld f209_10 rfl rfl rfl rfl ?_
    refine Ew.ld f209_11 rfl rfl rfl rfl ?_
    refine Ew.op (st' := zi (nI 0) :: _) f209_12 rfl rfl ?_
    refine Ew.call0 (ls0 := [some (zr (some (1, 0, 0))), some (zi (nI t)), some (zi (nI 0))]) f209_13 rfl (Nat.le_of_ble_eq_true rfl) rfl rfl (Nat.le_of_ble_eq_true rfl) rfl (Nat.le_of_ble_eq_true rfl) rfl rfl ?_
    refine Ew.ld f156_0 rfl rfl rfl rfl ?_
    refine Ew.getp (v := some (1, 0, 1)) f156_1 rfl rfl rfl ?_
    refine Ew.op (st' := zi (nI 10) :: _) f156_4 rfl rfl ?_
    refine Ew.op (st' := zi (nI 4) :: _) f156_6 rfl rfl ?_
    refine Ew.ld f156_7 rfl rfl rfl rfl ?_
    refine Ew.muln f156_8 rfl ?_
    refine Ew.addn f156_9 rfl ?_
    refine Ew.ld f156_10 rfl rfl rfl rfl ?_
    refine Ew.addn f156_11 rfl ?_
    refine Ew.ialdnO f156_12 rfl (b1 (Nat.not_le.mp fun e => c1 ((zle_iff (by decide) nb_t).mpr e))) (Nat.le_of_ble_eq_true rfl) rfl ?_
    refine Ew.ireti f156_13 ?_
    show Ev (d + 1) c s 209 16 [some (zr (some (1, 0, 0))), some (zi (nI n)), some (zi (nI t))] [zi (w (10 + 4 * t)), zi (nI n)] (OM X 1 0 (zw ρ w) l) Q
    refine Ew.ifc f209_16 rfl rfl (fun c4 => ?_) (fun c4 => ?_)
    · refine Ew.op (st' := zi (nI 0) :: _) f209_23 rfl rfl ?_
      refine Ew.addn f209_24 rfl ?_
      refine Ew.sr (ls' := [some (zr (some (1, 0, 0))), some (zi (nI n)), some (zi (nI t))]) f209_25 rfl rfl (Nat.le_of_ble_eq_true rfl) rfl rfl ?_
      refine Ew.iinc (v := nI (t + 1)) (ls' := [some (zr (some (1, 0, 0))), some (zi (nI n)), some (zi (nI (t + 1)))]) f209_26 rfl (nI_1 _) rfl rfl ?_
      refine Ew.goto f209_29 rfl ?_
      exact h4 (Nat.not_le.mp fun e => c1 ((zle_iff (by decide) nb_t).mpr e)) c4
    · refine Ew.op (st' := zi (nI 1) :: _) f209_19 rfl rfl ?_
      refine Ew.goto f209_20 rfl ?_
      refine Ew.addn f209_24 rfl ?_
      refine Ew.sr (ls' := [some (zr (some (1, 0, 0))), some (zi (nI (n + 1))), some (zi (nI t))]) f209_25 rfl rfl (Nat.le_of_ble_eq_true rfl) rfl rfl ?_
      refine Ew.iinc (v := nI (t + 1)) (ls' := [some (zr (some (1, 0, 0))), some (zi (nI (n + 1))), some (zi (nI (t + 1)))]) f209_26 rfl (nI_1 _) rfl rfl ?_
      refine Ew.goto f209_29 rfl ?_
      exact h5 (Nat.not_le.mp fun e => c1 ((zle_iff (by decide) nb_t).mpr e)) c4
theorem g209_50 {d c s : Nat} {n t D : Nat} {w : Nat → Int32} {X : zM} {ρ : Nat → Nat → Int32} {l : Nat → Nat → Int64} {Q : Option zV → zM → Prop} (hD : t < 4 → w (10 + 4 * t + 1) = nI D) (nb_t : t < 5000)
    (h1 : (4 ≤ t) → Q (some (zi (nI n))) (OM X 1 0 (zw ρ (zup w 2 (nI 0))) l))
    (b1 : (t < 4) → 10 + 4 * t < 270)
    (b2 : (t < 4) → ((w (10 + 4 * t)) < (nI 3)) → 10 + 4 * t + 1 < 270)
    (b3 : (t < 4) → ((w (10 + 4 * t)) < (nI 3)) → t < 4)
    (b4 : (t < 4) → ((w (10 + 4 * t)) < (nI 3)) → D ≤ 30)
    (b5 : (t < 4) → ((w (10 + 4 * t)) < (nI 3)) → rGok ρ t D)
    (b6 : (t < 4) → ((w (10 + 4 * t)) < (nI 3)) → 10 + 4 * t < 270)
    (b7 : (t < 4) → ((w (10 + 4 * t)) < (nI 3)) → 10 + 4 * t + 1 < 270)
    (b8 : (t < 4) → ((w (10 + 4 * t)) < (nI 3)) → 10 + 4 * t + 2 < 270)
    (b9 : (t < 4) → ((w (10 + 4 * t)) < (nI 3)) → 10 + 4 * t + 3 < 270)
    (h2 : (t < 4) → ((w (10 + 4 * t)) < (nI 3)) → Ev (d + 2) c s 209 50 [some (zr (some (1, 0, 0))), some (zi (nI n)), some (zi (nI (t + 1)))] [] (OM X 1 0 (zw ρ (zup (zup (zup (zup (rComeW ρ t ((-1)) w D) (10 + 4 * t) (nI 0)) (10 + 4 * t + 1) (nI 0)) (10 + 4 * t + 2) ((-4))) (10 + 4 * t + 3) (nI 0))) l) Q)
    (b10 : (t < 4) → ((nI 3) ≤ (w (10 + 4 * t))) → 10 + 4 * t < 270)
    (b11 : (t < 4) → ((nI 3) ≤ (w (10 + 4 * t))) → 10 + 4 * t + 1 < 270)
    (b12 : (t < 4) → ((nI 3) ≤ (w (10 + 4 * t))) → 10 + 4 * t + 2 < 270)
    (b13 : (t < 4) → ((nI 3) ≤ (w (10 + 4 * t))) → 10 + 4 * t + 3 < 270)
    (h3 : (t < 4) → ((nI 3) ≤ (w (10 + 4 * t))) → Ev (d + 2) c s 209 50 [some (zr (some (1, 0, 0))), some (zi (nI n)), some (zi (nI (t + 1)))] [] (OM X 1 0 (zw ρ (zup (zup (zup (zup w (10 + 4 * t) (nI 0)) (10 + 4 * t + 1) (nI 0)) (10 + 4 * t + 2) ((-4))) (10 + 4 * t + 3) (nI 0))) l) Q) : Ev (d + 2) c s 209 50 [some (zr (some (1, 0, 0))), some (zi (nI n)), some (zi (nI t))] [] (OM X 1 0 (zw ρ w) l) Q := by
  refine Ew.ld f209_50 rfl rfl rfl rfl ?_
  refine Ew.op (st' := zi (nI 4) :: _) f209_51 rfl rfl ?_
  refine Ew.icmp f209_52 rfl rfl (fun c1 => ?_) (fun c1 => ?_)
  · refine Ew.ld f209_93 rfl rfl rfl rfl ?_
    refine Ew.getp (v := some (1, 0, 1)) f209_94 rfl rfl rfl ?_
    refine Ew.op (st' := zi (nI 2) :: _) f209_97 rfl rfl ?_
    refine Ew.op (st' := zi (nI 0) :: _) f209_98 rfl rfl ?_
    refine Ew.iastnO f209_99 (by decide) rfl (show 2 < 270 by decide) (Nat.le_of_ble_eq_true rfl) rfl ?_
    rw [zw_up]
    refine Ew.ld f209_100 rfl rfl rfl rfl ?_
    refine Ew.ireti f209_101 ?_
    exact h1 ((zle_iff (by decide) nb_t).mp c1)
  · refine Ew.ld f209_55 rfl rfl rfl rfl ?_
    refine Ew.ld f209_56 rfl rfl rfl rfl ?_
    refine Ew.call0 (ls0 := [some (zr (some (1, 0, 0))), some (zi (nI t))]) f209_57 rfl (Nat.le_of_ble_eq_true rfl) rfl rfl (Nat.le_of_ble_eq_true rfl) rfl (Nat.le_of_ble_eq_true rfl) rfl rfl ?_
    refine Ew.ld f201_0 rfl rfl rfl rfl ?_
    refine Ew.ld f201_1 rfl rfl rfl rfl ?_
    refine Ew.op (st' := zi (nI 0) :: _) f201_2 rfl rfl ?_
    refine Ew.call0 (ls0 := [some (zr (some (1, 0, 0))), some (zi (nI t)), some (zi (nI 0))]) f201_3 rfl (Nat.le_of_ble_eq_true rfl) rfl rfl (Nat.le_of_ble_eq_true rfl) rfl (Nat.le_of_ble_eq_true rfl) rfl rfl ?_
    refine Ew.ld f156_0 rfl rfl rfl rfl ?_
    refine Ew.getp (v := some (1, 0, 1)) f156_1 rfl rfl rfl ?_
    refine Ew.op (st' := zi (nI 10) :: _) f156_4 rfl rfl ?_
    refine Ew.op (st' := zi (nI 4) :: _) f156_6 rfl rfl ?_
    refine Ew.ld f156_7 rfl rfl rfl rfl ?_
    refine Ew.muln f156_8 rfl ?_
    refine Ew.addn f156_9 rfl ?_
    refine Ew.ld f156_10 rfl rfl rfl rfl ?_
    refine Ew.addn f156_11 rfl ?_
    refine Ew.ialdnO f156_12 rfl (b1 (Nat.not_le.mp fun e => c1 ((zle_iff (by decide) nb_t).mpr e))) (Nat.le_of_ble_eq_true rfl) rfl ?_
    refine Ew.ireti f156_13 ?_
    show Ev (d + 1) 0 0 201 6 [some (zr (some (1, 0, 0))), some (zi (nI t))] [zi (w (10 + 4 * t))] (OM X 1 0 (zw ρ w) l) (fun r M' => Ev (d + 2) c s 209 60 [some (zr (some (1, 0, 0))), some (zi (nI n)), some (zi (nI t))] (zpush r []) M' Q)
    refine Ew.op (st' := zi (nI 3) :: _) f201_6 rfl rfl ?_
    refine Ew.icmp f201_7 rfl rfl (fun c2 => ?_) (fun c2 => ?_)
    · refine Ew.op (st' := zi (nI 0) :: _) f201_14 rfl rfl ?_
      refine Ew.iretb f201_15 (Or.inl rfl) ?_
      show Ev (d + 2) c s 209 60 [some (zr (some (1, 0, 0))), some (zi (nI n)), some (zi (nI t))] [zi (nI 0)] (OM X 1 0 (zw ρ w) l) Q
      refine Ew.ifc f209_60 rfl rfl (fun h => absurd h (show ¬ (¬ ((nI 0) : Int32) = 0) by decide)) (fun _ => ?_)
      refine Ew.ld f209_63 rfl rfl rfl rfl ?_
      refine Ew.ld f209_64 rfl rfl rfl rfl ?_
      refine Ew.ld f209_65 rfl rfl rfl rfl ?_
      refine Ew.ld f209_66 rfl rfl rfl rfl ?_
      refine Ew.op (st' := zi (nI 1) :: _) f209_67 rfl rfl ?_
      refine Ew.call0 (ls0 := [some (zr (some (1, 0, 0))), some (zi (nI t)), some (zi (nI 1))]) f209_68 rfl (Nat.le_of_ble_eq_true rfl) rfl rfl (Nat.le_of_ble_eq_true rfl) rfl (Nat.le_of_ble_eq_true rfl) rfl rfl ?_
      refine Ew.ld f156_0 rfl rfl rfl rfl ?_
      refine Ew.getp (v := some (1, 0, 1)) f156_1 rfl rfl rfl ?_
      refine Ew.op (st' := zi (nI 10) :: _) f156_4 rfl rfl ?_
      refine Ew.op (st' := zi (nI 4) :: _) f156_6 rfl rfl ?_
      refine Ew.ld f156_7 rfl rfl rfl rfl ?_
      refine Ew.muln f156_8 rfl ?_
      refine Ew.addn f156_9 rfl ?_
      refine Ew.ld f156_10 rfl rfl rfl rfl ?_
      refine Ew.addn f156_11 rfl ?_
      refine Ew.ialdnV (v := nI D) f156_12 rfl (b2 (Nat.not_le.mp fun e => c1 ((zle_iff (by decide) nb_t).mpr e)) c2) (Nat.le_of_ble_eq_true rfl) rfl (so_v (hD (Nat.not_le.mp fun e => c1 ((zle_iff (by decide) nb_t).mpr e)))) ?_
      refine Ew.ireti f156_13 ?_
      show Ev (d + 2) c s 209 71 [some (zr (some (1, 0, 0))), some (zi (nI n)), some (zi (nI t))] [zi (nI D), zi (nI t), zr (some (1, 0, 0))] (OM X 1 0 (zw ρ w) l) Q
      refine Ew.op (st' := zi ((-1)) :: _) f209_71 rfl rfl ?_
      refine Ew.call0 (ls0 := [some (zr (some (1, 0, 0))), some (zi (nI t)), some (zi (nI D)), some (zi ((-1))), none]) f209_72 rfl (Nat.le_of_ble_eq_true rfl) rfl rfl (Nat.le_of_ble_eq_true rfl) rfl (Nat.le_of_ble_eq_true rfl) rfl rfl ?_
      refine sp_comes (b3 (Nat.not_le.mp fun e => c1 ((zle_iff (by decide) nb_t).mpr e)) c2) (b4 (Nat.not_le.mp fun e => c1 ((zle_iff (by decide) nb_t).mpr e)) c2) (b5 (Nat.not_le.mp fun e => c1 ((zle_iff (by decide) nb_t).mpr e)) c2) ?_
      show Ev (d + 2) c s 209 75 [some (zr (some (1, 0, 0))), some (zi (nI n)), some (zi (nI t))] [] (OM X 1 0 (zw ρ (rComeW ρ t ((-1)) w D)) l) Q
      refine Ew.ld f209_75 rfl rfl rfl rfl ?_
      refine Ew.ld f209_76 rfl rfl rfl rfl ?_
      refine Ew.call0 (ls0 := [some (zr (some (1, 0, 0))), some (zi (nI t))]) f209_77 rfl (Nat.le_of_ble_eq_true rfl) rfl rfl (Nat.le_of_ble_eq_true rfl) rfl (Nat.le_of_ble_eq_true rfl) rfl rfl ?_
      refine Ew.ld f178_0 rfl rfl rfl rfl ?_
      refine Ew.ld f178_1 rfl rfl rfl rfl ?_
      refine Ew.op (st' := zi (nI 0) :: _) f178_2 rfl rfl ?_
      refine Ew.op (st' := zi (nI 0) :: _) f178_3 rfl rfl ?_
      refine Ew.call0 (ls0 := [some (zr (some (1, 0, 0))), some (zi (nI t)), some (zi (nI 0)), some (zi (nI 0))]) f178_4 rfl (Nat.le_of_ble_eq_true rfl) rfl rfl (Nat.le_of_ble_eq_true rfl) rfl (Nat.le_of_ble_eq_true rfl) rfl rfl ?_
      refine Ew.ld f157_0 rfl rfl rfl rfl ?_
      refine Ew.getp (v := some (1, 0, 1)) f157_1 rfl rfl rfl ?_
      refine Ew.op (st' := zi (nI 10) :: _) f157_4 rfl rfl ?_
      refine Ew.op (st' := zi (nI 4) :: _) f157_6 rfl rfl ?_
      refine Ew.ld f157_7 rfl rfl rfl rfl ?_
      refine Ew.muln f157_8 rfl ?_
      refine Ew.addn f157_9 rfl ?_
      refine Ew.ld f157_10 rfl rfl rfl rfl ?_
      refine Ew.addn f157_11 rfl ?_
      refine Ew.ld f157_12 rfl rfl rfl rfl ?_
      refine Ew.iastnO f157_13 (by decide) rfl (b6 (Nat.not_le.mp fun e => c1 ((zle_iff (by decide) nb_t).mpr e)) c2) (Nat.le_of_ble_eq_true rfl) rfl ?_
      rw [zw_up]
      refine Ew.vret f157_14 ?_
      show Ev (d + 1) 0 0 178 7 [some (zr (some (1, 0, 0))), some (zi (nI t))] [] (OM X 1 0 (zw ρ (zup (rComeW ρ t ((-1)) w D) (10 + 4 * t) (nI 0))) l) (fun r M' => Ev (d + 2) c s 209 80 [some (zr (some (1, 0, 0))), some (zi (nI n)), some (zi (nI t))] (zpush r []) M' Q)
      refine Ew.ld f178_7 rfl rfl rfl rfl ?_
      refine Ew.ld f178_8 rfl rfl rfl rfl ?_
      refine Ew.op (st' := zi (nI 1) :: _) f178_9 rfl rfl ?_
      refine Ew.op (st' := zi (nI 0) :: _) f178_10 rfl rfl ?_
      refine Ew.call0 (ls0 := [some (zr (some (1, 0, 0))), some (zi (nI t)), some (zi (nI 1)), some (zi (nI 0))]) f178_11 rfl (Nat.le_of_ble_eq_true rfl) rfl rfl (Nat.le_of_ble_eq_true rfl) rfl (Nat.le_of_ble_eq_true rfl) rfl rfl ?_
      refine Ew.ld f157_0 rfl rfl rfl rfl ?_
      refine Ew.getp (v := some (1, 0, 1)) f157_1 rfl rfl rfl ?_
      refine Ew.op (st' := zi (nI 10) :: _) f157_4 rfl rfl ?_
      refine Ew.op (st' := zi (nI 4) :: _) f157_6 rfl rfl ?_
      refine Ew.ld f157_7 rfl rfl rfl rfl ?_
      refine Ew.muln f157_8 rfl ?_
      refine Ew.addn f157_9 rfl ?_
      refine Ew.ld f157_10 rfl rfl rfl rfl ?_
      refine Ew.addn f157_11 rfl ?_
      refine Ew.ld f157_12 rfl rfl rfl rfl ?_
      refine Ew.iastnO f157_13 (by decide) rfl (b7 (Nat.not_le.mp fun e => c1 ((zle_iff (by decide) nb_t).mpr e)) c2) (Nat.le_of_ble_eq_true rfl) rfl ?_
      rw [zw_up]
      refine Ew.vret f157_14 ?_
      show Ev (d + 1) 0 0 178 14 [some (zr (some (1, 0, 0))), some (zi (nI t))] [] (OM X 1 0 (zw ρ (zup (zup (rComeW ρ t ((-1)) w D) (10 + 4 * t) (nI 0)) (10 + 4 * t + 1) (nI 0))) l) (fun r M' => Ev (d + 2) c s 209 80 [some (zr (some (1, 0, 0))), some (zi (nI n)), some (zi (nI t))] (zpush r []) M' Q)
      refine Ew.ld f178_14 rfl rfl rfl rfl ?_
      refine Ew.ld f178_15 rfl rfl rfl rfl ?_
      refine Ew.op (st' := zi (nI 2) :: _) f178_16 rfl rfl ?_
      refine Ew.op (st' := zi ((-4)) :: _) f178_17 rfl rfl ?_
      refine Ew.call0 (ls0 := [some (zr (some (1, 0, 0))), some (zi (nI t)), some (zi (nI 2)), some (zi ((-4)))]) f178_19 rfl (Nat.le_of_ble_eq_true rfl) rfl rfl (Nat.le_of_ble_eq_true rfl) rfl (Nat.le_of_ble_eq_true rfl) rfl rfl ?_
      refine Ew.ld f157_0 rfl rfl rfl rfl ?_
      refine Ew.getp (v := some (1, 0, 1)) f157_1 rfl rfl rfl ?_
      refine Ew.op (st' := zi (nI 10) :: _) f157_4 rfl rfl ?_
      refine Ew.op (st' := zi (nI 4) :: _) f157_6 rfl rfl ?_
      refine Ew.ld f157_7 rfl rfl rfl rfl ?_
      refine Ew.muln f157_8 rfl ?_
      refine Ew.addn f157_9 rfl ?_
      refine Ew.ld f157_10 rfl rfl rfl rfl ?_
      refine Ew.addn f157_11 rfl ?_
      refine Ew.ld f157_12 rfl rfl rfl rfl ?_
      refine Ew.iastnO f157_13 (by decide) rfl (b8 (Nat.not_le.mp fun e => c1 ((zle_iff (by decide) nb_t).mpr e)) c2) (Nat.le_of_ble_eq_true rfl) rfl ?_
      rw [zw_up]
      refine Ew.vret f157_14 ?_
      show Ev (d + 1) 0 0 178 22 [some (zr (some (1, 0, 0))), some (zi (nI t))] [] (OM X 1 0 (zw ρ (zup (zup (zup (rComeW ρ t ((-1)) w D) (10 + 4 * t) (nI 0)) (10 + 4 * t + 1) (nI 0)) (10 + 4 * t + 2) ((-4)))) l) (fun r M' => Ev (d + 2) c s 209 80 [some (zr (some (1, 0, 0))), some (zi (nI n)), some (zi (nI t))] (zpush r []) M' Q)
      refine Ew.vret f178_22 ?_
      show Ev (d + 2) c s 209 80 [some (zr (some (1, 0, 0))), some (zi (nI n)), some (zi (nI t))] [] (OM X 1 0 (zw ρ (zup (zup (zup (rComeW ρ t ((-1)) w D) (10 + 4 * t) (nI 0)) (10 + 4 * t + 1) (nI 0)) (10 + 4 * t + 2) ((-4)))) l) Q
      refine Ew.ld f209_80 rfl rfl rfl rfl ?_
      refine Ew.ld f209_81 rfl rfl rfl rfl ?_
      refine Ew.op (st' := zi (nI 3) :: _) f209_82 rfl rfl ?_
      refine Ew.op (st' := zi (nI 0) :: _) f209_83 rfl rfl ?_
      refine Ew.call0 (ls0 := [some (zr (some (1, 0, 0))), some (zi (nI t)), some (zi (nI 3)), some (zi (nI 0))]) f209_84 rfl (Nat.le_of_ble_eq_true rfl) rfl rfl (Nat.le_of_ble_eq_true rfl) rfl (Nat.le_of_ble_eq_true rfl) rfl rfl ?_
      refine Ew.ld f157_0 rfl rfl rfl rfl ?_
      refine Ew.getp (v := some (1, 0, 1)) f157_1 rfl rfl rfl ?_
      refine Ew.op (st' := zi (nI 10) :: _) f157_4 rfl rfl ?_
      refine Ew.op (st' := zi (nI 4) :: _) f157_6 rfl rfl ?_
      refine Ew.ld f157_7 rfl rfl rfl rfl ?_
      refine Ew.muln f157_8 rfl ?_
      refine Ew.addn f157_9 rfl ?_
      refine Ew.ld f157_10 rfl rfl rfl rfl ?_
      refine Ew.addn f157_11 rfl ?_
      refine Ew.ld f157_12 rfl rfl rfl rfl ?_
      refine Ew.iastnO f157_13 (by decide) rfl (b9 (Nat.not_le.mp fun e => c1 ((zle_iff (by decide) nb_t).mpr e)) c2) (Nat.le_of_ble_eq_true rfl) rfl ?_
      rw [zw_up]
      refine Ew.vret f157_14 ?_
      show Ev (d + 2) c s 209 87 [some (zr (some (1, 0, 0))), some (zi (nI n)), some (zi (nI t))] [] (OM X 1 0 (zw ρ (zup (zup (zup (zup (rComeW ρ t ((-1)) w D) (10 + 4 * t) (nI 0)) (10 + 4 * t + 1) (nI 0)) (10 + 4 * t + 2) ((-4))) (10 + 4 * t + 3) (nI 0))) l) Q
      refine Ew.iinc (v := nI (t + 1)) (ls' := [some (zr (some (1, 0, 0))), some (zi (nI n)), some (zi (nI (t + 1)))]) f209_87 rfl (nI_1 _) rfl rfl ?_
      refine Ew.goto f209_90 rfl ?_
      exact h2 (Nat.not_le.mp fun e => c1 ((zle_iff (by decide) nb_t).mpr e)) c2
    · refine Ew.op (st' := zi (nI 1) :: _) f201_10 rfl rfl ?_
      refine Ew.goto f201_11 rfl ?_
      refine Ew.iretb f201_15 (Or.inr rfl) ?_
      show Ev (d + 2) c s 209 60 [some (zr (some (1, 0, 0))), some (zi (nI n)), some (zi (nI t))] [zi (nI 1)] (OM X 1 0 (zw ρ w) l) Q
      refine Ew.ifc f209_60 rfl rfl (fun _ => ?_) (fun h => absurd (show ¬ ((nI 1) : Int32) = 0 by decide) h)
      refine Ew.ld f209_75 rfl rfl rfl rfl ?_
      refine Ew.ld f209_76 rfl rfl rfl rfl ?_
      refine Ew.call0 (ls0 := [some (zr (some (1, 0, 0))), some (zi (nI t))]) f209_77 rfl (Nat.le_of_ble_eq_true rfl) rfl rfl (Nat.le_of_ble_eq_true rfl) rfl (Nat.le_of_ble_eq_true rfl) rfl rfl ?_
      refine Ew.ld f178_0 rfl rfl rfl rfl ?_
      refine Ew.ld f178_1 rfl rfl rfl rfl ?_
      refine Ew.op (st' := zi (nI 0) :: _) f178_2 rfl rfl ?_
      refine Ew.op (st' := zi (nI 0) :: _) f178_3 rfl rfl ?_
      refine Ew.call0 (ls0 := [some (zr (some (1, 0, 0))), some (zi (nI t)), some (zi (nI 0)), some (zi (nI 0))]) f178_4 rfl (Nat.le_of_ble_eq_true rfl) rfl rfl (Nat.le_of_ble_eq_true rfl) rfl (Nat.le_of_ble_eq_true rfl) rfl rfl ?_
      refine Ew.ld f157_0 rfl rfl rfl rfl ?_
      refine Ew.getp (v := some (1, 0, 1)) f157_1 rfl rfl rfl ?_
      refine Ew.op (st' := zi (nI 10) :: _) f157_4 rfl rfl ?_
      refine Ew.op (st' := zi (nI 4) :: _) f157_6 rfl rfl ?_
      refine Ew.ld f157_7 rfl rfl rfl rfl ?_
      refine Ew.muln f157_8 rfl ?_
      refine Ew.addn f157_9 rfl ?_
      refine Ew.ld f157_10 rfl rfl rfl rfl ?_
      refine Ew.addn f157_11 rfl ?_
      refine Ew.ld f157_12 rfl rfl rfl rfl ?_
      refine Ew.iastnO f157_13 (by decide) rfl (b10 (Nat.not_le.mp fun e => c1 ((zle_iff (by decide) nb_t).mpr e)) (Int32.not_lt.mp c2)) (Nat.le_of_ble_eq_true rfl) rfl ?_
      rw [zw_up]
      refine Ew.vret f157_14 ?_
      show Ev (d + 1) 0 0 178 7 [some (zr (some (1, 0, 0))), some (zi (nI t))] [] (OM X 1 0 (zw ρ (zup w (10 + 4 * t) (nI 0))) l) (fun r M' => Ev (d + 2) c s 209 80 [some (zr (some (1, 0, 0))), some (zi (nI n)), some (zi (nI t))] (zpush r []) M' Q)
      refine Ew.ld f178_7 rfl rfl rfl rfl ?_
      refine Ew.ld f178_8 rfl rfl rfl rfl ?_
      refine Ew.op (st' := zi (nI 1) :: _) f178_9 rfl rfl ?_
      refine Ew.op (st' := zi (nI 0) :: _) f178_10 rfl rfl ?_
      refine Ew.call0 (ls0 := [some (zr (some (1, 0, 0))), some (zi (nI t)), some (zi (nI 1)), some (zi (nI 0))]) f178_11 rfl (Nat.le_of_ble_eq_true rfl) rfl rfl (Nat.le_of_ble_eq_true rfl) rfl (Nat.le_of_ble_eq_true rfl) rfl rfl ?_
      refine Ew.ld f157_0 rfl rfl rfl rfl ?_
      refine Ew.getp (v := some (1, 0, 1)) f157_1 rfl rfl rfl ?_
      refine Ew.op (st' := zi (nI 10) :: _) f157_4 rfl rfl ?_
      refine Ew.op (st' := zi (nI 4) :: _) f157_6 rfl rfl ?_
      refine Ew.ld f157_7 rfl rfl rfl rfl ?_
      refine Ew.muln f157_8 rfl ?_
      refine Ew.addn f157_9 rfl ?_
      refine Ew.ld f157_10 rfl rfl rfl rfl ?_
      refine Ew.addn f157_11 rfl ?_
      refine Ew.ld f157_12 rfl rfl rfl rfl ?_
      refine Ew.iastnO f157_13 (by decide) rfl (b11 (Nat.not_le.mp fun e => c1 ((zle_iff (by decide) nb_t).mpr e)) (Int32.not_lt.mp c2)) (Nat.le_of_ble_eq_true rfl) rfl ?_
      rw [zw_up]
      refine Ew.vret f157_14 ?_
      show Ev (d + 1) 0 0 178 14 [some (zr (some (1, 0, 0))), some (zi (nI t))] [] (OM X 1 0 (zw ρ (zup (zup w (10 + 4 * t) (nI 0)) (10 + 4 * t + 1) (nI 0))) l) (fun r M' => Ev (d + 2) c s 209 80 [some (zr (some (1, 0, 0))), some (zi (nI n)), some (zi (nI t))] (zpush r []) M' Q)
      refine Ew.ld f178_14 rfl rfl rfl rfl ?_
      refine Ew.ld f178_15 rfl rfl rfl rfl ?_
      refine Ew.op (st' := zi (nI 2) :: _) f178_16 rfl rfl ?_
      refine Ew.op (st' := zi ((-4)) :: _) f178_17 rfl rfl ?_
      refine Ew.call0 (ls0 := [some (zr (some (1, 0, 0))), some (zi (nI t)), some (zi (nI 2)), some (zi ((-4)))]) f178_19 rfl (Nat.le_of_ble_eq_true rfl) rfl rfl (Nat.le_of_ble_eq_true rfl) rfl (Nat.le_of_ble_eq_true rfl) rfl rfl ?_
      refine Ew.ld f157_0 rfl rfl rfl rfl ?_
      refine Ew.getp (v := some (1, 0, 1)) f157_1 rfl rfl rfl ?_
      refine Ew.op (st' := zi (nI 10) :: _) f157_4 rfl rfl ?_
      refine Ew.op (st' := zi (nI 4) :: _) f157_6 rfl rfl ?_
      refine Ew.ld f157_7 rfl rfl rfl rfl ?_
      refine Ew.muln f157_8 rfl ?_
      refine Ew.addn f157_9 rfl ?_
      refine Ew.ld f157_10 rfl rfl rfl rfl ?_
      refine Ew.addn f157_11 rfl ?_
      refine Ew.ld f157_12 rfl rfl rfl rfl ?_
      refine Ew.iastnO f157_13 (by decide) rfl (b12 (Nat.not_le.mp fun e => c1 ((zle_iff (by decide) nb_t).mpr e)) (Int32.not_lt.mp c2)) (Nat.le_of_ble_eq_true rfl) rfl ?_
      rw [zw_up]
      refine Ew.vret f157_14 ?_
      show Ev (d + 1) 0 0 178 22 [some (zr (some (1, 0, 0))), some (zi (nI t))] [] (OM X 1 0 (zw ρ (zup (zup (zup w (10 + 4 * t) (nI 0)) (10 + 4 * t + 1) (nI 0)) (10 + 4 * t + 2) ((-4)))) l) (fun r M' => Ev (d + 2) c s 209 80 [some (zr (some (1, 0, 0))), some (zi (nI n)), some (zi (nI t))] (zpush r []) M' Q)
      refine Ew.vret f178_22 ?_
      show Ev (d + 2) c s 209 80 [some (zr (some (1, 0, 0))), some (zi (nI n)), some (zi (nI t))] [] (OM X 1 0 (zw ρ (zup (zup (zup w (10 + 4 * t) (nI 0)) (10 + 4 * t + 1) (nI 0)) (10 + 4 * t + 2) ((-4)))) l) Q
      refine Ew.ld f209_80 rfl rfl rfl rfl ?_
      refine Ew.ld f209_81 rfl rfl rfl rfl ?_
      refine Ew.op (st' := zi (nI 3) :: _) f209_82 rfl rfl ?_
      refine Ew.op (st' := zi (nI 0) :: _) f209_83 rfl rfl ?_
      refine Ew.call0 (ls0 := [some (zr (some (1, 0, 0))), some (zi (nI t)), some (zi (nI 3)), some (zi (nI 0))]) f209_84 rfl (Nat.le_of_ble_eq_true rfl) rfl rfl (Nat.le_of_ble_eq_true rfl) rfl (Nat.le_of_ble_eq_true rfl) rfl rfl ?_
      refine Ew.ld f157_0 rfl rfl rfl rfl ?_
      refine Ew.getp (v := some (1, 0, 1)) f157_1 rfl rfl rfl ?_
      refine Ew.op (st' := zi (nI 10) :: _) f157_4 rfl rfl ?_
      refine Ew.op (st' := zi (nI 4) :: _) f157_6 rfl rfl ?_
      refine Ew.ld f157_7 rfl rfl rfl rfl ?_
      refine Ew.muln f157_8 rfl ?_
      refine Ew.addn f157_9 rfl ?_
      refine Ew.ld f157_10 rfl rfl rfl rfl ?_
      refine Ew.addn f157_11 rfl ?_
      refine Ew.ld f157_12 rfl rfl rfl rfl ?_
      refine Ew.iastnO f157_13 (by decide) rfl (b13 (Nat.not_le.mp fun e => c1 ((zle_iff (by decide) nb_t).mpr e)) (Int32.not_lt.mp c2)) (Nat.le_of_ble_eq_true rfl) rfl ?_
      rw [zw_up]
      refine Ew.vret f157_14 ?_
      show Ev (d + 2) c s 209 87 [some (zr (some (1, 0, 0))), some (zi (nI n)), some (zi (nI t))] [] (OM X 1 0 (zw ρ (zup (zup (zup (zup w (10 + 4 * t) (nI 0)) (10 + 4 * t + 1) (nI 0)) (10 + 4 * t + 2) ((-4))) (10 + 4 * t + 3) (nI 0))) l) Q
      refine Ew.iinc (v := nI (t + 1)) (ls' := [some (zr (some (1, 0, 0))), some (zi (nI n)), some (zi (nI (t + 1)))]) f209_87 rfl (nI_1 _) rfl rfl ?_
      refine Ew.goto f209_90 rfl ?_
      exact h3 (Nat.not_le.mp fun e => c1 ((zle_iff (by decide) nb_t).mpr e)) (Int32.not_lt.mp c2)
theorem rComeW_at {ρ : Nat → Nat → Int32} {t : Nat} (x : Int32) (w : Nat → Int32) {i : Nat} (hi : i < 4 ∨ 10 ≤ i) : ∀ n, rGok ρ t n → rComeW ρ t x w n i = w i := by
  intro n
  induction n with
  | zero => intro _; rfl
  | succ n ih =>
    intro h
    have := (h n (by omega)).2
    unfold rComeW
    rw [zup_n _ _ (by omega)]
    exact ih (h.le (by omega))
def rNot0 (w : Nat → Int32) : Nat → Nat
  | 0 => 0
  | t + 1 => if w (10 + 4 * t) = 0 then rNot0 w t else rNot0 w t + 1
theorem rNot0_le (w : Nat → Int32) (n : Nat) : rNot0 w n ≤ n := by
  induction n with
  | zero => exact Nat.le_refl 0
  | succ n ih => unfold rNot0; split <;> omega
/-- one task is laid anew -/
def rLay1 (ρ : Nat → Nat → Int32) (t : Nat) (v : Nat → Int32) : Nat → Int32 := zup (rIdleW t (if v (10 + 4 * t) < nI 3 then rComeW ρ t (-1) v (rD (zw ρ v) t) else v)) (10 + 4 * t + 3) (nI 0)
def rLayL (ρ : Nat → Nat → Int32) (w : Nat → Int32) : Nat → Nat → Int32
  | 0 => w
  | t + 1 => rLay1 ρ t (rLayL ρ w t)
theorem rLay1_at {ρ : Nat → Nat → Int32} {t : Nat} {v : Nat → Int32} (hg : rGok ρ t (rD (zw ρ v) t)) {i : Nat} (hi : i < 4 ∨ 10 ≤ i) (h : i < 10 + 4 * t ∨ 14 + 4 * t ≤ i) : rLay1 ρ t v i = v i := by
  unfold rLay1 rIdleW
  rw [zup_n _ _ (by omega), zup_n _ _ (by omega), zup_n _ _ (by omega), zup_n _ _ (by omega)]
  split
  · exact rComeW_at _ _ hi _ hg
  · rfl
theorem rLayL_at {ρ : Nat → Nat → Int32} {w : Nat → Int32} (hT : rTr ρ) (hR : rRw ρ w) : ∀ t, t ≤ 4 → ∀ i, (i < 4 ∨ 10 + 4 * t ≤ i) → rLayL ρ w t i = w i := by
  intro t
  induction t with
  | zero => intro _ i _; rfl
  | succ t ih =>
    intro ht i hi
    have e : rD (zw ρ (rLayL ρ w t)) t = rD (zw ρ w) t := by
      rw [rD_zw, rD_zw, ih (by omega) _ (by omega)]
    show rLay1 ρ t (rLayL ρ w t) i = w i
    rw [rLay1_at (by rw [e]; exact rGall_of hT hR t (by omega)) (by omega) (by omega)]
    exact ih (by omega) i (by omega)
def rLaysR (w : Nat → Int32) : Int32 := if rNot0 w 4 = 0 ∧ w 2 = 0 then -2 else nI (rNot0 w 4)
def rLaysW (ρ : Nat → Nat → Int32) (w : Nat → Int32) : Nat → Int32 := if rNot0 w 4 = 0 ∧ w 2 = 0 then w else zup (rLayL ρ w 4) 2 (nI 0)
theorem sp_lays {d c s : Nat} {w : Nat → Int32} {X : zM} {ρ : Nat → Nat → Int32} {l : Nat → Nat → Int64} {Q : Option zV → zM → Prop} (hT : rTr ρ) (hR : rRw ρ w) (k : Q (some (zi (rLaysR w))) (OM X 1 0 (zw ρ (rLaysW ρ w)) l)) : Ev (d + 2) c s 209 0 [some (zr (some (1, 0, 0))), none, none] [] (OM X 1 0 (zw ρ w) l) Q := by
  refine g209_0 ?_
  have two : ∀ n, n = rNot0 w 4 → ¬ (rNot0 w 4 = 0 ∧ w 2 = 0) → Ev (d + 2) c s 209 50 [some (zr (some (1, 0, 0))), some (zi (nI n)), some (zi (nI 0))] [] (OM X 1 0 (zw ρ w) l) Q := by
    intro n hn h
    subst hn
    unfold rLaysR rLaysW at k
    rw [if_neg h, if_neg h] at k
    refine loopN (fun t => Ev (d + 2) c s 209 50 [some (zr (some (1, 0, 0))), some (zi (nI (rNot0 w 4))), some (zi (nI t))] [] (OM X 1 0 (zw ρ (rLayL ρ w t)) l) Q) 4 (fun t ht hE => ?_) ?_
    · have e0 : rLayL ρ w t (10 + 4 * t + 1) = w (10 + 4 * t + 1) := rLayL_at hT hR t (by omega) _ (by omega)
      have eD : rD (zw ρ (rLayL ρ w t)) t = rD (zw ρ w) t := by rw [rD_zw, rD_zw, e0]
      have hd := hR t ht
      have hg : rGok ρ t (rD (zw ρ w) t) := rGall_of hT hR t ht
      have hE : Ev (d + 2) c s 209 50 [some (zr (some (1, 0, 0))), some (zi (nI (rNot0 w 4))), some (zi (nI (t + 1)))] [] (OM X 1 0 (zw ρ (rLay1 ρ t (rLayL ρ w t))) l) Q := hE
      have h30 := (hT t ht).2.1
      unfold rLay1 rIdleW at hE
      rw [eD] at hE
      apply g209_50 (D := rD (zw ρ w) t) (fun _ => e0.trans hd.1) <;> intros <;> first
        | omega
        | exact hg
        | (rw [if_pos ‹_›] at hE; exact hE)
        | (rw [if_neg (Int32.not_lt.mpr ‹_›)] at hE; exact hE)
    · refine g209_50 (D := 0) (fun h => absurd h (by decide)) (by decide) (fun _ => k) ?_ ?_ ?_ ?_ ?_ ?_ ?_ ?_ ?_ ?_ ?_ ?_ ?_ ?_ ?_ <;> intro h <;> omega
  refine loopN (fun t => Ev (d + 2) c s 209 4 [some (zr (some (1, 0, 0))), some (zi (nI (rNot0 w t))), some (zi (nI t))] [] (OM X 1 0 (zw ρ w) l) Q) 4 (fun t ht hE => ?_) ?_
  · have := rNot0_le w t
    unfold rNot0 at hE
    apply g209_4 <;> intros <;> first
      | omega
      | (rw [if_pos ‹_›] at hE; exact hE)
      | (rw [if_neg ‹_›] at hE; exact hE)
  · have := rNot0_le w 4
    refine g209_4 (by omega) (by omega) (fun _ h => two _ rfl (fun g => h g.1)) (fun _ h h2 => two _ rfl (fun g => h2 g.2)) (fun _ h h2 => ?_) (fun h => by omega) (fun h => by omega) (fun h => by omega)
    unfold rLaysR rLaysW at k
    rw [if_pos ⟨h, h2⟩, if_pos ⟨h, h2⟩] at k
    exact k
