/-! the reference: draws, laying, rules -/
theorem tTr_ok {w : Nat → Int32} (h : tTx w) {t : Nat} (ht : t < 4) : tOk (tTr w t) := pTrace_ok (h.2 t ht).2.2
theorem rM_of {ρ : Nat → Nat → Int32} {w : Nat → Int32} (h : tTx w) (hr : rTrs ρ w) {t : Nat} (ht : t < 4) : rM ρ t = (tTr w t).n := by
  unfold rM
  rw [(hr t ht).1]
  exact nI_clamp (by have := (tTr_ok h ht).1; omega)
theorem rTr_of {ρ : Nat → Nat → Int32} {w : Nat → Int32} (h : tTx w) (hr : rTrs ρ w) : rTr ρ := by
  intro t ht
  have hk := tTr_ok h ht
  have e := rM_of h hr ht
  rw [e]
  refine ⟨(hr t ht).1, hk.1, fun k hkn => ?_⟩
  obtain ⟨kd, g, _, hg, _, e1, _⟩ := hk.2.1 k hkn
  have e2 : ρ 11 (30 * t + k) = nI g := (((hr t ht).2.1 k hkn).2.1).trans e1
  unfold rG
  rw [e2, nI_clamp (by omega)]
  exact ⟨rfl, hg⟩
theorem rTrs_τ {w : Nat → Int32} (h : tTx w) : rTrs (tτ w) w := by
  intro t ht
  have hk := tTr_ok h ht
  exact ⟨rfl, fun k hkn => ⟨zTau_10 _ (by have := hk.1; omega), zTau_11 _ (by have := hk.1; omega), zTau_12 _ (by have := hk.1; omega)⟩, rfl, rfl, rfl, rfl, rfl⟩
theorem rAg_τ {ρ : Nat → Nat → Int32} {w : Nat → Int32} (h : tTx w) (hr : rTrs ρ w) : rAg ρ (tτ w) := rAg_of fun t ht => ⟨hr t ht, (tTr_ok h ht).1⟩
theorem rRw_of {ρ : Nat → Nat → Int32} {w v : Nat → Int32} (h : tTx w) (hr : rTrs ρ w) (hR : rRw (tτ w) v) : rRw ρ v := by
  intro t ht
  have := hR t ht
  rw [rM_of h (rTrs_τ h) ht] at this
  rw [rM_of h hr ht]
  exact this
theorem g205_0 {d c s : Nat} {w : Nat → Int32} {X : zM} {ρ : Nat → Nat → Int32} {l : Nat → Nat → Int64} {Q : Option zV → zM → Prop}
    (h1 : Q (some (zi (((zup w 3 ((((((w 3).toInt64) * (lN 1103515245)) + (lN 12345)) &&& (lN 2147483647)).toInt32)) 3) / (nI 65536)))) (OM X 1 0 (zw ρ (zup w 3 ((((((w 3).toInt64) * (lN 1103515245)) + (lN 12345)) &&& (lN 2147483647)).toInt32))) l)) : Ev d c s 205 0 [some (zr (some (1, 0, 0)))] [] (OM X 1 0 (zw ρ w) l) Q := by
  refine Ew.ld f205_0 rfl rfl rfl rfl ?_
  refine Ew.getp (v := some (1, 0, 1)) f205_1 rfl rfl rfl ?_
  refine Ew.op (st' := zi (nI 3) :: _) f205_4 rfl rfl ?_
  refine Ew.ld f205_5 rfl rfl rfl rfl ?_
  refine Ew.getp (v := some (1, 0, 1)) f205_6 rfl rfl rfl ?_
  refine Ew.op (st' := zi (nI 3) :: _) f205_9 rfl rfl ?_
  refine Ew.ialdnO f205_10 rfl (show 3 < 270 by decide) (Nat.le_of_ble_eq_true rfl) rfl ?_
  refine Ew.op (st' := zl ((w 3).toInt64) :: _) f205_11 rfl rfl ?_
  refine Ew.op (st' := zl (lN 1103515245) :: _) f205_12 rfl rfl ?_
  refine Ew.op (st' := zl (((w 3).toInt64) * (lN 1103515245)) :: _) f205_15 rfl rfl ?_
  refine Ew.op (st' := zl (lN 12345) :: _) f205_16 rfl rfl ?_
  refine Ew.op (st' := zl ((((w 3).toInt64) * (lN 1103515245)) + (lN 12345)) :: _) f205_19 rfl rfl ?_
  refine Ew.op (st' := zl (lN 2147483647) :: _) f205_20 rfl rfl ?_
  refine Ew.op (st' := zl (((((w 3).toInt64) * (lN 1103515245)) + (lN 12345)) &&& (lN 2147483647)) :: _) f205_23 rfl rfl ?_
  refine Ew.op (st' := zi ((((((w 3).toInt64) * (lN 1103515245)) + (lN 12345)) &&& (lN 2147483647)).toInt32) :: _) f205_24 rfl rfl ?_
  refine Ew.iastnO f205_25 (by decide) rfl (show 3 < 270 by decide) (Nat.le_of_ble_eq_true rfl) rfl ?_
  rw [zw_up]
  refine Ew.ld f205_26 rfl rfl rfl rfl ?_
  refine Ew.getp (v := some (1, 0, 1)) f205_27 rfl rfl rfl ?_
  refine Ew.op (st' := zi (nI 3) :: _) f205_30 rfl rfl ?_
  refine Ew.ialdnO f205_31 rfl (show 3 < 270 by decide) (Nat.le_of_ble_eq_true rfl) rfl ?_
  refine Ew.op (st' := zi (nI 65536) :: _) f205_32 rfl rfl ?_
  refine Ew.idiv f205_35 (by decide) rfl ?_
  refine Ew.ireti f205_36 ?_
  exact h1
theorem g207_0 {d c s : Nat} {z n : Int32} {X : zM} {ρ : Nat → Nat → Int32} {l : Nat → Nat → Int64} {Q : Option zV → zM → Prop}
    (h1 : Ev d c s 207 4 [some (zi z), some (zi n), some (zi n), some (zi (nI 0))] [] (OM X 1 0 ρ l) Q) : Ev d c s 207 0 [some (zi z), some (zi n), none, none] [] (OM X 1 0 ρ l) Q := by
  refine Ew.ld f207_0 rfl rfl rfl rfl ?_
  refine Ew.sr (ls' := [some (zi z), some (zi n), some (zi n), none]) f207_1 rfl rfl (Nat.le_of_ble_eq_true rfl) rfl rfl ?_
  refine Ew.op (st' := zi (nI 0) :: _) f207_2 rfl rfl ?_
  refine Ew.sr (ls' := [some (zi z), some (zi n), some (zi n), some (zi (nI 0))]) f207_3 rfl rfl (Nat.le_of_ble_eq_true rfl) rfl rfl ?_
  exact h1
theorem g207_4 {d c s : Nat} {k : Nat} {z n x : Int32} {X : zM} {ρ : Nat → Nat → Int32} {l : Nat → Nat → Int64} {Q : Option zV → zM → Prop}
    (h1 : (¬ ((z >>> ((nI k) &&& 31)) &&& (nI 1)) = (nI 1)) → (¬ ((z >>> ((nI k) &&& 31)) &&& (nI 1)) = (nI 1)) → Ev (d + 1) c s 207 4 [some (zi z), some (zi n), some (zi (x - (nI 0))), some (zi (nI (k + 1)))] [] (OM X 1 0 ρ l) Q)
    (h2 : (¬ ((z >>> ((nI k) &&& 31)) &&& (nI 1)) = (nI 1)) → (((z >>> ((nI k) &&& 31)) &&& (nI 1)) = (nI 1)) → Ev (d + 1) c s 207 4 [some (zi z), some (zi n), some (zi (x - (nI 1))), some (zi (nI (k + 1)))] [] (OM X 1 0 ρ l) Q)
    (h3 : (((z >>> ((nI k) &&& 31)) &&& (nI 1)) = (nI 1)) → (x ≤ 0) → Q (some (zi (nI k))) (OM X 1 0 ρ l))
    (h4 : (((z >>> ((nI k) &&& 31)) &&& (nI 1)) = (nI 1)) → (0 < x) → (¬ ((z >>> ((nI k) &&& 31)) &&& (nI 1)) = (nI 1)) → Ev (d + 1) c s 207 4 [some (zi z), some (zi n), some (zi (x - (nI 0))), some (zi (nI (k + 1)))] [] (OM X 1 0 ρ l) Q)
    (h5 : (((z >>> ((nI k) &&& 31)) &&& (nI 1)) = (nI 1)) → (0 < x) → (((z >>> ((nI k) &&& 31)) &&& (nI 1)) = (nI 1)) → Ev (d + 1) c s 207 4 [some (zi z), some (zi n), some (zi (x - (nI 1))), some (zi (nI (k + 1)))] [] (OM X 1 0 ρ l) Q) : Ev (d + 1) c s 207 4 [some (zi z), some (zi n), some (zi x), some (zi (nI k))] [] (OM X 1 0 ρ l) Q := by
  refine Ew.ld f207_4 rfl rfl rfl rfl ?_
  refine Ew.ld f207_5 rfl rfl rfl rfl ?_
  refine Ew.call0 (ls0 := [some (zi z), some (zi (nI k))]) f207_6 rfl (Nat.le_of_ble_eq_true rfl) rfl rfl (Nat.le_of_ble_eq_true rfl) trivial (Nat.le_of_ble_eq_true rfl) rfl rfl ?_
  refine Ew.ld f152_0 rfl rfl rfl rfl ?_
  refine Ew.ld f152_1 rfl rfl rfl rfl ?_
  refine Ew.op (st' := zi (z >>> ((nI k) &&& 31)) :: _) f152_2 rfl rfl ?_
  refine Ew.op (st' := zi (nI 1) :: _) f152_3 rfl rfl ?_
  refine Ew.op (st' := zi ((z >>> ((nI k) &&& 31)) &&& (nI 1)) :: _) f152_4 rfl rfl ?_
  refine Ew.op (st' := zi (nI 1) :: _) f152_5 rfl rfl ?_
  refine Ew.icmp f152_6 rfl rfl (fun c1 => ?_) (fun c1 => ?_)
  · refine Ew.op (st' := zi (nI 0) :: _) f152_13 rfl rfl ?_
    refine Ew.iretb f152_14 (Or.inl rfl) ?_
    show Ev (d + 1) c s 207 9 [some (zi z), some (zi n), some (zi x), some (zi (nI k))] [zi (nI 0)] (OM X 1 0 ρ l) Q
    refine Ew.ifc f207_9 rfl rfl (fun _ => ?_) (fun h => absurd (show ((nI 0) : Int32) = 0 by decide) h)
    refine Ew.ld f207_16 rfl rfl rfl rfl ?_
    refine Ew.ld f207_17 rfl rfl rfl rfl ?_
    refine Ew.ld f207_18 rfl rfl rfl rfl ?_
    refine Ew.call0 (ls0 := [some (zi z), some (zi (nI k))]) f207_19 rfl (Nat.le_of_ble_eq_true rfl) rfl rfl (Nat.le_of_ble_eq_true rfl) trivial (Nat.le_of_ble_eq_true rfl) rfl rfl ?_
    refine Ew.ld f152_0 rfl rfl rfl rfl ?_
    refine Ew.ld f152_1 rfl rfl rfl rfl ?_
    refine Ew.op (st' := zi (z >>> ((nI k) &&& 31)) :: _) f152_2 rfl rfl ?_
    refine Ew.op (st' := zi (nI 1) :: _) f152_3 rfl rfl ?_
    refine Ew.op (st' := zi ((z >>> ((nI k) &&& 31)) &&& (nI 1)) :: _) f152_4 rfl rfl ?_
    refine Ew.op (st' := zi (nI 1) :: _) f152_5 rfl rfl ?_
    refine Ew.icmp f152_6 rfl rfl (fun c2 => ?_) (fun c2 => ?_)
    · refine Ew.op (st' := zi (nI 0) :: _) f152_13 rfl rfl ?_
      refine Ew.iretb f152_14 (Or.inl rfl) ?_
      show Ev (d + 1) c s 207 22 [some (zi z), some (zi n), some (zi x), some (zi (nI k))] [zi (nI 0), zi x] (OM X 1 0 ρ l) Q
      refine Ew.ifc f207_22 rfl rfl (fun _ => ?_) (fun h => absurd (show ((nI 0) : Int32) = 0 by decide) h)
      refine Ew.op (st' := zi (nI 0) :: _) f207_29 rfl rfl ?_
      refine Ew.op (st' := zi (x - (nI 0)) :: _) f207_30 rfl rfl ?_
      refine Ew.sr (ls' := [some (zi z), some (zi n), some (zi (x - (nI 0))), some (zi (nI k))]) f207_31 rfl rfl (Nat.le_of_ble_eq_true rfl) rfl rfl ?_
      refine Ew.iinc (v := nI (k + 1)) (ls' := [some (zi z), some (zi n), some (zi (x - (nI 0))), some (zi (nI (k + 1)))]) f207_32 rfl (nI_1 _) rfl rfl ?_
      refine Ew.goto f207_35 rfl ?_
      exact h1 c1 c2
    · refine Ew.op (st' := zi (nI 1) :: _) f152_9 rfl rfl ?_
      refine Ew.goto f152_10 rfl ?_
      refine Ew.iretb f152_14 (Or.inr rfl) ?_
      show Ev (d + 1) c s 207 22 [some (zi z), some (zi n), some (zi x), some (zi (nI k))] [zi (nI 1), zi x] (OM X 1 0 ρ l) Q
      refine Ew.ifc f207_22 rfl rfl (fun h => absurd h (show ¬ (((nI 1) : Int32) = 0) by decide)) (fun _ => ?_)
      refine Ew.op (st' := zi (nI 1) :: _) f207_25 rfl rfl ?_
      refine Ew.goto f207_26 rfl ?_
      refine Ew.op (st' := zi (x - (nI 1)) :: _) f207_30 rfl rfl ?_
      refine Ew.sr (ls' := [some (zi z), some (zi n), some (zi (x - (nI 1))), some (zi (nI k))]) f207_31 rfl rfl (Nat.le_of_ble_eq_true rfl) rfl rfl ?_
      refine Ew.iinc (v := nI (k + 1)) (ls' := [some (zi z), some (zi n), some (zi (x - (nI 1))), some (zi (nI (k + 1)))]) f207_32 rfl (nI_1 _) rfl rfl ?_
      refine Ew.goto f207_35 rfl ?_
      exact h2 c1 (Classical.not_not.mp c2)
  · refine Ew.op (st' := zi (nI 1) :: _) f152_9 rfl rfl ?_
    refine Ew.goto f152_10 rfl ?_
    refine Ew.iretb f152_14 (Or.inr rfl) ?_
    show Ev (d + 1) c s 207 9 [some (zi z), some (zi n), some (zi x), some (zi (nI k))] [zi (nI 1)] (OM X 1 0 ρ l) Q
    refine Ew.ifc f207_9 rfl rfl (fun h => absurd h (show ¬ (((nI 1) : Int32) = 0) by decide)) (fun _ => ?_)
    refine Ew.ld f207_12 rfl rfl rfl rfl ?_
    refine Ew.ifc f207_13 rfl rfl (fun c3 => ?_) (fun c3 => ?_)
    · refine Ew.ld f207_38 rfl rfl rfl rfl ?_
      refine Ew.ireti f207_39 ?_
      exact h3 (Classical.not_not.mp c1) c3
    · refine Ew.ld f207_16 rfl rfl rfl rfl ?_
      refine Ew.ld f207_17 rfl rfl rfl rfl ?_
      refine Ew.ld f207_18 rfl rfl rfl rfl ?_
      refine Ew.call0 (ls0 := [some (zi z), some (zi (nI k))]) f207_19 rfl (Nat.le_of_ble_eq_true rfl) rfl rfl (Nat.le_of_ble_eq_true rfl) trivial (Nat.le_of_ble_eq_true rfl) rfl rfl ?_
      refine Ew.ld f152_0 rfl rfl rfl rfl ?_
      refine Ew.ld f152_1 rfl rfl rfl rfl ?_
      refine Ew.op (st' := zi (z >>> ((nI k) &&& 31)) :: _) f152_2 rfl rfl ?_
      refine Ew.op (st' := zi (nI 1) :: _) f152_3 rfl rfl ?_
      refine Ew.op (st' := zi ((z >>> ((nI k) &&& 31)) &&& (nI 1)) :: _) f152_4 rfl rfl ?_
      refine Ew.op (st' := zi (nI 1) :: _) f152_5 rfl rfl ?_
      refine Ew.icmp f152_6 rfl rfl (fun c4 => ?_) (fun c4 => ?_)
      · refine Ew.op (st' := zi (nI 0) :: _) f152_13 rfl rfl ?_
        refine Ew.iretb f152_14 (Or.inl rfl) ?_
        show Ev (d + 1) c s 207 22 [some (zi z), some (zi n), some (zi x), some (zi (nI k))] [zi (nI 0), zi x] (OM X 1 0 ρ l) Q
        refine Ew.ifc f207_22 rfl rfl (fun _ => ?_) (fun h => absurd (show ((nI 0) : Int32) = 0 by decide) h)
        refine Ew.op (st' := zi (nI 0) :: _) f207_29 rfl rfl ?_
        refine Ew.op (st' := zi (x - (nI 0)) :: _) f207_30 rfl rfl ?_
        refine Ew.sr (ls' := [some (zi z), some (zi n), some (zi (x - (nI 0))), some (zi (nI k))]) f207_31 rfl rfl (Nat.le_of_ble_eq_true rfl) rfl rfl ?_
        refine Ew.iinc (v := nI (k + 1)) (ls' := [some (zi z), some (zi n), some (zi (x - (nI 0))), some (zi (nI (k + 1)))]) f207_32 rfl (nI_1 _) rfl rfl ?_
        refine Ew.goto f207_35 rfl ?_
        exact h4 (Classical.not_not.mp c1) (Int32.not_le.mp c3) c4
      · refine Ew.op (st' := zi (nI 1) :: _) f152_9 rfl rfl ?_
        refine Ew.goto f152_10 rfl ?_
        refine Ew.iretb f152_14 (Or.inr rfl) ?_
        show Ev (d + 1) c s 207 22 [some (zi z), some (zi n), some (zi x), some (zi (nI k))] [zi (nI 1), zi x] (OM X 1 0 ρ l) Q
        refine Ew.ifc f207_22 rfl rfl (fun h => absurd h (show ¬ (((nI 1) : Int32) = 0) by decide)) (fun _ => ?_)
        refine Ew.op (st' := zi (nI 1) :: _) f207_25 rfl rfl ?_
        refine Ew.goto f207_26 rfl ?_
        refine Ew.op (st' := zi (x - (nI 1)) :: _) f207_30 rfl rfl ?_
        refine Ew.sr (ls' := [some (zi z), some (zi n), some (zi (x - (nI 1))), some (zi (nI k))]) f207_31 rfl rfl (Nat.le_of_ble_eq_true rfl) rfl rfl ?_
        refine Ew.iinc (v := nI (k + 1)) (ls' := [some (zi z), some (zi n), some (zi (x - (nI 1))), some (zi (nI (k + 1)))]) f207_32 rfl (nI_1 _) rfl rfl ?_
        refine Ew.goto f207_35 rfl ?_
        exact h5 (Classical.not_not.mp c1) (Int32.not_le.mp c3) (Classical.not_not.mp c4)
theorem g210_0 {d c s : Nat} {r : Int32} {w : Nat → Int32} {X : zM} {ρ : Nat → Nat → Int32} {l : Nat → Nat → Int64} {Q : Option zV → zM → Prop}
    (h1 : ((lN 0) ≤ r.toInt64 ∧ r.toInt64 ≤ (lN 4)) → (¬ (w 1) = r) → Q (some (zi (w 1))) (OM X 1 0 (zw ρ (zup w 1 r)) l))
    (h2 : ((lN 0) ≤ r.toInt64 ∧ r.toInt64 ≤ (lN 4)) → ((w 1) = r) → Q (some (zi ((-2)))) (OM X 1 0 (zw ρ (zup w 1 r)) l))
    (h3 : (¬ ((lN 0) ≤ r.toInt64 ∧ r.toInt64 ≤ (lN 4))) → Q (some (zi ((-1)))) (OM X 1 0 (zw ρ w) l)) : Ev (d + 1) c s 210 0 [some (zr (some (1, 0, 0))), some (zi r), none] [] (OM X 1 0 (zw ρ w) l) Q := by
  refine Ew.ld f210_0 rfl rfl rfl rfl ?_
  refine Ew.op (st' := zl r.toInt64 :: _) f210_1 rfl rfl ?_
  refine Ew.op (st' := zl (lN 0) :: _) f210_2 rfl rfl ?_
  refine Ew.op (st' := zl (lN 4) :: _) f210_3 rfl rfl ?_
  refine Ew.call0 (ls0 := [some (zl r.toInt64), none, some (zl (lN 0)), none, some (zl (lN 4)), none]) f210_6 rfl (Nat.le_of_ble_eq_true rfl) rfl rfl (Nat.le_of_ble_eq_true rfl) trivial (Nat.le_of_ble_eq_true rfl) rfl rfl ?_
  refine sp_in (fun c1 => ?_) (fun c1 => ?_)
  · refine Ew.ifc f210_9 rfl rfl (fun _ => ?_) (fun h => absurd (show ¬ ((nI 1) : Int32) = 0 by decide) h)
    refine Ew.ld f210_14 rfl rfl rfl rfl ?_
    refine Ew.getp (v := some (1, 0, 1)) f210_15 rfl rfl rfl ?_
    refine Ew.op (st' := zi (nI 1) :: _) f210_18 rfl rfl ?_
    refine Ew.ialdnO f210_19 rfl (show 1 < 270 by decide) (Nat.le_of_ble_eq_true rfl) rfl ?_
    refine Ew.sr (ls' := [some (zr (some (1, 0, 0))), some (zi r), some (zi (w 1))]) f210_20 rfl rfl (Nat.le_of_ble_eq_true rfl) rfl rfl ?_
    refine Ew.ld f210_21 rfl rfl rfl rfl ?_
    refine Ew.getp (v := some (1, 0, 1)) f210_22 rfl rfl rfl ?_
    refine Ew.op (st' := zi (nI 1) :: _) f210_25 rfl rfl ?_
    refine Ew.ld f210_26 rfl rfl rfl rfl ?_
    refine Ew.iastnO f210_27 (by decide) rfl (show 1 < 270 by decide) (Nat.le_of_ble_eq_true rfl) rfl ?_
    rw [zw_up]
    refine Ew.ld f210_28 rfl rfl rfl rfl ?_
    refine Ew.ld f210_29 rfl rfl rfl rfl ?_
    refine Ew.icmp f210_30 rfl rfl (fun c2 => ?_) (fun c2 => ?_)
    · refine Ew.ld f210_38 rfl rfl rfl rfl ?_
      refine Ew.ireti f210_39 ?_
      exact h1 c1 c2
    · refine Ew.op (st' := zi ((-2)) :: _) f210_33 rfl rfl ?_
      refine Ew.goto f210_35 rfl ?_
      refine Ew.ireti f210_39 ?_
      exact h2 c1 (Classical.not_not.mp c2)
  · refine Ew.ifc f210_9 rfl rfl (fun h => absurd h (show ¬ (¬ ((nI 0) : Int32) = 0) by decide)) (fun _ => ?_)
    refine Ew.op (st' := zi ((-1)) :: _) f210_12 rfl rfl ?_
    refine Ew.ireti f210_13 ?_
    exact h3 c1

/-- what is drawn -/
def rDrw (w : Nat → Int32) : Int32 := (((w 3).toInt64 * lN 1103515245 + lN 12345) &&& lN 2147483647).toInt32
theorem zmask (y : Int64) : ∃ m, m < 2147483648 ∧ (y &&& lN 2147483647).toInt32 = nI m := by
  refine ⟨(y.toBitVec &&& 2147483647#64).toNat, ?_, ?_⟩
  · rw [BitVec.toNat_and]
    exact Nat.lt_succ_of_le Nat.and_le_right
  · apply Int32.toBitVec_inj.mp
    rw [Int64.toBitVec_toInt32, BitVec.signExtend_eq_setWidth_of_le _ (by decide), Int64.toBitVec_and]
    apply BitVec.eq_of_toNat_eq
    rw [BitVec.toNat_setWidth]
    show _ = (BitVec.ofNat 32 _).toNat
    rw [BitVec.toNat_ofNat]
    rfl
theorem rDrw_nat (w : Nat → Int32) : ∃ m, m < 2147483648 ∧ rDrw w = nI m := zmask _
/-- the number that is drawn -/
def rX (w : Nat → Int32) : Nat := (rDrw w).toNatClampNeg / 65536
theorem rX_lt (w : Nat → Int32) : rX w < 32768 := by
  obtain ⟨m, hm, e⟩ := rDrw_nat w
  unfold rX
  rw [e, nI_clamp (by omega)]
  omega
theorem rX_eq (w : Nat → Int32) : rDrw w / nI 65536 = nI (rX w) := by
  obtain ⟨m, hm, e⟩ := rDrw_nat w
  unfold rX
  rw [e, nI_clamp (by omega)]
  exact pk_div (by omega) (by decide) (by decide)
def rDrwW (w : Nat → Int32) : Nat → Int32 := zup w 3 (rDrw w)
theorem sp_draws {d c s : Nat} {w : Nat → Int32} {X : zM} {ρ : Nat → Nat → Int32} {l : Nat → Nat → Int64} {Q : Option zV → zM → Prop} (k : Q (some (zi (nI (rX w)))) (OM X 1 0 (zw ρ (rDrwW w)) l)) : Ev d c s 205 0 [some (zr (some (1, 0, 0)))] [] (OM X 1 0 (zw ρ w) l) Q := by
  refine g205_0 ?_
  rw [zup_s]
  have e := rX_eq w
  unfold rDrw at e
  rw [e]
  exact k
def rRuR (w : Nat → Int32) (r : Int32) : Int32 := if w 1 = r then -2 else w 1
