/-! the reference: questions of gates, tasks, steps -/
theorem g172_0 {d c s : Nat} {x y : Int32} {w : Nat → Int32} {X : zM} {ρ : Nat → Nat → Int32} {l : Nat → Nat → Int64} {Q : Option zV → zM → Prop}
    (h1 : (lN 0 ≤ x.toInt64 ∧ x.toInt64 ≤ lN 3) → Ev (d + 2) c s 172 10 [some (zr (some (1, 0, 0))), some (zi x), some (zi y)] [] (OM X 1 0 (zw ρ w) l) Q)
    (h2 : (¬ (lN 0 ≤ x.toInt64 ∧ x.toInt64 ≤ lN 3)) → Q (some (zi ((-1)))) (OM X 1 0 (zw ρ w) l)) : Ev (d + 2) c s 172 0 [some (zr (some (1, 0, 0))), some (zi x), some (zi y)] [] (OM X 1 0 (zw ρ w) l) Q := by
  refine Ew.ld f172_0 rfl rfl rfl rfl ?_
  refine Ew.op (st' := zl x.toInt64 :: _) f172_1 rfl rfl ?_
  refine Ew.call0 (ls0 := [some (zl x.toInt64), none]) f172_2 rfl (Nat.le_of_ble_eq_true rfl) rfl rfl (Nat.le_of_ble_eq_true rfl) trivial (Nat.le_of_ble_eq_true rfl) rfl rfl ?_
  refine sp_isTask (fun c1 => ?_) (fun c1 => ?_)
  · refine Ew.ifc f172_5 rfl rfl (fun _ => ?_) (fun h => absurd (show ¬ ((nI 1) : Int32) = 0 by decide) h)
    exact h1 c1
  · refine Ew.ifc f172_5 rfl rfl (fun h => absurd h (show ¬ (¬ ((nI 0) : Int32) = 0) by decide)) (fun _ => ?_)
    refine Ew.op (st' := zi ((-1)) :: _) f172_8 rfl rfl ?_
    refine Ew.ireti f172_9 ?_
    exact h2 c1
theorem g172_10 {d c s : Nat} {t : Nat} {y : Int32} {w : Nat → Int32} {X : zM} {ρ : Nat → Nat → Int32} {l : Nat → Nat → Int64} {Q : Option zV → zM → Prop}
    (b1 : (y = nI 0) → t < 4)
    (h1 : (y = nI 0) → Q (some (zi (ρ 13 t))) (OM X 1 0 (zw ρ w) l))
    (b2 : (¬ y = nI 0) → (y = nI 1) → t < 4)
    (h2 : (¬ y = nI 0) → (y = nI 1) → Q (some (zi (ρ 14 t))) (OM X 1 0 (zw ρ w) l))
    (b3 : (¬ y = nI 0) → (¬ y = nI 1) → (y = nI 2) → t < 4)
    (h3 : (¬ y = nI 0) → (¬ y = nI 1) → (y = nI 2) → Q (some (zi (ρ 15 t))) (OM X 1 0 (zw ρ w) l))
    (b4 : (¬ y = nI 0) → (¬ y = nI 1) → (¬ y = nI 2) → (y = nI 3) → t < 4)
    (h4 : (¬ y = nI 0) → (¬ y = nI 1) → (¬ y = nI 2) → (y = nI 3) → Q (some (zi (ρ 16 t))) (OM X 1 0 (zw ρ w) l))
    (b5 : (¬ y = nI 0) → (¬ y = nI 1) → (¬ y = nI 2) → (¬ y = nI 3) → (y = nI 4) → t < 4)
    (h5 : (¬ y = nI 0) → (¬ y = nI 1) → (¬ y = nI 2) → (¬ y = nI 3) → (y = nI 4) → Q (some (zi (ρ 17 t))) (OM X 1 0 (zw ρ w) l))
    (b6 : (¬ y = nI 0) → (¬ y = nI 1) → (¬ y = nI 2) → (¬ y = nI 3) → (¬ y = nI 4) → (y = nI 5) → t < 4)
    (h6 : (¬ y = nI 0) → (¬ y = nI 1) → (¬ y = nI 2) → (¬ y = nI 3) → (¬ y = nI 4) → (y = nI 5) → Q (some (zi (ρ 18 t))) (OM X 1 0 (zw ρ w) l))
    (h7 : (¬ y = nI 0) → (¬ y = nI 1) → (¬ y = nI 2) → (¬ y = nI 3) → (¬ y = nI 4) → (¬ y = nI 5) → Q (some (zi ((-1)))) (OM X 1 0 (zw ρ w) l)) : Ev d c s 172 10 [some (zr (some (1, 0, 0))), some (zi (nI t)), some (zi y)] [] (OM X 1 0 (zw ρ w) l) Q := by
  refine Ew.ld f172_10 rfl rfl rfl rfl ?_
  by_cases c1 : y = nI 0
  · refine Ew.tsw (pc' := 48) (x := y) f172_11 (by rw [c1] <;> rfl) ?_
    refine Ew.ld f172_48 rfl rfl rfl rfl ?_
    refine Ew.getp (v := some (1, 0, 13)) f172_49 rfl rfl rfl ?_
    refine Ew.ld f172_52 rfl rfl rfl rfl ?_
    refine Ew.ialdnO f172_53 rfl (b1 c1) (Nat.le_of_ble_eq_true rfl) rfl ?_
    refine Ew.ireti f172_54 ?_
    exact h1 c1
  by_cases c2 : y = nI 1
  · refine Ew.tsw (pc' := 55) (x := y) f172_11 (by rw [c2] <;> rfl) ?_
    refine Ew.ld f172_55 rfl rfl rfl rfl ?_
    refine Ew.getp (v := some (1, 0, 14)) f172_56 rfl rfl rfl ?_
    refine Ew.ld f172_59 rfl rfl rfl rfl ?_
    refine Ew.ialdnO f172_60 rfl (b2 c1 c2) (Nat.le_of_ble_eq_true rfl) rfl ?_
    refine Ew.ireti f172_61 ?_
    exact h2 c1 c2
  by_cases c3 : y = nI 2
  · refine Ew.tsw (pc' := 62) (x := y) f172_11 (by rw [c3] <;> rfl) ?_
    refine Ew.ld f172_62 rfl rfl rfl rfl ?_
    refine Ew.getp (v := some (1, 0, 15)) f172_63 rfl rfl rfl ?_
    refine Ew.ld f172_66 rfl rfl rfl rfl ?_
    refine Ew.ialdnO f172_67 rfl (b3 c1 c2 c3) (Nat.le_of_ble_eq_true rfl) rfl ?_
    refine Ew.ireti f172_68 ?_
    exact h3 c1 c2 c3
  by_cases c4 : y = nI 3
  · refine Ew.tsw (pc' := 69) (x := y) f172_11 (by rw [c4] <;> rfl) ?_
    refine Ew.ld f172_69 rfl rfl rfl rfl ?_
    refine Ew.getp (v := some (1, 0, 16)) f172_70 rfl rfl rfl ?_
    refine Ew.ld f172_73 rfl rfl rfl rfl ?_
    refine Ew.ialdnO f172_74 rfl (b4 c1 c2 c3 c4) (Nat.le_of_ble_eq_true rfl) rfl ?_
    refine Ew.ireti f172_75 ?_
    exact h4 c1 c2 c3 c4
  by_cases c5 : y = nI 4
  · refine Ew.tsw (pc' := 76) (x := y) f172_11 (by rw [c5] <;> rfl) ?_
    refine Ew.ld f172_76 rfl rfl rfl rfl ?_
    refine Ew.getp (v := some (1, 0, 17)) f172_77 rfl rfl rfl ?_
    refine Ew.ld f172_80 rfl rfl rfl rfl ?_
    refine Ew.ialdnO f172_81 rfl (b5 c1 c2 c3 c4 c5) (Nat.le_of_ble_eq_true rfl) rfl ?_
    refine Ew.ireti f172_82 ?_
    exact h5 c1 c2 c3 c4 c5
  by_cases c6 : y = nI 5
  · refine Ew.tsw (pc' := 83) (x := y) f172_11 (by rw [c6] <;> rfl) ?_
    refine Ew.ld f172_83 rfl rfl rfl rfl ?_
    refine Ew.getp (v := some (1, 0, 18)) f172_84 rfl rfl rfl ?_
    refine Ew.ld f172_87 rfl rfl rfl rfl ?_
    refine Ew.ialdnO f172_88 rfl (b6 c1 c2 c3 c4 c5 c6) (Nat.le_of_ble_eq_true rfl) rfl ?_
    refine Ew.ireti f172_89 ?_
    exact h6 c1 c2 c3 c4 c5 c6
  refine Ew.tsw (x := y) f172_11 (ztw_o (m := 0) (n := 6) (zno (by decide) (fun k hk => by rcases (show k = 0 ∨ k = 1 ∨ k = 2 ∨ k = 3 ∨ k = 4 ∨ k = 5 by omega) with rfl | rfl | rfl | rfl | rfl | rfl <;> first | exact c1 | exact c2 | exact c3 | exact c4 | exact c5 | exact c6)) rfl rfl rfl) ?_
  refine Ew.op (st' := zi ((-1)) :: _) f172_90 rfl rfl ?_
  refine Ew.ireti f172_91 ?_
  exact h7 c1 c2 c3 c4 c5 c6
theorem g173_0 {d c s : Nat} {x y z : Int32} {w : Nat → Int32} {X : zM} {ρ : Nat → Nat → Int32} {l : Nat → Nat → Int64} {Q : Option zV → zM → Prop}
    (h1 : (lN 0 ≤ x.toInt64 ∧ x.toInt64 ≤ lN 3) → Ev (d + 2) c s 173 8 [some (zr (some (1, 0, 0))), some (zi x), some (zi z), some (zi y)] [] (OM X 1 0 (zw ρ w) l) Q)
    (h2 : (¬ (lN 0 ≤ x.toInt64 ∧ x.toInt64 ≤ lN 3)) → Q (some (zi ((-1)))) (OM X 1 0 (zw ρ w) l)) : Ev (d + 2) c s 173 0 [some (zr (some (1, 0, 0))), some (zi x), some (zi z), some (zi y)] [] (OM X 1 0 (zw ρ w) l) Q := by
  refine Ew.ld f173_0 rfl rfl rfl rfl ?_
  refine Ew.op (st' := zl x.toInt64 :: _) f173_1 rfl rfl ?_
  refine Ew.call0 (ls0 := [some (zl x.toInt64), none]) f173_2 rfl (Nat.le_of_ble_eq_true rfl) rfl rfl (Nat.le_of_ble_eq_true rfl) trivial (Nat.le_of_ble_eq_true rfl) rfl rfl ?_
  refine sp_isTask (fun c1 => ?_) (fun c1 => ?_)
  · refine Ew.ifc f173_5 rfl rfl (fun h => absurd h (show ¬ (((nI 1) : Int32) = 0) by decide)) (fun _ => ?_)
    exact h1 c1
  · refine Ew.ifc f173_5 rfl rfl (fun _ => ?_) (fun h => absurd (show ((nI 0) : Int32) = 0 by decide) h)
    refine Ew.op (st' := zi ((-1)) :: _) f173_26 rfl rfl ?_
    refine Ew.ireti f173_27 ?_
    exact h2 c1
theorem g173_8 {d c s : Nat} {t m : Nat} {y z : Int32} {w : Nat → Int32} {X : zM} {ρ : Nat → Nat → Int32} {l : Nat → Nat → Int64} {Q : Option zV → zM → Prop} (hm : ρ 13 t = nI m)
    (b1 : t < 4)
    (h1 : ((lN 0) ≤ z.toInt64 ∧ z.toInt64 ≤ (((nI m) - (nI 1)).toInt64)) → Ev (d + 1) c s 173 28 [some (zr (some (1, 0, 0))), some (zi (nI t)), some (zi z), some (zi y)] [] (OM X 1 0 (zw ρ w) l) Q)
    (h2 : (¬ ((lN 0) ≤ z.toInt64 ∧ z.toInt64 ≤ (((nI m) - (nI 1)).toInt64))) → Q (some (zi ((-1)))) (OM X 1 0 (zw ρ w) l)) : Ev (d + 1) c s 173 8 [some (zr (some (1, 0, 0))), some (zi (nI t)), some (zi z), some (zi y)] [] (OM X 1 0 (zw ρ w) l) Q := by
  refine Ew.ld f173_8 rfl rfl rfl rfl ?_
  refine Ew.op (st' := zl z.toInt64 :: _) f173_9 rfl rfl ?_
  refine Ew.op (st' := zl (lN 0) :: _) f173_10 rfl rfl ?_
  refine Ew.ld f173_11 rfl rfl rfl rfl ?_
  refine Ew.getp (v := some (1, 0, 13)) f173_12 rfl rfl rfl ?_
  refine Ew.ld f173_15 rfl rfl rfl rfl ?_
  refine Ew.ialdnV (v := nI m) f173_16 rfl b1 (Nat.le_of_ble_eq_true rfl) rfl (so_v hm) ?_
  refine Ew.op (st' := zi (nI 1) :: _) f173_17 rfl rfl ?_
  refine Ew.op (st' := zi ((nI m) - (nI 1)) :: _) f173_18 rfl rfl ?_
  refine Ew.op (st' := zl (((nI m) - (nI 1)).toInt64) :: _) f173_19 rfl rfl ?_
  refine Ew.call0 (ls0 := [some (zl z.toInt64), none, some (zl (lN 0)), none, some (zl (((nI m) - (nI 1)).toInt64)), none]) f173_20 rfl (Nat.le_of_ble_eq_true rfl) rfl rfl (Nat.le_of_ble_eq_true rfl) trivial (Nat.le_of_ble_eq_true rfl) rfl rfl ?_
  refine sp_in (fun c1 => ?_) (fun c1 => ?_)
  · refine Ew.ifc f173_23 rfl rfl (fun _ => ?_) (fun h => absurd (show ¬ ((nI 1) : Int32) = 0 by decide) h)
    exact h1 c1
  · refine Ew.ifc f173_23 rfl rfl (fun h => absurd h (show ¬ (¬ ((nI 0) : Int32) = 0) by decide)) (fun _ => ?_)
    refine Ew.op (st' := zi ((-1)) :: _) f173_26 rfl rfl ?_
    refine Ew.ireti f173_27 ?_
    exact h2 c1
theorem g173_28 {d c s : Nat} {t k : Nat} {y : Int32} {w : Nat → Int32} {X : zM} {ρ : Nat → Nat → Int32} {l : Nat → Nat → Int64} {Q : Option zV → zM → Prop}
    (h1 : (¬ y = 0) → (¬ y = (nI 1)) → (¬ y = (nI 2)) → Q (some (zi ((-1)))) (OM X 1 0 (zw ρ w) l))
    (b1 : (¬ y = 0) → (¬ y = (nI 1)) → (y = (nI 2)) → 30 * t + k < 120)
    (h2 : (¬ y = 0) → (¬ y = (nI 1)) → (y = (nI 2)) → Q (some (zi ((ρ 12 (30 * t + k)) + (nI 10)))) (OM X 1 0 (zw ρ w) l))
    (b2 : (¬ y = 0) → (y = (nI 1)) → 30 * t + k < 120)
    (h3 : (¬ y = 0) → (y = (nI 1)) → Q (some (zi (ρ 11 (30 * t + k)))) (OM X 1 0 (zw ρ w) l))
    (b3 : (y = 0) → 30 * t + k < 120)
    (h4 : (y = 0) → Q (some (zi (ρ 10 (30 * t + k)))) (OM X 1 0 (zw ρ w) l)) : Ev (d + 1) c s 173 28 [some (zr (some (1, 0, 0))), some (zi (nI t)), some (zi (nI k)), some (zi y)] [] (OM X 1 0 (zw ρ w) l) Q := by
  refine Ew.ld f173_28 rfl rfl rfl rfl ?_
  refine Ew.ifc f173_29 rfl rfl (fun c1 => ?_) (fun c1 => ?_)
  · refine Ew.ld f173_41 rfl rfl rfl rfl ?_
    refine Ew.op (st' := zi (nI 1) :: _) f173_42 rfl rfl ?_
    refine Ew.icmp f173_43 rfl rfl (fun c2 => ?_) (fun c2 => ?_)
    · refine Ew.ld f173_55 rfl rfl rfl rfl ?_
      refine Ew.op (st' := zi (nI 2) :: _) f173_56 rfl rfl ?_
      refine Ew.icmp f173_57 rfl rfl (fun c3 => ?_) (fun c3 => ?_)
      · refine Ew.op (st' := zi ((-1)) :: _) f173_77 rfl rfl ?_
        refine Ew.ireti f173_78 ?_
        exact h1 c1 c2 c3
      · refine Ew.ld f173_60 rfl rfl rfl rfl ?_
        refine Ew.getp (v := some (1, 0, 12)) f173_61 rfl rfl rfl ?_
        refine Ew.op (st' := zi (nI 30) :: _) f173_64 rfl rfl ?_
        refine Ew.ld f173_66 rfl rfl rfl rfl ?_
        refine Ew.muln f173_67 rfl ?_
        refine Ew.ld f173_68 rfl rfl rfl rfl ?_
        refine Ew.addn f173_69 rfl ?_
        refine Ew.ialdnO f173_70 rfl (b1 c1 c2 (Classical.not_not.mp c3)) (Nat.le_of_ble_eq_true rfl) rfl ?_
        refine Ew.op (st' := zi (nI 10) :: _) f173_71 rfl rfl ?_
        refine Ew.op (st' := zi ((ρ 12 (30 * t + k)) + (nI 10)) :: _) f173_73 rfl rfl ?_
        refine Ew.goto f173_74 rfl ?_
        refine Ew.ireti f173_78 ?_
        exact h2 c1 c2 (Classical.not_not.mp c3)
    · refine Ew.ld f173_46 rfl rfl rfl rfl ?_
      refine Ew.ld f173_47 rfl rfl rfl rfl ?_
      refine Ew.ld f173_48 rfl rfl rfl rfl ?_
      refine Ew.call0 (ls0 := [some (zr (some (1, 0, 0))), some (zi (nI t)), some (zi (nI k))]) f173_49 rfl (Nat.le_of_ble_eq_true rfl) rfl rfl (Nat.le_of_ble_eq_true rfl) rfl (Nat.le_of_ble_eq_true rfl) rfl rfl ?_
      refine Ew.ld f171_0 rfl rfl rfl rfl ?_
      refine Ew.getp (v := some (1, 0, 11)) f171_1 rfl rfl rfl ?_
      refine Ew.op (st' := zi (nI 30) :: _) f171_4 rfl rfl ?_
      refine Ew.ld f171_6 rfl rfl rfl rfl ?_
      refine Ew.muln f171_7 rfl ?_
      refine Ew.ld f171_8 rfl rfl rfl rfl ?_
      refine Ew.addn f171_9 rfl ?_
      refine Ew.ialdnO f171_10 rfl (b2 c1 (Classical.not_not.mp c2)) (Nat.le_of_ble_eq_true rfl) rfl ?_
      refine Ew.ireti f171_11 ?_
      show Ev (d + 1) c s 173 52 [some (zr (some (1, 0, 0))), some (zi (nI t)), some (zi (nI k)), some (zi y)] [zi (ρ 11 (30 * t + k))] (OM X 1 0 (zw ρ w) l) Q
      refine Ew.goto f173_52 rfl ?_
      refine Ew.ireti f173_78 ?_
      exact h3 c1 (Classical.not_not.mp c2)
  · refine Ew.ld f173_32 rfl rfl rfl rfl ?_
    refine Ew.ld f173_33 rfl rfl rfl rfl ?_
    refine Ew.ld f173_34 rfl rfl rfl rfl ?_
    refine Ew.call0 (ls0 := [some (zr (some (1, 0, 0))), some (zi (nI t)), some (zi (nI k))]) f173_35 rfl (Nat.le_of_ble_eq_true rfl) rfl rfl (Nat.le_of_ble_eq_true rfl) rfl (Nat.le_of_ble_eq_true rfl) rfl rfl ?_
    refine Ew.ld f170_0 rfl rfl rfl rfl ?_
    refine Ew.getp (v := some (1, 0, 10)) f170_1 rfl rfl rfl ?_
    refine Ew.op (st' := zi (nI 30) :: _) f170_4 rfl rfl ?_
    refine Ew.ld f170_6 rfl rfl rfl rfl ?_
    refine Ew.muln f170_7 rfl ?_
    refine Ew.ld f170_8 rfl rfl rfl rfl ?_
    refine Ew.addn f170_9 rfl ?_
    refine Ew.ialdnO f170_10 rfl (b3 (Classical.not_not.mp c1)) (Nat.le_of_ble_eq_true rfl) rfl ?_
    refine Ew.ireti f170_11 ?_
    show Ev (d + 1) c s 173 38 [some (zr (some (1, 0, 0))), some (zi (nI t)), some (zi (nI k)), some (zi y)] [zi (ρ 10 (30 * t + k))] (OM X 1 0 (zw ρ w) l) Q
    refine Ew.goto f173_38 rfl ?_
    refine Ew.ireti f173_78 ?_
    exact h4 (Classical.not_not.mp c1)
theorem g218_0 {d c s : Nat} {y : Int32} {w : Nat → Int32} {X : zM} {ρ : Nat → Nat → Int32} {l : Nat → Nat → Int64} {Q : Option zV → zM → Prop}
    (h1 : (y = nI 0) → Q (some (zi (w 1))) (OM X 1 0 (zw ρ w) l))
    (h2 : (¬ y = nI 0) → (y = nI 1) → Q (some (zi (rThose (zw ρ w) y))) (OM X 1 0 (zw ρ w) l))
    (h3 : (¬ y = nI 0) → (¬ y = nI 1) → (y = nI 2) → Q (some (zi (rThose (zw ρ w) y))) (OM X 1 0 (zw ρ w) l))
    (h4 : (¬ y = nI 0) → (¬ y = nI 1) → (¬ y = nI 2) → (y = nI 3) → Q (some (zi (rThose (zw ρ w) y))) (OM X 1 0 (zw ρ w) l))
    (h5 : (¬ y = nI 0) → (¬ y = nI 1) → (¬ y = nI 2) → (¬ y = nI 3) → (y = nI 4) → Q (some (zi (rThose (zw ρ w) y))) (OM X 1 0 (zw ρ w) l))
    (b1 : (¬ y = nI 0) → (¬ y = nI 1) → (¬ y = nI 2) → (¬ y = nI 3) → (¬ y = nI 4) → (y = nI 5) → rDok (zw ρ w))
    (b2 : (¬ y = nI 0) → (¬ y = nI 1) → (¬ y = nI 2) → (¬ y = nI 3) → (¬ y = nI 4) → (y = nI 5) → rWok (zw ρ w))
    (h6 : (¬ y = nI 0) → (¬ y = nI 1) → (¬ y = nI 2) → (¬ y = nI 3) → (¬ y = nI 4) → (y = nI 5) → Q (some (zi (rRgdL (zw ρ w) 4))) (OM X 1 0 (zw ρ w) l))
    (h7 : (¬ y = nI 0) → (¬ y = nI 1) → (¬ y = nI 2) → (¬ y = nI 3) → (¬ y = nI 4) → (¬ y = nI 5) → (y = nI 6) → Q (some (zi (w 0))) (OM X 1 0 (zw ρ w) l))
    (h8 : (¬ y = nI 0) → (¬ y = nI 1) → (¬ y = nI 2) → (¬ y = nI 3) → (¬ y = nI 4) → (¬ y = nI 5) → (¬ y = nI 6) → (y = nI 7) → Q (some (zi (w 2))) (OM X 1 0 (zw ρ w) l))
    (h9 : (¬ y = nI 0) → (¬ y = nI 1) → (¬ y = nI 2) → (¬ y = nI 3) → (¬ y = nI 4) → (¬ y = nI 5) → (¬ y = nI 6) → (¬ y = nI 7) → (y = nI 8) → Q (some (zi (ρ 0 2))) (OM X 1 0 (zw ρ w) l))
    (h10 : (¬ y = nI 0) → (¬ y = nI 1) → (¬ y = nI 2) → (¬ y = nI 3) → (¬ y = nI 4) → (¬ y = nI 5) → (¬ y = nI 6) → (¬ y = nI 7) → (¬ y = nI 8) → Q (some (zi ((-1)))) (OM X 1 0 (zw ρ w) l)) : Ev (d + 6) c s 218 0 [some (zr (some (1, 0, 0))), some (zi y)] [] (OM X 1 0 (zw ρ w) l) Q := by
  refine Ew.ld f218_0 rfl rfl rfl rfl ?_
  by_cases c1 : y = nI 0
  · refine Ew.tsw (pc' := 52) (x := y) f218_1 (by rw [c1] <;> rfl) ?_
    refine Ew.ld f218_52 rfl rfl rfl rfl ?_
    refine Ew.getp (v := some (1, 0, 1)) f218_53 rfl rfl rfl ?_
    refine Ew.op (st' := zi (nI 1) :: _) f218_56 rfl rfl ?_
    refine Ew.ialdnO f218_57 rfl (show 1 < 270 by decide) (Nat.le_of_ble_eq_true rfl) rfl ?_
    refine Ew.ireti f218_58 ?_
    exact h1 c1
  by_cases c2 : y = nI 1
  · refine Ew.tsw (pc' := 59) (x := y) f218_1 (by rw [c2] <;> rfl) ?_
    refine Ew.ld f218_59 rfl rfl rfl rfl ?_
    refine Ew.ld f218_60 rfl rfl rfl rfl ?_
    refine Ew.call0 (ls0 := [some (zr (some (1, 0, 0))), some (zi y), none, none]) f218_61 rfl (Nat.le_of_ble_eq_true rfl) rfl rfl (Nat.le_of_ble_eq_true rfl) rfl (Nat.le_of_ble_eq_true rfl) rfl rfl ?_
    refine sp_those ?_
    show Ev (d + 6) c s 218 64 [some (zr (some (1, 0, 0))), some (zi y)] [zi (rThose (zw ρ w) y)] (OM X 1 0 (zw ρ w) l) Q
    refine Ew.ireti f218_64 ?_
    exact h2 c1 c2
  by_cases c3 : y = nI 2
  · refine Ew.tsw (pc' := 59) (x := y) f218_1 (by rw [c3] <;> rfl) ?_
    refine Ew.ld f218_59 rfl rfl rfl rfl ?_
    refine Ew.ld f218_60 rfl rfl rfl rfl ?_
    refine Ew.call0 (ls0 := [some (zr (some (1, 0, 0))), some (zi y), none, none]) f218_61 rfl (Nat.le_of_ble_eq_true rfl) rfl rfl (Nat.le_of_ble_eq_true rfl) rfl (Nat.le_of_ble_eq_true rfl) rfl rfl ?_
    refine sp_those ?_
    show Ev (d + 6) c s 218 64 [some (zr (some (1, 0, 0))), some (zi y)] [zi (rThose (zw ρ w) y)] (OM X 1 0 (zw ρ w) l) Q
    refine Ew.ireti f218_64 ?_
    exact h3 c1 c2 c3
  by_cases c4 : y = nI 3
  · refine Ew.tsw (pc' := 59) (x := y) f218_1 (by rw [c4] <;> rfl) ?_
    refine Ew.ld f218_59 rfl rfl rfl rfl ?_
    refine Ew.ld f218_60 rfl rfl rfl rfl ?_
    refine Ew.call0 (ls0 := [some (zr (some (1, 0, 0))), some (zi y), none, none]) f218_61 rfl (Nat.le_of_ble_eq_true rfl) rfl rfl (Nat.le_of_ble_eq_true rfl) rfl (Nat.le_of_ble_eq_true rfl) rfl rfl ?_
    refine sp_those ?_
    show Ev (d + 6) c s 218 64 [some (zr (some (1, 0, 0))), some (zi y)] [zi (rThose (zw ρ w) y)] (OM X 1 0 (zw ρ w) l) Q
    refine Ew.ireti f218_64 ?_
    exact h4 c1 c2 c3 c4
  by_cases c5 : y = nI 4
  · refine Ew.tsw (pc' := 59) (x := y) f218_1 (by rw [c5] <;> rfl) ?_
    refine Ew.ld f218_59 rfl rfl rfl rfl ?_
    refine Ew.ld f218_60 rfl rfl rfl rfl ?_
    refine Ew.call0 (ls0 := [some (zr (some (1, 0, 0))), some (zi y), none, none]) f218_61 rfl (Nat.le_of_ble_eq_true rfl) rfl rfl (Nat.le_of_ble_eq_true rfl) rfl (Nat.le_of_ble_eq_true rfl) rfl rfl ?_
    refine sp_those ?_
    show Ev (d + 6) c s 218 64 [some (zr (some (1, 0, 0))), some (zi y)] [zi (rThose (zw ρ w) y)] (OM X 1 0 (zw ρ w) l) Q
    refine Ew.ireti f218_64 ?_
    exact h5 c1 c2 c3 c4 c5
  by_cases c6 : y = nI 5
  · refine Ew.tsw (pc' := 65) (x := y) f218_1 (by rw [c6] <;> rfl) ?_
    refine Ew.ld f218_65 rfl rfl rfl rfl ?_
    refine Ew.call0 (ls0 := [some (zr (some (1, 0, 0))), none, none]) f218_66 rfl (Nat.le_of_ble_eq_true rfl) rfl rfl (Nat.le_of_ble_eq_true rfl) rfl (Nat.le_of_ble_eq_true rfl) rfl rfl ?_
    refine sp_ringed (b1 c1 c2 c3 c4 c5 c6) (b2 c1 c2 c3 c4 c5 c6) ?_
    show Ev (d + 6) c s 218 69 [some (zr (some (1, 0, 0))), some (zi y)] [zi (rRgdL (zw ρ w) 4)] (OM X 1 0 (zw ρ w) l) Q
    refine Ew.ireti f218_69 ?_
    exact h6 c1 c2 c3 c4 c5 c6
  by_cases c7 : y = nI 6
  · refine Ew.tsw (pc' := 70) (x := y) f218_1 (by rw [c7] <;> rfl) ?_
    refine Ew.ld f218_70 rfl rfl rfl rfl ?_
    refine Ew.getp (v := some (1, 0, 1)) f218_71 rfl rfl rfl ?_
    refine Ew.op (st' := zi (nI 0) :: _) f218_74 rfl rfl ?_
    refine Ew.ialdnO f218_75 rfl (show 0 < 270 by decide) (Nat.le_of_ble_eq_true rfl) rfl ?_
    refine Ew.ireti f218_76 ?_
    exact h7 c1 c2 c3 c4 c5 c6 c7
  by_cases c8 : y = nI 7
  · refine Ew.tsw (pc' := 77) (x := y) f218_1 (by rw [c8] <;> rfl) ?_
    refine Ew.ld f218_77 rfl rfl rfl rfl ?_
    refine Ew.getp (v := some (1, 0, 1)) f218_78 rfl rfl rfl ?_
    refine Ew.op (st' := zi (nI 2) :: _) f218_81 rfl rfl ?_
    refine Ew.ialdnO f218_82 rfl (show 2 < 270 by decide) (Nat.le_of_ble_eq_true rfl) rfl ?_
    refine Ew.ireti f218_83 ?_
    exact h8 c1 c2 c3 c4 c5 c6 c7 c8
  by_cases c9 : y = nI 8
  · refine Ew.tsw (pc' := 84) (x := y) f218_1 (by rw [c9] <;> rfl) ?_
    refine Ew.ld f218_84 rfl rfl rfl rfl ?_
    refine Ew.getiO f218_85 rfl rfl ?_
    refine Ew.ireti f218_88 ?_
    exact h9 c1 c2 c3 c4 c5 c6 c7 c8 c9
  refine Ew.tsw (x := y) f218_1 (ztw_o (m := 0) (n := 9) (zno (by decide) (fun k hk => by rcases (show k = 0 ∨ k = 1 ∨ k = 2 ∨ k = 3 ∨ k = 4 ∨ k = 5 ∨ k = 6 ∨ k = 7 ∨ k = 8 by omega) with rfl | rfl | rfl | rfl | rfl | rfl | rfl | rfl | rfl <;> first | exact c1 | exact c2 | exact c3 | exact c4 | exact c5 | exact c6 | exact c7 | exact c8 | exact c9)) rfl rfl rfl) ?_
  refine Ew.op (st' := zi ((-1)) :: _) f218_89 rfl rfl ?_
  refine Ew.ireti f218_90 ?_
  exact h10 c1 c2 c3 c4 c5 c6 c7 c8 c9
theorem g214_0 {d c s : Nat} {x y : Int32} {w : Nat → Int32} {X : zM} {ρ : Nat → Nat → Int32} {l : Nat → Nat → Int64} {Q : Option zV → zM → Prop}
    (h1 : (lN 0 ≤ x.toInt64 ∧ x.toInt64 ≤ lN 5) → Ev (d + 2) c s 214 9 [some (zr (some (1, 0, 0))), some (zi x), some (zi y), none] [] (OM X 1 0 (zw ρ w) l) Q)
    (h2 : (¬ (lN 0 ≤ x.toInt64 ∧ x.toInt64 ≤ lN 5)) → Q (some (zi ((-1)))) (OM X 1 0 (zw ρ w) l)) : Ev (d + 2) c s 214 0 [some (zr (some (1, 0, 0))), some (zi x), some (zi y), none] [] (OM X 1 0 (zw ρ w) l) Q := by
  refine Ew.ld f214_0 rfl rfl rfl rfl ?_
  refine Ew.call0 (ls0 := [some (zi x)]) f214_1 rfl (Nat.le_of_ble_eq_true rfl) rfl rfl (Nat.le_of_ble_eq_true rfl) trivial (Nat.le_of_ble_eq_true rfl) rfl rfl ?_
  refine sp_isGate (fun c1 => ?_) (fun c1 => ?_)
  · refine Ew.ifc f214_4 rfl rfl (fun _ => ?_) (fun h => absurd (show ¬ ((nI 1) : Int32) = 0 by decide) h)
    exact h1 c1
  · refine Ew.ifc f214_4 rfl rfl (fun h => absurd h (show ¬ (¬ ((nI 0) : Int32) = 0) by decide)) (fun _ => ?_)
    refine Ew.op (st' := zi ((-1)) :: _) f214_7 rfl rfl ?_
    refine Ew.ireti f214_8 ?_
    exact h2 c1
theorem g214_9 {d c s : Nat} {g : Nat} {y : Int32} {w : Nat → Int32} {X : zM} {ρ : Nat → Nat → Int32} {l : Nat → Nat → Int64} {Q : Option zV → zM → Prop}
    (b1 : rDok (zw ρ w))
    (b2 : (y = nI 0) → 4 + g < 270)
    (h1 : (y = nI 0) → Q (some (zi ((w (4 + g)) + (nI 1000000)))) (OM X 1 0 (zw ρ w) l))
    (h2 : (¬ y = nI 0) → (y = nI 1) → Q (some (zi (rHold (zw ρ w) (nI g)))) (OM X 1 0 (zw ρ w) l))
    (h3 : (¬ y = nI 0) → (¬ y = nI 1) → (y = nI 2) → (0 ≤ (rHold (zw ρ w) (nI g))) → Ev (d + 3) c s 214 75 [some (zr (some (1, 0, 0))), some (zi (nI g)), some (zi y), some (zi (rHold (zw ρ w) (nI g)))] [] (OM X 1 0 (zw ρ w) l) Q)
    (h4 : (¬ y = nI 0) → (¬ y = nI 1) → (y = nI 2) → ((rHold (zw ρ w) (nI g)) < 0) → Q (some (zi (nI 0))) (OM X 1 0 (zw ρ w) l))
    (h5 : (¬ y = nI 0) → (¬ y = nI 1) → (¬ y = nI 2) → (y = nI 3) → (¬ (((w 0) >>> ((nI g) &&& 31)) &&& (nI 1)) = (nI 1)) → Q (some (zi (nI 0))) (OM X 1 0 (zw ρ w) l))
    (h6 : (¬ y = nI 0) → (¬ y = nI 1) → (¬ y = nI 2) → (y = nI 3) → ((((w 0) >>> ((nI g) &&& 31)) &&& (nI 1)) = (nI 1)) → Q (some (zi (nI 1))) (OM X 1 0 (zw ρ w) l))
    (b3 : (¬ y = nI 0) → (¬ y = nI 1) → (¬ y = nI 2) → (¬ y = nI 3) → (y = nI 4) → rDok (zw ρ w))
    (b4 : (¬ y = nI 0) → (¬ y = nI 1) → (¬ y = nI 2) → (¬ y = nI 3) → (y = nI 4) → rWok (zw ρ w))
    (h7 : (¬ y = nI 0) → (¬ y = nI 1) → (¬ y = nI 2) → (¬ y = nI 3) → (y = nI 4) → Q (some (zi (rWtrL (zw ρ w) (nI g) 4))) (OM X 1 0 (zw ρ w) l))
    (h8 : (¬ y = nI 0) → (¬ y = nI 1) → (¬ y = nI 2) → (¬ y = nI 3) → (¬ y = nI 4) → Q (some (zi ((-1)))) (OM X 1 0 (zw ρ w) l)) : Ev (d + 3) c s 214 9 [some (zr (some (1, 0, 0))), some (zi (nI g)), some (zi y), none] [] (OM X 1 0 (zw ρ w) l) Q := by
  refine Ew.ld f214_9 rfl rfl rfl rfl ?_
  refine Ew.ld f214_10 rfl rfl rfl rfl ?_
  refine Ew.call0 (ls0 := [some (zr (some (1, 0, 0))), some (zi (nI g)), none, none]) f214_11 rfl (Nat.le_of_ble_eq_true rfl) rfl rfl (Nat.le_of_ble_eq_true rfl) rfl (Nat.le_of_ble_eq_true rfl) rfl rfl ?_
  refine sp_holder b1 ?_
  show Ev (d + 3) c s 214 14 [some (zr (some (1, 0, 0))), some (zi (nI g)), some (zi y), none] [zi (rHold (zw ρ w) (nI g))] (OM X 1 0 (zw ρ w) l) Q
  refine Ew.sr (ls' := [some (zr (some (1, 0, 0))), some (zi (nI g)), some (zi y), some (zi (rHold (zw ρ w) (nI g)))]) f214_14 rfl rfl (Nat.le_of_ble_eq_true rfl) rfl rfl ?_
  refine Ew.ld f214_15 rfl rfl rfl rfl ?_
  by_cases c1 : y = nI 0
  · refine Ew.tsw (pc' := 52) (x := y) f214_16 (by rw [c1] <;> rfl) ?_
    refine Ew.ld f214_52 rfl rfl rfl rfl ?_
    refine Ew.getp (v := some (1, 0, 1)) f214_53 rfl rfl rfl ?_
    refine Ew.op (st' := zi (nI 4) :: _) f214_56 rfl rfl ?_
    refine Ew.ld f214_57 rfl rfl rfl rfl ?_
    refine Ew.addn f214_58 rfl ?_
    refine Ew.ialdnO f214_59 rfl (b2 c1) (Nat.le_of_ble_eq_true rfl) rfl ?_
    refine Ew.op (st' := zi (nI 1000000) :: _) f214_60 rfl rfl ?_
    refine Ew.op (st' := zi ((w (4 + g)) + (nI 1000000)) :: _) f214_63 rfl rfl ?_
    refine Ew.ireti f214_64 ?_
    exact h1 c1
  by_cases c2 : y = nI 1
  · refine Ew.tsw (pc' := 65) (x := y) f214_16 (by rw [c2] <;> rfl) ?_
    refine Ew.ld f214_65 rfl rfl rfl rfl ?_
    refine Ew.ireti f214_66 ?_
    exact h2 c1 c2
  by_cases c3 : y = nI 2
  · refine Ew.tsw (pc' := 67) (x := y) f214_16 (by rw [c3] <;> rfl) ?_
    refine Ew.ld f214_67 rfl rfl rfl rfl ?_
    refine Ew.ifc f214_68 rfl rfl (fun c4 => ?_) (fun c4 => ?_)
    · exact h3 c1 c2 c3 c4
    · refine Ew.op (st' := zi (nI 0) :: _) f214_71 rfl rfl ?_
      refine Ew.goto f214_72 rfl ?_
      refine Ew.ireti f214_87 ?_
      exact h4 c1 c2 c3 (Int32.not_le.mp c4)
  by_cases c5 : y = nI 3
  · refine Ew.tsw (pc' := 88) (x := y) f214_16 (by rw [c5] <;> rfl) ?_
    refine Ew.ld f214_88 rfl rfl rfl rfl ?_
    refine Ew.getp (v := some (1, 0, 1)) f214_89 rfl rfl rfl ?_
    refine Ew.op (st' := zi (nI 0) :: _) f214_92 rfl rfl ?_
    refine Ew.ialdnO f214_93 rfl (show 0 < 270 by decide) (Nat.le_of_ble_eq_true rfl) rfl ?_
    refine Ew.ld f214_94 rfl rfl rfl rfl ?_
    refine Ew.call0 (ls0 := [some (zi (w 0)), some (zi (nI g))]) f214_95 rfl (Nat.le_of_ble_eq_true rfl) rfl rfl (Nat.le_of_ble_eq_true rfl) trivial (Nat.le_of_ble_eq_true rfl) rfl rfl ?_
    refine Ew.ld f152_0 rfl rfl rfl rfl ?_
    refine Ew.ld f152_1 rfl rfl rfl rfl ?_
    refine Ew.op (st' := zi ((w 0) >>> ((nI g) &&& 31)) :: _) f152_2 rfl rfl ?_
    refine Ew.op (st' := zi (nI 1) :: _) f152_3 rfl rfl ?_
    refine Ew.op (st' := zi (((w 0) >>> ((nI g) &&& 31)) &&& (nI 1)) :: _) f152_4 rfl rfl ?_
    refine Ew.op (st' := zi (nI 1) :: _) f152_5 rfl rfl ?_
    refine Ew.icmp f152_6 rfl rfl (fun c6 => ?_) (fun c6 => ?_)
    · refine Ew.op (st' := zi (nI 0) :: _) f152_13 rfl rfl ?_
      refine Ew.iretb f152_14 (Or.inl rfl) ?_
      show Ev (d + 3) c s 214 98 [some (zr (some (1, 0, 0))), some (zi (nI g)), some (zi y), some (zi (rHold (zw ρ w) (nI g)))] [zi (nI 0)] (OM X 1 0 (zw ρ w) l) Q
      refine Ew.ifc f214_98 rfl rfl (fun _ => ?_) (fun h => absurd (show ((nI 0) : Int32) = 0 by decide) h)
      refine Ew.op (st' := zi (nI 0) :: _) f214_105 rfl rfl ?_
      refine Ew.ireti f214_106 ?_
      exact h5 c1 c2 c3 c5 c6
    · refine Ew.op (st' := zi (nI 1) :: _) f152_9 rfl rfl ?_
      refine Ew.goto f152_10 rfl ?_
      refine Ew.iretb f152_14 (Or.inr rfl) ?_
      show Ev (d + 3) c s 214 98 [some (zr (some (1, 0, 0))), some (zi (nI g)), some (zi y), some (zi (rHold (zw ρ w) (nI g)))] [zi (nI 1)] (OM X 1 0 (zw ρ w) l) Q
      refine Ew.ifc f214_98 rfl rfl (fun h => absurd h (show ¬ (((nI 1) : Int32) = 0) by decide)) (fun _ => ?_)
      refine Ew.op (st' := zi (nI 1) :: _) f214_101 rfl rfl ?_
      refine Ew.goto f214_102 rfl ?_
      refine Ew.ireti f214_106 ?_
      exact h6 c1 c2 c3 c5 (Classical.not_not.mp c6)
  by_cases c7 : y = nI 4
  · refine Ew.tsw (pc' := 107) (x := y) f214_16 (by rw [c7] <;> rfl) ?_
    refine Ew.ld f214_107 rfl rfl rfl rfl ?_
    refine Ew.ld f214_108 rfl rfl rfl rfl ?_
    refine Ew.call0 (ls0 := [some (zr (some (1, 0, 0))), some (zi (nI g)), none, none]) f214_109 rfl (Nat.le_of_ble_eq_true rfl) rfl rfl (Nat.le_of_ble_eq_true rfl) rfl (Nat.le_of_ble_eq_true rfl) rfl rfl ?_
    refine sp_waiters (b3 c1 c2 c3 c5 c7) (b4 c1 c2 c3 c5 c7) ?_
    show Ev (d + 3) c s 214 112 [some (zr (some (1, 0, 0))), some (zi (nI g)), some (zi y), some (zi (rHold (zw ρ w) (nI g)))] [zi (rWtrL (zw ρ w) (nI g) 4)] (OM X 1 0 (zw ρ w) l) Q
    refine Ew.ireti f214_112 ?_
    exact h7 c1 c2 c3 c5 c7
  refine Ew.tsw (x := y) f214_16 (ztw_o (m := 0) (n := 5) (zno (by decide) (fun k hk => by rcases (show k = 0 ∨ k = 1 ∨ k = 2 ∨ k = 3 ∨ k = 4 by omega) with rfl | rfl | rfl | rfl | rfl <;> first | exact c1 | exact c2 | exact c3 | exact c5 | exact c7)) rfl rfl rfl) ?_
  refine Ew.op (st' := zi ((-1)) :: _) f214_113 rfl rfl ?_
  refine Ew.ireti f214_114 ?_
  exact h8 c1 c2 c3 c5 c7
theorem g214_75 {d c s : Nat} {g h D : Nat} {y : Int32} {w : Nat → Int32} {X : zM} {ρ : Nat → Nat → Int32} {l : Nat → Nat → Int64} {Q : Option zV → zM → Prop} (hD : w (10 + 4 * h + 1) = nI D)
    (b1 : 10 + 4 * h + 1 < 270)
    (b2 : h < 4)
    (b3 : D ≤ 30)
    (h1 : Q (some (zi (rIns (zw ρ w) h D (nI g)))) (OM X 1 0 (zw ρ w) l)) : Ev (d + 2) c s 214 75 [some (zr (some (1, 0, 0))), some (zi (nI g)), some (zi y), some (zi (nI h))] [] (OM X 1 0 (zw ρ w) l) Q := by
  refine Ew.ld f214_75 rfl rfl rfl rfl ?_
  refine Ew.ld f214_76 rfl rfl rfl rfl ?_
  refine Ew.ld f214_77 rfl rfl rfl rfl ?_
  refine Ew.ld f214_78 rfl rfl rfl rfl ?_
  refine Ew.op (st' := zi (nI 1) :: _) f214_79 rfl rfl ?_
  refine Ew.call0 (ls0 := [some (zr (some (1, 0, 0))), some (zi (nI h)), some (zi (nI 1))]) f214_80 rfl (Nat.le_of_ble_eq_true rfl) rfl rfl (Nat.le_of_ble_eq_true rfl) rfl (Nat.le_of_ble_eq_true rfl) rfl rfl ?_
  refine Ew.ld f156_0 rfl rfl rfl rfl ?_
  refine Ew.getp (v := some (1, 0, 1)) f156_1 rfl rfl rfl ?_
  refine Ew.op (st' := zi (nI 10) :: _) f156_4 rfl rfl ?_
  refine Ew.op (st' := zi (nI 4) :: _) f156_6 rfl rfl ?_
  refine Ew.ld f156_7 rfl rfl rfl rfl ?_
  refine Ew.muln f156_8 rfl ?_
  refine Ew.addn f156_9 rfl ?_
  refine Ew.ld f156_10 rfl rfl rfl rfl ?_
  refine Ew.addn f156_11 rfl ?_
  refine Ew.ialdnV (v := nI D) f156_12 rfl b1 (Nat.le_of_ble_eq_true rfl) rfl (so_v hD) ?_
  refine Ew.ireti f156_13 ?_
  show Ev (d + 2) c s 214 83 [some (zr (some (1, 0, 0))), some (zi (nI g)), some (zi y), some (zi (nI h))] [zi (nI D), zi (nI h), zr (some (1, 0, 0))] (OM X 1 0 (zw ρ w) l) Q
  refine Ew.ld f214_83 rfl rfl rfl rfl ?_
  refine Ew.call0 (ls0 := [some (zr (some (1, 0, 0))), some (zi (nI h)), some (zi (nI D)), some (zi (nI g)), none, none]) f214_84 rfl (Nat.le_of_ble_eq_true rfl) rfl rfl (Nat.le_of_ble_eq_true rfl) rfl (Nat.le_of_ble_eq_true rfl) rfl rfl ?_
  refine sp_insides b2 b3 ?_
  show Ev (d + 2) c s 214 87 [some (zr (some (1, 0, 0))), some (zi (nI g)), some (zi y), some (zi (nI h))] [zi (rIns (zw ρ w) h D (nI g))] (OM X 1 0 (zw ρ w) l) Q
  refine Ew.ireti f214_87 ?_
  exact h1
theorem g215_0 {d c s : Nat} {x y : Int32} {w : Nat → Int32} {X : zM} {ρ : Nat → Nat → Int32} {l : Nat → Nat → Int64} {Q : Option zV → zM → Prop}
    (h1 : (lN 0 ≤ x.toInt64 ∧ x.toInt64 ≤ lN 3) → Ev (d + 2) c s 215 10 [some (zr (some (1, 0, 0))), some (zi x), some (zi y)] [] (OM X 1 0 (zw ρ w) l) Q)
    (h2 : (¬ (lN 0 ≤ x.toInt64 ∧ x.toInt64 ≤ lN 3)) → Q (some (zi ((-1)))) (OM X 1 0 (zw ρ w) l)) : Ev (d + 2) c s 215 0 [some (zr (some (1, 0, 0))), some (zi x), some (zi y)] [] (OM X 1 0 (zw ρ w) l) Q := by
  refine Ew.ld f215_0 rfl rfl rfl rfl ?_
  refine Ew.op (st' := zl x.toInt64 :: _) f215_1 rfl rfl ?_
  refine Ew.call0 (ls0 := [some (zl x.toInt64), none]) f215_2 rfl (Nat.le_of_ble_eq_true rfl) rfl rfl (Nat.le_of_ble_eq_true rfl) trivial (Nat.le_of_ble_eq_true rfl) rfl rfl ?_
  refine sp_isTask (fun c1 => ?_) (fun c1 => ?_)
  · refine Ew.ifc f215_5 rfl rfl (fun _ => ?_) (fun h => absurd (show ¬ ((nI 1) : Int32) = 0 by decide) h)
    exact h1 c1
  · refine Ew.ifc f215_5 rfl rfl (fun h => absurd h (show ¬ (¬ ((nI 0) : Int32) = 0) by decide)) (fun _ => ?_)
    refine Ew.op (st' := zi ((-1)) :: _) f215_8 rfl rfl ?_
    refine Ew.ireti f215_9 ?_
    exact h2 c1
theorem g215_10 {d c s : Nat} {t D : Nat} {y : Int32} {w : Nat → Int32} {X : zM} {ρ : Nat → Nat → Int32} {l : Nat → Nat → Int64} {Q : Option zV → zM → Prop} (hD : w (10 + 4 * t + 1) = nI D)
    (h1 : (y = nI 0) → Ev (d + 5) c s 215 52 [some (zr (some (1, 0, 0))), some (zi (nI t)), some (zi y)] [] (OM X 1 0 (zw ρ w) l) Q)
    (h2 : (¬ y = nI 0) → (y = nI 1) → Ev (d + 5) c s 215 52 [some (zr (some (1, 0, 0))), some (zi (nI t)), some (zi y)] [] (OM X 1 0 (zw ρ w) l) Q)
    (b1 : (¬ y = nI 0) → (¬ y = nI 1) → (y = nI 2) → 10 + 4 * t + 1 < 270)
    (b2 : (¬ y = nI 0) → (¬ y = nI 1) → (y = nI 2) → t < 4)
    (b3 : (¬ y = nI 0) → (¬ y = nI 1) → (y = nI 2) → D ≤ 30)
    (h3 : (¬ y = nI 0) → (¬ y = nI 1) → (y = nI 2) → Q (some (zi (rSet (zw ρ w) t D))) (OM X 1 0 (zw ρ w) l))
    (b4 : (¬ y = nI 0) → (¬ y = nI 1) → (¬ y = nI 2) → (y = nI 3) → t < 4)
    (b5 : (¬ y = nI 0) → (¬ y = nI 1) → (¬ y = nI 2) → (y = nI 3) → rDok (zw ρ w))
    (b6 : (¬ y = nI 0) → (¬ y = nI 1) → (¬ y = nI 2) → (y = nI 3) → rWok (zw ρ w))
    (h4 : (¬ y = nI 0) → (¬ y = nI 1) → (¬ y = nI 2) → (y = nI 3) → Q (some (zi (rWait (zw ρ w) t))) (OM X 1 0 (zw ρ w) l))
    (b7 : (¬ y = nI 0) → (¬ y = nI 1) → (¬ y = nI 2) → (¬ y = nI 3) → (y = nI 4) → 10 + 4 * t + 2 < 270)
    (h5 : (¬ y = nI 0) → (¬ y = nI 1) → (¬ y = nI 2) → (¬ y = nI 3) → (y = nI 4) → Q (some (zi (w (10 + 4 * t + 2)))) (OM X 1 0 (zw ρ w) l))
    (b8 : (¬ y = nI 0) → (¬ y = nI 1) → (¬ y = nI 2) → (¬ y = nI 3) → (¬ y = nI 4) → (y = nI 5) → 10 + 4 * t + 3 < 270)
    (h6 : (¬ y = nI 0) → (¬ y = nI 1) → (¬ y = nI 2) → (¬ y = nI 3) → (¬ y = nI 4) → (y = nI 5) → Q (some (zi (w (10 + 4 * t + 3)))) (OM X 1 0 (zw ρ w) l))
    (b9 : (¬ y = nI 0) → (¬ y = nI 1) → (¬ y = nI 2) → (¬ y = nI 3) → (¬ y = nI 4) → (¬ y = nI 5) → (y = nI 6) → t < 4)
    (b10 : (¬ y = nI 0) → (¬ y = nI 1) → (¬ y = nI 2) → (¬ y = nI 3) → (¬ y = nI 4) → (¬ y = nI 5) → (y = nI 6) → rDok (zw ρ w))
    (b11 : (¬ y = nI 0) → (¬ y = nI 1) → (¬ y = nI 2) → (¬ y = nI 3) → (¬ y = nI 4) → (¬ y = nI 5) → (y = nI 6) → rWok (zw ρ w))
    (h7 : (¬ y = nI 0) → (¬ y = nI 1) → (¬ y = nI 2) → (¬ y = nI 3) → (¬ y = nI 4) → (¬ y = nI 5) → (y = nI 6) → ((rRing (zw ρ w) t) = 0) → Q (some (zi (nI 0))) (OM X 1 0 (zw ρ w) l))
    (h8 : (¬ y = nI 0) → (¬ y = nI 1) → (¬ y = nI 2) → (¬ y = nI 3) → (¬ y = nI 4) → (¬ y = nI 5) → (y = nI 6) → (¬ (rRing (zw ρ w) t) = 0) → Q (some (zi (nI 1))) (OM X 1 0 (zw ρ w) l))
    (h9 : (¬ y = nI 0) → (¬ y = nI 1) → (¬ y = nI 2) → (¬ y = nI 3) → (¬ y = nI 4) → (¬ y = nI 5) → (¬ y = nI 6) → Q (some (zi ((-1)))) (OM X 1 0 (zw ρ w) l)) : Ev (d + 5) c s 215 10 [some (zr (some (1, 0, 0))), some (zi (nI t)), some (zi y)] [] (OM X 1 0 (zw ρ w) l) Q := by
  refine Ew.ld f215_10 rfl rfl rfl rfl ?_
  by_cases c1 : y = nI 0
  · refine Ew.tsw (pc' := 52) (x := y) f215_11 (by rw [c1] <;> rfl) ?_
    exact h1 c1
  by_cases c2 : y = nI 1
  · refine Ew.tsw (pc' := 52) (x := y) f215_11 (by rw [c2] <;> rfl) ?_
    exact h2 c1 c2
  by_cases c3 : y = nI 2
  · refine Ew.tsw (pc' := 59) (x := y) f215_11 (by rw [c3] <;> rfl) ?_
    refine Ew.ld f215_59 rfl rfl rfl rfl ?_
    refine Ew.ld f215_60 rfl rfl rfl rfl ?_
    refine Ew.ld f215_61 rfl rfl rfl rfl ?_
    refine Ew.ld f215_62 rfl rfl rfl rfl ?_
    refine Ew.op (st' := zi (nI 1) :: _) f215_63 rfl rfl ?_
    refine Ew.call0 (ls0 := [some (zr (some (1, 0, 0))), some (zi (nI t)), some (zi (nI 1))]) f215_64 rfl (Nat.le_of_ble_eq_true rfl) rfl rfl (Nat.le_of_ble_eq_true rfl) rfl (Nat.le_of_ble_eq_true rfl) rfl rfl ?_
    refine Ew.ld f156_0 rfl rfl rfl rfl ?_
    refine Ew.getp (v := some (1, 0, 1)) f156_1 rfl rfl rfl ?_
    refine Ew.op (st' := zi (nI 10) :: _) f156_4 rfl rfl ?_
    refine Ew.op (st' := zi (nI 4) :: _) f156_6 rfl rfl ?_
    refine Ew.ld f156_7 rfl rfl rfl rfl ?_
    refine Ew.muln f156_8 rfl ?_
    refine Ew.addn f156_9 rfl ?_
    refine Ew.ld f156_10 rfl rfl rfl rfl ?_
    refine Ew.addn f156_11 rfl ?_
    refine Ew.ialdnV (v := nI D) f156_12 rfl (b1 c1 c2 c3) (Nat.le_of_ble_eq_true rfl) rfl (so_v hD) ?_
    refine Ew.ireti f156_13 ?_
    show Ev (d + 5) c s 215 67 [some (zr (some (1, 0, 0))), some (zi (nI t)), some (zi y)] [zi (nI D), zi (nI t), zr (some (1, 0, 0))] (OM X 1 0 (zw ρ w) l) Q
    refine Ew.call0 (ls0 := [some (zr (some (1, 0, 0))), some (zi (nI t)), some (zi (nI D)), none, none]) f215_67 rfl (Nat.le_of_ble_eq_true rfl) rfl rfl (Nat.le_of_ble_eq_true rfl) rfl (Nat.le_of_ble_eq_true rfl) rfl rfl ?_
    refine sp_heldBy (b2 c1 c2 c3) (b3 c1 c2 c3) ?_
    show Ev (d + 5) c s 215 70 [some (zr (some (1, 0, 0))), some (zi (nI t)), some (zi y)] [zi (rSet (zw ρ w) t D)] (OM X 1 0 (zw ρ w) l) Q
    refine Ew.ireti f215_70 ?_
    exact h3 c1 c2 c3
  by_cases c4 : y = nI 3
  · refine Ew.tsw (pc' := 71) (x := y) f215_11 (by rw [c4] <;> rfl) ?_
    refine Ew.ld f215_71 rfl rfl rfl rfl ?_
    refine Ew.ld f215_72 rfl rfl rfl rfl ?_
    refine Ew.call0 (ls0 := [some (zr (some (1, 0, 0))), some (zi (nI t))]) f215_73 rfl (Nat.le_of_ble_eq_true rfl) rfl rfl (Nat.le_of_ble_eq_true rfl) rfl (Nat.le_of_ble_eq_true rfl) rfl rfl ?_
    refine sp_waitsFor (b4 c1 c2 c3 c4) (b5 c1 c2 c3 c4) (b6 c1 c2 c3 c4) ?_
    show Ev (d + 5) c s 215 76 [some (zr (some (1, 0, 0))), some (zi (nI t)), some (zi y)] [zi (rWait (zw ρ w) t)] (OM X 1 0 (zw ρ w) l) Q
    refine Ew.ireti f215_76 ?_
    exact h4 c1 c2 c3 c4
  by_cases c5 : y = nI 4
  · refine Ew.tsw (pc' := 77) (x := y) f215_11 (by rw [c5] <;> rfl) ?_
    refine Ew.ld f215_77 rfl rfl rfl rfl ?_
    refine Ew.ld f215_78 rfl rfl rfl rfl ?_
    refine Ew.op (st' := zi (nI 2) :: _) f215_79 rfl rfl ?_
    refine Ew.call0 (ls0 := [some (zr (some (1, 0, 0))), some (zi (nI t)), some (zi (nI 2))]) f215_80 rfl (Nat.le_of_ble_eq_true rfl) rfl rfl (Nat.le_of_ble_eq_true rfl) rfl (Nat.le_of_ble_eq_true rfl) rfl rfl ?_
    refine Ew.ld f156_0 rfl rfl rfl rfl ?_
    refine Ew.getp (v := some (1, 0, 1)) f156_1 rfl rfl rfl ?_
    refine Ew.op (st' := zi (nI 10) :: _) f156_4 rfl rfl ?_
    refine Ew.op (st' := zi (nI 4) :: _) f156_6 rfl rfl ?_
    refine Ew.ld f156_7 rfl rfl rfl rfl ?_
    refine Ew.muln f156_8 rfl ?_
    refine Ew.addn f156_9 rfl ?_
    refine Ew.ld f156_10 rfl rfl rfl rfl ?_
    refine Ew.addn f156_11 rfl ?_
    refine Ew.ialdnO f156_12 rfl (b7 c1 c2 c3 c4 c5) (Nat.le_of_ble_eq_true rfl) rfl ?_
    refine Ew.ireti f156_13 ?_
    show Ev (d + 5) c s 215 83 [some (zr (some (1, 0, 0))), some (zi (nI t)), some (zi y)] [zi (w (10 + 4 * t + 2))] (OM X 1 0 (zw ρ w) l) Q
    refine Ew.ireti f215_83 ?_
    exact h5 c1 c2 c3 c4 c5
  by_cases c6 : y = nI 5
  · refine Ew.tsw (pc' := 84) (x := y) f215_11 (by rw [c6] <;> rfl) ?_
    refine Ew.ld f215_84 rfl rfl rfl rfl ?_
    refine Ew.ld f215_85 rfl rfl rfl rfl ?_
    refine Ew.op (st' := zi (nI 3) :: _) f215_86 rfl rfl ?_
    refine Ew.call0 (ls0 := [some (zr (some (1, 0, 0))), some (zi (nI t)), some (zi (nI 3))]) f215_87 rfl (Nat.le_of_ble_eq_true rfl) rfl rfl (Nat.le_of_ble_eq_true rfl) rfl (Nat.le_of_ble_eq_true rfl) rfl rfl ?_
    refine Ew.ld f156_0 rfl rfl rfl rfl ?_
    refine Ew.getp (v := some (1, 0, 1)) f156_1 rfl rfl rfl ?_
    refine Ew.op (st' := zi (nI 10) :: _) f156_4 rfl rfl ?_
    refine Ew.op (st' := zi (nI 4) :: _) f156_6 rfl rfl ?_
    refine Ew.ld f156_7 rfl rfl rfl rfl ?_
    refine Ew.muln f156_8 rfl ?_
    refine Ew.addn f156_9 rfl ?_
    refine Ew.ld f156_10 rfl rfl rfl rfl ?_
    refine Ew.addn f156_11 rfl ?_
    refine Ew.ialdnO f156_12 rfl (b8 c1 c2 c3 c4 c5 c6) (Nat.le_of_ble_eq_true rfl) rfl ?_
    refine Ew.ireti f156_13 ?_
    show Ev (d + 5) c s 215 90 [some (zr (some (1, 0, 0))), some (zi (nI t)), some (zi y)] [zi (w (10 + 4 * t + 3))] (OM X 1 0 (zw ρ w) l) Q
    refine Ew.ireti f215_90 ?_
    exact h6 c1 c2 c3 c4 c5 c6
  by_cases c7 : y = nI 6
  · refine Ew.tsw (pc' := 91) (x := y) f215_11 (by rw [c7] <;> rfl) ?_
    refine Ew.ld f215_91 rfl rfl rfl rfl ?_
    refine Ew.ld f215_92 rfl rfl rfl rfl ?_
    refine Ew.call0 (ls0 := [some (zr (some (1, 0, 0))), some (zi (nI t)), none, none, none]) f215_93 rfl (Nat.le_of_ble_eq_true rfl) rfl rfl (Nat.le_of_ble_eq_true rfl) rfl (Nat.le_of_ble_eq_true rfl) rfl rfl ?_
    refine sp_ring (b9 c1 c2 c3 c4 c5 c6 c7) (b10 c1 c2 c3 c4 c5 c6 c7) (b11 c1 c2 c3 c4 c5 c6 c7) ?_
    show Ev (d + 5) c s 215 96 [some (zr (some (1, 0, 0))), some (zi (nI t)), some (zi y)] [zi (rRing (zw ρ w) t)] (OM X 1 0 (zw ρ w) l) Q
    refine Ew.ifc f215_96 rfl rfl (fun c8 => ?_) (fun c8 => ?_)
    · refine Ew.op (st' := zi (nI 0) :: _) f215_103 rfl rfl ?_
      refine Ew.ireti f215_104 ?_
      exact h7 c1 c2 c3 c4 c5 c6 c7 c8
    · refine Ew.op (st' := zi (nI 1) :: _) f215_99 rfl rfl ?_
      refine Ew.goto f215_100 rfl ?_
      refine Ew.ireti f215_104 ?_
      exact h8 c1 c2 c3 c4 c5 c6 c7 c8
  refine Ew.tsw (x := y) f215_11 (ztw_o (m := 0) (n := 7) (zno (by decide) (fun k hk => by rcases (show k = 0 ∨ k = 1 ∨ k = 2 ∨ k = 3 ∨ k = 4 ∨ k = 5 ∨ k = 6 by omega) with rfl | rfl | rfl | rfl | rfl | rfl | rfl <;> first | exact c1 | exact c2 | exact c3 | exact c4 | exact c5 | exact c6 | exact c7)) rfl rfl rfl) ?_
  refine Ew.op (st' := zi ((-1)) :: _) f215_105 rfl rfl ?_
  refine Ew.ireti f215_106 ?_
  exact h9 c1 c2 c3 c4 c5 c6 c7
theorem g215_52 {d c s : Nat} {t y : Nat} {w : Nat → Int32} {X : zM} {ρ : Nat → Nat → Int32} {l : Nat → Nat → Int64} {Q : Option zV → zM → Prop}
    (b1 : 10 + 4 * t + y < 270)
    (h1 : Q (some (zi (w (10 + 4 * t + y)))) (OM X 1 0 (zw ρ w) l)) : Ev (d + 1) c s 215 52 [some (zr (some (1, 0, 0))), some (zi (nI t)), some (zi (nI y))] [] (OM X 1 0 (zw ρ w) l) Q := by
  refine Ew.ld f215_52 rfl rfl rfl rfl ?_
  refine Ew.ld f215_53 rfl rfl rfl rfl ?_
  refine Ew.ld f215_54 rfl rfl rfl rfl ?_
  refine Ew.call0 (ls0 := [some (zr (some (1, 0, 0))), some (zi (nI t)), some (zi (nI y))]) f215_55 rfl (Nat.le_of_ble_eq_true rfl) rfl rfl (Nat.le_of_ble_eq_true rfl) rfl (Nat.le_of_ble_eq_true rfl) rfl rfl ?_
  refine Ew.ld f156_0 rfl rfl rfl rfl ?_
  refine Ew.getp (v := some (1, 0, 1)) f156_1 rfl rfl rfl ?_
  refine Ew.op (st' := zi (nI 10) :: _) f156_4 rfl rfl ?_
  refine Ew.op (st' := zi (nI 4) :: _) f156_6 rfl rfl ?_
  refine Ew.ld f156_7 rfl rfl rfl rfl ?_
  refine Ew.muln f156_8 rfl ?_
  refine Ew.addn f156_9 rfl ?_
  refine Ew.ld f156_10 rfl rfl rfl rfl ?_
  refine Ew.addn f156_11 rfl ?_
  refine Ew.ialdnO f156_12 rfl b1 (Nat.le_of_ble_eq_true rfl) rfl ?_
  refine Ew.ireti f156_13 ?_
  show Ev (d + 1) c s 215 58 [some (zr (some (1, 0, 0))), some (zi (nI t)), some (zi (nI y))] [zi (w (10 + 4 * t + y))] (OM X 1 0 (zw ρ w) l) Q
  refine Ew.ireti f215_58 ?_
  exact h1

def aAlone (σ : zSt) (x y : Int32) : Int32 := match aIx x 4 with
  | none => -1
  | some t => if y = nI 0 then nI (tTr σ.w t).n else if y = nI 1 then (tTr σ.w t).why else if y = nI 2 then (tTr σ.w t).whyGate else if y = nI 3 then (tTr σ.w t).mended else if y = nI 4 then (tTr σ.w t).again else if y = nI 5 then (tTr σ.w t).deep else -1
theorem rp_alone {d c s B : Nat} {x y : Int32} {σ : zSt} {X : zM} {ρ : Nat → Nat → Int32} {l : Nat → Nat → Int64} {Q : Option zV → zM → Prop} (hG : zGood B σ) (hR : zRef ρ l σ) (k : Q (some (zi (aAlone σ x y))) (OM X 1 0 ρ l)) : Ev (d + 2) c s 172 0 [some (zr (some (1, 0, 0))), some (zi x), some (zi y)] [] (OM X 1 0 ρ l) Q := by
  rw [← hR.zw] at k ⊢
  unfold aAlone at k
  refine g172_0 (fun h => ?_) (fun h => ?_)
  · obtain ⟨t, ht, rfl⟩ := zrangeL (by decide) h
    have ht : t < 4 := ht
    rw [aIx_some ht (by decide)] at k
    obtain ⟨e1, _, e2, e3, e4, e5, e6⟩ := hR.2.2.2.2.2 t ht
    simp only [← e1, ← e2, ← e3, ← e4, ← e5, ← e6] at k
    apply g172_10 <;> intros <;> first
      | exact ht
      | ((repeat' split at k) <;> first | contradiction | exact k)
  · rw [zrangeN (by decide) h] at k
    exact k
def aStep (σ : zSt) (x z y : Int32) : Int32 := match aIx x 4 with
  | none => -1
  | some t => match aIx z (tTr σ.w t).n with
    | none => -1
    | some j => if y = nI 0 then (tTr σ.w t).kind j else if y = nI 1 then (tTr σ.w t).gate j else if y = nI 2 then (tTr σ.w t).add j + nI 10 else -1
theorem zbelow {z : Int32} {m : Nat} (hm : m < 5000) : (lN 0 ≤ z.toInt64 ∧ z.toInt64 ≤ (nI m - nI 1).toInt64) ↔ ∃ j, j < m ∧ z = nI j := by
  cases m with
  | zero =>
    constructor
    · rintro ⟨h1, h2⟩
      have h3 : lN 0 ≤ (nI 0 - nI 1).toInt64 := Int64.le_trans h1 h2
      exact absurd h3 (by decide)
    · rintro ⟨j, hj, _⟩
      exact absurd hj (Nat.not_lt_zero j)
  | succ m =>
    rw [pk_sub (by omega), nI_l (by omega), show m + 1 - 1 = m by omega, zrange z m (by omega)]
    constructor
    · rintro ⟨j, hj, e⟩
      exact ⟨j, by omega, e⟩
    · rintro ⟨j, hj, e⟩
      exact ⟨j, by omega, e⟩
theorem rp_step {d c s B : Nat} {x z y : Int32} {σ : zSt} {X : zM} {ρ : Nat → Nat → Int32} {l : Nat → Nat → Int64} {Q : Option zV → zM → Prop} (hG : zGood B σ) (hR : zRef ρ l σ) (k : Q (some (zi (aStep σ x z y))) (OM X 1 0 ρ l)) : Ev (d + 2) c s 173 0 [some (zr (some (1, 0, 0))), some (zi x), some (zi z), some (zi y)] [] (OM X 1 0 ρ l) Q := by
  have hTx := hG.1.2.1
  rw [← hR.zw] at k ⊢
  unfold aStep at k
  refine g173_0 (fun h => ?_) (fun h => ?_)
  · obtain ⟨t, ht, rfl⟩ := zrangeL (by decide) h
    have ht : t < 4 := ht
    rw [aIx_some ht (by decide)] at k
    simp only [] at k
    have h30 := (tTr_ok hTx ht).1
    obtain ⟨e1, e2, _⟩ := hR.2.2.2.2.2 t ht
    refine g173_8 e1 ht (fun h => ?_) (fun h => ?_)
    · obtain ⟨j, hj, rfl⟩ := (zbelow (by omega)).mp h
      rw [aIx_some hj (by omega)] at k
      simp only [] at k
      obtain ⟨f1, f2, f3⟩ := e2 j hj
      rw [← f1, ← f2, ← f3] at k
      have y0 : y = nI 0 ↔ y = 0 := Iff.rfl
      apply g173_28 <;> intros <;> first
        | omega
        | ((repeat' split at k) <;> first | contradiction | exact k)
    · rw [aIx_none (by omega) (fun g => h ((zbelow (by omega)).mpr g))] at k
      exact k
  · rw [zrangeN (by decide) h] at k
    exact k
def aCount (σ : zSt) (y : Int32) : Int32 := if y = nI 0 then σ.w 1 else if y = nI 1 then rThoseL (zw zO σ.w) (nI 1) 4 else if y = nI 2 then rThoseL (zw zO σ.w) (nI 2) 4 else if y = nI 3 then rThoseL (zw zO σ.w) (nI 3) 4 else if y = nI 4 then rThoseL (zw zO σ.w) (nI 4) 4 else if y = nI 5 then rRgdL (zw (tτ σ.w) σ.w) 4 else if y = nI 6 then σ.w 0 else if y = nI 7 then σ.w 2 else if y = nI 8 then nI σ.H.length else -1
theorem rRgdL_ag {ρ ρ' : Nat → Nat → Int32} (h : rAg ρ ρ') {w : Nat → Int32} (hR : rRw ρ w) : ∀ n, n ≤ 4 → rRgdL (zw ρ' w) n = rRgdL (zw ρ w) n := by
  intro n
  induction n with
  | zero => intro _; rfl
  | succ n ih =>
    intro hn
    unfold rRgdL
    rw [ih (by omega), rRing_ag h hR (by omega)]
theorem rp_count {d c s B : Nat} {y : Int32} {σ : zSt} {X : zM} {ρ : Nat → Nat → Int32} {l : Nat → Nat → Int64} {Q : Option zV → zM → Prop} (hG : zGood B σ) (hR : zRef ρ l σ) (k : Q (some (zi (aCount σ y))) (OM X 1 0 ρ l)) : Ev (d + 6) c s 218 0 [some (zr (some (1, 0, 0))), some (zi y)] [] (OM X 1 0 ρ l) Q := by
  have hTx := hG.1.2.1
  have hT := rTr_of hTx hR.2.2.2.2.2
  have hW := rRw_of hTx hR.2.2.2.2.2 hG.1.2.2.1
  have e8 := hR.2.1.1
  have e5 := rRgdL_ag (rAg_τ hTx hR.2.2.2.2.2) hW 4 (Nat.le_refl 4)
  rw [← hR.zw] at k ⊢
  unfold aCount at k
  rw [e5, ← e8] at k
  have et : ∀ x, rThoseL (zw zO σ.w) x 4 = rThose (zw ρ σ.w) x := fun x => rThoseL_zw _ _ _ _ _
  simp only [et] at k
  apply g218_0 <;> intros <;> first
    | exact rDok_of hT hW
    | exact rWok_of hT hW
    | (subst ‹y = _›; (repeat' split at k) <;> first | contradiction | exact k)
    | ((repeat' split at k) <;> first | contradiction | exact k)
