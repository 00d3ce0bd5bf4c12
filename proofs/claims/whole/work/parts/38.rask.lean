/-! the reference: questions of gates, tasks, steps -/
theorem g172_0 {d c s : Nat} {x y : Int32} {w : Nat → Int32} {X : zM} {ρ : Nat → Nat → Int32} {l : Nat → Nat → Int64} {Q : Option zV → zM → Prop}
    (h1 : (lN 0 ≤ x.toInt64 ∧ x.toInt64 ≤ lN 3) → Ev (d + 2) c s 172 10 [some (zr (some (1, 0, 0))), some (zi x), some (zi y)] [] (OM X 1 0 (zw ρ w) l) Q)
    (h2 : (¬ (lN 0 ≤ x.toInt64 ∧ x.toInt64 ≤ lN 3)) → Q (some (zi ((-1)))) (OM X 1 0 (zw ρ w) l)) : Ev (d + 2) c s 172 0 [some (zr (some (1, 0, 0))), some (zi x), some (zi y)] [] (OM X 1 0 (zw ρ w) l) Q := by
  refine Ew.ld f172_0 rfl rfl rfl rfl ?_
  refine Ew.op (st' := zl x.toInt64 :: _) f172_1 rfl rfl ?_
  refine Ew.call0 (ls0 := [some (zl x.toInt64), none]) f172_2 rfl (Nat.le_of_ble_eq_true rfl) rfl rfl (Nat.le_of_ble_eq_true rfl) trivial (Nat.le_of_ble_eq_true rfl) rfl rfl ?_
  refine sp_isTask (fun c1 => ?_) (fun c1 => ?_)
  · refine Ew.ifc f172_5 rfl rfl (fun _ => ?_) (fun h => absurd (show ¬ ((nI 1) : Int32) = 0 by decide) h)
    exact h1 c1
  · refine Ew.ifc f172_5 rfl rfl (fun h => absurd h (show ¬ (¬ ((nI 0) : Int32) = 0) by decide)) (fun _ => ?_)
    refine Ew.op (st' := zi ((-1)) :: _) f172_8 rfl rfl ?_
    refine Ew.ireti f172_9 ?_
    exact h2 c1
theorem g172_10 {d c s : Nat} {t : Nat} {y : Int32} {w : Nat → Int32} {X : zM} {ρ : Nat → Nat → Int32} {l : Nat → Nat → Int64} {Q : Option zV → zM → Prop}
    (b1 : (y = nI 0) → t < 4)
    (h1 : (y = nI 0) → Q (some (zi (ρ 13 t))) (OM X 1 0 (zw ρ w) l))
    (b2 : (¬ y = nI 0) → (y = nI 1) → t < 4)
    (h2 : (¬ y = nI 0) → (y = nI 1) → Q (some (zi (ρ 14 t))) (OM X 1 0 (zw ρ w) l))
    (b3 : (¬ y = nI 0) → (¬ y = nI 1) → (y = nI 2) → t < 4)
    (h3 : (¬ y = nI 0) → (¬ y = nI 1) → (y = nI 2) → Q (some (zi (ρ 15 t))) (OM X 1 0 (zw ρ w) l))
    (b4 : (¬ y = nI 0) → (¬ y = nI 1) → (¬ y = nI 2) → (y = nI 3) → t < 4)
    (h4 : (¬ y = nI 0) → (¬ y = nI 1) → (¬ y = nI 2) → (y = nI 3) → Q (some (zi (ρ 16 t))) (OM X 1 0 (zw ρ w) l))
    (b5 : (¬ y = nI 0) → (¬ y = nI 1) → (¬ y = nI 2) → (¬ y = nI 3) → (y = nI 4) → t < 4)
    (h5 : (¬ y = nI 0) → (¬ y = nI 1) → (¬ y = nI 2) → (¬ y = nI 3) → (y = nI 4) → Q (some (zi (ρ 17 t))) (OM X 1 0 (zw ρ w) l))
    (b6 : (¬ y = nI 0) → (¬ y = nI 1) → (¬ y = nI 2) → (¬ y = nI 3) → (¬ y = nI 4) → (y = nI 5) → t < 4)
    (h6 : (¬ y = nI 0) → (¬ y = nI 1) → (¬ y = nI 2) → (¬ y = nI 3) → (¬ y = nI 4) → (y = nI 5) → Q (some (zi (ρ 18 t))) (OM X 1 0 (zw ρ w) l))
    (h7 : (¬ y = nI 0) → (¬ y = nI 1) → (¬ y = nI 2) → (¬ y = nI 3) → (¬ y = nI 4) → (¬ y = nI 5) → Q (some (zi ((-1)))) (OM X 1 0 (zw ρ w) l)) : Ev d c s 172 10 [some (zr (some (1, 0, 0))), some (zi (nI t)), some (zi y)] [] (OM X 1 0 (zw ρ w) l) Q := by
  refine Ew.ld f172_10 rfl rfl rfl rfl ?_
  by_cases c1 : y = nI 0
  · refine Ew.tsw (pc' := 48) (x := y) f172_11 (by rw [c1] <;> rfl) ?_
    refine Ew.ld f172_48 rfl rfl rfl rfl ?_
    refine Ew.getp (v := some (1, 0, 13)) f172_49 rfl rfl rfl ?_
    refine Ew.ld f172_52 rfl rfl rfl rfl ?_
    refine Ew.ialdnO f172_53 rfl (b1 c1) (Nat.le_of_ble_eq_true rfl) rfl ?_
    refine Ew.ireti f172_54 ?_
    exact h1 c1
  by_cases c2 : y = nI 1
  · refine Ew.tsw (pc' := 55) (x := y) f172_11 (by rw [c2] <;> rfl) ?_
    refine Ew.ld f172_55 rfl rfl rfl rfl ?_
    refine Ew.getp (v := some (1, 0, 14)) f172_56 rfl rfl rfl ?_
    refine Ew.ld f172_59 rfl rfl rfl rfl ?_
    refine Ew.ialdnO f172_60 rfl (b2 c1 c2) (Nat.le_of_ble_eq_true rfl) rfl ?_
    refine Ew.ireti f172_61 ?_
    exact h2 c1 c2
  by_cases c3 : y = nI 2
  · refine Ew.tsw (pc' := 62) (x := y) f172_11 (by rw [c3] <;> rfl) ?_
    refine Ew.ld f172_62 rfl rfl rfl rfl ?_
    refine Ew.getp (v := some (1, 0, 15)) f172_63 rfl rfl rfl ?_
    refine Ew.ld f172_66 rfl rfl rfl rfl ?_
    refine Ew.ialdnO f172_67 rfl (b3 c1 c2 c3) (Nat.le_of_ble_eq_true rfl) rfl ?_
    refine Ew.ireti f172_68 ?_
    exact h3 c1 c2 c3
  by_cases c4 : y = nI 3
  · refine Ew.tsw (pc' := 69) (x := y) f172_11 (by rw [c4] <;> rfl) ?_
    refine Ew.ld f172_69 rfl rfl rfl rfl ?_
    refine Ew.getp (v := some (1, 0, 16)) f172_70 rfl rfl rfl ?_
    refine Ew.ld f172_73 rfl rfl rfl rfl ?_
    refine Ew.ialdnO f172_74 rfl (b4 c1 c2 c3 c4) (Nat.le_of_ble_eq_true rfl) rfl ?_
    refine Ew.ireti f172_75 ?_
    exact h4 c1 c2 c3 c4
  by_cases c5 : y = nI 4
  · refine Ew.tsw (pc' := 76) (x := y) f172_11 (by rw [c5] <;> rfl) ?_
    refine Ew.ld f172_76 rfl rfl rfl rfl ?_
    refine Ew.getp (v := some (1, 0, 17)) f172_77 rfl rfl rfl ?_
    refine Ew.ld f172_80 rfl rfl rfl rfl ?_
    refine Ew.ialdnO f172_81 rfl (b5 c1 c2 c3 c4 c5) (Nat.le_of_ble_eq_true rfl) rfl ?_
    refine Ew.ireti f172_82 ?_
    exact h5 c1 c2 c3 c4 c5
  by_cases c6 : y = nI 5
  · refine Ew.tsw (pc' := 83) (x := y) f172_11 (by rw [c6] <;> rfl) ?_
    refine Ew.ld f172_83 rfl rfl rfl rfl ?_
    refine Ew.getp (v := some (1, 0, 18)) f172_84 rfl rfl rfl ?_
    refine Ew.ld f172_87 rfl rfl rfl rfl ?_
    refine Ew.ialdnO f172_88 rfl (b6 c1 c2 c3 c4 c5 c6) (Nat.le_of_ble_eq_true rfl) rfl ?_
    refine Ew.ireti f172_89 ?_
    exact h6 c1 c2 c3 c4 c5 c6
  refine Ew.tsw (x := y) f172_11 (ztw_o (m := 0) (n := 6) (zno (by decide) (fun k hk => by rcases (show k = 0 ∨ k = 1 ∨ k = 2 ∨ k = 3 ∨ k = 4 ∨ k = 5 by omega) with rfl | rfl | rfl | rfl | rfl | rfl <;> first | exact c1 | exact c2 | exact c3 | exact c4 | exact c5 | exact c6)) rfl rfl rfl) ?_
  refine Ew.op (st' := zi ((-1)) :: _) f172_90 rfl rfl ?_
  refine Ew.ireti f172_91 ?_
  exact h7 c1 c2 c3 c4 c5 c6
theorem g173_0 {d c s : Nat} {x y z : Int32} {w : Nat → Int32} {X : zM} {ρ : Nat → Nat → Int32} {l : Nat → Nat → Int64} {Q : Option zV → zM → Prop}
    (b1 : (lN 0 ≤ x.toInt64 ∧ x.toInt64 ≤ lN 3) → vp_in x 4)
    (h1 : (lN 0 ≤ x.toInt64 ∧ x.toInt64 ≤ lN 3) → ((lN 0) ≤ z.toInt64 ∧ z.toInt64 ≤ (((ρ 13 x.toNatClampNeg) - (nI 1)).toInt64)) → (¬ y = 0) → (¬ y = (nI 1)) → (¬ y = (nI 2)) → Q (some (zi ((-1)))) (OM X 1 0 (zw ρ w) l))
    (b2 : (lN 0 ≤ x.toInt64 ∧ x.toInt64 ≤ lN 3) → ((lN 0) ≤ z.toInt64 ∧ z.toInt64 ≤ (((ρ 13 x.toNatClampNeg) - (nI 1)).toInt64)) → (¬ y = 0) → (¬ y = (nI 1)) → (y = (nI 2)) → vp_in (((nI 30) * x) + z) 120)
    (h2 : (lN 0 ≤ x.toInt64 ∧ x.toInt64 ≤ lN 3) → ((lN 0) ≤ z.toInt64 ∧ z.toInt64 ≤ (((ρ 13 x.toNatClampNeg) - (nI 1)).toInt64)) → (¬ y = 0) → (¬ y = (nI 1)) → (y = (nI 2)) → Q (some (zi ((ρ 12 ((((nI 30) * x) + z).toNatClampNeg)) + (nI 10)))) (OM X 1 0 (zw ρ w) l))
    (b3 : (lN 0 ≤ x.toInt64 ∧ x.toInt64 ≤ lN 3) → ((lN 0) ≤ z.toInt64 ∧ z.toInt64 ≤ (((ρ 13 x.toNatClampNeg) - (nI 1)).toInt64)) → (¬ y = 0) → (y = (nI 1)) → vp_in (((nI 30) * x) + z) 120)
    (h3 : (lN 0 ≤ x.toInt64 ∧ x.toInt64 ≤ lN 3) → ((lN 0) ≤ z.toInt64 ∧ z.toInt64 ≤ (((ρ 13 x.toNatClampNeg) - (nI 1)).toInt64)) → (¬ y = 0) → (y = (nI 1)) → Q (some (zi (ρ 11 ((((nI 30) * x) + z).toNatClampNeg)))) (OM X 1 0 (zw ρ w) l))
    (b4 : (lN 0 ≤ x.toInt64 ∧ x.toInt64 ≤ lN 3) → ((lN 0) ≤ z.toInt64 ∧ z.toInt64 ≤ (((ρ 13 x.toNatClampNeg) - (nI 1)).toInt64)) → (y = 0) → vp_in (((nI 30) * x) + z) 120)
    (h4 : (lN 0 ≤ x.toInt64 ∧ x.toInt64 ≤ lN 3) → ((lN 0) ≤ z.toInt64 ∧ z.toInt64 ≤ (((ρ 13 x.toNatClampNeg) - (nI 1)).toInt64)) → (y = 0) → Q (some (zi (ρ 10 ((((nI 30) * x) + z).toNatClampNeg)))) (OM X 1 0 (zw ρ w) l))
    (h5 : (lN 0 ≤ x.toInt64 ∧ x.toInt64 ≤ lN 3) → (¬ ((lN 0) ≤ z.toInt64 ∧ z.toInt64 ≤ (((ρ 13 x.toNatClampNeg) - (nI 1)).toInt64))) → Q (some (zi ((-1)))) (OM X 1 0 (zw ρ w) l))
    (h6 : (¬ (lN 0 ≤ x.toInt64 ∧ x.toInt64 ≤ lN 3)) → Q (some (zi ((-1)))) (OM X 1 0 (zw ρ w) l)) : Ev (d + 2) c s 173 0 [some (zr (some (1, 0, 0))), some (zi x), some (zi z), some (zi y)] [] (OM X 1 0 (zw ρ w) l) Q := by
  refine Ew.ld f173_0 rfl rfl rfl rfl ?_
  refine Ew.op (st' := zl x.toInt64 :: _) f173_1 rfl rfl ?_
  refine Ew.call0 (ls0 := [some (zl x.toInt64), none]) f173_2 rfl (Nat.le_of_ble_eq_true rfl) rfl rfl (Nat.le_of_ble_eq_true rfl) trivial (Nat.le_of_ble_eq_true rfl) rfl rfl ?_
  refine sp_isTask (fun c1 => ?_) (fun c1 => ?_)
  · refine Ew.ifc f173_5 rfl rfl (fun h => absurd h (show ¬ (((nI 1) : Int32) = 0) by decide)) (fun _ => ?_)
    refine Ew.ld f173_8 rfl rfl rfl rfl ?_
    refine Ew.op (st' := zl z.toInt64 :: _) f173_9 rfl rfl ?_
    refine Ew.op (st' := zl (lN 0) :: _) f173_10 rfl rfl ?_
    refine Ew.ld f173_11 rfl rfl rfl rfl ?_
    refine Ew.getp (v := some (1, 0, 13)) f173_12 rfl rfl rfl ?_
    refine Ew.ld f173_15 rfl rfl rfl rfl ?_
    refine Ew.ialdxO f173_16 rfl (b1 c1) rfl ?_
    refine Ew.op (st' := zi (nI 1) :: _) f173_17 rfl rfl ?_
    refine Ew.op (st' := zi ((ρ 13 x.toNatClampNeg) - (nI 1)) :: _) f173_18 rfl rfl ?_
    refine Ew.op (st' := zl (((ρ 13 x.toNatClampNeg) - (nI 1)).toInt64) :: _) f173_19 rfl rfl ?_
    refine Ew.call0 (ls0 := [some (zl z.toInt64), none, some (zl (lN 0)), none, some (zl (((ρ 13 x.toNatClampNeg) - (nI 1)).toInt64)), none]) f173_20 rfl (Nat.le_of_ble_eq_true rfl) rfl rfl (Nat.le_of_ble_eq_true rfl) trivial (Nat.le_of_ble_eq_true rfl) rfl rfl ?_
    refine sp_in (fun c2 => ?_) (fun c2 => ?_)
    · refine Ew.ifc f173_23 rfl rfl (fun _ => ?_) (fun h => absurd (show ¬ ((nI 1) : Int32) = 0 by decide) h)
      refine Ew.ld f173_28 rfl rfl rfl rfl ?_
      refine Ew.ifc f173_29 rfl rfl (fun c3 => ?_) (fun c3 => ?_)
      · refine Ew.ld f173_41 rfl rfl rfl rfl ?_
        refine Ew.op (st' := zi (nI 1) :: _) f173_42 rfl rfl ?_
        refine Ew.icmp f173_43 rfl rfl (fun c4 => ?_) (fun c4 => ?_)
        · refine Ew.ld f173_55 rfl rfl rfl rfl ?_
          refine Ew.op (st' := zi (nI 2) :: _) f173_56 rfl rfl ?_
          refine Ew.icmp f173_57 rfl rfl (fun c5 => ?_) (fun c5 => ?_)
          · refine Ew.op (st' := zi ((-1)) :: _) f173_77 rfl rfl ?_
            refine Ew.ireti f173_78 ?_
            exact h1 c1 c2 c3 c4 c5
          · refine Ew.ld f173_60 rfl rfl rfl rfl ?_
            refine Ew.getp (v := some (1, 0, 12)) f173_61 rfl rfl rfl ?_
            refine Ew.op (st' := zi (nI 30) :: _) f173_64 rfl rfl ?_
            refine Ew.ld f173_66 rfl rfl rfl rfl ?_
            refine Ew.op (st' := zi ((nI 30) * x) :: _) f173_67 rfl rfl ?_
            refine Ew.ld f173_68 rfl rfl rfl rfl ?_
            refine Ew.op (st' := zi (((nI 30) * x) + z) :: _) f173_69 rfl rfl ?_
            refine Ew.ialdxO f173_70 rfl (b2 c1 c2 c3 c4 (Classical.not_not.mp c5)) rfl ?_
            refine Ew.op (st' := zi (nI 10) :: _) f173_71 rfl rfl ?_
            refine Ew.op (st' := zi ((ρ 12 ((((nI 30) * x) + z).toNatClampNeg)) + (nI 10)) :: _) f173_73 rfl rfl ?_
            refine Ew.goto f173_74 rfl ?_
            refine Ew.ireti f173_78 ?_
            exact h2 c1 c2 c3 c4 (Classical.not_not.mp c5)
        · refine Ew.ld f173_46 rfl rfl rfl rfl ?_
          refine Ew.ld f173_47 rfl rfl rfl rfl ?_
          refine Ew.ld f173_48 rfl rfl rfl rfl ?_
          refine Ew.call0 (ls0 := [some (zr (some (1, 0, 0))), some (zi x), some (zi z)]) f173_49 rfl (Nat.le_of_ble_eq_true rfl) rfl rfl (Nat.le_of_ble_eq_true rfl) rfl (Nat.le_of_ble_eq_true rfl) rfl rfl ?_
          refine Ew.ld f171_0 rfl rfl rfl rfl ?_
          refine Ew.getp (v := some (1, 0, 11)) f171_1 rfl rfl rfl ?_
          refine Ew.op (st' := zi (nI 30) :: _) f171_4 rfl rfl ?_
          refine Ew.ld f171_6 rfl rfl rfl rfl ?_
          refine Ew.op (st' := zi ((nI 30) * x) :: _) f171_7 rfl rfl ?_
          refine Ew.ld f171_8 rfl rfl rfl rfl ?_
          refine Ew.op (st' := zi (((nI 30) * x) + z) :: _) f171_9 rfl rfl ?_
          refine Ew.ialdxO f171_10 rfl (b3 c1 c2 c3 (Classical.not_not.mp c4)) rfl ?_
          refine Ew.ireti f171_11 ?_
          show Ev (d + 2) c s 173 52 [some (zr (some (1, 0, 0))), some (zi x), some (zi z), some (zi y)] [zi (ρ 11 ((((nI 30) * x) + z).toNatClampNeg))] (OM X 1 0 (zw ρ w) l) Q
          refine Ew.goto f173_52 rfl ?_
          refine Ew.ireti f173_78 ?_
          exact h3 c1 c2 c3 (Classical.not_not.mp c4)
      · refine Ew.ld f173_32 rfl rfl rfl rfl ?_
        refine Ew.ld f173_33 rfl rfl rfl rfl ?_
        refine Ew.ld f173_34 rfl rfl rfl rfl ?_
        refine Ew.call0 (ls0 := [some (zr (some (1, 0, 0))), some (zi x), some (zi z)]) f173_35 rfl (Nat.le_of_ble_eq_true rfl) rfl rfl (Nat.le_of_ble_eq_true rfl) rfl (Nat.le_of_ble_eq_true rfl) rfl rfl ?_
        refine Ew.ld f170_0 rfl rfl rfl rfl ?_
        refine Ew.getp (v := some (1, 0, 10)) f170_1 rfl rfl rfl ?_
        refine Ew.op (st' := zi (nI 30) :: _) f170_4 rfl rfl ?_
        refine Ew.ld f170_6 rfl rfl rfl rfl ?_
        refine Ew.op (st' := zi ((nI 30) * x) :: _) f170_7 rfl rfl ?_
        refine Ew.ld f170_8 rfl rfl rfl rfl ?_
        refine Ew.op (st' := zi (((nI 30) * x) + z) :: _) f170_9 rfl rfl ?_
        refine Ew.ialdxO f170_10 rfl (b4 c1 c2 (Classical.not_not.mp c3)) rfl ?_
        refine Ew.ireti f170_11 ?_
        show Ev (d + 2) c s 173 38 [some (zr (some (1, 0, 0))), some (zi x), some (zi z), some (zi y)] [zi (ρ 10 ((((nI 30) * x) + z).toNatClampNeg))] (OM X 1 0 (zw ρ w) l) Q
        refine Ew.goto f173_38 rfl ?_
        refine Ew.ireti f173_78 ?_
        exact h4 c1 c2 (Classical.not_not.mp c3)
    · refine Ew.ifc f173_23 rfl rfl (fun h => absurd h (show ¬ (¬ ((nI 0) : Int32) = 0) by decide)) (fun _ => ?_)
      refine Ew.op (st' := zi ((-1)) :: _) f173_26 rfl rfl ?_
      refine Ew.ireti f173_27 ?_
      exact h5 c1 c2
  · refine Ew.ifc f173_5 rfl rfl (fun _ => ?_) (fun h => absurd (show ((nI 0) : Int32) = 0 by decide) h)
    refine Ew.op (st' := zi ((-1)) :: _) f173_26 rfl rfl ?_
    refine Ew.ireti f173_27 ?_
    exact h6 c1
theorem g218_0 {d c s : Nat} {y : Int32} {w : Nat → Int32} {X : zM} {ρ : Nat → Nat → Int32} {l : Nat → Nat → Int64} {Q : Option zV → zM → Prop}
    (h1 : (y = nI 0) → Q (some (zi (w 1))) (OM X 1 0 (zw ρ w) l))
    (h2 : (¬ y = nI 0) → (y = nI 1) → Q (some (zi (rThose (zw ρ w) y))) (OM X 1 0 (zw ρ w) l))
    (h3 : (¬ y = nI 0) → (¬ y = nI 1) → (y = nI 2) → Q (some (zi (rThose (zw ρ w) y))) (OM X 1 0 (zw ρ w) l))
    (h4 : (¬ y = nI 0) → (¬ y = nI 1) → (¬ y = nI 2) → (y = nI 3) → Q (some (zi (rThose (zw ρ w) y))) (OM X 1 0 (zw ρ w) l))
    (h5 : (¬ y = nI 0) → (¬ y = nI 1) → (¬ y = nI 2) → (¬ y = nI 3) → (y = nI 4) → Q (some (zi (rThose (zw ρ w) y))) (OM X 1 0 (zw ρ w) l))
    (b1 : (¬ y = nI 0) → (¬ y = nI 1) → (¬ y = nI 2) → (¬ y = nI 3) → (¬ y = nI 4) → (y = nI 5) → rDok (zw ρ w))
    (b2 : (¬ y = nI 0) → (¬ y = nI 1) → (¬ y = nI 2) → (¬ y = nI 3) → (¬ y = nI 4) → (y = nI 5) → rWok (zw ρ w))
    (h6 : (¬ y = nI 0) → (¬ y = nI 1) → (¬ y = nI 2) → (¬ y = nI 3) → (¬ y = nI 4) → (y = nI 5) → Q (some (zi (rRgdL (zw ρ w) 4))) (OM X 1 0 (zw ρ w) l))
    (h7 : (¬ y = nI 0) → (¬ y = nI 1) → (¬ y = nI 2) → (¬ y = nI 3) → (¬ y = nI 4) → (¬ y = nI 5) → (y = nI 6) → Q (some (zi (w 0))) (OM X 1 0 (zw ρ w) l))
    (h8 : (¬ y = nI 0) → (¬ y = nI 1) → (¬ y = nI 2) → (¬ y = nI 3) → (¬ y = nI 4) → (¬ y = nI 5) → (¬ y = nI 6) → (y = nI 7) → Q (some (zi (w 2))) (OM X 1 0 (zw ρ w) l))
    (h9 : (¬ y = nI 0) → (¬ y = nI 1) → (¬ y = nI 2) → (¬ y = nI 3) → (¬ y = nI 4) → (¬ y = nI 5) → (¬ y = nI 6) → (¬ y = nI 7) → (y = nI 8) → Q (some (zi (ρ 0 2))) (OM X 1 0 (zw ρ w) l))
    (h10 : (¬ y = nI 0) → (¬ y = nI 1) → (¬ y = nI 2) → (¬ y = nI 3) → (¬ y = nI 4) → (¬ y = nI 5) → (¬ y = nI 6) → (¬ y = nI 7) → (¬ y = nI 8) → Q (some (zi ((-1)))) (OM X 1 0 (zw ρ w) l)) : Ev (d + 6) c s 218 0 [some (zr (some (1, 0, 0))), some (zi y)] [] (OM X 1 0 (zw ρ w) l) Q := by
  refine Ew.ld f218_0 rfl rfl rfl rfl ?_
  by_cases c1 : y = nI 0
  · refine Ew.tsw (pc' := 52) (x := y) f218_1 (by rw [c1] <;> rfl) ?_
    refine Ew.ld f218_52 rfl rfl rfl rfl ?_
    refine Ew.getp (v := some (1, 0, 1)) f218_53 rfl rfl rfl ?_
    refine Ew.op (st' := zi (nI 1) :: _) f218_56 rfl rfl ?_
    refine Ew.ialdnO f218_57 rfl (show 1 < 270 by decide) (Nat.le_of_ble_eq_true rfl) rfl ?_
    refine Ew.ireti f218_58 ?_
    exact h1 c1
  by_cases c2 : y = nI 1
  · refine Ew.tsw (pc' := 59) (x := y) f218_1 (by rw [c2] <;> rfl) ?_
    refine Ew.ld f218_59 rfl rfl rfl rfl ?_
    refine Ew.ld f218_60 rfl rfl rfl rfl ?_
    refine Ew.call0 (ls0 := [some (zr (some (1, 0, 0))), some (zi y), none, none]) f218_61 rfl (Nat.le_of_ble_eq_true rfl) rfl rfl (Nat.le_of_ble_eq_true rfl) rfl (Nat.le_of_ble_eq_true rfl) rfl rfl ?_
    refine sp_those ?_
    show Ev (d + 6) c s 218 64 [some (zr (some (1, 0, 0))), some (zi y)] [zi (rThose (zw ρ w) y)] (OM X 1 0 (zw ρ w) l) Q
    refine Ew.ireti f218_64 ?_
    exact h2 c1 c2
  by_cases c3 : y = nI 2
  · refine Ew.tsw (pc' := 59) (x := y) f218_1 (by rw [c3] <;> rfl) ?_
    refine Ew.ld f218_59 rfl rfl rfl rfl ?_
    refine Ew.ld f218_60 rfl rfl rfl rfl ?_
    refine Ew.call0 (ls0 := [some (zr (some (1, 0, 0))), some (zi y), none, none]) f218_61 rfl (Nat.le_of_ble_eq_true rfl) rfl rfl (Nat.le_of_ble_eq_true rfl) rfl (Nat.le_of_ble_eq_true rfl) rfl rfl ?_
    refine sp_those ?_
    show Ev (d + 6) c s 218 64 [some (zr (some (1, 0, 0))), some (zi y)] [zi (rThose (zw ρ w) y)] (OM X 1 0 (zw ρ w) l) Q
    refine Ew.ireti f218_64 ?_
    exact h3 c1 c2 c3
  by_cases c4 : y = nI 3
  · refine Ew.tsw (pc' := 59) (x := y) f218_1 (by rw [c4] <;> rfl) ?_
    refine Ew.ld f218_59 rfl rfl rfl rfl ?_
    refine Ew.ld f218_60 rfl rfl rfl rfl ?_
    refine Ew.call0 (ls0 := [some (zr (some (1, 0, 0))), some (zi y), none, none]) f218_61 rfl (Nat.le_of_ble_eq_true rfl) rfl rfl (Nat.le_of_ble_eq_true rfl) rfl (Nat.le_of_ble_eq_true rfl) rfl rfl ?_
    refine sp_those ?_
    show Ev (d + 6) c s 218 64 [some (zr (some (1, 0, 0))), some (zi y)] [zi (rThose (zw ρ w) y)] (OM X 1 0 (zw ρ w) l) Q
    refine Ew.ireti f218_64 ?_
    exact h4 c1 c2 c3 c4
  by_cases c5 : y = nI 4
  · refine Ew.tsw (pc' := 59) (x := y) f218_1 (by rw [c5] <;> rfl) ?_
    refine Ew.ld f218_59 rfl rfl rfl rfl ?_
    refine Ew.ld f218_60 rfl rfl rfl rfl ?_
    refine Ew.call0 (ls0 := [some (zr (some (1, 0, 0))), some (zi y), none, none]) f218_61 rfl (Nat.le_of_ble_eq_true rfl) rfl rfl (Nat.le_of_ble_eq_true rfl) rfl (Nat.le_of_ble_eq_true rfl) rfl rfl ?_
    refine sp_those ?_
    show Ev (d + 6) c s 218 64 [some (zr (some (1, 0, 0))), some (zi y)] [zi (rThose (zw ρ w) y)] (OM X 1 0 (zw ρ w) l) Q
    refine Ew.ireti f218_64 ?_
    exact h5 c1 c2 c3 c4 c5
  by_cases c6 : y = nI 5
  · refine Ew.tsw (pc' := 65) (x := y) f218_1 (by rw [c6] <;> rfl) ?_
    refine Ew.ld f218_65 rfl rfl rfl rfl ?_
    refine Ew.call0 (ls0 := [some (zr (some (1, 0, 0))), none, none]) f218_66 rfl (Nat.le_of_ble_eq_true rfl) rfl rfl (Nat.le_of_ble_eq_true rfl) rfl (Nat.le_of_ble_eq_true rfl) rfl rfl ?_
    refine sp_ringed (b1 c1 c2 c3 c4 c5 c6) (b2 c1 c2 c3 c4 c5 c6) ?_
    show Ev (d + 6) c s 218 69 [some (zr (some (1, 0, 0))), some (zi y)] [zi (rRgdL (zw ρ w) 4)] (OM X 1 0 (zw ρ w) l) Q
    refine Ew.ireti f218_69 ?_
    exact h6 c1 c2 c3 c4 c5 c6
  by_cases c7 : y = nI 6
  · refine Ew.tsw (pc' := 70) (x := y) f218_1 (by rw [c7] <;> rfl) ?_
    refine Ew.ld f218_70 rfl rfl rfl rfl ?_
    refine Ew.getp (v := some (1, 0, 1)) f218_71 rfl rfl rfl ?_
    refine Ew.op (st' := zi (nI 0) :: _) f218_74 rfl rfl ?_
    refine Ew.ialdnO f218_75 rfl (show 0 < 270 by decide) (Nat.le_of_ble_eq_true rfl) rfl ?_
    refine Ew.ireti f218_76 ?_
    exact h7 c1 c2 c3 c4 c5 c6 c7
  by_cases c8 : y = nI 7
  · refine Ew.tsw (pc' := 77) (x := y) f218_1 (by rw [c8] <;> rfl) ?_
    refine Ew.ld f218_77 rfl rfl rfl rfl ?_
    refine Ew.getp (v := some (1, 0, 1)) f218_78 rfl rfl rfl ?_
    refine Ew.op (st' := zi (nI 2) :: _) f218_81 rfl rfl ?_
    refine Ew.ialdnO f218_82 rfl (show 2 < 270 by decide) (Nat.le_of_ble_eq_true rfl) rfl ?_
    refine Ew.ireti f218_83 ?_
    exact h8 c1 c2 c3 c4 c5 c6 c7 c8
  by_cases c9 : y = nI 8
  · refine Ew.tsw (pc' := 84) (x := y) f218_1 (by rw [c9] <;> rfl) ?_
    refine Ew.ld f218_84 rfl rfl rfl rfl ?_
    refine Ew.getiO f218_85 rfl rfl ?_
    refine Ew.ireti f218_88 ?_
    exact h9 c1 c2 c3 c4 c5 c6 c7 c8 c9
  refine Ew.tsw (x := y) f218_1 (ztw_o (m := 0) (n := 9) (zno (by decide) (fun k hk => by rcases (show k = 0 ∨ k = 1 ∨ k = 2 ∨ k = 3 ∨ k = 4 ∨ k = 5 ∨ k = 6 ∨ k = 7 ∨ k = 8 by omega) with rfl | rfl | rfl | rfl | rfl | rfl | rfl | rfl | rfl <;> first | exact c1 | exact c2 | exact c3 | exact c4 | exact c5 | exact c6 | exact c7 | exact c8 | exact c9)) rfl rfl rfl) ?_
  refine Ew.op (st' := zi ((-1)) :: _) f218_89 rfl rfl ?_
  refine Ew.ireti f218_90 ?_
  exact h10 c1 c2 c3 c4 c5 c6 c7 c8 c9
