/-! the class: sheets -/
theorem g44_0 {d c s : Nat} {j n : Nat} {x i : Int32} {X : zM} {ρ : Nat → Nat → Int32} {l : Nat → Nat → Int64} {Q : Option zV → zM → Prop} (hj : j < 4)  (nb_n : n < 5000)
    (h1 : (¬ (ρ 0 0) = ((-1))) → (x = (ρ 0 1)) → (n < 0) → Q (some (zi ((-13)))) (OM X 5 j ρ l))
    (h2 : (¬ (ρ 0 0) = ((-1))) → (x = (ρ 0 1)) → (0 ≤ n) → (i < 0) → Q (some (zi ((-13)))) (OM X 5 j ρ l))
    (h3 : (¬ (ρ 0 0) = ((-1))) → (x = (ρ 0 1)) → (0 ≤ n) → (0 ≤ i) → (((ρ 0 0) - (nI n)) < i) → Q (some (zi ((-13)))) (OM X 5 j ρ l))
    (h4 : (¬ (ρ 0 0) = ((-1))) → (x = (ρ 0 1)) → (0 ≤ n) → (0 ≤ i) → (i ≤ ((ρ 0 0) - (nI n))) → Q (some (zi (nI 0))) (OM X 5 j ρ l))
    (h5 : (¬ (ρ 0 0) = ((-1))) → (¬ x = (ρ 0 1)) → Q (some (zi ((-12)))) (OM X 5 j ρ l))
    (h6 : ((ρ 0 0) = ((-1))) → Q (some (zi ((-11)))) (OM X 5 j ρ l)) : Ev (d + 1) c s 44 0 [some (zr (some (5, j, 0))), some (zi x), some (zi i), some (zi (nI n))] [] (OM X 5 j ρ l) Q := by
  refine Ew.ld f44_0 rfl rfl rfl rfl ?_
  refine Ew.call0 (ls0 := [some (zr (some (5, j, 0)))]) f44_1 rfl (Nat.le_of_ble_eq_true rfl) rfl rfl (Nat.le_of_ble_eq_true rfl) (by show (zsj X.2.2.2.1 5 j 0).1 = _; rw [zsj5 _ hj]; rfl) (Nat.le_of_ble_eq_true rfl) rfl rfl ?_
  refine Ew.ld f41_0 rfl rfl rfl rfl ?_
  refine Ew.getiO f41_1 (by rw [zsj5 _ hj]; rfl) rfl ?_
  refine Ew.op (st' := zi ((-1)) :: _) f41_4 rfl rfl ?_
  refine Ew.icmp f41_5 rfl rfl (fun c1 => ?_) (fun c1 => ?_)
  · refine Ew.op (st' := zi (nI 0) :: _) f41_12 rfl rfl ?_
    refine Ew.iretb f41_13 (Or.inl rfl) ?_
    show Ev (d + 1) c s 44 4 [some (zr (some (5, j, 0))), some (zi x), some (zi i), some (zi (nI n))] [zi (nI 0)] (OM X 5 j ρ l) Q
    refine Ew.ifc f44_4 rfl rfl (fun _ => ?_) (fun h => absurd (show ((nI 0) : Int32) = 0 by decide) h)
    refine Ew.ld f44_10 rfl rfl rfl rfl ?_
    refine Ew.ld f44_11 rfl rfl rfl rfl ?_
    refine Ew.getiO f44_12 (by rw [zsj5 _ hj]; rfl) rfl ?_
    refine Ew.icmp f44_15 rfl rfl (fun c2 => ?_) (fun c2 => ?_)
    · refine Ew.ld f44_21 rfl rfl rfl rfl ?_
      refine Ew.ld f44_22 rfl rfl rfl rfl ?_
      refine Ew.ld f44_23 rfl rfl rfl rfl ?_
      refine Ew.call0 (ls0 := [some (zr (some (5, j, 0))), some (zi i), some (zi (nI n))]) f44_24 rfl (Nat.le_of_ble_eq_true rfl) rfl rfl (Nat.le_of_ble_eq_true rfl) (by show (zsj X.2.2.2.1 5 j 0).1 = _; rw [zsj5 _ hj]; rfl) (Nat.le_of_ble_eq_true rfl) rfl rfl ?_
      refine Ew.ld f43_0 rfl rfl rfl rfl ?_
      refine Ew.ifc f43_1 rfl rfl (fun c3 => ?_) (fun c3 => ?_)
      · refine Ew.op (st' := zi (nI 0) :: _) f43_22 rfl rfl ?_
        refine Ew.iretb f43_23 (Or.inl rfl) ?_
        show Ev (d + 1) c s 44 27 [some (zr (some (5, j, 0))), some (zi x), some (zi i), some (zi (nI n))] [zi (nI 0)] (OM X 5 j ρ l) Q
        refine Ew.ifc f44_27 rfl rfl (fun _ => ?_) (fun h => absurd (show ((nI 0) : Int32) = 0 by decide) h)
        refine Ew.op (st' := zi ((-13)) :: _) f44_34 rfl rfl ?_
        refine Ew.ireti f44_36 ?_
        exact h1 c1 c2 ((zlt_iff nb_n (by decide)).mp c3)
      · refine Ew.ld f43_4 rfl rfl rfl rfl ?_
        refine Ew.ifc f43_5 rfl rfl (fun c4 => ?_) (fun c4 => ?_)
        · refine Ew.op (st' := zi (nI 0) :: _) f43_22 rfl rfl ?_
          refine Ew.iretb f43_23 (Or.inl rfl) ?_
          show Ev (d + 1) c s 44 27 [some (zr (some (5, j, 0))), some (zi x), some (zi i), some (zi (nI n))] [zi (nI 0)] (OM X 5 j ρ l) Q
          refine Ew.ifc f44_27 rfl rfl (fun _ => ?_) (fun h => absurd (show ((nI 0) : Int32) = 0 by decide) h)
          refine Ew.op (st' := zi ((-13)) :: _) f44_34 rfl rfl ?_
          refine Ew.ireti f44_36 ?_
          exact h2 c1 c2 (Nat.not_lt.mp fun e => c3 ((zlt_iff nb_n (by decide)).mpr e)) c4
        · refine Ew.ld f43_8 rfl rfl rfl rfl ?_
          refine Ew.ld f43_9 rfl rfl rfl rfl ?_
          refine Ew.getiO f43_10 (by rw [zsj5 _ hj]; rfl) rfl ?_
          refine Ew.ld f43_13 rfl rfl rfl rfl ?_
          refine Ew.op (st' := zi ((ρ 0 0) - (nI n)) :: _) f43_14 rfl rfl ?_
          refine Ew.icmp f43_15 rfl rfl (fun c5 => ?_) (fun c5 => ?_)
          · refine Ew.op (st' := zi (nI 0) :: _) f43_22 rfl rfl ?_
            refine Ew.iretb f43_23 (Or.inl rfl) ?_
            show Ev (d + 1) c s 44 27 [some (zr (some (5, j, 0))), some (zi x), some (zi i), some (zi (nI n))] [zi (nI 0)] (OM X 5 j ρ l) Q
            refine Ew.ifc f44_27 rfl rfl (fun _ => ?_) (fun h => absurd (show ((nI 0) : Int32) = 0 by decide) h)
            refine Ew.op (st' := zi ((-13)) :: _) f44_34 rfl rfl ?_
            refine Ew.ireti f44_36 ?_
            exact h3 c1 c2 (Nat.not_lt.mp fun e => c3 ((zlt_iff nb_n (by decide)).mpr e)) (Int32.not_lt.mp c4) c5
          · refine Ew.op (st' := zi (nI 1) :: _) f43_18 rfl rfl ?_
            refine Ew.goto f43_19 rfl ?_
            refine Ew.iretb f43_23 (Or.inr rfl) ?_
            show Ev (d + 1) c s 44 27 [some (zr (some (5, j, 0))), some (zi x), some (zi i), some (zi (nI n))] [zi (nI 1)] (OM X 5 j ρ l) Q
            refine Ew.ifc f44_27 rfl rfl (fun h => absurd h (show ¬ (((nI 1) : Int32) = 0) by decide)) (fun _ => ?_)
            refine Ew.op (st' := zi (nI 0) :: _) f44_30 rfl rfl ?_
            refine Ew.goto f44_31 rfl ?_
            refine Ew.ireti f44_36 ?_
            exact h4 c1 c2 (Nat.not_lt.mp fun e => c3 ((zlt_iff nb_n (by decide)).mpr e)) (Int32.not_lt.mp c4) (Int32.not_lt.mp c5)
    · refine Ew.op (st' := zi ((-12)) :: _) f44_18 rfl rfl ?_
      refine Ew.ireti f44_20 ?_
      exact h5 c1 c2
  · refine Ew.op (st' := zi (nI 1) :: _) f41_8 rfl rfl ?_
    refine Ew.goto f41_9 rfl ?_
    refine Ew.iretb f41_13 (Or.inr rfl) ?_
    show Ev (d + 1) c s 44 4 [some (zr (some (5, j, 0))), some (zi x), some (zi i), some (zi (nI n))] [zi (nI 1)] (OM X 5 j ρ l) Q
    refine Ew.ifc f44_4 rfl rfl (fun h => absurd h (show ¬ (((nI 1) : Int32) = 0) by decide)) (fun _ => ?_)
    refine Ew.op (st' := zi ((-11)) :: _) f44_7 rfl rfl ?_
    refine Ew.ireti f44_9 ?_
    exact h6 (Classical.not_not.mp c1)
theorem g47_0 {d c s : Nat} {j m Z y : Nat} {v : Int64} {X : zM} {ρ : Nat → Nat → Int32} {l : Nat → Nat → Int64} {Q : Option zV → zM → Prop} (hj : j < 4) (e0 : ρ 0 0 = nI Z) (e1 : ρ 0 1 = nI y)  (nb_m : m < 5000)
    (h1 : (m < 0) → Q none (OM X 5 j ρ l))
    (h2 : (0 ≤ m) → (((nI Z) - (nI 1)) < (nI m)) → Q none (OM X 5 j ρ l))
    (b1 : (0 ≤ m) → ((nI m) ≤ ((nI Z) - (nI 1))) → ((nI y) = nI 0) → m < 24)
    (h3 : (0 ≤ m) → ((nI m) ≤ ((nI Z) - (nI 1))) → ((nI y) = nI 0) → Q none (OM X 5 j ρ (zu l 1 m v.toInt32.toInt8.toInt32.toInt64)))
    (b2 : (0 ≤ m) → ((nI m) ≤ ((nI Z) - (nI 1))) → (¬ (nI y) = nI 0) → ((nI y) = nI 1) → m < 24)
    (h4 : (0 ≤ m) → ((nI m) ≤ ((nI Z) - (nI 1))) → (¬ (nI y) = nI 0) → ((nI y) = nI 1) → Q none (OM X 5 j ρ (zu l 1 m v.toInt32.toInt16.toInt32.toInt64)))
    (b3 : (0 ≤ m) → ((nI m) ≤ ((nI Z) - (nI 1))) → (¬ (nI y) = nI 0) → (¬ (nI y) = nI 1) → ((nI y) = nI 2) → m < 24)
    (h5 : (0 ≤ m) → ((nI m) ≤ ((nI Z) - (nI 1))) → (¬ (nI y) = nI 0) → (¬ (nI y) = nI 1) → ((nI y) = nI 2) → Q none (OM X 5 j ρ (zu l 1 m v.toInt32.toInt64)))
    (b4 : (0 ≤ m) → ((nI m) ≤ ((nI Z) - (nI 1))) → (¬ (nI y) = nI 0) → (¬ (nI y) = nI 1) → (¬ (nI y) = nI 2) → m < 24)
    (h6 : (0 ≤ m) → ((nI m) ≤ ((nI Z) - (nI 1))) → (¬ (nI y) = nI 0) → (¬ (nI y) = nI 1) → (¬ (nI y) = nI 2) → Q none (OM X 5 j ρ (zu l 1 m v))) : Ev (d + 1) c s 47 0 [some (zr (some (5, j, 0))), some (zi (nI m)), some (zl v), none] [] (OM X 5 j ρ l) Q := by
  refine Ew.ld f47_0 rfl rfl rfl rfl ?_
  refine Ew.ld f47_1 rfl rfl rfl rfl ?_
  refine Ew.op (st' := zi (nI 1) :: _) f47_2 rfl rfl ?_
  refine Ew.call0 (ls0 := [some (zr (some (5, j, 0))), some (zi (nI m)), some (zi (nI 1))]) f47_3 rfl (Nat.le_of_ble_eq_true rfl) rfl rfl (Nat.le_of_ble_eq_true rfl) (by show (zsj X.2.2.2.1 5 j 0).1 = _; rw [zsj5 _ hj]; rfl) (Nat.le_of_ble_eq_true rfl) rfl rfl ?_
  refine Ew.ld f43_0 rfl rfl rfl rfl ?_
  refine Ew.ifc f43_1 rfl rfl (fun h => absurd h (show ¬ (((nI 1) : Int32) < 0) by decide)) (fun _ => ?_)
  refine Ew.ld f43_4 rfl rfl rfl rfl ?_
  refine Ew.ifc f43_5 rfl rfl (fun c1 => ?_) (fun c1 => ?_)
  · refine Ew.op (st' := zi (nI 0) :: _) f43_22 rfl rfl ?_
    refine Ew.iretb f43_23 (Or.inl rfl) ?_
    show Ev (d + 1) c s 47 6 [some (zr (some (5, j, 0))), some (zi (nI m)), some (zl v), none] [zi (nI 0)] (OM X 5 j ρ l) Q
    refine Ew.ifc f47_6 rfl rfl (fun h => absurd h (show ¬ (¬ ((nI 0) : Int32) = 0) by decide)) (fun _ => ?_)
    refine Ew.vret f47_9 ?_
    exact h1 ((zlt_iff nb_m (by decide)).mp c1)
  · refine Ew.ld f43_8 rfl rfl rfl rfl ?_
    refine Ew.ld f43_9 rfl rfl rfl rfl ?_
    refine Ew.getiV (v := nI Z) f43_10 (by rw [zsj5 _ hj]; rfl) (so_v e0) rfl ?_
    refine Ew.ld f43_13 rfl rfl rfl rfl ?_
    refine Ew.op (st' := zi ((nI Z) - (nI 1)) :: _) f43_14 rfl rfl ?_
    refine Ew.icmp f43_15 rfl rfl (fun c2 => ?_) (fun c2 => ?_)
    · refine Ew.op (st' := zi (nI 0) :: _) f43_22 rfl rfl ?_
      refine Ew.iretb f43_23 (Or.inl rfl) ?_
      show Ev (d + 1) c s 47 6 [some (zr (some (5, j, 0))), some (zi (nI m)), some (zl v), none] [zi (nI 0)] (OM X 5 j ρ l) Q
      refine Ew.ifc f47_6 rfl rfl (fun h => absurd h (show ¬ (¬ ((nI 0) : Int32) = 0) by decide)) (fun _ => ?_)
      refine Ew.vret f47_9 ?_
      exact h2 (Nat.not_lt.mp fun e => c1 ((zlt_iff nb_m (by decide)).mpr e)) c2
    · refine Ew.op (st' := zi (nI 1) :: _) f43_18 rfl rfl ?_
      refine Ew.goto f43_19 rfl ?_
      refine Ew.iretb f43_23 (Or.inr rfl) ?_
      show Ev (d + 1) c s 47 6 [some (zr (some (5, j, 0))), some (zi (nI m)), some (zl v), none] [zi (nI 1)] (OM X 5 j ρ l) Q
      refine Ew.ifc f47_6 rfl rfl (fun _ => ?_) (fun h => absurd (show ¬ ((nI 1) : Int32) = 0 by decide) h)
      refine Ew.ld f47_10 rfl rfl rfl rfl ?_
      refine Ew.getiV (v := nI y) f47_11 (by rw [zsj5 _ hj]; rfl) (so_v e1) rfl ?_
      by_cases c3 : (nI y) = nI 0
      · refine Ew.tsw (pc' := 40) (x := (nI y)) f47_14 (by rw [c3] <;> rfl) ?_
        refine Ew.ld f47_40 rfl rfl rfl rfl ?_
        refine Ew.getp (v := some (5, j, 1)) f47_41 (by rw [zsj5 _ hj]; rfl) rfl rfl ?_
        refine Ew.ld f47_44 rfl rfl rfl rfl ?_
        refine Ew.ld f47_45 rfl rfl rfl rfl ?_
        refine Ew.op (st' := zi v.toInt32 :: _) f47_46 rfl rfl ?_
        refine Ew.op (st' := zi v.toInt32.toInt8.toInt32 :: _) f47_47 rfl rfl ?_
        refine Ew.op (st' := zl v.toInt32.toInt8.toInt32.toInt64 :: _) f47_48 rfl rfl ?_
        refine Ew.lastnO f47_49 (by rw [zsj5 _ hj]; rfl) (by rw [zsj5 _ hj]; exact (b1 (Nat.not_lt.mp fun e => c1 ((zlt_iff nb_m (by decide)).mpr e)) (Int32.not_lt.mp c2) c3)) (by rw [zsj5 _ hj]; decide) rfl ?_
        refine Ew.goto f47_50 rfl ?_
        refine Ew.vret f47_85 ?_
        exact h3 (Nat.not_lt.mp fun e => c1 ((zlt_iff nb_m (by decide)).mpr e)) (Int32.not_lt.mp c2) c3
      by_cases c4 : (nI y) = nI 1
      · refine Ew.tsw (pc' := 53) (x := (nI y)) f47_14 (by rw [c4] <;> rfl) ?_
        refine Ew.ld f47_53 rfl rfl rfl rfl ?_
        refine Ew.getp (v := some (5, j, 1)) f47_54 (by rw [zsj5 _ hj]; rfl) rfl rfl ?_
        refine Ew.ld f47_57 rfl rfl rfl rfl ?_
        refine Ew.ld f47_58 rfl rfl rfl rfl ?_
        refine Ew.op (st' := zi v.toInt32 :: _) f47_59 rfl rfl ?_
        refine Ew.op (st' := zi v.toInt32.toInt16.toInt32 :: _) f47_60 rfl rfl ?_
        refine Ew.op (st' := zl v.toInt32.toInt16.toInt32.toInt64 :: _) f47_61 rfl rfl ?_
        refine Ew.lastnO f47_62 (by rw [zsj5 _ hj]; rfl) (by rw [zsj5 _ hj]; exact (b2 (Nat.not_lt.mp fun e => c1 ((zlt_iff nb_m (by decide)).mpr e)) (Int32.not_lt.mp c2) c3 c4)) (by rw [zsj5 _ hj]; decide) rfl ?_
        refine Ew.goto f47_63 rfl ?_
        refine Ew.vret f47_85 ?_
        exact h4 (Nat.not_lt.mp fun e => c1 ((zlt_iff nb_m (by decide)).mpr e)) (Int32.not_lt.mp c2) c3 c4
      by_cases c5 : (nI y) = nI 2
      · refine Ew.tsw (pc' := 66) (x := (nI y)) f47_14 (by rw [c5] <;> rfl) ?_
        refine Ew.ld f47_66 rfl rfl rfl rfl ?_
        refine Ew.getp (v := some (5, j, 1)) f47_67 (by rw [zsj5 _ hj]; rfl) rfl rfl ?_
        refine Ew.ld f47_70 rfl rfl rfl rfl ?_
        refine Ew.ld f47_71 rfl rfl rfl rfl ?_
        refine Ew.op (st' := zi v.toInt32 :: _) f47_72 rfl rfl ?_
        refine Ew.op (st' := zl v.toInt32.toInt64 :: _) f47_73 rfl rfl ?_
        refine Ew.lastnO f47_74 (by rw [zsj5 _ hj]; rfl) (by rw [zsj5 _ hj]; exact (b3 (Nat.not_lt.mp fun e => c1 ((zlt_iff nb_m (by decide)).mpr e)) (Int32.not_lt.mp c2) c3 c4 c5)) (by rw [zsj5 _ hj]; decide) rfl ?_
        refine Ew.goto f47_75 rfl ?_
        refine Ew.vret f47_85 ?_
        exact h5 (Nat.not_lt.mp fun e => c1 ((zlt_iff nb_m (by decide)).mpr e)) (Int32.not_lt.mp c2) c3 c4 c5
      refine Ew.tsw (x := (nI y)) f47_14 (ztw_o (m := 0) (n := 3) (zno (by decide) (fun k hk => by rcases (show k = 0 ∨ k = 1 ∨ k = 2 by omega) with rfl | rfl | rfl <;> first | exact c3 | exact c4 | exact c5)) rfl rfl rfl) ?_
      refine Ew.ld f47_78 rfl rfl rfl rfl ?_
      refine Ew.getp (v := some (5, j, 1)) f47_79 (by rw [zsj5 _ hj]; rfl) rfl rfl ?_
      refine Ew.ld f47_82 rfl rfl rfl rfl ?_
      refine Ew.ld f47_83 rfl rfl rfl rfl ?_
      refine Ew.lastnO f47_84 (by rw [zsj5 _ hj]; rfl) (by rw [zsj5 _ hj]; exact (b4 (Nat.not_lt.mp fun e => c1 ((zlt_iff nb_m (by decide)).mpr e)) (Int32.not_lt.mp c2) c3 c4 c5)) (by rw [zsj5 _ hj]; decide) rfl ?_
      refine Ew.vret f47_85 ?_
      exact h6 (Nat.not_lt.mp fun e => c1 ((zlt_iff nb_m (by decide)).mpr e)) (Int32.not_lt.mp c2) c3 c4 c5
theorem g45_0 {d c s : Nat} {j y m : Nat} {X : zM} {ρ : Nat → Nat → Int32} {l : Nat → Nat → Int64} {Q : Option zV → zM → Prop} (hj : j < 4) 
    (h1 : Ev d 0 0 245 0 [some (zr (some (5, j, 1))), some (zl (lN 0)), none, none, none] [] (OM X 5 j (zu (zu ρ 0 1 (nI y)) 0 0 (nI m)) l) (fun r M' => Ev (d + 1) c s 45 18 [some (zr (some (5, j, 0))), some (zi (nI y)), some (zi (nI m))] (zpush r []) M' Q)) : Ev (d + 1) c s 45 0 [some (zr (some (5, j, 0))), some (zi (nI y)), some (zi (nI m))] [] (OM X 5 j ρ l) Q := by
  refine Ew.ld f45_0 rfl rfl rfl rfl ?_
  refine Ew.ld f45_1 rfl rfl rfl rfl ?_
  refine Ew.putiO f45_2 (by rw [zsj5 _ hj]; rfl) rfl ?_
  refine Ew.ld f45_5 rfl rfl rfl rfl ?_
  refine Ew.ld f45_6 rfl rfl rfl rfl ?_
  refine Ew.putiO f45_7 (by rw [zsj5 _ hj]; rfl) rfl ?_
  refine Ew.ld f45_10 rfl rfl rfl rfl ?_
  refine Ew.getp (v := some (5, j, 1)) f45_11 (by rw [zsj5 _ hj]; rfl) rfl rfl ?_
  refine Ew.op (st' := zl (lN 0) :: _) f45_14 rfl rfl ?_
  refine Ew.call0 (ls0 := [some (zr (some (5, j, 1))), some (zl (lN 0)), none, none, none]) f45_15 rfl (Nat.le_of_ble_eq_true rfl) rfl rfl (Nat.le_of_ble_eq_true rfl) trivial (Nat.le_of_ble_eq_true rfl) rfl rfl ?_
  exact h1
theorem g45_18 {d c s : Nat} {j y m : Nat} {X : zM} {ρ : Nat → Nat → Int32} {l : Nat → Nat → Int64} {Q : Option zV → zM → Prop} (hj : j < 4) 
    (h1 : Q none (OM X 5 j ρ l)) : Ev d c s 45 18 [some (zr (some (5, j, 0))), some (zi (nI y)), some (zi (nI m))] [] (OM X 5 j ρ l) Q := by
  refine Ew.vret f45_18 ?_
  exact h1
theorem g245_0s {d c s : Nat} {j : Nat} {v : Int64} {X : zM} {ρ : Nat → Nat → Int32} {l : Nat → Nat → Int64} {Q : Option zV → zM → Prop} (hj : j < 4) 
    (h1 : Ev d c s 245 6 [some (zr (some (5, j, 1))), some (zl v), none, some (zi (nI 0)), some (zi (nI 24))] [] (OM X 5 j ρ l) Q) : Ev d c s 245 0 [some (zr (some (5, j, 1))), some (zl v), none, none, none] [] (OM X 5 j ρ l) Q := by
  refine Ew.op (st' := zi (nI 0) :: _) f245_0 rfl rfl ?_
  refine Ew.sr (ls' := [some (zr (some (5, j, 1))), some (zl v), none, some (zi (nI 0)), none]) f245_1 rfl rfl (Nat.le_of_ble_eq_true rfl) rfl rfl ?_
  refine Ew.ld f245_2 rfl rfl rfl rfl ?_
  refine Ew.alen (n := 24) f245_3 (by rw [zsj5 _ hj]; decide) (by rw [zsj5 _ hj]; rfl) rfl ?_
  refine Ew.sr (ls' := [some (zr (some (5, j, 1))), some (zl v), none, some (zi (nI 0)), some (zi (nI 24))]) f245_4 rfl rfl (Nat.le_of_ble_eq_true rfl) rfl rfl ?_
  exact h1
theorem g245_6s {d c s : Nat} {j k : Nat} {v : Int64} {X : zM} {ρ : Nat → Nat → Int32} {l : Nat → Nat → Int64} {Q : Option zV → zM → Prop} (hj : j < 4)  (nb_k : k < 5000)
    (h1 : (24 ≤ k) → Q none (OM X 5 j ρ l))
    (b1 : (k < 24) → k < 24)
    (h2 : (k < 24) → Ev d c s 245 6 [some (zr (some (5, j, 1))), some (zl v), none, some (zi (nI (k + 1))), some (zi (nI 24))] [] (OM X 5 j ρ (zu l 1 k v)) Q) : Ev d c s 245 6 [some (zr (some (5, j, 1))), some (zl v), none, some (zi (nI k)), some (zi (nI 24))] [] (OM X 5 j ρ l) Q := by
  refine Ew.ld f245_6 rfl rfl rfl rfl ?_
  refine Ew.ld f245_7 rfl rfl rfl rfl ?_
  refine Ew.icmp f245_9 rfl rfl (fun c1 => ?_) (fun c1 => ?_)
  · refine Ew.vret f245_22 ?_
    exact h1 ((zle_iff (by decide) nb_k).mp c1)
  · refine Ew.ld f245_12 rfl rfl rfl rfl ?_
    refine Ew.ld f245_13 rfl rfl rfl rfl ?_
    refine Ew.ld f245_14 rfl rfl rfl rfl ?_
    refine Ew.lastnO f245_15 (by rw [zsj5 _ hj]; rfl) (by rw [zsj5 _ hj]; exact (b1 (Nat.not_le.mp fun e => c1 ((zle_iff (by decide) nb_k).mpr e)))) (by rw [zsj5 _ hj]; decide) rfl ?_
    refine Ew.iinc (v := nI (k + 1)) (ls' := [some (zr (some (5, j, 1))), some (zl v), none, some (zi (nI (k + 1))), some (zi (nI 24))]) f245_16 rfl (nI_1 _) rfl rfl ?_
    refine Ew.goto f245_19 rfl ?_
    exact h2 (Nat.not_le.mp fun e => c1 ((zle_iff (by decide) nb_k).mpr e))
theorem g46_0 {d c s : Nat} {j : Nat} {X : zM} {ρ : Nat → Nat → Int32} {l : Nat → Nat → Int64} {Q : Option zV → zM → Prop} (hj : j < 4) 
    (h1 : Q (some (zi (ρ 0 0))) (OM X 5 j (zu ρ 0 0 ((-1))) l)) : Ev d c s 46 0 [some (zr (some (5, j, 0))), none] [] (OM X 5 j ρ l) Q := by
  refine Ew.ld f46_0 rfl rfl rfl rfl ?_
  refine Ew.getiO f46_1 (by rw [zsj5 _ hj]; rfl) rfl ?_
  refine Ew.sr (ls' := [some (zr (some (5, j, 0))), some (zi (ρ 0 0))]) f46_4 rfl rfl (Nat.le_of_ble_eq_true rfl) rfl rfl ?_
  refine Ew.ld f46_5 rfl rfl rfl rfl ?_
  refine Ew.op (st' := zi ((-1)) :: _) f46_6 rfl rfl ?_
  refine Ew.putiO f46_7 (by rw [zsj5 _ hj]; rfl) rfl ?_
  refine Ew.ld f46_10 rfl rfl rfl rfl ?_
  refine Ew.ireti f46_11 ?_
  exact h1
theorem g49_0 {d c s : Nat} {j m Z : Nat} {X : zM} {ρ : Nat → Nat → Int32} {l : Nat → Nat → Int64} {Q : Option zV → zM → Prop} (hj : j < 4) (e0 : ρ 0 0 = nI Z)  (nb_m : m < 5000)
    (h1 : (m < 0) → Q (some (zi ((-4)))) (OM X 5 j ρ l))
    (h2 : (0 ≤ m) → (((nI Z) - (nI 1)) < (nI m)) → Q (some (zi ((-4)))) (OM X 5 j ρ l))
    (b1 : (0 ≤ m) → ((nI m) ≤ ((nI Z) - (nI 1))) → m < 24)
    (h3 : (0 ≤ m) → ((nI m) ≤ ((nI Z) - (nI 1))) → ((lg_cmp (l 1 m) (lN 0)) < 0) → Q (some (zi ((-4)))) (OM X 5 j ρ l))
    (b2 : (0 ≤ m) → ((nI m) ≤ ((nI Z) - (nI 1))) → (0 ≤ (lg_cmp (l 1 m) (lN 0))) → m < 24)
    (b3 : (0 ≤ m) → ((nI m) ≤ ((nI Z) - (nI 1))) → (0 ≤ (lg_cmp (l 1 m) (lN 0))) → ((lg_cmp (l 1 m) (lN 4)) < 0) → m < 24)
    (h4 : (0 ≤ m) → ((nI m) ≤ ((nI Z) - (nI 1))) → (0 ≤ (lg_cmp (l 1 m) (lN 0))) → ((lg_cmp (l 1 m) (lN 4)) < 0) → Q (some (zi ((l 1 m).toInt32))) (OM X 5 j ρ l))
    (h5 : (0 ≤ m) → ((nI m) ≤ ((nI Z) - (nI 1))) → (0 ≤ (lg_cmp (l 1 m) (lN 0))) → (0 ≤ (lg_cmp (l 1 m) (lN 4))) → Q (some (zi ((-4)))) (OM X 5 j ρ l)) : Ev (d + 1) c s 49 0 [some (zr (some (5, j, 0))), some (zi (nI m))] [] (OM X 5 j ρ l) Q := by
  refine Ew.ld f49_0 rfl rfl rfl rfl ?_
  refine Ew.ld f49_1 rfl rfl rfl rfl ?_
  refine Ew.op (st' := zi (nI 1) :: _) f49_2 rfl rfl ?_
  refine Ew.call0 (ls0 := [some (zr (some (5, j, 0))), some (zi (nI m)), some (zi (nI 1))]) f49_3 rfl (Nat.le_of_ble_eq_true rfl) rfl rfl (Nat.le_of_ble_eq_true rfl) (by show (zsj X.2.2.2.1 5 j 0).1 = _; rw [zsj5 _ hj]; rfl) (Nat.le_of_ble_eq_true rfl) rfl rfl ?_
  refine Ew.ld f43_0 rfl rfl rfl rfl ?_
  refine Ew.ifc f43_1 rfl rfl (fun h => absurd h (show ¬ (((nI 1) : Int32) < 0) by decide)) (fun _ => ?_)
  refine Ew.ld f43_4 rfl rfl rfl rfl ?_
  refine Ew.ifc f43_5 rfl rfl (fun c1 => ?_) (fun c1 => ?_)
  · refine Ew.op (st' := zi (nI 0) :: _) f43_22 rfl rfl ?_
    refine Ew.iretb f43_23 (Or.inl rfl) ?_
    show Ev (d + 1) c s 49 6 [some (zr (some (5, j, 0))), some (zi (nI m))] [zi (nI 0)] (OM X 5 j ρ l) Q
    refine Ew.ifc f49_6 rfl rfl (fun _ => ?_) (fun h => absurd (show ((nI 0) : Int32) = 0 by decide) h)
    refine Ew.op (st' := zi ((-4)) :: _) f49_33 rfl rfl ?_
    refine Ew.ireti f49_35 ?_
    exact h1 ((zlt_iff nb_m (by decide)).mp c1)
  · refine Ew.ld f43_8 rfl rfl rfl rfl ?_
    refine Ew.ld f43_9 rfl rfl rfl rfl ?_
    refine Ew.getiV (v := nI Z) f43_10 (by rw [zsj5 _ hj]; rfl) (so_v e0) rfl ?_
    refine Ew.ld f43_13 rfl rfl rfl rfl ?_
    refine Ew.op (st' := zi ((nI Z) - (nI 1)) :: _) f43_14 rfl rfl ?_
    refine Ew.icmp f43_15 rfl rfl (fun c2 => ?_) (fun c2 => ?_)
    · refine Ew.op (st' := zi (nI 0) :: _) f43_22 rfl rfl ?_
      refine Ew.iretb f43_23 (Or.inl rfl) ?_
      show Ev (d + 1) c s 49 6 [some (zr (some (5, j, 0))), some (zi (nI m))] [zi (nI 0)] (OM X 5 j ρ l) Q
      refine Ew.ifc f49_6 rfl rfl (fun _ => ?_) (fun h => absurd (show ((nI 0) : Int32) = 0 by decide) h)
      refine Ew.op (st' := zi ((-4)) :: _) f49_33 rfl rfl ?_
      refine Ew.ireti f49_35 ?_
      exact h2 (Nat.not_lt.mp fun e => c1 ((zlt_iff nb_m (by decide)).mpr e)) c2
    · refine Ew.op (st' := zi (nI 1) :: _) f43_18 rfl rfl ?_
      refine Ew.goto f43_19 rfl ?_
      refine Ew.iretb f43_23 (Or.inr rfl) ?_
      show Ev (d + 1) c s 49 6 [some (zr (some (5, j, 0))), some (zi (nI m))] [zi (nI 1)] (OM X 5 j ρ l) Q
      refine Ew.ifc f49_6 rfl rfl (fun h => absurd h (show ¬ (((nI 1) : Int32) = 0) by decide)) (fun _ => ?_)
      refine Ew.ld f49_9 rfl rfl rfl rfl ?_
      refine Ew.getp (v := some (5, j, 1)) f49_10 (by rw [zsj5 _ hj]; rfl) rfl rfl ?_
      refine Ew.ld f49_13 rfl rfl rfl rfl ?_
      refine Ew.laldnO f49_14 (by rw [zsj5 _ hj]; rfl) (by rw [zsj5 _ hj]; exact (b1 (Nat.not_lt.mp fun e => c1 ((zlt_iff nb_m (by decide)).mpr e)) (Int32.not_lt.mp c2))) (by rw [zsj5 _ hj]; decide) rfl ?_
      refine Ew.op (st' := zl (lN 0) :: _) f49_15 rfl rfl ?_
      refine Ew.op (st' := zi (lg_cmp (l 1 m) (lN 0)) :: _) f49_16 rfl rfl ?_
      refine Ew.ifc f49_17 rfl rfl (fun c3 => ?_) (fun c3 => ?_)
      · refine Ew.op (st' := zi ((-4)) :: _) f49_33 rfl rfl ?_
        refine Ew.ireti f49_35 ?_
        exact h3 (Nat.not_lt.mp fun e => c1 ((zlt_iff nb_m (by decide)).mpr e)) (Int32.not_lt.mp c2) c3
      · refine Ew.ld f49_20 rfl rfl rfl rfl ?_
        refine Ew.getp (v := some (5, j, 1)) f49_21 (by rw [zsj5 _ hj]; rfl) rfl rfl ?_
        refine Ew.ld f49_24 rfl rfl rfl rfl ?_
        refine Ew.laldnO f49_25 (by rw [zsj5 _ hj]; rfl) (by rw [zsj5 _ hj]; exact (b2 (Nat.not_lt.mp fun e => c1 ((zlt_iff nb_m (by decide)).mpr e)) (Int32.not_lt.mp c2) (Int32.not_lt.mp c3))) (by rw [zsj5 _ hj]; decide) rfl ?_
        refine Ew.op (st' := zl (lN 4) :: _) f49_26 rfl rfl ?_
        refine Ew.op (st' := zi (lg_cmp (l 1 m) (lN 4)) :: _) f49_29 rfl rfl ?_
        refine Ew.ifc f49_30 rfl rfl (fun c4 => ?_) (fun c4 => ?_)
        · refine Ew.ld f49_36 rfl rfl rfl rfl ?_
          refine Ew.getp (v := some (5, j, 1)) f49_37 (by rw [zsj5 _ hj]; rfl) rfl rfl ?_
          refine Ew.ld f49_40 rfl rfl rfl rfl ?_
          refine Ew.laldnO f49_41 (by rw [zsj5 _ hj]; rfl) (by rw [zsj5 _ hj]; exact (b3 (Nat.not_lt.mp fun e => c1 ((zlt_iff nb_m (by decide)).mpr e)) (Int32.not_lt.mp c2) (Int32.not_lt.mp c3) c4)) (by rw [zsj5 _ hj]; decide) rfl ?_
          refine Ew.op (st' := zi ((l 1 m).toInt32) :: _) f49_42 rfl rfl ?_
          refine Ew.ireti f49_43 ?_
          exact h4 (Nat.not_lt.mp fun e => c1 ((zlt_iff nb_m (by decide)).mpr e)) (Int32.not_lt.mp c2) (Int32.not_lt.mp c3) c4
        · refine Ew.op (st' := zi ((-4)) :: _) f49_33 rfl rfl ?_
          refine Ew.ireti f49_35 ?_
          exact h5 (Nat.not_lt.mp fun e => c1 ((zlt_iff nb_m (by decide)).mpr e)) (Int32.not_lt.mp c2) (Int32.not_lt.mp c3) (Int32.not_lt.mp c4)
theorem g50_0 {d c s : Nat} {j i n : Nat} {X : zM} {ρ : Nat → Nat → Int32} {l : Nat → Nat → Int64} {Q : Option zV → zM → Prop} (hj : j < 4) 
    (h1 : Ev d c s 50 2 [some (zr (some (5, j, 0))), some (zi (nI i)), some (zi (nI n)), some (zi (nI 0))] [] (OM X 5 j ρ l) Q) : Ev d c s 50 0 [some (zr (some (5, j, 0))), some (zi (nI i)), some (zi (nI n)), none] [] (OM X 5 j ρ l) Q := by
  refine Ew.op (st' := zi (nI 0) :: _) f50_0 rfl rfl ?_
  refine Ew.sr (ls' := [some (zr (some (5, j, 0))), some (zi (nI i)), some (zi (nI n)), some (zi (nI 0))]) f50_1 rfl rfl (Nat.le_of_ble_eq_true rfl) rfl rfl ?_
  exact h1
theorem g50_2 {d c s : Nat} {j i n k : Nat} {X : zM} {ρ : Nat → Nat → Int32} {l : Nat → Nat → Int64} {Q : Option zV → zM → Prop} (hj : j < 4)  (nb_k : k < 5000) (nb_n : n < 5000)
    (h1 : (n ≤ k) → Q (some (zi (nI 1))) (OM X 5 j ρ l))
    (h2 : (k < n) → Ev d 0 0 49 0 [some (zr (some (5, j, 0))), some (zi (nI (i + k)))] [] (OM X 5 j ρ l) (fun r M' => Ev (d + 1) c s 50 14 [some (zr (some (5, j, 0))), some (zi (nI i)), some (zi (nI n)), some (zi (nI k))] (zpush r []) M' Q)) : Ev (d + 1) c s 50 2 [some (zr (some (5, j, 0))), some (zi (nI i)), some (zi (nI n)), some (zi (nI k))] [] (OM X 5 j ρ l) Q := by
  refine Ew.ld f50_2 rfl rfl rfl rfl ?_
  refine Ew.ld f50_3 rfl rfl rfl rfl ?_
  refine Ew.icmp f50_4 rfl rfl (fun c1 => ?_) (fun c1 => ?_)
  · refine Ew.op (st' := zi (nI 1) :: _) f50_27 rfl rfl ?_
    refine Ew.iretb f50_28 (Or.inr rfl) ?_
    exact h1 ((zle_iff nb_n nb_k).mp c1)
  · refine Ew.ld f50_7 rfl rfl rfl rfl ?_
    refine Ew.ld f50_8 rfl rfl rfl rfl ?_
    refine Ew.ld f50_9 rfl rfl rfl rfl ?_
    refine Ew.addn f50_10 rfl ?_
    refine Ew.call0 (ls0 := [some (zr (some (5, j, 0))), some (zi (nI (i + k)))]) f50_11 rfl (Nat.le_of_ble_eq_true rfl) rfl rfl (Nat.le_of_ble_eq_true rfl) (by show (zsj X.2.2.2.1 5 j 0).1 = _; rw [zsj5 _ hj]; rfl) (Nat.le_of_ble_eq_true rfl) rfl rfl ?_
    exact h2 (Nat.not_le.mp fun e => c1 ((zle_iff nb_n nb_k).mpr e))
theorem g50_14 {d c s : Nat} {j i n k : Nat} {x : Int32} {X : zM} {ρ : Nat → Nat → Int32} {l : Nat → Nat → Int64} {Q : Option zV → zM → Prop} (hj : j < 4) 
    (h1 : (¬ x = ((-4))) → Ev d c s 50 2 [some (zr (some (5, j, 0))), some (zi (nI i)), some (zi (nI n)), some (zi (nI (k + 1)))] [] (OM X 5 j ρ l) Q)
    (h2 : (x = ((-4))) → Q (some (zi (nI 0))) (OM X 5 j ρ l)) : Ev d c s 50 14 [some (zr (some (5, j, 0))), some (zi (nI i)), some (zi (nI n)), some (zi (nI k))] [zi x] (OM X 5 j ρ l) Q := by
  refine Ew.op (st' := zi ((-4)) :: _) f50_14 rfl rfl ?_
  refine Ew.icmp f50_16 rfl rfl (fun c1 => ?_) (fun c1 => ?_)
  · refine Ew.iinc (v := nI (k + 1)) (ls' := [some (zr (some (5, j, 0))), some (zi (nI i)), some (zi (nI n)), some (zi (nI (k + 1)))]) f50_21 rfl (nI_1 _) rfl rfl ?_
    refine Ew.goto f50_24 rfl ?_
    exact h1 c1
  · refine Ew.op (st' := zi (nI 0) :: _) f50_19 rfl rfl ?_
    refine Ew.iretb f50_20 (Or.inl rfl) ?_
    exact h2 (Classical.not_not.mp c1)
theorem g48_0 {d c s : Nat} {p q : Nat} {x y z : Int32} {I : zI} {L : zL} {P : zP} {S : zS} {top : Nat} {Q : Option zV → zM → Prop} (hp : p < 4) (hq : q < 4) 
    (h1 : Ev d c s 48 12 [some (zr (some (5, p, 0))), some (zi x), some (zr (some (5, q, 0))), some (zi y), some (zi z)] [zi z, zi y, zr (some (5, q, 1)), zi x, zr (some (5, p, 1))] (I, L, zpj P, zsj S, top) Q) : Ev d c s 48 0 [some (zr (some (5, p, 0))), some (zi x), some (zr (some (5, q, 0))), some (zi y), some (zi z)] [] (I, L, zpj P, zsj S, top) Q := by
  refine Ew.ld f48_0 rfl rfl rfl rfl ?_
  refine Ew.getp (v := some (5, p, 1)) f48_1 (by rw [zsj5 _ hp]; rfl) rfl rfl ?_
  refine Ew.ld f48_4 rfl rfl rfl rfl ?_
  refine Ew.ld f48_5 rfl rfl rfl rfl ?_
  refine Ew.getp (v := some (5, q, 1)) f48_6 (by rw [zsj5 _ hq]; rfl) rfl rfl ?_
  refine Ew.ld f48_9 rfl rfl rfl rfl ?_
  refine Ew.ld f48_10 rfl rfl rfl rfl ?_
  exact h1
theorem g48_15 {d c s : Nat} {p q : Nat} {x y z : Int32} {I : zI} {L : zL} {P : zP} {S : zS} {top : Nat} {Q : Option zV → zM → Prop} (hp : p < 4) (hq : q < 4) 
    (h1 : Q none (I, L, zpj P, zsj S, top)) : Ev d c s 48 15 [some (zr (some (5, p, 0))), some (zi x), some (zr (some (5, q, 0))), some (zi y), some (zi z)] [] (I, L, zpj P, zsj S, top) Q := by
  refine Ew.vret f48_15 ?_
  exact h1
abbrev oS : Type := Option (Nat × Nat × (Nat → Int64))
def cS1 (ρ : Nat → Nat → Int32) (l : Nat → Nat → Int64) (o : oS) : Prop := match o with
  | none => ρ 0 0 = -1
  | some x => ρ 0 0 = nI x.2.1 ∧ ρ 0 1 = nI x.1 ∧ ∀ i, i < x.2.1 → l 1 i = x.2.2 i
theorem nI_m1 {n : Nat} (h : n < 5000) : ¬ nI n = -1 := nI_nem1 (by omega)
section
variable {d c s j n m : Nat} {x i : Int32} {o : oS} {X : zM} {ρ : Nat → Nat → Int32} {l : Nat → Nat → Int64} {Q : Option zV → zM → Prop}
theorem zroomC {z n : Nat} {i : Int32} (hz : z < 5000) (hn : n < 5000) (hi : 0 ≤ i) : i ≤ nI z - nI n ↔ (0 ≤ i.toInt ∧ i.toInt + n ≤ z) := by
  obtain ⟨j, hj, rfl⟩ := nI_of (Int32.not_lt.mpr hi)
  rw [Int32.le_iff_toInt_le, zsubI hz (by omega), nI_toInt hj]
  omega
theorem sp_sFind (hj : j < 4) (h : cS1 ρ l o) (hb : ∀ x, o = some x → x.1 < 4 ∧ x.2.1 ≤ 24) (hn : n ≤ 24) (k : Q (some (zi (aFnd o x i n))) (OM X 5 j ρ l)) : Ev (d + 1) c s 44 0 [some (zr (some (5, j, 0))), some (zi x), some (zi i), some (zi (nI n))] [] (OM X 5 j ρ l) Q := by
  cases o with
  | none =>
    have h : ρ 0 0 = -1 := h
    exact g44_0 hj (by omega) (fun g => absurd h g) (fun g => absurd h g) (fun g => absurd h g) (fun g => absurd h g) (fun g => absurd h g) (fun _ => k)
  | some y =>
    obtain ⟨h1, h2, h3⟩ := h
    have hb := hb y rfl
    have k : Q (some (zi (if nI y.1 = x then (if 0 ≤ i.toInt ∧ i.toInt + n ≤ y.2.1 then 0 else -13) else -12))) (OM X 5 j ρ l) := k
    have nm : ¬ ρ 0 0 = -1 := by rw [h1]; exact nI_m1 (by omega)
    refine g44_0 hj (by omega) (fun _ _ g => by omega) (fun _ a _ b => ?_) (fun _ a _ b e => ?_) (fun _ a _ b e => ?_) (fun _ a => ?_) (fun g => absurd g nm)
    · rw [h2] at a
      rw [if_pos a.symm, if_neg (fun g => absurd (zge0.mpr g.1) (Int32.not_le.mpr b))] at k
      exact k
    · rw [h2] at a
      rw [h1] at e
      rw [if_pos a.symm, if_neg (fun g => absurd ((zroomC (by omega) (by omega) b).mpr g) (Int32.not_le.mpr e))] at k
      exact k
    · rw [h2] at a
      rw [h1] at e
      rw [if_pos a.symm, if_pos ((zroomC (by omega) (by omega) b).mp e)] at k
      exact k
    · rw [h2] at a
      rw [if_neg (fun g => a g.symm)] at k
      exact k
theorem sp_sPut {Z y : Nat} {v : Int64} (hj : j < 4) (e0 : ρ 0 0 = nI Z) (e1 : ρ 0 1 = nI y) (hZ : Z ≤ 24) (hm : m < Z) (k : Q none (OM X 5 j ρ (zu l 1 m (aCut (nI y) v)))) : Ev (d + 1) c s 47 0 [some (zr (some (5, j, 0))), some (zi (nI m)), some (zl v), none] [] (OM X 5 j ρ l) Q := by
  unfold aCut at k
  have er : nI Z - nI 1 = nI (Z - 1) := pk_sub (by omega)
  refine g47_0 hj e0 e1 (by omega) (fun g => by omega) (fun _ g => ?_) (fun _ _ _ => by omega) (fun _ _ a => ?_) (fun _ _ _ _ => by omega) (fun _ _ a b => ?_) (fun _ _ _ _ _ => by omega) (fun _ _ a b e => ?_) (fun _ _ _ _ _ => by omega) (fun _ _ a b e => ?_)
  · rw [er] at g
    have := (zlt_iff (by omega) (by omega)).mp g
    omega
  · rw [if_pos (show nI y = 0 from a)] at k; exact k
  · rw [if_neg (show ¬ nI y = 0 from a), if_pos b] at k; exact k
  · rw [if_neg (show ¬ nI y = 0 from a), if_neg b, if_pos e] at k; exact k
  · rw [if_neg (show ¬ nI y = 0 from a), if_neg b, if_neg e] at k; exact k
theorem sp_sFill {v : Int64} (hj : j < 4) (k : ∀ l', (∀ g, g < 24 → l' 1 g = v) → (∀ q i, ¬ q = 1 → l' q i = l q i) → Q none (OM X 5 j ρ l')) : Ev d c s 245 0 [some (zr (some (5, j, 1))), some (zl v), none, none, none] [] (OM X 5 j ρ l) Q := by
  refine g245_0s hj ?_
  have lp : ∀ m, m ≤ 24 → ∀ l', (∀ g, g < 24 - m → l' 1 g = v) → (∀ q i, ¬ q = 1 → l' q i = l q i) → Ev d c s 245 6 [some (zr (some (5, j, 1))), some (zl v), none, some (zi (nI (24 - m))), some (zi (nI 24))] [] (OM X 5 j ρ l') Q := by
    intro m
    induction m with
    | zero => exact fun _ l' h1 h2 => g245_6s hj (by omega) (fun _ => k l' (fun g hg => h1 g (by omega)) h2) (fun q => q) (fun q => absurd q (by omega))
    | succ m ih =>
      intro hm l' h1 h2
      refine g245_6s hj (by omega) (fun q => by omega) (fun q => q) (fun q => ?_)
      rw [show 24 - (m + 1) + 1 = 24 - m by omega]
      refine ih (by omega) _ (fun g hg => ?_) (fun q i hq => ?_)
      · by_cases e : g = 24 - (m + 1)
        · subst e; exact zu_s _ _ _ _
        · rw [zu_i_ne (by omega)]; exact h1 g (by omega)
      · rw [zu_i_ne (by omega)]; exact h2 q i hq
  exact lp 24 (Nat.le_refl _) l (fun g hg => absurd hg (by omega)) (fun _ _ _ => rfl)
theorem sp_sBeg {y m : Nat} (hj : j < 4) (hm : m ≤ 24) (k : ∀ ρ' l', cS1 ρ' l' (some (y, m, fun _ => 0)) → Q none (OM X 5 j ρ' l')) : Ev (d + 1) c s 45 0 [some (zr (some (5, j, 0))), some (zi (nI y)), some (zi (nI m))] [] (OM X 5 j ρ l) Q := by
  refine g45_0 hj (sp_sFill hj (fun l1 a1 a2 => g45_18 hj (k _ _ ⟨zu_e, ?_, fun i hi => ?_⟩)))
  · rw [zu_i_ne (by omega), zu_e]
  · have hi : i < m := hi
    exact a1 i (by omega)
theorem lgP {a b : Int64} : 0 ≤ lg_cmp a b ↔ b ≤ a := by
  unfold lg_cmp
  by_cases h : a > b
  · rw [if_pos h]; exact ⟨fun _ => Int64.le_of_lt h, fun _ => by decide⟩
  · rw [if_neg h]
    by_cases e : a = b
    · rw [if_pos e, e]; exact ⟨fun _ => Int64.le_refl _, fun _ => by decide⟩
    · rw [if_neg e]
      constructor
      · intro g; exact absurd g (by decide)
      · intro g
        exfalso
        rcases Int64.lt_or_eq_of_le g with q | q
        · exact h q
        · exact e q.symm
theorem lgN {a b : Int64} : lg_cmp a b < 0 ↔ a < b := by
  rw [← Int64.not_le, ← lgP, Int32.not_le]
theorem sp_sTask {Z : Nat} {f : Nat → Int64} (hj : j < 4) (e0 : ρ 0 0 = nI Z) (hf : ∀ i, i < Z → l 1 i = f i) (hZ : Z ≤ 24) (hm : m < Z) (k1 : (lN 0 ≤ f m ∧ f m ≤ lN 3) → Q (some (zi (f m).toInt32)) (OM X 5 j ρ l)) (k0 : ¬ (lN 0 ≤ f m ∧ f m ≤ lN 3) → Q (some (zi (-4))) (OM X 5 j ρ l)) : Ev (d + 1) c s 49 0 [some (zr (some (5, j, 0))), some (zi (nI m))] [] (OM X 5 j ρ l) Q := by
  have er : nI Z - nI 1 = nI (Z - 1) := pk_sub (by omega)
  have h3 : f m < lN 4 ↔ f m ≤ lN 3 := by
    rw [Int64.lt_iff_toInt_lt, Int64.le_iff_toInt_le, show (lN 4).toInt = 4 by decide, show (lN 3).toInt = 3 by decide]
    omega
  refine g49_0 hj e0 (by omega) (fun g => by omega) (fun _ g => ?_) (fun _ _ => by omega) (fun _ _ g => ?_) (fun _ _ _ => by omega) (fun _ _ _ _ => by omega) (fun _ _ g g2 => ?_) (fun _ _ g g2 => ?_)
  · rw [er] at g
    have := (zlt_iff (by omega) (by omega)).mp g
    omega
  · rw [hf m hm] at g
    exact k0 (fun q => absurd (lgN.mp g) (Int64.not_lt.mpr q.1))
  · rw [hf m hm] at g g2 ⊢
    exact k1 ⟨lgP.mp g, h3.mp (lgN.mp g2)⟩
  · rw [hf m hm] at g g2
    exact k0 (fun q => absurd (h3.mpr q.2) (Int64.not_lt.mpr (lgP.mp g2)))
theorem tsk4 {v : Int64} (h : lN 0 ≤ v ∧ v ≤ lN 3) : ∃ u, u < 4 ∧ v = lN u ∧ v.toInt32 = nI u := by
  rw [Int64.le_iff_toInt_le, Int64.le_iff_toInt_le, show (lN 0).toInt = 0 by decide, show (lN 3).toInt = 3 by decide] at h
  refine ⟨v.toInt.toNat, by omega, ?_, ?_⟩
  · apply Int64.toInt_inj.mp
    rw [pk_lT (by omega)]; omega
  · have e : v = lN v.toInt.toNat := by
      apply Int64.toInt_inj.mp
      rw [pk_lT (by omega)]; omega
    have := lN_i v.toInt.toNat
    rw [← e] at this
    exact this
theorem sp_sTells {Z n i : Nat} {f : Nat → Int64} (hj : j < 4) (e0 : ρ 0 0 = nI Z) (hf : ∀ i, i < Z → l 1 i = f i) (hZ : Z ≤ 24) (hn : i + n ≤ Z) (k1 : (∀ u, u < n → lN 0 ≤ f (i + u) ∧ f (i + u) ≤ lN 3) → Q (some (zi (nI 1))) (OM X 5 j ρ l)) (k0 : ¬ (∀ u, u < n → lN 0 ≤ f (i + u) ∧ f (i + u) ≤ lN 3) → Q (some (zi (nI 0))) (OM X 5 j ρ l)) : Ev (d + 2) c s 50 0 [some (zr (some (5, j, 0))), some (zi (nI i)), some (zi (nI n)), none] [] (OM X 5 j ρ l) Q := by
  refine g50_0 hj ?_
  have lp : ∀ m, m ≤ n → (∀ u, u < n - m → lN 0 ≤ f (i + u) ∧ f (i + u) ≤ lN 3) → Ev (d + 2) c s 50 2 [some (zr (some (5, j, 0))), some (zi (nI i)), some (zi (nI n)), some (zi (nI (n - m)))] [] (OM X 5 j ρ l) Q := by
    intro m
    induction m with
    | zero => exact fun _ h => g50_2 (d := d + 1) hj (by omega) (by omega) (fun _ => k1 h) (fun g => by omega)
    | succ m ih =>
      intro hm h
      refine g50_2 (d := d + 1) hj (by omega) (by omega) (fun g => by omega) (fun _ => sp_sTask (d := d) hj e0 hf hZ (by omega) (fun g => ?_) (fun g => ?_))
      · obtain ⟨u, hu, _, eu⟩ := tsk4 g
        rw [eu]
        refine g50_14 hj (fun _ => ?_) (fun q => absurd q (nI_ne4 (by omega)))
        rw [show n - (m + 1) + 1 = n - m by omega]
        refine ih (by omega) (fun u hu => ?_)
        by_cases e : u = n - (m + 1)
        · rw [e]; exact g
        · exact h u (by omega)
      · exact g50_14 hj (fun q => absurd rfl q) (fun _ => k0 (fun q => g (q _ (by omega))))
  have h0 := lp n (Nat.le_refl _) (fun u hu => by omega)
  rw [Nat.sub_self] at h0
  exact h0
end
theorem sp_sGive {d c s p q i k n : Nat} {I : zI} {L : zL} {P : zP} {S : zS} {top : Nat} {Q : Option zV → zM → Prop} (hp : p < 4) (hq : q < 4) (h1 : i + n ≤ 24) (h2 : k + n ≤ 24) (kk : Q none (I, zup3 L 5 q 1 (va_cpy (L 5 p 1) (L 5 q 1) i k n), zpj P, zsj S, top)) : Ev (d + 1) c s 48 0 [some (zr (some (5, p, 0))), some (zi (nI i)), some (zr (some (5, q, 0))), some (zi (nI k)), some (zi (nI n))] [] (I, L, zpj P, zsj S, top) Q := by
  refine g48_0 hp hq ?_
  have c1 : (nI i).toNatClampNeg = i := nI_clamp (by omega)
  have c2 : (nI k).toNatClampNeg = k := nI_clamp (by omega)
  have c3 : (nI n).toNatClampNeg = n := nI_clamp (by omega)
  have s1 : zsj S 5 p 1 = (21, 24) := zsj5 S hp 1
  have s2 : zsj S 5 q 1 = (21, 24) := zsj5 S hq 1
  refine Ew.nat (c' := c) (s' := s) (st' := []) (M' := (I, zup3 L 5 q 1 (va_cpy (L 5 p 1) (L 5 q 1) i k n), zpj P, zsj S, top)) f48_12 rfl (fun K h => ?_) rfl (g48_15 hp hq kk)
  refine ⟨Nat.le_of_ble_eq_true rfl, by decide, by decide, ?_, nI_pos (by omega), nI_pos (by omega), nI_pos (by omega), ?_, ?_, Or.inr ⟨?_, ?_⟩⟩
  · show (zsj S 5 p 1).1 = (zsj S 5 q 1).1
    rw [s1, s2]
  · show (nI i).toNatClampNeg + (nI n).toNatClampNeg ≤ (zsj S 5 p 1).2
    rw [s1, c1, c3]; exact h1
  · show (nI k).toNatClampNeg + (nI n).toNatClampNeg ≤ (zsj S 5 q 1).2
    rw [s2, c2, c3]; exact h2
  · show (zsj S 5 q 1).1 = 21
    rw [s2]
  · rw [c1, c2, c3]; exact h
