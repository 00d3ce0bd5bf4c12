/-! the class: drop, sheet, item, film, copy -/
theorem g138_0i {d c s : Nat} {t : Nat} {x : Int32} {I : zI} {L : zL} {P : zP} {S : zS} {Q : Option zV → zM → Prop}
    (h1 : (aIx x 4 = none) → Q (some (zi ((-1)))) (I, L, zpj P, zsj S, 237 + t))
    (h2 : (¬ (aIx x 4 = none)) → Ev (d + 1) c s 138 9 [some (zr (some (0, 0, 0))), some (zi x)] [] (I, L, zpj P, zsj S, 237 + t) Q) : Ev (d + 1) c s 138 0 [some (zr (some (0, 0, 0))), some (zi x)] [] (I, L, zpj P, zsj S, 237 + t) Q := by
  refine Ew.ld f138_0 rfl rfl rfl rfl ?_
  refine Ew.call0 (ls0 := [some (zi x)]) f138_1 rfl (Nat.le_of_ble_eq_true rfl) rfl rfl (Nat.le_of_ble_eq_true rfl) trivial (Nat.le_of_ble_eq_true rfl) rfl rfl ?_
  refine sp_noSheet (fun c1 => ?_) (fun c1 => ?_)
  · refine Ew.ifc f138_4 rfl rfl (fun h => absurd h (show ¬ (((nI 1) : Int32) = 0) by decide)) (fun _ => ?_)
    refine Ew.op (st' := zi ((-1)) :: _) f138_7 rfl rfl ?_
    refine Ew.ireti f138_8 ?_
    exact h1 c1
  · refine Ew.ifc f138_4 rfl rfl (fun _ => ?_) (fun h => absurd (show ((nI 0) : Int32) = 0 by decide) h)
    exact h2 c1
theorem g138_9 {d c s : Nat} {t j : Nat} {I : zI} {L : zL} {P : zP} {S : zS} {Q : Option zV → zM → Prop} (hj : j < 4) (hp : zpj P 0 0 17 j = some (5, j, 0)) 
    (b1 : j < 4)
    (b2 : (¬ (I 5 j 0 0) = ((-1))) → j < 4)
    (h1 : (¬ (I 5 j 0 0) = ((-1))) → Ev d 0 0 46 0 [some (zr (some (5, j, 0))), none] [] (I, L, zpj P, zsj S, 237 + t) (fun r M' => Ev (d + 1) c s 138 35 [some (zr (some (0, 0, 0))), some (zi (nI j))] (zpush r []) M' Q))
    (h2 : ((I 5 j 0 0) = ((-1))) → Q (some (zi ((-11)))) (I, L, zpj P, zsj S, 237 + t)) : Ev (d + 1) c s 138 9 [some (zr (some (0, 0, 0))), some (zi (nI j))] [] (I, L, zpj P, zsj S, 237 + t) Q := by
  refine Ew.ld f138_9 rfl rfl rfl rfl ?_
  refine Ew.getp (v := some (0, 0, 17)) f138_10 rfl rfl rfl ?_
  refine Ew.ld f138_13 rfl rfl rfl rfl ?_
  refine Ew.aaldn (v := some (5, j, 0)) f138_14 (Nat.le_of_ble_eq_true rfl) b1 (Nat.le_of_ble_eq_true rfl) rfl (show zpj P 0 0 17 j = _ from hp) ?_
  refine Ew.call0 (ls0 := [some (zr (some (5, j, 0)))]) f138_15 rfl (Nat.le_of_ble_eq_true rfl) rfl rfl (Nat.le_of_ble_eq_true rfl) (by show (zsj S 5 j 0).1 = _; rw [zsj5 _ hj]; rfl) (Nat.le_of_ble_eq_true rfl) rfl rfl ?_
  refine Ew.ld f41_0 rfl rfl rfl rfl ?_
  refine Ew.geti f41_1 (by rw [zsj5 _ hj]; rfl) rfl ?_
  refine Ew.op (st' := zi ((-1)) :: _) f41_4 rfl rfl ?_
  refine Ew.icmp f41_5 rfl rfl (fun c1 => ?_) (fun c1 => ?_)
  · refine Ew.op (st' := zi (nI 0) :: _) f41_12 rfl rfl ?_
    refine Ew.iretb f41_13 (Or.inl rfl) ?_
    show Ev (d + 1) c s 138 18 [some (zr (some (0, 0, 0))), some (zi (nI j))] [zi (nI 0)] (I, L, zpj P, zsj S, 237 + t) Q
    refine Ew.ifc f138_18 rfl rfl (fun _ => ?_) (fun h => absurd (show ((nI 0) : Int32) = 0 by decide) h)
    refine Ew.ld f138_26 rfl rfl rfl rfl ?_
    refine Ew.getp (v := some (0, 0, 17)) f138_27 rfl rfl rfl ?_
    refine Ew.ld f138_30 rfl rfl rfl rfl ?_
    refine Ew.aaldn (v := some (5, j, 0)) f138_31 (Nat.le_of_ble_eq_true rfl) (b2 c1) (Nat.le_of_ble_eq_true rfl) rfl (show zpj P 0 0 17 j = _ from hp) ?_
    refine Ew.call0 (ls0 := [some (zr (some (5, j, 0))), none]) f138_32 rfl (Nat.le_of_ble_eq_true rfl) rfl rfl (Nat.le_of_ble_eq_true rfl) (by show (zsj S 5 j 0).1 = _; rw [zsj5 _ hj]; rfl) (Nat.le_of_ble_eq_true rfl) rfl rfl ?_
    exact h1 c1
  · refine Ew.op (st' := zi (nI 1) :: _) f41_8 rfl rfl ?_
    refine Ew.goto f41_9 rfl ?_
    refine Ew.iretb f41_13 (Or.inr rfl) ?_
    show Ev (d + 1) c s 138 18 [some (zr (some (0, 0, 0))), some (zi (nI j))] [zi (nI 1)] (I, L, zpj P, zsj S, 237 + t) Q
    refine Ew.ifc f138_18 rfl rfl (fun h => absurd h (show ¬ (((nI 1) : Int32) = 0) by decide)) (fun _ => ?_)
    refine Ew.op (st' := zi ((-11)) :: _) f138_21 rfl rfl ?_
    refine Ew.goto f138_23 rfl ?_
    refine Ew.ireti f138_35 ?_
    exact h2 (Classical.not_not.mp c1)
theorem g138_35 {d c s : Nat} {t j : Nat} {x : Int32} {I : zI} {L : zL} {P : zP} {S : zS} {Q : Option zV → zM → Prop}
    (h1 : Q (some (zi x)) (I, L, zpj P, zsj S, 237 + t)) : Ev d c s 138 35 [some (zr (some (0, 0, 0))), some (zi (nI j))] [zi x] (I, L, zpj P, zsj S, 237 + t) Q := by
  refine Ew.ireti f138_35 ?_
  exact h1
theorem g137_0i {d c s : Nat} {t : Nat} {x y z : Int32} {I : zI} {L : zL} {P : zP} {S : zS} {Q : Option zV → zM → Prop}
    (h1 : (aIx x 4 = none) → Q (some (zi ((-1)))) (I, L, zpj P, zsj S, 237 + t))
    (h2 : (¬ (aIx x 4 = none)) → (aIx y 4 = none) → Q (some (zi ((-1)))) (I, L, zpj P, zsj S, 237 + t))
    (h3 : (¬ (aIx x 4 = none)) → (¬ (aIx y 4 = none)) → (z ≤ (nI 24)) → (0 ≤ z) → Ev (d + 1) c s 137 29 [some (zr (some (0, 0, 0))), some (zi x), some (zi y), some (zi z)] [] (I, L, zpj P, zsj S, 237 + t) Q)
    (h4 : (¬ (aIx x 4 = none)) → (¬ (aIx y 4 = none)) → (z ≤ (nI 24)) → (z < 0) → Q (some (zi ((-14)))) (I, L, zpj P, zsj S, 237 + t))
    (h5 : (¬ (aIx x 4 = none)) → (¬ (aIx y 4 = none)) → ((nI 24) < z) → Q (some (zi ((-1)))) (I, L, zpj P, zsj S, 237 + t)) : Ev (d + 1) c s 137 0 [some (zr (some (0, 0, 0))), some (zi x), some (zi y), some (zi z)] [] (I, L, zpj P, zsj S, 237 + t) Q := by
  refine Ew.ld f137_0 rfl rfl rfl rfl ?_
  refine Ew.call0 (ls0 := [some (zi x)]) f137_1 rfl (Nat.le_of_ble_eq_true rfl) rfl rfl (Nat.le_of_ble_eq_true rfl) trivial (Nat.le_of_ble_eq_true rfl) rfl rfl ?_
  refine sp_noSheet (fun c1 => ?_) (fun c1 => ?_)
  · refine Ew.ifc f137_4 rfl rfl (fun _ => ?_) (fun h => absurd (show ¬ ((nI 1) : Int32) = 0 by decide) h)
    refine Ew.op (st' := zi ((-1)) :: _) f137_20 rfl rfl ?_
    refine Ew.ireti f137_21 ?_
    exact h1 c1
  · refine Ew.ifc f137_4 rfl rfl (fun h => absurd h (show ¬ (¬ ((nI 0) : Int32) = 0) by decide)) (fun _ => ?_)
    refine Ew.ld f137_7 rfl rfl rfl rfl ?_
    refine Ew.call0 (ls0 := [some (zi y)]) f137_8 rfl (Nat.le_of_ble_eq_true rfl) rfl rfl (Nat.le_of_ble_eq_true rfl) trivial (Nat.le_of_ble_eq_true rfl) rfl rfl ?_
    refine sp_noLane (fun c2 => ?_) (fun c2 => ?_)
    · refine Ew.ifc f137_11 rfl rfl (fun _ => ?_) (fun h => absurd (show ¬ ((nI 1) : Int32) = 0 by decide) h)
      refine Ew.op (st' := zi ((-1)) :: _) f137_20 rfl rfl ?_
      refine Ew.ireti f137_21 ?_
      exact h2 c1 c2
    · refine Ew.ifc f137_11 rfl rfl (fun h => absurd h (show ¬ (¬ ((nI 0) : Int32) = 0) by decide)) (fun _ => ?_)
      refine Ew.ld f137_14 rfl rfl rfl rfl ?_
      refine Ew.op (st' := zi (nI 24) :: _) f137_15 rfl rfl ?_
      refine Ew.icmp f137_17 rfl rfl (fun c3 => ?_) (fun c3 => ?_)
      · refine Ew.ld f137_22 rfl rfl rfl rfl ?_
        refine Ew.ifc f137_23 rfl rfl (fun c4 => ?_) (fun c4 => ?_)
        · exact h3 c1 c2 c3 c4
        · refine Ew.op (st' := zi ((-14)) :: _) f137_26 rfl rfl ?_
          refine Ew.ireti f137_28 ?_
          exact h4 c1 c2 c3 (Int32.not_le.mp c4)
      · refine Ew.op (st' := zi ((-1)) :: _) f137_20 rfl rfl ?_
        refine Ew.ireti f137_21 ?_
        exact h5 c1 c2 (Int32.not_le.mp c3)
theorem g137_29 {d c s : Nat} {t j y m : Nat} {I : zI} {L : zL} {P : zP} {S : zS} {Q : Option zV → zM → Prop} (hj : j < 4) (hp : zpj P 0 0 17 j = some (5, j, 0)) 
    (b1 : j < 4)
    (h1 : Ev d 0 0 45 0 [some (zr (some (5, j, 0))), some (zi (nI y)), some (zi (nI m))] [] (I, L, zpj P, zsj S, 237 + t) (fun r M' => Ev (d + 1) c s 137 40 [some (zr (some (0, 0, 0))), some (zi (nI j)), some (zi (nI y)), some (zi (nI m))] (zpush r []) M' Q)) : Ev (d + 1) c s 137 29 [some (zr (some (0, 0, 0))), some (zi (nI j)), some (zi (nI y)), some (zi (nI m))] [] (I, L, zpj P, zsj S, 237 + t) Q := by
  refine Ew.ld f137_29 rfl rfl rfl rfl ?_
  refine Ew.getp (v := some (0, 0, 17)) f137_30 rfl rfl rfl ?_
  refine Ew.ld f137_33 rfl rfl rfl rfl ?_
  refine Ew.aaldn (v := some (5, j, 0)) f137_34 (Nat.le_of_ble_eq_true rfl) b1 (Nat.le_of_ble_eq_true rfl) rfl (show zpj P 0 0 17 j = _ from hp) ?_
  refine Ew.ld f137_35 rfl rfl rfl rfl ?_
  refine Ew.ld f137_36 rfl rfl rfl rfl ?_
  refine Ew.call0 (ls0 := [some (zr (some (5, j, 0))), some (zi (nI y)), some (zi (nI m))]) f137_37 rfl (Nat.le_of_ble_eq_true rfl) rfl rfl (Nat.le_of_ble_eq_true rfl) (by show (zsj S 5 j 0).1 = _; rw [zsj5 _ hj]; rfl) (Nat.le_of_ble_eq_true rfl) rfl rfl ?_
  exact h1
theorem g137_40 {d c s : Nat} {t j y m : Nat} {I : zI} {L : zL} {P : zP} {S : zS} {Q : Option zV → zM → Prop}
    (h1 : Q (some (zi (nI m))) (I, L, zpj P, zsj S, 237 + t)) : Ev d c s 137 40 [some (zr (some (0, 0, 0))), some (zi (nI j)), some (zi (nI y)), some (zi (nI m))] [] (I, L, zpj P, zsj S, 237 + t) Q := by
  refine Ew.ld f137_40 rfl rfl rfl rfl ?_
  refine Ew.ireti f137_41 ?_
  exact h1
theorem g139_0i {d c s : Nat} {t : Nat} {x y z : Int32} {v : Int64} {I : zI} {L : zL} {P : zP} {S : zS} {Q : Option zV → zM → Prop}
    (h1 : (aIx x 4 = none) → Q (some (zi ((-1)))) (I, L, zpj P, zsj S, 237 + t))
    (h2 : (¬ (aIx x 4 = none)) → (aIx y 4 = none) → Q (some (zi ((-1)))) (I, L, zpj P, zsj S, 237 + t))
    (h3 : (¬ (aIx x 4 = none)) → (¬ (aIx y 4 = none)) → Ev (d + 1) c s 139 16 [some (zr (some (0, 0, 0))), some (zi x), some (zi y), some (zi z), some (zl v), none, none] [] (I, L, zpj P, zsj S, 237 + t) Q) : Ev (d + 1) c s 139 0 [some (zr (some (0, 0, 0))), some (zi x), some (zi y), some (zi z), some (zl v), none, none] [] (I, L, zpj P, zsj S, 237 + t) Q := by
  refine Ew.ld f139_0 rfl rfl rfl rfl ?_
  refine Ew.call0 (ls0 := [some (zi x)]) f139_1 rfl (Nat.le_of_ble_eq_true rfl) rfl rfl (Nat.le_of_ble_eq_true rfl) trivial (Nat.le_of_ble_eq_true rfl) rfl rfl ?_
  refine sp_noSheet (fun c1 => ?_) (fun c1 => ?_)
  · refine Ew.ifc f139_4 rfl rfl (fun _ => ?_) (fun h => absurd (show ¬ ((nI 1) : Int32) = 0 by decide) h)
    refine Ew.op (st' := zi ((-1)) :: _) f139_14 rfl rfl ?_
    refine Ew.ireti f139_15 ?_
    exact h1 c1
  · refine Ew.ifc f139_4 rfl rfl (fun h => absurd h (show ¬ (¬ ((nI 0) : Int32) = 0) by decide)) (fun _ => ?_)
    refine Ew.ld f139_7 rfl rfl rfl rfl ?_
    refine Ew.call0 (ls0 := [some (zi y)]) f139_8 rfl (Nat.le_of_ble_eq_true rfl) rfl rfl (Nat.le_of_ble_eq_true rfl) trivial (Nat.le_of_ble_eq_true rfl) rfl rfl ?_
    refine sp_noLane (fun c2 => ?_) (fun c2 => ?_)
    · refine Ew.ifc f139_11 rfl rfl (fun h => absurd h (show ¬ (((nI 1) : Int32) = 0) by decide)) (fun _ => ?_)
      refine Ew.op (st' := zi ((-1)) :: _) f139_14 rfl rfl ?_
      refine Ew.ireti f139_15 ?_
      exact h2 c1 c2
    · refine Ew.ifc f139_11 rfl rfl (fun _ => ?_) (fun h => absurd (show ((nI 0) : Int32) = 0 by decide) h)
      exact h3 c1 c2
theorem g139_16 {d c s : Nat} {t j y : Nat} {z : Int32} {v : Int64} {I : zI} {L : zL} {P : zP} {S : zS} {Q : Option zV → zM → Prop} (hj : j < 4) (hp : zpj P 0 0 17 j = some (5, j, 0)) 
    (b1 : j < 4)
    (h1 : Ev d 0 0 44 0 [some (zr (some (5, j, 0))), some (zi (nI y)), some (zi z), some (zi (nI 1))] [] (I, L, zpj P, zsj S, 237 + t) (fun r M' => Ev (d + 1) c s 139 28 [some (zr (some (0, 0, 0))), some (zi (nI j)), some (zi (nI y)), some (zi z), some (zl v), none, none] (zpush r []) M' Q)) : Ev (d + 1) c s 139 16 [some (zr (some (0, 0, 0))), some (zi (nI j)), some (zi (nI y)), some (zi z), some (zl v), none, none] [] (I, L, zpj P, zsj S, 237 + t) Q := by
  refine Ew.ld f139_16 rfl rfl rfl rfl ?_
  refine Ew.getp (v := some (0, 0, 17)) f139_17 rfl rfl rfl ?_
  refine Ew.ld f139_20 rfl rfl rfl rfl ?_
  refine Ew.aaldn (v := some (5, j, 0)) f139_21 (Nat.le_of_ble_eq_true rfl) b1 (Nat.le_of_ble_eq_true rfl) rfl (show zpj P 0 0 17 j = _ from hp) ?_
  refine Ew.ld f139_22 rfl rfl rfl rfl ?_
  refine Ew.ld f139_23 rfl rfl rfl rfl ?_
  refine Ew.op (st' := zi (nI 1) :: _) f139_24 rfl rfl ?_
  refine Ew.call0 (ls0 := [some (zr (some (5, j, 0))), some (zi (nI y)), some (zi z), some (zi (nI 1))]) f139_25 rfl (Nat.le_of_ble_eq_true rfl) rfl rfl (Nat.le_of_ble_eq_true rfl) (by show (zsj S 5 j 0).1 = _; rw [zsj5 _ hj]; rfl) (Nat.le_of_ble_eq_true rfl) rfl rfl ?_
  exact h1
theorem g139_28 {d c s : Nat} {t j y : Nat} {z u : Int32} {v : Int64} {I : zI} {L : zL} {P : zP} {S : zS} {Q : Option zV → zM → Prop}
    (h1 : (u = 0) → Ev d c s 139 38 [some (zr (some (0, 0, 0))), some (zi (nI j)), some (zi (nI y)), some (zi z), some (zl v), none, some (zi u)] [] (I, L, zpj P, zsj S, 237 + t) Q)
    (h2 : (¬ u = 0) → Q (some (zi u)) (I, L, zpj P, zsj S, 237 + t)) : Ev d c s 139 28 [some (zr (some (0, 0, 0))), some (zi (nI j)), some (zi (nI y)), some (zi z), some (zl v), none, none] [zi u] (I, L, zpj P, zsj S, 237 + t) Q := by
  refine Ew.sr (ls' := [some (zr (some (0, 0, 0))), some (zi (nI j)), some (zi (nI y)), some (zi z), some (zl v), none, some (zi u)]) f139_28 rfl rfl (Nat.le_of_ble_eq_true rfl) rfl rfl ?_
  refine Ew.ld f139_30 rfl rfl rfl rfl ?_
  refine Ew.ifc f139_32 rfl rfl (fun c1 => ?_) (fun c1 => ?_)
  · exact h1 c1
  · refine Ew.ld f139_35 rfl rfl rfl rfl ?_
    refine Ew.ireti f139_37 ?_
    exact h2 c1
theorem g139_38 {d c s : Nat} {t j y m : Nat} {u : Int32} {v : Int64} {I : zI} {L : zL} {P : zP} {S : zS} {Q : Option zV → zM → Prop} (hj : j < 4) (hp : zpj P 0 0 17 j = some (5, j, 0)) 
    (b1 : j < 4)
    (h1 : Ev d 0 0 47 0 [some (zr (some (5, j, 0))), some (zi (nI m)), some (zl v), none] [] (I, L, zpj P, zsj S, 237 + t) (fun r M' => Ev (d + 1) c s 139 50 [some (zr (some (0, 0, 0))), some (zi (nI j)), some (zi (nI y)), some (zi (nI m)), some (zl v), none, some (zi u)] (zpush r []) M' Q)) : Ev (d + 1) c s 139 38 [some (zr (some (0, 0, 0))), some (zi (nI j)), some (zi (nI y)), some (zi (nI m)), some (zl v), none, some (zi u)] [] (I, L, zpj P, zsj S, 237 + t) Q := by
  refine Ew.ld f139_38 rfl rfl rfl rfl ?_
  refine Ew.getp (v := some (0, 0, 17)) f139_39 rfl rfl rfl ?_
  refine Ew.ld f139_42 rfl rfl rfl rfl ?_
  refine Ew.aaldn (v := some (5, j, 0)) f139_43 (Nat.le_of_ble_eq_true rfl) b1 (Nat.le_of_ble_eq_true rfl) rfl (show zpj P 0 0 17 j = _ from hp) ?_
  refine Ew.ld f139_44 rfl rfl rfl rfl ?_
  refine Ew.ld f139_45 rfl rfl rfl rfl ?_
  refine Ew.call0 (ls0 := [some (zr (some (5, j, 0))), some (zi (nI m)), some (zl v), none]) f139_47 rfl (Nat.le_of_ble_eq_true rfl) rfl rfl (Nat.le_of_ble_eq_true rfl) (by show (zsj S 5 j 0).1 = _; rw [zsj5 _ hj]; rfl) (Nat.le_of_ble_eq_true rfl) rfl rfl ?_
  exact h1
theorem g139_50 {d c s : Nat} {t j y m : Nat} {u : Int32} {v : Int64} {I : zI} {L : zL} {P : zP} {S : zS} {Q : Option zV → zM → Prop}
    (h1 : Q (some (zi (nI 1))) (I, L, zpj P, zsj S, 237 + t)) : Ev d c s 139 50 [some (zr (some (0, 0, 0))), some (zi (nI j)), some (zi (nI y)), some (zi (nI m)), some (zl v), none, some (zi u)] [] (I, L, zpj P, zsj S, 237 + t) Q := by
  refine Ew.op (st' := zi (nI 1) :: _) f139_50 rfl rfl ?_
  refine Ew.ireti f139_51 ?_
  exact h1
theorem g136_0i {d c s : Nat} {t : Nat} {x y z : Int32} {I : zI} {L : zL} {P : zP} {S : zS} {Q : Option zV → zM → Prop}
    (h1 : (aIx x 4 = none) → Q (some (zi ((-1)))) (I, L, zpj P, zsj S, 237 + t))
    (h2 : (¬ (aIx x 4 = none)) → (aIx y 4 = none) → Q (some (zi ((-1)))) (I, L, zpj P, zsj S, 237 + t))
    (h3 : (¬ (aIx x 4 = none)) → (¬ (aIx y 4 = none)) → Ev (d + 1) c s 136 16 [some (zr (some (0, 0, 0))), some (zi x), some (zi y), some (zi z), none, none] [] (I, L, zpj P, zsj S, 237 + t) Q) : Ev (d + 1) c s 136 0 [some (zr (some (0, 0, 0))), some (zi x), some (zi y), some (zi z), none, none] [] (I, L, zpj P, zsj S, 237 + t) Q := by
  refine Ew.ld f136_0 rfl rfl rfl rfl ?_
  refine Ew.call0 (ls0 := [some (zi x)]) f136_1 rfl (Nat.le_of_ble_eq_true rfl) rfl rfl (Nat.le_of_ble_eq_true rfl) trivial (Nat.le_of_ble_eq_true rfl) rfl rfl ?_
  refine sp_noSheet (fun c1 => ?_) (fun c1 => ?_)
  · refine Ew.ifc f136_4 rfl rfl (fun _ => ?_) (fun h => absurd (show ¬ ((nI 1) : Int32) = 0 by decide) h)
    refine Ew.op (st' := zi ((-1)) :: _) f136_14 rfl rfl ?_
    refine Ew.ireti f136_15 ?_
    exact h1 c1
  · refine Ew.ifc f136_4 rfl rfl (fun h => absurd h (show ¬ (¬ ((nI 0) : Int32) = 0) by decide)) (fun _ => ?_)
    refine Ew.ld f136_7 rfl rfl rfl rfl ?_
    refine Ew.call0 (ls0 := [some (zi y)]) f136_8 rfl (Nat.le_of_ble_eq_true rfl) rfl rfl (Nat.le_of_ble_eq_true rfl) trivial (Nat.le_of_ble_eq_true rfl) rfl rfl ?_
    refine sp_noLane (fun c2 => ?_) (fun c2 => ?_)
    · refine Ew.ifc f136_11 rfl rfl (fun h => absurd h (show ¬ (((nI 1) : Int32) = 0) by decide)) (fun _ => ?_)
      refine Ew.op (st' := zi ((-1)) :: _) f136_14 rfl rfl ?_
      refine Ew.ireti f136_15 ?_
      exact h2 c1 c2
    · refine Ew.ifc f136_11 rfl rfl (fun _ => ?_) (fun h => absurd (show ((nI 0) : Int32) = 0 by decide) h)
      exact h3 c1 c2
theorem g136_16 {d c s : Nat} {t j y : Nat} {z : Int32} {I : zI} {L : zL} {P : zP} {S : zS} {Q : Option zV → zM → Prop} (hj : j < 4) (hp : zpj P 0 0 17 j = some (5, j, 0)) 
    (b1 : j < 4)
    (h1 : Ev d 0 0 44 0 [some (zr (some (5, j, 0))), some (zi (nI y)), some (zi z), some (zi (nI 4))] [] (I, L, zpj P, zsj S, 237 + t) (fun r M' => Ev (d + 1) c s 136 28 [some (zr (some (0, 0, 0))), some (zi (nI j)), some (zi (nI y)), some (zi z), none, none] (zpush r []) M' Q)) : Ev (d + 1) c s 136 16 [some (zr (some (0, 0, 0))), some (zi (nI j)), some (zi (nI y)), some (zi z), none, none] [] (I, L, zpj P, zsj S, 237 + t) Q := by
  refine Ew.ld f136_16 rfl rfl rfl rfl ?_
  refine Ew.getp (v := some (0, 0, 17)) f136_17 rfl rfl rfl ?_
  refine Ew.ld f136_20 rfl rfl rfl rfl ?_
  refine Ew.aaldn (v := some (5, j, 0)) f136_21 (Nat.le_of_ble_eq_true rfl) b1 (Nat.le_of_ble_eq_true rfl) rfl (show zpj P 0 0 17 j = _ from hp) ?_
  refine Ew.ld f136_22 rfl rfl rfl rfl ?_
  refine Ew.ld f136_23 rfl rfl rfl rfl ?_
  refine Ew.op (st' := zi (nI 4) :: _) f136_24 rfl rfl ?_
  refine Ew.call0 (ls0 := [some (zr (some (5, j, 0))), some (zi (nI y)), some (zi z), some (zi (nI 4))]) f136_25 rfl (Nat.le_of_ble_eq_true rfl) rfl rfl (Nat.le_of_ble_eq_true rfl) (by show (zsj S 5 j 0).1 = _; rw [zsj5 _ hj]; rfl) (Nat.le_of_ble_eq_true rfl) rfl rfl ?_
  exact h1
theorem g136_28 {d c s : Nat} {t j y : Nat} {z u : Int32} {I : zI} {L : zL} {P : zP} {S : zS} {Q : Option zV → zM → Prop}
    (h1 : (u = 0) → Ev d c s 136 38 [some (zr (some (0, 0, 0))), some (zi (nI j)), some (zi (nI y)), some (zi z), some (zi u), none] [] (I, L, zpj P, zsj S, 237 + t) Q)
    (h2 : (¬ u = 0) → Q (some (zi u)) (I, L, zpj P, zsj S, 237 + t)) : Ev d c s 136 28 [some (zr (some (0, 0, 0))), some (zi (nI j)), some (zi (nI y)), some (zi z), none, none] [zi u] (I, L, zpj P, zsj S, 237 + t) Q := by
  refine Ew.sr (ls' := [some (zr (some (0, 0, 0))), some (zi (nI j)), some (zi (nI y)), some (zi z), some (zi u), none]) f136_28 rfl rfl (Nat.le_of_ble_eq_true rfl) rfl rfl ?_
  refine Ew.ld f136_30 rfl rfl rfl rfl ?_
  refine Ew.ifc f136_32 rfl rfl (fun c1 => ?_) (fun c1 => ?_)
  · exact h1 c1
  · refine Ew.ld f136_35 rfl rfl rfl rfl ?_
    refine Ew.ireti f136_37 ?_
    exact h2 c1
theorem g136_38 {d c s : Nat} {t j y m : Nat} {u : Int32} {I : zI} {L : zL} {P : zP} {S : zS} {Q : Option zV → zM → Prop}
    (h1 : Ev d c s 136 41 [some (zr (some (0, 0, 0))), some (zi (nI j)), some (zi (nI y)), some (zi (nI m)), some (zi u), some (zi (nI 0))] [] (I, L, zpj P, zsj S, 237 + t) Q) : Ev d c s 136 38 [some (zr (some (0, 0, 0))), some (zi (nI j)), some (zi (nI y)), some (zi (nI m)), some (zi u), none] [] (I, L, zpj P, zsj S, 237 + t) Q := by
  refine Ew.op (st' := zi (nI 0) :: _) f136_38 rfl rfl ?_
  refine Ew.sr (ls' := [some (zr (some (0, 0, 0))), some (zi (nI j)), some (zi (nI y)), some (zi (nI m)), some (zi u), some (zi (nI 0))]) f136_39 rfl rfl (Nat.le_of_ble_eq_true rfl) rfl rfl ?_
  exact h1
theorem g136_41 {d c s : Nat} {t j y m n : Nat} {u : Int32} {I : zI} {L : zL} {P : zP} {S : zS} {Q : Option zV → zM → Prop} (hj : j < 4) (hp : zpj P 0 0 17 j = some (5, j, 0))  (nb_n : n < 5000)
    (h1 : (4 ≤ n) → Q (some (zi (nI 4))) (I, L, zpj P, zsj S, 237 + t))
    (b1 : (n < 4) → j < 4)
    (b2 : (n < 4) → n < 4)
    (h2 : (n < 4) → Ev d 0 0 47 0 [some (zr (some (5, j, 0))), some (zi (nI (m + n))), some (zl ((I 2 0 7 n).toInt64)), none] [] (I, L, zpj P, zsj S, 237 + t) (fun r M' => Ev (d + 1) c s 136 70 [some (zr (some (0, 0, 0))), some (zi (nI j)), some (zi (nI y)), some (zi (nI m)), some (zi u), some (zi (nI n))] (zpush r []) M' Q)) : Ev (d + 1) c s 136 41 [some (zr (some (0, 0, 0))), some (zi (nI j)), some (zi (nI y)), some (zi (nI m)), some (zi u), some (zi (nI n))] [] (I, L, zpj P, zsj S, 237 + t) Q := by
  refine Ew.ld f136_41 rfl rfl rfl rfl ?_
  refine Ew.op (st' := zi (nI 4) :: _) f136_43 rfl rfl ?_
  refine Ew.icmp f136_44 rfl rfl (fun c1 => ?_) (fun c1 => ?_)
  · refine Ew.op (st' := zi (nI 4) :: _) f136_76 rfl rfl ?_
    refine Ew.ireti f136_77 ?_
    exact h1 ((zle_iff (by decide) nb_n).mp c1)
  · refine Ew.ld f136_47 rfl rfl rfl rfl ?_
    refine Ew.getp (v := some (0, 0, 17)) f136_48 rfl rfl rfl ?_
    refine Ew.ld f136_51 rfl rfl rfl rfl ?_
    refine Ew.aaldn (v := some (5, j, 0)) f136_52 (Nat.le_of_ble_eq_true rfl) (b1 (Nat.not_le.mp fun e => c1 ((zle_iff (by decide) nb_n).mpr e))) (Nat.le_of_ble_eq_true rfl) rfl (show zpj P 0 0 17 j = _ from hp) ?_
    refine Ew.ld f136_53 rfl rfl rfl rfl ?_
    refine Ew.ld f136_54 rfl rfl rfl rfl ?_
    refine Ew.addn f136_56 rfl ?_
    refine Ew.ld f136_57 rfl rfl rfl rfl ?_
    refine Ew.getp (v := some (2, 0, 0)) f136_58 rfl rfl rfl ?_
    refine Ew.ld f136_61 rfl rfl rfl rfl ?_
    refine Ew.call0 (ls0 := [some (zr (some (2, 0, 0))), some (zi (nI n))]) f136_63 rfl (Nat.le_of_ble_eq_true rfl) rfl rfl (Nat.le_of_ble_eq_true rfl) rfl (Nat.le_of_ble_eq_true rfl) rfl rfl ?_
    refine Ew.ld f57_0 rfl rfl rfl rfl ?_
    refine Ew.getp (v := some (2, 0, 7)) f57_1 rfl rfl rfl ?_
    refine Ew.ld f57_4 rfl rfl rfl rfl ?_
    refine Ew.ialdn f57_5 rfl (b2 (Nat.not_le.mp fun e => c1 ((zle_iff (by decide) nb_n).mpr e))) (Nat.le_of_ble_eq_true rfl) rfl ?_
    refine Ew.ireti f57_6 ?_
    show Ev (d + 1) c s 136 66 [some (zr (some (0, 0, 0))), some (zi (nI j)), some (zi (nI y)), some (zi (nI m)), some (zi u), some (zi (nI n))] [zi (I 2 0 7 n), zi (nI (m + n)), zr (some (5, j, 0))] (I, L, zpj P, zsj S, 237 + t) Q
    refine Ew.op (st' := zl ((I 2 0 7 n).toInt64) :: _) f136_66 rfl rfl ?_
    refine Ew.call0 (ls0 := [some (zr (some (5, j, 0))), some (zi (nI (m + n))), some (zl ((I 2 0 7 n).toInt64)), none]) f136_67 rfl (Nat.le_of_ble_eq_true rfl) rfl rfl (Nat.le_of_ble_eq_true rfl) (by show (zsj S 5 j 0).1 = _; rw [zsj5 _ hj]; rfl) (Nat.le_of_ble_eq_true rfl) rfl rfl ?_
    exact h2 (Nat.not_le.mp fun e => c1 ((zle_iff (by decide) nb_n).mpr e))
theorem g136_70 {d c s : Nat} {t j y m n : Nat} {u : Int32} {I : zI} {L : zL} {P : zP} {S : zS} {Q : Option zV → zM → Prop}
    (h1 : Ev d c s 136 41 [some (zr (some (0, 0, 0))), some (zi (nI j)), some (zi (nI y)), some (zi (nI m)), some (zi u), some (zi (nI (n + 1)))] [] (I, L, zpj P, zsj S, 237 + t) Q) : Ev d c s 136 70 [some (zr (some (0, 0, 0))), some (zi (nI j)), some (zi (nI y)), some (zi (nI m)), some (zi u), some (zi (nI n))] [] (I, L, zpj P, zsj S, 237 + t) Q := by
  refine Ew.iinc (v := nI (n + 1)) (ls' := [some (zr (some (0, 0, 0))), some (zi (nI j)), some (zi (nI y)), some (zi (nI m)), some (zi u), some (zi (nI (n + 1)))]) f136_70 rfl (nI_1 _) rfl rfl ?_
  refine Ew.goto f136_73 rfl ?_
  exact h1
theorem g140_0i {d c s : Nat} {t : Nat} {a b x y z : Int32} {I : zI} {L : zL} {P : zP} {S : zS} {Q : Option zV → zM → Prop}
    (h1 : (aIx a 4 = none) → Q (some (zi ((-1)))) (I, L, zpj P, zsj S, 237 + t))
    (h2 : (¬ (aIx a 4 = none)) → (aIx b 4 = none) → Q (some (zi ((-1)))) (I, L, zpj P, zsj S, 237 + t))
    (h3 : (¬ (aIx a 4 = none)) → (¬ (aIx b 4 = none)) → Ev (d + 1) c s 140 16 [some (zr (some (0, 0, 0))), some (zi a), some (zi x), some (zi b), some (zi y), some (zi z), none, none] [] (I, L, zpj P, zsj S, 237 + t) Q) : Ev (d + 1) c s 140 0 [some (zr (some (0, 0, 0))), some (zi a), some (zi x), some (zi b), some (zi y), some (zi z), none, none] [] (I, L, zpj P, zsj S, 237 + t) Q := by
  refine Ew.ld f140_0 rfl rfl rfl rfl ?_
  refine Ew.call0 (ls0 := [some (zi a)]) f140_1 rfl (Nat.le_of_ble_eq_true rfl) rfl rfl (Nat.le_of_ble_eq_true rfl) trivial (Nat.le_of_ble_eq_true rfl) rfl rfl ?_
  refine sp_noSheet (fun c1 => ?_) (fun c1 => ?_)
  · refine Ew.ifc f140_4 rfl rfl (fun _ => ?_) (fun h => absurd (show ¬ ((nI 1) : Int32) = 0 by decide) h)
    refine Ew.op (st' := zi ((-1)) :: _) f140_14 rfl rfl ?_
    refine Ew.ireti f140_15 ?_
    exact h1 c1
  · refine Ew.ifc f140_4 rfl rfl (fun h => absurd h (show ¬ (¬ ((nI 0) : Int32) = 0) by decide)) (fun _ => ?_)
    refine Ew.ld f140_7 rfl rfl rfl rfl ?_
    refine Ew.call0 (ls0 := [some (zi b)]) f140_8 rfl (Nat.le_of_ble_eq_true rfl) rfl rfl (Nat.le_of_ble_eq_true rfl) trivial (Nat.le_of_ble_eq_true rfl) rfl rfl ?_
    refine sp_noSheet (fun c2 => ?_) (fun c2 => ?_)
    · refine Ew.ifc f140_11 rfl rfl (fun h => absurd h (show ¬ (((nI 1) : Int32) = 0) by decide)) (fun _ => ?_)
      refine Ew.op (st' := zi ((-1)) :: _) f140_14 rfl rfl ?_
      refine Ew.ireti f140_15 ?_
      exact h2 c1 c2
    · refine Ew.ifc f140_11 rfl rfl (fun _ => ?_) (fun h => absurd (show ((nI 0) : Int32) = 0 by decide) h)
      exact h3 c1 c2
theorem g140_16 {d c s : Nat} {t j k : Nat} {x y z : Int32} {I : zI} {L : zL} {P : zP} {S : zS} {Q : Option zV → zM → Prop} (hj : j < 4) (hp : zpj P 0 0 17 j = some (5, j, 0)) (hk : k < 4) (hpk : zpj P 0 0 17 k = some (5, k, 0)) 
    (b1 : j < 4)
    (b2 : k < 4)
    (h1 : (¬ (I 5 j 0 0) = ((-1))) → (¬ (I 5 k 0 0) = ((-1))) → (¬ (I 5 j 0 1) = (I 5 k 0 1)) → Q (some (zi ((-12)))) (I, L, zpj P, zsj S, 237 + t))
    (h2 : (¬ (I 5 j 0 0) = ((-1))) → (¬ (I 5 k 0 0) = ((-1))) → ((I 5 j 0 1) = (I 5 k 0 1)) → (z < 0) → Q (some (zi ((-13)))) (I, L, zpj P, zsj S, 237 + t))
    (h3 : (¬ (I 5 j 0 0) = ((-1))) → (¬ (I 5 k 0 0) = ((-1))) → ((I 5 j 0 1) = (I 5 k 0 1)) → (0 ≤ z) → (x < 0) → Q (some (zi ((-13)))) (I, L, zpj P, zsj S, 237 + t))
    (h4 : (¬ (I 5 j 0 0) = ((-1))) → (¬ (I 5 k 0 0) = ((-1))) → ((I 5 j 0 1) = (I 5 k 0 1)) → (0 ≤ z) → (0 ≤ x) → (((I 5 j 0 0) - z) < x) → Q (some (zi ((-13)))) (I, L, zpj P, zsj S, 237 + t))
    (h5 : (¬ (I 5 j 0 0) = ((-1))) → (¬ (I 5 k 0 0) = ((-1))) → ((I 5 j 0 1) = (I 5 k 0 1)) → (0 ≤ z) → (0 ≤ x) → (x ≤ ((I 5 j 0 0) - z)) → (z < 0) → Q (some (zi ((-13)))) (I, L, zpj P, zsj S, 237 + t))
    (h6 : (¬ (I 5 j 0 0) = ((-1))) → (¬ (I 5 k 0 0) = ((-1))) → ((I 5 j 0 1) = (I 5 k 0 1)) → (0 ≤ z) → (0 ≤ x) → (x ≤ ((I 5 j 0 0) - z)) → (0 ≤ z) → (y < 0) → Q (some (zi ((-13)))) (I, L, zpj P, zsj S, 237 + t))
    (h7 : (¬ (I 5 j 0 0) = ((-1))) → (¬ (I 5 k 0 0) = ((-1))) → ((I 5 j 0 1) = (I 5 k 0 1)) → (0 ≤ z) → (0 ≤ x) → (x ≤ ((I 5 j 0 0) - z)) → (0 ≤ z) → (0 ≤ y) → (((I 5 k 0 0) - z) < y) → Q (some (zi ((-13)))) (I, L, zpj P, zsj S, 237 + t))
    (h8 : (¬ (I 5 j 0 0) = ((-1))) → (¬ (I 5 k 0 0) = ((-1))) → ((I 5 j 0 1) = (I 5 k 0 1)) → (0 ≤ z) → (0 ≤ x) → (x ≤ ((I 5 j 0 0) - z)) → (0 ≤ z) → (0 ≤ y) → (y ≤ ((I 5 k 0 0) - z)) → Ev d 0 0 48 0 [some (zr (some (5, j, 0))), some (zi x), some (zr (some (5, k, 0))), some (zi y), some (zi z)] [] (I, L, zpj P, zsj S, 237 + t) (fun r M' => Ev (d + 1) c s 140 102 [some (zr (some (0, 0, 0))), some (zi (nI j)), some (zi x), some (zi (nI k)), some (zi y), some (zi z), some (zr (some (5, j, 0))), some (zr (some (5, k, 0)))] (zpush r []) M' Q))
    (h9 : (¬ (I 5 j 0 0) = ((-1))) → ((I 5 k 0 0) = ((-1))) → Q (some (zi ((-11)))) (I, L, zpj P, zsj S, 237 + t))
    (h10 : ((I 5 j 0 0) = ((-1))) → Q (some (zi ((-11)))) (I, L, zpj P, zsj S, 237 + t)) : Ev (d + 1) c s 140 16 [some (zr (some (0, 0, 0))), some (zi (nI j)), some (zi x), some (zi (nI k)), some (zi y), some (zi z), none, none] [] (I, L, zpj P, zsj S, 237 + t) Q := by
  refine Ew.ld f140_16 rfl rfl rfl rfl ?_
  refine Ew.getp (v := some (0, 0, 17)) f140_17 rfl rfl rfl ?_
  refine Ew.ld f140_20 rfl rfl rfl rfl ?_
  refine Ew.aaldn (v := some (5, j, 0)) f140_21 (Nat.le_of_ble_eq_true rfl) b1 (Nat.le_of_ble_eq_true rfl) rfl (show zpj P 0 0 17 j = _ from hp) ?_
  refine Ew.sr (ls' := [some (zr (some (0, 0, 0))), some (zi (nI j)), some (zi x), some (zi (nI k)), some (zi y), some (zi z), some (zr (some (5, j, 0))), none]) f140_22 rfl rfl (Nat.le_of_ble_eq_true rfl) rfl rfl ?_
  refine Ew.ld f140_24 rfl rfl rfl rfl ?_
  refine Ew.getp (v := some (0, 0, 17)) f140_25 rfl rfl rfl ?_
  refine Ew.ld f140_28 rfl rfl rfl rfl ?_
  refine Ew.aaldn (v := some (5, k, 0)) f140_29 (Nat.le_of_ble_eq_true rfl) b2 (Nat.le_of_ble_eq_true rfl) rfl (show zpj P 0 0 17 k = _ from hpk) ?_
  refine Ew.sr (ls' := [some (zr (some (0, 0, 0))), some (zi (nI j)), some (zi x), some (zi (nI k)), some (zi y), some (zi z), some (zr (some (5, j, 0))), some (zr (some (5, k, 0)))]) f140_30 rfl rfl (Nat.le_of_ble_eq_true rfl) rfl rfl ?_
  refine Ew.ld f140_32 rfl rfl rfl rfl ?_
  refine Ew.call0 (ls0 := [some (zr (some (5, j, 0)))]) f140_34 rfl (Nat.le_of_ble_eq_true rfl) rfl rfl (Nat.le_of_ble_eq_true rfl) (by show (zsj S 5 j 0).1 = _; rw [zsj5 _ hj]; rfl) (Nat.le_of_ble_eq_true rfl) rfl rfl ?_
  refine Ew.ld f41_0 rfl rfl rfl rfl ?_
  refine Ew.geti f41_1 (by rw [zsj5 _ hj]; rfl) rfl ?_
  refine Ew.op (st' := zi ((-1)) :: _) f41_4 rfl rfl ?_
  refine Ew.icmp f41_5 rfl rfl (fun c1 => ?_) (fun c1 => ?_)
  · refine Ew.op (st' := zi (nI 0) :: _) f41_12 rfl rfl ?_
    refine Ew.iretb f41_13 (Or.inl rfl) ?_
    show Ev (d + 1) c s 140 37 [some (zr (some (0, 0, 0))), some (zi (nI j)), some (zi x), some (zi (nI k)), some (zi y), some (zi z), some (zr (some (5, j, 0))), some (zr (some (5, k, 0)))] [zi (nI 0)] (I, L, zpj P, zsj S, 237 + t) Q
    refine Ew.ifc f140_37 rfl rfl (fun h => absurd h (show ¬ (¬ ((nI 0) : Int32) = 0) by decide)) (fun _ => ?_)
    refine Ew.ld f140_40 rfl rfl rfl rfl ?_
    refine Ew.call0 (ls0 := [some (zr (some (5, k, 0)))]) f140_42 rfl (Nat.le_of_ble_eq_true rfl) rfl rfl (Nat.le_of_ble_eq_true rfl) (by show (zsj S 5 k 0).1 = _; rw [zsj5 _ hk]; rfl) (Nat.le_of_ble_eq_true rfl) rfl rfl ?_
    refine Ew.ld f41_0 rfl rfl rfl rfl ?_
    refine Ew.geti f41_1 (by rw [zsj5 _ hk]; rfl) rfl ?_
    refine Ew.op (st' := zi ((-1)) :: _) f41_4 rfl rfl ?_
    refine Ew.icmp f41_5 rfl rfl (fun c2 => ?_) (fun c2 => ?_)
    · refine Ew.op (st' := zi (nI 0) :: _) f41_12 rfl rfl ?_
      refine Ew.iretb f41_13 (Or.inl rfl) ?_
      show Ev (d + 1) c s 140 45 [some (zr (some (0, 0, 0))), some (zi (nI j)), some (zi x), some (zi (nI k)), some (zi y), some (zi z), some (zr (some (5, j, 0))), some (zr (some (5, k, 0)))] [zi (nI 0)] (I, L, zpj P, zsj S, 237 + t) Q
      refine Ew.ifc f140_45 rfl rfl (fun _ => ?_) (fun h => absurd (show ((nI 0) : Int32) = 0 by decide) h)
      refine Ew.ld f140_51 rfl rfl rfl rfl ?_
      refine Ew.ld f140_53 rfl rfl rfl rfl ?_
      refine Ew.call0 (ls0 := [some (zr (some (5, j, 0))), some (zr (some (5, k, 0)))]) f140_55 rfl (Nat.le_of_ble_eq_true rfl) rfl rfl (Nat.le_of_ble_eq_true rfl) (by show (zsj S 5 j 0).1 = _; rw [zsj5 _ hj]; rfl) (Nat.le_of_ble_eq_true rfl) rfl rfl ?_
      refine Ew.ld f42_0 rfl rfl rfl rfl ?_
      refine Ew.geti f42_1 (by rw [zsj5 _ hj]; rfl) rfl ?_
      refine Ew.ld f42_4 rfl rfl rfl rfl ?_
      refine Ew.geti f42_5 (by rw [zsj5 _ hk]; rfl) rfl ?_
      refine Ew.icmp f42_8 rfl rfl (fun c3 => ?_) (fun c3 => ?_)
      · refine Ew.op (st' := zi (nI 0) :: _) f42_15 rfl rfl ?_
        refine Ew.iretb f42_16 (Or.inl rfl) ?_
        show Ev (d + 1) c s 140 58 [some (zr (some (0, 0, 0))), some (zi (nI j)), some (zi x), some (zi (nI k)), some (zi y), some (zi z), some (zr (some (5, j, 0))), some (zr (some (5, k, 0)))] [zi (nI 0)] (I, L, zpj P, zsj S, 237 + t) Q
        refine Ew.ifc f140_58 rfl rfl (fun h => absurd h (show ¬ (¬ ((nI 0) : Int32) = 0) by decide)) (fun _ => ?_)
        refine Ew.op (st' := zi ((-12)) :: _) f140_61 rfl rfl ?_
        refine Ew.ireti f140_63 ?_
        exact h1 c1 c2 c3
      · refine Ew.op (st' := zi (nI 1) :: _) f42_11 rfl rfl ?_
        refine Ew.goto f42_12 rfl ?_
        refine Ew.iretb f42_16 (Or.inr rfl) ?_
        show Ev (d + 1) c s 140 58 [some (zr (some (0, 0, 0))), some (zi (nI j)), some (zi x), some (zi (nI k)), some (zi y), some (zi z), some (zr (some (5, j, 0))), some (zr (some (5, k, 0)))] [zi (nI 1)] (I, L, zpj P, zsj S, 237 + t) Q
        refine Ew.ifc f140_58 rfl rfl (fun _ => ?_) (fun h => absurd (show ¬ ((nI 1) : Int32) = 0 by decide) h)
        refine Ew.ld f140_64 rfl rfl rfl rfl ?_
        refine Ew.ld f140_66 rfl rfl rfl rfl ?_
        refine Ew.ld f140_67 rfl rfl rfl rfl ?_
        refine Ew.call0 (ls0 := [some (zr (some (5, j, 0))), some (zi x), some (zi z)]) f140_69 rfl (Nat.le_of_ble_eq_true rfl) rfl rfl (Nat.le_of_ble_eq_true rfl) (by show (zsj S 5 j 0).1 = _; rw [zsj5 _ hj]; rfl) (Nat.le_of_ble_eq_true rfl) rfl rfl ?_
        refine Ew.ld f43_0 rfl rfl rfl rfl ?_
        refine Ew.ifc f43_1 rfl rfl (fun c4 => ?_) (fun c4 => ?_)
        · refine Ew.op (st' := zi (nI 0) :: _) f43_22 rfl rfl ?_
          refine Ew.iretb f43_23 (Or.inl rfl) ?_
          show Ev (d + 1) c s 140 72 [some (zr (some (0, 0, 0))), some (zi (nI j)), some (zi x), some (zi (nI k)), some (zi y), some (zi z), some (zr (some (5, j, 0))), some (zr (some (5, k, 0)))] [zi (nI 0)] (I, L, zpj P, zsj S, 237 + t) Q
          refine Ew.ifc f140_72 rfl rfl (fun _ => ?_) (fun h => absurd (show ((nI 0) : Int32) = 0 by decide) h)
          refine Ew.op (st' := zi ((-13)) :: _) f140_87 rfl rfl ?_
          refine Ew.ireti f140_89 ?_
          exact h2 c1 c2 (Classical.not_not.mp c3) c4
        · refine Ew.ld f43_4 rfl rfl rfl rfl ?_
          refine Ew.ifc f43_5 rfl rfl (fun c5 => ?_) (fun c5 => ?_)
          · refine Ew.op (st' := zi (nI 0) :: _) f43_22 rfl rfl ?_
            refine Ew.iretb f43_23 (Or.inl rfl) ?_
            show Ev (d + 1) c s 140 72 [some (zr (some (0, 0, 0))), some (zi (nI j)), some (zi x), some (zi (nI k)), some (zi y), some (zi z), some (zr (some (5, j, 0))), some (zr (some (5, k, 0)))] [zi (nI 0)] (I, L, zpj P, zsj S, 237 + t) Q
            refine Ew.ifc f140_72 rfl rfl (fun _ => ?_) (fun h => absurd (show ((nI 0) : Int32) = 0 by decide) h)
            refine Ew.op (st' := zi ((-13)) :: _) f140_87 rfl rfl ?_
            refine Ew.ireti f140_89 ?_
            exact h3 c1 c2 (Classical.not_not.mp c3) (Int32.not_lt.mp c4) c5
          · refine Ew.ld f43_8 rfl rfl rfl rfl ?_
            refine Ew.ld f43_9 rfl rfl rfl rfl ?_
            refine Ew.geti f43_10 (by rw [zsj5 _ hj]; rfl) rfl ?_
            refine Ew.ld f43_13 rfl rfl rfl rfl ?_
            refine Ew.op (st' := zi ((I 5 j 0 0) - z) :: _) f43_14 rfl rfl ?_
            refine Ew.icmp f43_15 rfl rfl (fun c6 => ?_) (fun c6 => ?_)
            · refine Ew.op (st' := zi (nI 0) :: _) f43_22 rfl rfl ?_
              refine Ew.iretb f43_23 (Or.inl rfl) ?_
              show Ev (d + 1) c s 140 72 [some (zr (some (0, 0, 0))), some (zi (nI j)), some (zi x), some (zi (nI k)), some (zi y), some (zi z), some (zr (some (5, j, 0))), some (zr (some (5, k, 0)))] [zi (nI 0)] (I, L, zpj P, zsj S, 237 + t) Q
              refine Ew.ifc f140_72 rfl rfl (fun _ => ?_) (fun h => absurd (show ((nI 0) : Int32) = 0 by decide) h)
              refine Ew.op (st' := zi ((-13)) :: _) f140_87 rfl rfl ?_
              refine Ew.ireti f140_89 ?_
              exact h4 c1 c2 (Classical.not_not.mp c3) (Int32.not_lt.mp c4) (Int32.not_lt.mp c5) c6
            · refine Ew.op (st' := zi (nI 1) :: _) f43_18 rfl rfl ?_
              refine Ew.goto f43_19 rfl ?_
              refine Ew.iretb f43_23 (Or.inr rfl) ?_
              show Ev (d + 1) c s 140 72 [some (zr (some (0, 0, 0))), some (zi (nI j)), some (zi x), some (zi (nI k)), some (zi y), some (zi z), some (zr (some (5, j, 0))), some (zr (some (5, k, 0)))] [zi (nI 1)] (I, L, zpj P, zsj S, 237 + t) Q
              refine Ew.ifc f140_72 rfl rfl (fun h => absurd h (show ¬ (((nI 1) : Int32) = 0) by decide)) (fun _ => ?_)
              refine Ew.ld f140_75 rfl rfl rfl rfl ?_
              refine Ew.ld f140_77 rfl rfl rfl rfl ?_
              refine Ew.ld f140_79 rfl rfl rfl rfl ?_
              refine Ew.call0 (ls0 := [some (zr (some (5, k, 0))), some (zi y), some (zi z)]) f140_81 rfl (Nat.le_of_ble_eq_true rfl) rfl rfl (Nat.le_of_ble_eq_true rfl) (by show (zsj S 5 k 0).1 = _; rw [zsj5 _ hk]; rfl) (Nat.le_of_ble_eq_true rfl) rfl rfl ?_
              refine Ew.ld f43_0 rfl rfl rfl rfl ?_
              refine Ew.ifc f43_1 rfl rfl (fun c7 => ?_) (fun c7 => ?_)
              · refine Ew.op (st' := zi (nI 0) :: _) f43_22 rfl rfl ?_
                refine Ew.iretb f43_23 (Or.inl rfl) ?_
                show Ev (d + 1) c s 140 84 [some (zr (some (0, 0, 0))), some (zi (nI j)), some (zi x), some (zi (nI k)), some (zi y), some (zi z), some (zr (some (5, j, 0))), some (zr (some (5, k, 0)))] [zi (nI 0)] (I, L, zpj P, zsj S, 237 + t) Q
                refine Ew.ifc f140_84 rfl rfl (fun h => absurd h (show ¬ (¬ ((nI 0) : Int32) = 0) by decide)) (fun _ => ?_)
                refine Ew.op (st' := zi ((-13)) :: _) f140_87 rfl rfl ?_
                refine Ew.ireti f140_89 ?_
                exact h5 c1 c2 (Classical.not_not.mp c3) (Int32.not_lt.mp c4) (Int32.not_lt.mp c5) (Int32.not_lt.mp c6) c7
              · refine Ew.ld f43_4 rfl rfl rfl rfl ?_
                refine Ew.ifc f43_5 rfl rfl (fun c8 => ?_) (fun c8 => ?_)
                · refine Ew.op (st' := zi (nI 0) :: _) f43_22 rfl rfl ?_
                  refine Ew.iretb f43_23 (Or.inl rfl) ?_
                  show Ev (d + 1) c s 140 84 [some (zr (some (0, 0, 0))), some (zi (nI j)), some (zi x), some (zi (nI k)), some (zi y), some (zi z), some (zr (some (5, j, 0))), some (zr (some (5, k, 0)))] [zi (nI 0)] (I, L, zpj P, zsj S, 237 + t) Q
                  refine Ew.ifc f140_84 rfl rfl (fun h => absurd h (show ¬ (¬ ((nI 0) : Int32) = 0) by decide)) (fun _ => ?_)
                  refine Ew.op (st' := zi ((-13)) :: _) f140_87 rfl rfl ?_
                  refine Ew.ireti f140_89 ?_
                  exact h6 c1 c2 (Classical.not_not.mp c3) (Int32.not_lt.mp c4) (Int32.not_lt.mp c5) (Int32.not_lt.mp c6) (Int32.not_lt.mp c7) c8
                · refine Ew.ld f43_8 rfl rfl rfl rfl ?_
                  refine Ew.ld f43_9 rfl rfl rfl rfl ?_
                  refine Ew.geti f43_10 (by rw [zsj5 _ hk]; rfl) rfl ?_
                  refine Ew.ld f43_13 rfl rfl rfl rfl ?_
                  refine Ew.op (st' := zi ((I 5 k 0 0) - z) :: _) f43_14 rfl rfl ?_
                  refine Ew.icmp f43_15 rfl rfl (fun c9 => ?_) (fun c9 => ?_)
                  · refine Ew.op (st' := zi (nI 0) :: _) f43_22 rfl rfl ?_
                    refine Ew.iretb f43_23 (Or.inl rfl) ?_
                    show Ev (d + 1) c s 140 84 [some (zr (some (0, 0, 0))), some (zi (nI j)), some (zi x), some (zi (nI k)), some (zi y), some (zi z), some (zr (some (5, j, 0))), some (zr (some (5, k, 0)))] [zi (nI 0)] (I, L, zpj P, zsj S, 237 + t) Q
                    refine Ew.ifc f140_84 rfl rfl (fun h => absurd h (show ¬ (¬ ((nI 0) : Int32) = 0) by decide)) (fun _ => ?_)
                    refine Ew.op (st' := zi ((-13)) :: _) f140_87 rfl rfl ?_
                    refine Ew.ireti f140_89 ?_
                    exact h7 c1 c2 (Classical.not_not.mp c3) (Int32.not_lt.mp c4) (Int32.not_lt.mp c5) (Int32.not_lt.mp c6) (Int32.not_lt.mp c7) (Int32.not_lt.mp c8) c9
                  · refine Ew.op (st' := zi (nI 1) :: _) f43_18 rfl rfl ?_
                    refine Ew.goto f43_19 rfl ?_
                    refine Ew.iretb f43_23 (Or.inr rfl) ?_
                    show Ev (d + 1) c s 140 84 [some (zr (some (0, 0, 0))), some (zi (nI j)), some (zi x), some (zi (nI k)), some (zi y), some (zi z), some (zr (some (5, j, 0))), some (zr (some (5, k, 0)))] [zi (nI 1)] (I, L, zpj P, zsj S, 237 + t) Q
                    refine Ew.ifc f140_84 rfl rfl (fun _ => ?_) (fun h => absurd (show ¬ ((nI 1) : Int32) = 0 by decide) h)
                    refine Ew.ld f140_90 rfl rfl rfl rfl ?_
                    refine Ew.ld f140_92 rfl rfl rfl rfl ?_
                    refine Ew.ld f140_93 rfl rfl rfl rfl ?_
                    refine Ew.ld f140_95 rfl rfl rfl rfl ?_
                    refine Ew.ld f140_97 rfl rfl rfl rfl ?_
                    refine Ew.call0 (ls0 := [some (zr (some (5, j, 0))), some (zi x), some (zr (some (5, k, 0))), some (zi y), some (zi z)]) f140_99 rfl (Nat.le_of_ble_eq_true rfl) rfl rfl (Nat.le_of_ble_eq_true rfl) (by show (zsj S 5 j 0).1 = _; rw [zsj5 _ hj]; rfl) (Nat.le_of_ble_eq_true rfl) rfl rfl ?_
                    exact h8 c1 c2 (Classical.not_not.mp c3) (Int32.not_lt.mp c4) (Int32.not_lt.mp c5) (Int32.not_lt.mp c6) (Int32.not_lt.mp c7) (Int32.not_lt.mp c8) (Int32.not_lt.mp c9)
    · refine Ew.op (st' := zi (nI 1) :: _) f41_8 rfl rfl ?_
      refine Ew.goto f41_9 rfl ?_
      refine Ew.iretb f41_13 (Or.inr rfl) ?_
      show Ev (d + 1) c s 140 45 [some (zr (some (0, 0, 0))), some (zi (nI j)), some (zi x), some (zi (nI k)), some (zi y), some (zi z), some (zr (some (5, j, 0))), some (zr (some (5, k, 0)))] [zi (nI 1)] (I, L, zpj P, zsj S, 237 + t) Q
      refine Ew.ifc f140_45 rfl rfl (fun h => absurd h (show ¬ (((nI 1) : Int32) = 0) by decide)) (fun _ => ?_)
      refine Ew.op (st' := zi ((-11)) :: _) f140_48 rfl rfl ?_
      refine Ew.ireti f140_50 ?_
      exact h9 c1 (Classical.not_not.mp c2)
  · refine Ew.op (st' := zi (nI 1) :: _) f41_8 rfl rfl ?_
    refine Ew.goto f41_9 rfl ?_
    refine Ew.iretb f41_13 (Or.inr rfl) ?_
    show Ev (d + 1) c s 140 37 [some (zr (some (0, 0, 0))), some (zi (nI j)), some (zi x), some (zi (nI k)), some (zi y), some (zi z), some (zr (some (5, j, 0))), some (zr (some (5, k, 0)))] [zi (nI 1)] (I, L, zpj P, zsj S, 237 + t) Q
    refine Ew.ifc f140_37 rfl rfl (fun _ => ?_) (fun h => absurd (show ¬ ((nI 1) : Int32) = 0 by decide) h)
    refine Ew.op (st' := zi ((-11)) :: _) f140_48 rfl rfl ?_
    refine Ew.ireti f140_50 ?_
    exact h10 (Classical.not_not.mp c1)
theorem g140_102 {d c s : Nat} {t j k : Nat} {x y z : Int32} {I : zI} {L : zL} {P : zP} {S : zS} {Q : Option zV → zM → Prop}
    (h1 : Q (some (zi z)) (I, L, zpj P, zsj S, 237 + t)) : Ev d c s 140 102 [some (zr (some (0, 0, 0))), some (zi (nI j)), some (zi x), some (zi (nI k)), some (zi y), some (zi z), some (zr (some (5, j, 0))), some (zr (some (5, k, 0)))] [] (I, L, zpj P, zsj S, 237 + t) Q := by
  refine Ew.ld f140_102 rfl rfl rfl rfl ?_
  refine Ew.ireti f140_104 ?_
  exact h1
theorem zp17 {j : Nat} (hj : j < 4) (P : zP) : zpj P 0 0 17 j = some (5, j, 0) := by
  have h4 : j = 0 ∨ j = 1 ∨ j = 2 ∨ j = 3 := by omega
  rcases h4 with e | e | e | e <;> subst e <;> rfl
theorem aFnd_0 (o : oS) (x i : Int32) (n : Nat) : aFnd o x i n = 0 ∨ (aFnd o x i n < 0 ∧ ¬ aFnd o x i n = 0) := by
  unfold aFnd
  cases o with
  | none => exact Or.inr ⟨show (-11 : Int32) < 0 by decide, show ¬ (-11 : Int32) = 0 by decide⟩
  | some y =>
    simp only []
    split
    · split
      · exact Or.inl rfl
      · exact Or.inr ⟨by decide, by decide⟩
    · exact Or.inr ⟨by decide, by decide⟩
theorem aFnd_z {o : oS} {x i : Int32} {n : Nat} (h : aFnd o x i n = 0) : ∃ y m, o = some y ∧ nI y.1 = x ∧ i = nI m ∧ m + n ≤ y.2.1 ∧ i.toNatClampNeg = m := by
  unfold aFnd at h
  cases o with
  | none => exact absurd (show (-11 : Int32) = 0 from h) (by decide)
  | some y =>
    simp only [] at h
    split at h
    · rename_i e
      split at h
      · rename_i g
        obtain ⟨m, hm, rfl⟩ := nI_of (Int32.not_lt.mpr (zge0.mpr g.1))
        rw [nI_toInt hm] at g
        exact ⟨y, m, rfl, e, rfl, by omega, nI_clamp hm⟩
      · exact absurd h (by decide)
    · exact absurd h (by decide)
section
variable {d c s t B j : Nat} {a b x y z : Int32} {v : Int64} {σ : zSt} {I : zI} {L : zL} {P : zP} {S : zS} {Q : Option zV → zM → Prop}
theorem om_g {top r j : Nat} {ρ' : Nat → Nat → Int32} {l' : Nat → Nat → Int64} {v : Option zV} (h : Q v (so I r j ρ', so L r j l', zpj P, zsj S, top)) : Q v (OM (I, L, P, S, top) r j ρ' l') := h
theorem zCls.sh {ρ' : Nat → Nat → Int32} {l' : Nat → Nat → Int64} {o : oS} (h : zCls I L P S t σ) (h1 : cS1 ρ' l' o) : zCls (so I 5 j ρ') (so L 5 j l') P S t (aSh σ j o) := by
  obtain ⟨hT, hH, hK, hTp, hS⟩ := h
  refine ⟨hT.fr (Nat.le_refl _) (fun q i => so3 (by omega)) (fun _ _ => rfl) (cOld_so (by decide)), hH.fr (Nat.le_refl _) (fun q i => ⟨so3 (by omega), rfl⟩) (fun j' _ _ q i => ⟨so3 (by omega), rfl⟩) (cOld_so (by decide)), hK.fr (Nat.le_refl _) (fun j q i _ => ⟨so3 (by omega), rfl⟩) (fun q i => ⟨so3 (by omega), rfl⟩) (so3 (by omega)) (cOld_so (by decide)), ⟨(so3 (by omega)).trans hTp.1, fun k hk => (so3 (by omega)).trans (hTp.2 k hk)⟩, fun j' hj' => ?_⟩
  show match zup σ.S j o j' with
    | none => so I 5 j ρ' 5 j' 0 0 = -1
    | some x => so I 5 j ρ' 5 j' 0 0 = nI x.2.1 ∧ so I 5 j ρ' 5 j' 0 1 = nI x.1 ∧ ∀ i, i < x.2.1 → so L 5 j l' 5 j' 1 i = x.2.2 i
  by_cases e : j' = j
  · subst e
    rw [zup_s, so_s, so_s]
    exact h1
  · rw [zup_n _ _ e, so_n _ _ (by omega), so_n _ _ (by omega)]
    exact hS j' hj'
theorem zGood.sh {o : oS} (h : zGood B σ) (hb : ∀ x, o = some x → x.1 < 4 ∧ x.2.1 ≤ 24) : zGood B (aSh σ j o) := by
  refine ⟨h.1, h.2.1, h.2.2.1, h.2.2.2.1, fun j' x hj' e => ?_⟩
  have e : zup σ.S j o j' = some x := e
  by_cases g : j' = j
  · subst g
    rw [zup_s] at e
    exact hb x e
  · rw [zup_n _ _ g] at e
    exact h.2.2.2.2 j' x hj' e
theorem zFm_5 {ρ' : Nat → Nat → Int32} {l' : Nat → Nat → Int64} : zFm I L S (so I 5 j ρ') (so L 5 j l') S := fun r' hr => ⟨by unfold so; rw [zup_n _ _ (by omega)], by unfold so; rw [zup_n _ _ (by omega)], rfl⟩
theorem zCls.s1 (h : zCls I L P S t σ) (hj : j < 4) : cS1 (I 5 j) (L 5 j) (σ.S j) := h.2.2.2.2 j hj
theorem gm_Find {n : Nat} (hG : zGood B σ) (hC : zCls I L P S t σ) (hj : j < 4) (hn : n ≤ 24) (k : Q (some (zi (aFnd (σ.S j) x y n))) (I, L, zpj P, zsj S, 237 + t)) : Ev (d + 1) c s 44 0 [some (zr (some (5, j, 0))), some (zi x), some (zi y), some (zi (nI n))] [] (I, L, zpj P, zsj S, 237 + t) Q := ev_om 5 j (sp_sFind hj (hC.s1 hj) (fun x e => hG.2.2.2.2 j x hj e) hn (om_q (Q := Q) k))
theorem cp_drop (hG : zGood B σ) (hC : zCls I L P S t σ) (k : cK I L S B (aDrop σ x).2 (zi (aDrop σ x).1) Q) : Ev (d + 2) c s 138 0 [some (zr (some (0, 0, 0))), some (zi x)] [] (I, L, zpj P, zsj S, 237 + t) Q := by
  unfold aDrop at k
  by_cases e : aIx x 4 = none
  · rw [e] at k
    exact g138_0i (d := d + 1) (fun _ => k I L P S t hC (hG.mono (by omega)) zFm.refl) (fun q => absurd e q)
  · obtain ⟨u, hu, ex, eu⟩ := aIx_ex e
    rw [eu] at k
    subst ex
    have h1 := hC.s1 hu
    refine g138_0i (d := d + 1) (fun q => absurd q e) (fun _ => ?_)
    rcases eS : σ.S u with _ | y
    · rw [eS] at h1
      simp only [eS] at k
      exact g138_9 (d := d + 1) hu (zp17 hu P) hu (fun g => absurd h1 g) (fun g => absurd h1 g) (fun _ => k I L P S t hC (hG.mono (by omega)) zFm.refl)
    · rw [eS] at h1
      simp only [eS] at k
      have hb := hG.2.2.2.2 u y hu eS
      refine g138_9 (d := d + 1) hu (zp17 hu P) hu (fun _ => hu) (fun _ => ?_) (fun g => by rw [h1.1] at g; exact absurd g (nI_m1 (by omega)))
      refine ev_om 5 u (g46_0 hu (om_g (Q := fun r M' => Ev (d + 2) c s 138 35 [some (zr (some (0, 0, 0))), some (zi (nI u))] (zpush r []) M' Q) (g138_35 ?_)))
      rw [h1.1]
      exact k _ _ _ _ _ (hC.sh (o := none) (zu_e)) ((hG.mono (by omega)).sh (fun x e => by cases e)) zFm_5
theorem cp_sheet (hG : zGood B σ) (hC : zCls I L P S t σ) (k : cK I L S B (aSheet σ x y z).2 (zi (aSheet σ x y z).1) Q) : Ev (d + 3) c s 137 0 [some (zr (some (0, 0, 0))), some (zi x), some (zi y), some (zi z)] [] (I, L, zpj P, zsj S, 237 + t) Q := by
  unfold aSheet at k
  by_cases e1 : aIx x 4 = none
  · rw [e1] at k
    exact g137_0i (d := d + 2) (fun _ => k I L P S t hC (hG.mono (by omega)) zFm.refl) (fun q => absurd e1 q) (fun q => absurd e1 q) (fun q => absurd e1 q) (fun q => absurd e1 q)
  · obtain ⟨u, hu, ex, eu⟩ := aIx_ex e1
    by_cases e2 : aIx y 4 = none
    · rw [e2, eu] at k
      exact g137_0i (d := d + 2) (fun q => absurd q e1) (fun _ _ => k I L P S t hC (hG.mono (by omega)) zFm.refl) (fun _ q => absurd e2 q) (fun _ q => absurd e2 q) (fun _ q => absurd e2 q)
    · obtain ⟨w, hw, ey, ew⟩ := aIx_ex e2
      rw [eu, ew] at k
      subst ex
      subst ey
      refine g137_0i (d := d + 2) (fun q => absurd q e1) (fun _ q => absurd q e2) (fun _ _ g1 g2 => ?_) (fun _ _ g1 g2 => ?_) (fun _ _ g1 => ?_)
      · simp only [if_neg (Int32.not_lt.mpr g1), if_neg (Int32.not_lt.mpr g2)] at k
        obtain ⟨m, hm, rfl⟩ := nI_of (Int32.not_lt.mpr g2)
        have hm24 : m ≤ 24 := by
          rw [Int32.le_iff_toInt_le, nI_toInt hm] at g1
          have : (nI 24).toInt = 24 := by decide
          omega
        rw [nI_clamp hm] at k
        refine g137_29 (d := d + 2) hu (zp17 hu P) hu (ev_om 5 u (sp_sBeg (d := d + 1) hu hm24 (fun ρ1 l1 h1 => om_g (Q := fun r M' => Ev (d + 3) c s 137 40 [some (zr (some (0, 0, 0))), some (zi (nI u)), some (zi (nI w)), some (zi (nI m))] (zpush r []) M' Q) (g137_40 ?_))))
        exact k _ _ _ _ _ (hC.sh h1) ((hG.mono (by omega)).sh (fun x e => by cases e; exact ⟨hw, hm24⟩)) zFm_5
      · simp only [if_neg (Int32.not_lt.mpr g1), if_pos g2] at k
        exact k I L P S t hC (hG.mono (by omega)) zFm.refl
      · simp only [if_pos g1] at k
        exact k I L P S t hC (hG.mono (by omega)) zFm.refl
theorem cp_item (hG : zGood B σ) (hC : zCls I L P S t σ) (k : cK I L S B (aItem σ x y z v).2 (zi (aItem σ x y z v).1) Q) : Ev (d + 2) c s 139 0 [some (zr (some (0, 0, 0))), some (zi x), some (zi y), some (zi z), some (zl v), none, none] [] (I, L, zpj P, zsj S, 237 + t) Q := by
  unfold aItem at k
  by_cases e1 : aIx x 4 = none
  · rw [e1] at k
    exact g139_0i (d := d + 1) (fun _ => k I L P S t hC (hG.mono (by omega)) zFm.refl) (fun q => absurd e1 q) (fun q => absurd e1 q)
  · obtain ⟨u, hu, ex, eu⟩ := aIx_ex e1
    by_cases e2 : aIx y 4 = none
    · rw [e2, eu] at k
      exact g139_0i (d := d + 1) (fun q => absurd q e1) (fun _ _ => k I L P S t hC (hG.mono (by omega)) zFm.refl) (fun _ q => absurd e2 q)
    · obtain ⟨w, hw, ey, ew⟩ := aIx_ex e2
      rw [eu, ew] at k
      subst ex
      subst ey
      refine g139_0i (d := d + 1) (fun q => absurd q e1) (fun _ q => absurd q e2) (fun _ _ => g139_16 (d := d + 1) hu (zp17 hu P) hu (gm_Find (d := d) hG hC hu (by decide) ?_))
      rcases aFnd_0 (σ.S u) (nI w) z 1 with e0 | ⟨e0, ne⟩
      · obtain ⟨y', m, eS, ey', ez, hm, cm⟩ := aFnd_z e0
        have hb := hG.2.2.2.2 u y' hu eS
        have ew' : y'.1 = w := (zeq (by omega) (by omega)).mp ey'
        simp only [e0, if_neg (show ¬ (0 : Int32) < 0 by decide)] at k
        simp only [eS, cm] at k
        subst ez
        have h1 := hC.s1 hu
        rw [eS] at h1
        obtain ⟨p1, p2, p3⟩ := h1
        rw [e0]
        refine g139_28 (fun _ => g139_38 (d := d + 1) hu (zp17 hu P) hu (ev_om 5 u (sp_sPut (d := d) hu p1 p2 hb.2 (by omega) (om_g (Q := fun r M' => Ev (d + 2) c s 139 50 [some (zr (some (0, 0, 0))), some (zi (nI u)), some (zi (nI w)), some (zi (nI m)), some (zl v), none, some (zi 0)] (zpush r []) M' Q) (g139_50 ?_))))) (fun g => absurd rfl g)
        rw [ey']
        refine k _ _ _ _ _ (hC.sh (j := u) (ρ' := I 5 u) (l' := zu (L 5 u) 1 m (aCut (nI w) v)) (o := some (y'.1, y'.2.1, zup y'.2.2 m (aCut (nI w) v))) ⟨p1, p2, fun i hi => ?_⟩) ((hG.mono (by omega)).sh (fun x e => by cases e; exact hb)) zFm_5
        show zu (L 5 u) 1 m (aCut (nI w) v) 1 i = zup y'.2.2 m (aCut (nI w) v) i
        by_cases e : i = m
        · subst e; rw [zu_s, zup_s]
        · rw [zu_i_ne (by omega), zup_n _ _ e]; exact p3 i hi
      · simp only [if_pos e0] at k
        exact g139_28 (fun g => absurd g ne) (fun _ => k I L P S t hC (hG.mono (by omega)) zFm.refl)
theorem cp_film (hG : zGood B σ) (hC : zCls I L P S t σ) (k : cK I L S B (aFilm σ x y z).2 (zi (aFilm σ x y z).1) Q) : Ev (d + 2) c s 136 0 [some (zr (some (0, 0, 0))), some (zi x), some (zi y), some (zi z), none, none] [] (I, L, zpj P, zsj S, 237 + t) Q := by
  unfold aFilm at k
  by_cases e1 : aIx x 4 = none
  · rw [e1] at k
    exact g136_0i (d := d + 1) (fun _ => k I L P S t hC (hG.mono (by omega)) zFm.refl) (fun q => absurd e1 q) (fun q => absurd e1 q)
  · obtain ⟨u, hu, ex, eu⟩ := aIx_ex e1
    by_cases e2 : aIx y 4 = none
    · rw [e2, eu] at k
      exact g136_0i (d := d + 1) (fun q => absurd q e1) (fun _ _ => k I L P S t hC (hG.mono (by omega)) zFm.refl) (fun _ q => absurd e2 q)
    · obtain ⟨w, hw, ey, ew⟩ := aIx_ex e2
      rw [eu, ew] at k
      subst ex
      subst ey
      refine g136_0i (d := d + 1) (fun q => absurd q e1) (fun _ q => absurd q e2) (fun _ _ => g136_16 (d := d + 1) hu (zp17 hu P) hu (gm_Find (d := d) hG hC hu (by decide) ?_))
      rcases aFnd_0 (σ.S u) (nI w) z 4 with e0 | ⟨e0, ne⟩
      · obtain ⟨y', m, eS, ey', ez, hm, cm⟩ := aFnd_z e0
        have hb := hG.2.2.2.2 u y' hu eS
        simp only [e0, if_neg (show ¬ (0 : Int32) < 0 by decide)] at k
        simp only [eS, cm] at k
        subst ez
        have h1 := hC.s1 hu
        rw [eS] at h1
        obtain ⟨p1, p2, p3⟩ := h1
        rw [e0]
        refine g136_28 (fun _ => g136_38 ?_) (fun g => absurd rfl g)
        have lp : ∀ r, r ≤ 4 → ∀ l1 : Nat → Nat → Int64, (∀ i, i < y'.2.1 → l1 1 i = aFilmG σ.w (nI w) m y'.2.2 (4 - r) i) → Ev (d + 2) c s 136 41 [some (zr (some (0, 0, 0))), some (zi (nI u)), some (zi (nI w)), some (zi (nI m)), some (zi 0), some (zi (nI (4 - r)))] [] (I, so L 5 u l1, zpj P, zsj S, 237 + t) Q := by
          intro r
          induction r with
          | zero =>
            intro _ l1 h1
            refine g136_41 (d := d + 1) hu (zp17 hu P) (by omega) (fun _ => ?_) (fun g => by omega) (fun g => by omega) (fun g => by omega)
            have hc := hC.sh (j := u) (ρ' := I 5 u) (l' := l1) (o := some (y'.1, y'.2.1, aFilmG σ.w (nI w) m y'.2.2 4)) ⟨p1, p2, h1⟩
            rw [so_id] at hc
            have fm : zFm I L S I (so L 5 u l1) S := fun r' hr => ⟨rfl, by unfold so; rw [zup_n _ _ (by omega)], rfl⟩
            exact k _ _ _ _ _ hc ((hG.mono (by omega)).sh (fun x e => by cases e; exact hb)) fm
          | succ r ih =>
            intro hr l1 h1
            refine g136_41 (d := d + 1) hu (zp17 hu P) (by omega) (fun g => by omega) (fun _ => hu) (fun g => g) (fun _ => ?_)
            have e7 : I 2 0 7 (4 - (r + 1)) = σ.w (10 + 4 * (4 - (r + 1)) + 1) := (hC.1.1.2.2 _ (by omega)).2.1
            rw [e7]
            refine ev_om 5 u (sp_sPut (d := d) hu p1 p2 hb.2 (by omega) ?_)
            rw [so_s, ey']
            show Ev (d + 2) c s 136 70 [some (zr (some (0, 0, 0))), some (zi (nI u)), some (zi (nI w)), some (zi (nI m)), some (zi 0), some (zi (nI (4 - (r + 1))))] [] (so I 5 u (I 5 u), so (so L 5 u l1) 5 u (zu l1 1 (m + (4 - (r + 1))) (aCut (nI w) (σ.w (10 + 4 * (4 - (r + 1)) + 1)).toInt64)), zpj P, zsj S, 237 + t) Q
            rw [so_id, so_so]
            refine g136_70 ?_
            rw [show 4 - (r + 1) + 1 = 4 - r by omega]
            refine ih (by omega) _ (fun i hi => ?_)
            unfold aFilmG
            by_cases e : i = m + (4 - (r + 1))
            · subst e
              rw [zu_s, if_pos ⟨by omega, by omega⟩, show m + (4 - (r + 1)) - m = 4 - (r + 1) by omega]
            · rw [zu_i_ne (by omega), h1 i hi]
              unfold aFilmG
              by_cases g : m ≤ i ∧ i < m + (4 - (r + 1))
              · rw [if_pos g, if_pos ⟨g.1, by omega⟩]
              · rw [if_neg g, if_neg (by omega)]
        have h0 := lp 4 (Nat.le_refl _) (L 5 u) (fun i hi => by unfold aFilmG; rw [if_neg (by omega)]; exact p3 i hi)
        rw [so_id, Nat.sub_self] at h0
        exact h0
      · simp only [if_pos e0] at k
        exact g136_28 (fun g => absurd g ne) (fun _ => k I L P S t hC (hG.mono (by omega)) zFm.refl)
theorem zroomZ {Z : Nat} {i n : Int32} (hz : Z < 5000) (hn : 0 ≤ n) (hi : 0 ≤ i) : i ≤ nI Z - n ↔ i.toInt + n.toInt ≤ Z := by
  obtain ⟨j, hj, rfl⟩ := nI_of (Int32.not_lt.mpr hi)
  obtain ⟨m, hm, rfl⟩ := nI_of (Int32.not_lt.mpr hn)
  rw [Int32.le_iff_toInt_le, zsubI hz hm, nI_toInt hj, nI_toInt hm]
  omega
theorem cp_copy (hG : zGood B σ) (hC : zCls I L P S t σ) (k : cK I L S B (aCopy σ a x b y z).2 (zi (aCopy σ a x b y z).1) Q) : Ev (d + 2) c s 140 0 [some (zr (some (0, 0, 0))), some (zi a), some (zi x), some (zi b), some (zi y), some (zi z), none, none] [] (I, L, zpj P, zsj S, 237 + t) Q := by
  unfold aCopy at k
  by_cases e1 : aIx a 4 = none
  · rw [e1] at k
    exact g140_0i (d := d + 1) (fun _ => k I L P S t hC (hG.mono (by omega)) zFm.refl) (fun q => absurd e1 q) (fun q => absurd e1 q)
  · obtain ⟨p, hp, ep, eu⟩ := aIx_ex e1
    by_cases e2 : aIx b 4 = none
    · rw [e2, eu] at k
      exact g140_0i (d := d + 1) (fun q => absurd q e1) (fun _ _ => k I L P S t hC (hG.mono (by omega)) zFm.refl) (fun _ q => absurd e2 q)
    · obtain ⟨q, hq, eq, ew⟩ := aIx_ex e2
      rw [eu, ew] at k
      subst ep
      subst eq
      have same : ∀ σ', σ' = σ → zCls I L P S t σ' ∧ zGood (B + 40) σ' := fun σ' e => by subst e; exact ⟨hC, hG.mono (by omega)⟩
      have h1 := hC.s1 hp
      have h2 := hC.s1 hq
      refine g140_0i (d := d + 1) (fun q => absurd q e1) (fun _ q => absurd q e2) (fun _ _ => ?_)
      rcases eS1 : σ.S p with _ | y1
      · rw [eS1] at h1
        simp only [eS1] at k
        refine g140_16 (d := d + 1) hp (zp17 hp P) hq (zp17 hq P) hp hq (fun g => absurd h1 g) (fun g => absurd h1 g) (fun g => absurd h1 g) (fun g => absurd h1 g) (fun g => absurd h1 g) (fun g => absurd h1 g) (fun g => absurd h1 g) (fun g => absurd h1 g) (fun g => absurd h1 g) (fun _ => k I L P S t hC (hG.mono (by omega)) zFm.refl)
      · rw [eS1] at h1
        have n1 : ¬ I 5 p 0 0 = -1 := by rw [h1.1]; exact nI_m1 (by have := hG.2.2.2.2 p y1 hp eS1; omega)
        rcases eS2 : σ.S q with _ | y2
        · rw [eS2] at h2
          simp only [eS1, eS2] at k
          refine g140_16 (d := d + 1) hp (zp17 hp P) hq (zp17 hq P) hp hq (fun _ g => absurd h2 g) (fun _ g => absurd h2 g) (fun _ g => absurd h2 g) (fun _ g => absurd h2 g) (fun _ g => absurd h2 g) (fun _ g => absurd h2 g) (fun _ g => absurd h2 g) (fun _ g => absurd h2 g) (fun _ _ => k I L P S t hC (hG.mono (by omega)) zFm.refl) (fun g => absurd g n1)
        · rw [eS2] at h2
          simp only [eS1, eS2] at k
          have b1 := hG.2.2.2.2 p y1 hp eS1
          have b2 := hG.2.2.2.2 q y2 hq eS2
          have n2 : ¬ I 5 q 0 0 = -1 := by rw [h2.1]; exact nI_m1 (by omega)
          obtain ⟨p1, p2, p3⟩ := h1
          obtain ⟨q1, q2, q3⟩ := h2
          have el : I 5 p 0 1 = I 5 q 0 1 ↔ y1.1 = y2.1 := by rw [p2, q2]; exact zeq (by omega) (by omega)
          have bad : y1.1 = y2.1 → ¬ (0 ≤ z.toInt ∧ 0 ≤ x.toInt ∧ 0 ≤ y.toInt ∧ x.toInt + z.toInt ≤ y1.2.1 ∧ y.toInt + z.toInt ≤ y2.2.1) → Q (some (zi (-13))) (I, L, zpj P, zsj S, 237 + t) := by
            intro g1 g2
            simp only [if_pos g1, if_neg g2] at k
            exact k I L P S t hC (hG.mono (by omega)) zFm.refl
          refine g140_16 (d := d + 1) hp (zp17 hp P) hq (zp17 hq P) hp hq (fun _ _ g => ?_) (fun _ _ g g1 => ?_) (fun _ _ g g1 g2 => ?_) (fun _ _ g g1 g2 g3 => ?_) (fun _ _ g g1 g2 g3 g4 => absurd g4 (Int32.not_lt.mpr g1)) (fun _ _ g g1 g2 g3 _ g4 => ?_) (fun _ _ g g1 g2 g3 _ g4 g5 => ?_) (fun _ _ g g1 g2 g3 _ g4 g5 => ?_) (fun _ g => absurd g n2) (fun g => absurd g n1)
          · simp only [if_neg (fun e => g (el.mpr e))] at k
            exact k I L P S t hC (hG.mono (by omega)) zFm.refl
          · exact bad (el.mp g) (fun q => absurd (zge0.mpr q.1) (Int32.not_le.mpr g1))
          · exact bad (el.mp g) (fun q => absurd (zge0.mpr q.2.1) (Int32.not_le.mpr g2))
          · rw [p1] at g3
            exact bad (el.mp g) (fun q => absurd ((zroomZ (by omega) g1 g2).mpr q.2.2.2.1) (Int32.not_le.mpr g3))
          · exact bad (el.mp g) (fun q => absurd (zge0.mpr q.2.2.1) (Int32.not_le.mpr g4))
          · rw [q1] at g5
            exact bad (el.mp g) (fun q => absurd ((zroomZ (by omega) g1 g4).mpr q.2.2.2.2) (Int32.not_le.mpr g5))
          · rw [p1] at g3
            rw [q1] at g5
            have r1 := (zroomZ (by omega) g1 g2).mp g3
            have r2 := (zroomZ (by omega) g1 g4).mp g5
            simp only [if_pos (el.mp g), if_pos (show 0 ≤ z.toInt ∧ 0 ≤ x.toInt ∧ 0 ≤ y.toInt ∧ x.toInt + z.toInt ≤ y1.2.1 ∧ y.toInt + z.toInt ≤ y2.2.1 from ⟨zge0.mp g1, zge0.mp g2, zge0.mp g4, r1, r2⟩)] at k
            obtain ⟨i', hi', rfl⟩ := nI_of (Int32.not_lt.mpr g2)
            obtain ⟨j', hj', rfl⟩ := nI_of (Int32.not_lt.mpr g4)
            obtain ⟨n', hn', rfl⟩ := nI_of (Int32.not_lt.mpr g1)
            rw [nI_toInt hi', nI_toInt hn'] at r1
            rw [nI_toInt hj', nI_toInt hn'] at r2
            rw [nI_clamp hi', nI_clamp hj', nI_clamp hn'] at k
            refine sp_sGive (d := d) hp hq (by omega) (by omega) (g140_102 ?_)
            have e : zup3 L 5 q 1 (va_cpy (L 5 p 1) (L 5 q 1) i' j' n') = so L 5 q (zup (L 5 q) 1 (va_cpy (L 5 p 1) (L 5 q 1) i' j' n')) := rfl
            rw [e]
            have hc := hC.sh (j := q) (ρ' := I 5 q) (l' := zup (L 5 q) 1 (va_cpy (L 5 p 1) (L 5 q 1) i' j' n')) (o := some (y2.1, y2.2.1, aCopG y1.2.2 y2.2.2 i' j' n')) ⟨q1, q2, fun u hu => ?_⟩
            · rw [so_id] at hc
              have fm : zFm I L S I (so L 5 q (zup (L 5 q) 1 (va_cpy (L 5 p 1) (L 5 q 1) i' j' n'))) S := fun r' hr => ⟨rfl, by unfold so; rw [zup_n _ _ (by omega)], rfl⟩
              exact k _ _ _ _ _ hc ((hG.mono (by omega)).sh (fun x e => by cases e; exact b2)) fm
            · have hu : u < y2.2.1 := hu
              rw [zup_s]
              show (if j' ≤ u ∧ u < j' + n' then L 5 p 1 (i' + (u - j')) else L 5 q 1 u) = aCopG y1.2.2 y2.2.2 i' j' n' u
              unfold aCopG
              by_cases g : j' ≤ u ∧ u < j' + n'
              · rw [if_pos g, if_pos g]; exact p3 _ (by omega)
              · rw [if_neg g, if_neg g]; exact q3 u hu
end
