/-! the class: ahead, loops, ways, odds, near, type -/
theorem g125_0 {d c s : Nat} {t : Nat} {x y : Int32} {I : zI} {L : zL} {P : zP} {S : zS} {Q : Option zV → zM → Prop}
    (h1 : (aIx x 6 = none) → Q (some (zi ((-1)))) (I, L, zpj P, zsj S, 237 + t))
    (h2 : (¬ (aIx x 6 = none)) → (aIx y 6 = none) → Q (some (zi ((-1)))) (I, L, zpj P, zsj S, 237 + t))
    (h3 : (¬ (aIx x 6 = none)) → (¬ (aIx y 6 = none)) → (¬ x = y) → Ev d 0 0 7 0 [some (zr (some (0, 0, 12))), some (zr (some (2, 0, 0))), none] [] (I, L, zpj P, zsj S, 237 + t) (fun r M' => Ev (d + 1) c s 125 32 [some (zr (some (0, 0, 0))), some (zi x), some (zi y)] (zpush r []) M' Q))
    (h4 : (¬ (aIx x 6 = none)) → (¬ (aIx y 6 = none)) → (x = y) → Q (some (zi ((-1)))) (I, L, zpj P, zsj S, 237 + t)) : Ev (d + 1) c s 125 0 [some (zr (some (0, 0, 0))), some (zi x), some (zi y)] [] (I, L, zpj P, zsj S, 237 + t) Q := by
  refine Ew.ld f125_0 rfl rfl rfl rfl ?_
  refine Ew.call0 (ls0 := [some (zi x)]) f125_1 rfl (Nat.le_of_ble_eq_true rfl) rfl rfl (Nat.le_of_ble_eq_true rfl) trivial (Nat.le_of_ble_eq_true rfl) rfl rfl ?_
  refine sp_noGate (fun c1 => ?_) (fun c1 => ?_)
  · refine Ew.ifc f125_4 rfl rfl (fun _ => ?_) (fun h => absurd (show ¬ ((nI 1) : Int32) = 0 by decide) h)
    refine Ew.op (st' := zi ((-1)) :: _) f125_19 rfl rfl ?_
    refine Ew.ireti f125_20 ?_
    exact h1 c1
  · refine Ew.ifc f125_4 rfl rfl (fun h => absurd h (show ¬ (¬ ((nI 0) : Int32) = 0) by decide)) (fun _ => ?_)
    refine Ew.ld f125_7 rfl rfl rfl rfl ?_
    refine Ew.call0 (ls0 := [some (zi y)]) f125_8 rfl (Nat.le_of_ble_eq_true rfl) rfl rfl (Nat.le_of_ble_eq_true rfl) trivial (Nat.le_of_ble_eq_true rfl) rfl rfl ?_
    refine sp_noGate (fun c2 => ?_) (fun c2 => ?_)
    · refine Ew.ifc f125_11 rfl rfl (fun _ => ?_) (fun h => absurd (show ¬ ((nI 1) : Int32) = 0 by decide) h)
      refine Ew.op (st' := zi ((-1)) :: _) f125_19 rfl rfl ?_
      refine Ew.ireti f125_20 ?_
      exact h2 c1 c2
    · refine Ew.ifc f125_11 rfl rfl (fun h => absurd h (show ¬ (¬ ((nI 0) : Int32) = 0) by decide)) (fun _ => ?_)
      refine Ew.ld f125_14 rfl rfl rfl rfl ?_
      refine Ew.ld f125_15 rfl rfl rfl rfl ?_
      refine Ew.icmp f125_16 rfl rfl (fun c3 => ?_) (fun c3 => ?_)
      · refine Ew.ld f125_21 rfl rfl rfl rfl ?_
        refine Ew.getp (v := some (0, 0, 12)) f125_22 rfl rfl rfl ?_
        refine Ew.ld f125_25 rfl rfl rfl rfl ?_
        refine Ew.getp (v := some (2, 0, 0)) f125_26 rfl rfl rfl ?_
        refine Ew.call0 (ls0 := [some (zr (some (0, 0, 12))), some (zr (some (2, 0, 0))), none]) f125_29 rfl (Nat.le_of_ble_eq_true rfl) rfl rfl (Nat.le_of_ble_eq_true rfl) rfl (Nat.le_of_ble_eq_true rfl) rfl rfl ?_
        exact h3 c1 c2 c3
      · refine Ew.op (st' := zi ((-1)) :: _) f125_19 rfl rfl ?_
        refine Ew.ireti f125_20 ?_
        exact h4 c1 c2 (Classical.not_not.mp c3)
theorem g125_32 {d c s : Nat} {t a b : Nat} {I : zI} {L : zL} {P : zP} {S : zS} {Q : Option zV → zM → Prop}
    (h1 : Ev d 0 0 8 0 [some (zr (some (0, 0, 12))), some (zi (nI a)), some (zi (nI b))] [] (I, L, zpj P, zsj S, 237 + t) (fun r M' => Ev (d + 1) c s 125 41 [some (zr (some (0, 0, 0))), some (zi (nI a)), some (zi (nI b))] (zpush r []) M' Q)) : Ev (d + 1) c s 125 32 [some (zr (some (0, 0, 0))), some (zi (nI a)), some (zi (nI b))] [] (I, L, zpj P, zsj S, 237 + t) Q := by
  refine Ew.ld f125_32 rfl rfl rfl rfl ?_
  refine Ew.getp (v := some (0, 0, 12)) f125_33 rfl rfl rfl ?_
  refine Ew.ld f125_36 rfl rfl rfl rfl ?_
  refine Ew.ld f125_37 rfl rfl rfl rfl ?_
  refine Ew.call0 (ls0 := [some (zr (some (0, 0, 12))), some (zi (nI a)), some (zi (nI b))]) f125_38 rfl (Nat.le_of_ble_eq_true rfl) rfl rfl (Nat.le_of_ble_eq_true rfl) rfl (Nat.le_of_ble_eq_true rfl) rfl rfl ?_
  exact h1
theorem g125_41a {d c s : Nat} {t a b : Nat} {I : zI} {L : zL} {P : zP} {S : zS} {Q : Option zV → zM → Prop}
    (h1 : Q (some (zi (nI 0))) (I, L, zpj P, zsj S, 237 + t)) : Ev d c s 125 41 [some (zr (some (0, 0, 0))), some (zi (nI a)), some (zi (nI b))] [zi (nI 0)] (I, L, zpj P, zsj S, 237 + t) Q := by
  refine Ew.ifc f125_41 rfl rfl (fun _ => ?_) (fun h => absurd (show ((nI 0) : Int32) = 0 by decide) h)
  refine Ew.op (st' := zi (nI 0) :: _) f125_48 rfl rfl ?_
  refine Ew.ireti f125_49 ?_
  exact h1
theorem g125_41b {d c s : Nat} {t a b : Nat} {I : zI} {L : zL} {P : zP} {S : zS} {Q : Option zV → zM → Prop}
    (h1 : Q (some (zi (nI 1))) (I, L, zpj P, zsj S, 237 + t)) : Ev d c s 125 41 [some (zr (some (0, 0, 0))), some (zi (nI a)), some (zi (nI b))] [zi (nI 1)] (I, L, zpj P, zsj S, 237 + t) Q := by
  refine Ew.ifc f125_41 rfl rfl (fun h => absurd h (show ¬ (((nI 1) : Int32) = 0) by decide)) (fun _ => ?_)
  refine Ew.op (st' := zi (nI 1) :: _) f125_44 rfl rfl ?_
  refine Ew.goto f125_45 rfl ?_
  refine Ew.ireti f125_49 ?_
  exact h1
theorem g126_0 {d c s : Nat} {t : Nat} {x : Int32} {I : zI} {L : zL} {P : zP} {S : zS} {Q : Option zV → zM → Prop}
    (h1 : (x < 0) → Q (some (zi ((-1)))) (I, L, zpj P, zsj S, 237 + t))
    (h2 : (0 ≤ x) → (x ≤ (nI 2)) → Ev d 0 0 7 0 [some (zr (some (0, 0, 12))), some (zr (some (2, 0, 0))), none] [] (I, L, zpj P, zsj S, 237 + t) (fun r M' => Ev (d + 1) c s 126 22 [some (zr (some (0, 0, 0))), some (zi x)] (zpush r []) M' Q))
    (h3 : (0 ≤ x) → ((nI 2) < x) → Q (some (zi ((-1)))) (I, L, zpj P, zsj S, 237 + t)) : Ev (d + 1) c s 126 0 [some (zr (some (0, 0, 0))), some (zi x)] [] (I, L, zpj P, zsj S, 237 + t) Q := by
  refine Ew.ld f126_0 rfl rfl rfl rfl ?_
  refine Ew.ifc f126_1 rfl rfl (fun c1 => ?_) (fun c1 => ?_)
  · refine Ew.op (st' := zi ((-1)) :: _) f126_9 rfl rfl ?_
    refine Ew.ireti f126_10 ?_
    exact h1 c1
  · refine Ew.ld f126_4 rfl rfl rfl rfl ?_
    refine Ew.op (st' := zi (nI 2) :: _) f126_5 rfl rfl ?_
    refine Ew.icmp f126_6 rfl rfl (fun c2 => ?_) (fun c2 => ?_)
    · refine Ew.ld f126_11 rfl rfl rfl rfl ?_
      refine Ew.getp (v := some (0, 0, 12)) f126_12 rfl rfl rfl ?_
      refine Ew.ld f126_15 rfl rfl rfl rfl ?_
      refine Ew.getp (v := some (2, 0, 0)) f126_16 rfl rfl rfl ?_
      refine Ew.call0 (ls0 := [some (zr (some (0, 0, 12))), some (zr (some (2, 0, 0))), none]) f126_19 rfl (Nat.le_of_ble_eq_true rfl) rfl rfl (Nat.le_of_ble_eq_true rfl) rfl (Nat.le_of_ble_eq_true rfl) rfl rfl ?_
      exact h2 (Int32.not_lt.mp c1) c2
    · refine Ew.op (st' := zi ((-1)) :: _) f126_9 rfl rfl ?_
      refine Ew.ireti f126_10 ?_
      exact h3 (Int32.not_lt.mp c1) (Int32.not_le.mp c2)
theorem g126_22 {d c s : Nat} {t : Nat} {x : Int32} {I : zI} {L : zL} {P : zP} {S : zS} {Q : Option zV → zM → Prop}
    (h1 : Ev d 0 0 9 0 [some (zr (some (0, 0, 12))), some (zi x), none, none, none, none] [] (I, L, zpj P, zsj S, 237 + t) (fun r M' => Ev (d + 1) c s 126 30 [some (zr (some (0, 0, 0))), some (zi x)] (zpush r []) M' Q)) : Ev (d + 1) c s 126 22 [some (zr (some (0, 0, 0))), some (zi x)] [] (I, L, zpj P, zsj S, 237 + t) Q := by
  refine Ew.ld f126_22 rfl rfl rfl rfl ?_
  refine Ew.getp (v := some (0, 0, 12)) f126_23 rfl rfl rfl ?_
  refine Ew.ld f126_26 rfl rfl rfl rfl ?_
  refine Ew.call0 (ls0 := [some (zr (some (0, 0, 12))), some (zi x), none, none, none, none]) f126_27 rfl (Nat.le_of_ble_eq_true rfl) rfl rfl (Nat.le_of_ble_eq_true rfl) rfl (Nat.le_of_ble_eq_true rfl) rfl rfl ?_
  exact h1
theorem g126_30 {d c s : Nat} {t : Nat} {x y : Int32} {I : zI} {L : zL} {P : zP} {S : zS} {Q : Option zV → zM → Prop}
    (h1 : Q (some (zi y)) (I, L, zpj P, zsj S, 237 + t)) : Ev d c s 126 30 [some (zr (some (0, 0, 0))), some (zi x)] [zi y] (I, L, zpj P, zsj S, 237 + t) Q := by
  refine Ew.ireti f126_30 ?_
  exact h1
theorem g127_0i {d c s : Nat} {t : Nat} {x y z : Int32} {I : zI} {L : zL} {P : zP} {S : zS} {Q : Option zV → zM → Prop}
    (h1 : (aTwo x y = none) → Q (some (zl ((-1)))) (I, L, zpj P, zsj S, 237 + t))
    (h2 : (¬ (aTwo x y = none)) → (z < 0) → Q (some (zl ((-1)))) (I, L, zpj P, zsj S, 237 + t))
    (h3 : (¬ (aTwo x y = none)) → (0 ≤ z) → (z ≤ (nI 1)) → Ev (d + 2) c s 127 21 [some (zr (some (0, 0, 0))), some (zi x), some (zi y), some (zi z)] [] (I, L, zpj P, zsj S, 237 + t) Q)
    (h4 : (¬ (aTwo x y = none)) → (0 ≤ z) → ((nI 1) < z) → Q (some (zl ((-1)))) (I, L, zpj P, zsj S, 237 + t)) : Ev (d + 2) c s 127 0 [some (zr (some (0, 0, 0))), some (zi x), some (zi y), some (zi z)] [] (I, L, zpj P, zsj S, 237 + t) Q := by
  refine Ew.ld f127_0 rfl rfl rfl rfl ?_
  refine Ew.ld f127_1 rfl rfl rfl rfl ?_
  refine Ew.call0 (ls0 := [some (zi x), some (zi y)]) f127_2 rfl (Nat.le_of_ble_eq_true rfl) rfl rfl (Nat.le_of_ble_eq_true rfl) trivial (Nat.le_of_ble_eq_true rfl) rfl rfl ?_
  refine sp_noPair (fun c1 => ?_) (fun c1 => ?_)
  · refine Ew.ifc f127_5 rfl rfl (fun _ => ?_) (fun h => absurd (show ¬ ((nI 1) : Int32) = 0 by decide) h)
    refine Ew.op (st' := zl ((-1)) :: _) f127_17 rfl rfl ?_
    refine Ew.lret f127_20 ?_
    exact h1 c1
  · refine Ew.ifc f127_5 rfl rfl (fun h => absurd h (show ¬ (¬ ((nI 0) : Int32) = 0) by decide)) (fun _ => ?_)
    refine Ew.ld f127_8 rfl rfl rfl rfl ?_
    refine Ew.ifc f127_9 rfl rfl (fun c2 => ?_) (fun c2 => ?_)
    · refine Ew.op (st' := zl ((-1)) :: _) f127_17 rfl rfl ?_
      refine Ew.lret f127_20 ?_
      exact h2 c1 c2
    · refine Ew.ld f127_12 rfl rfl rfl rfl ?_
      refine Ew.op (st' := zi (nI 1) :: _) f127_13 rfl rfl ?_
      refine Ew.icmp f127_14 rfl rfl (fun c3 => ?_) (fun c3 => ?_)
      · exact h3 c1 (Int32.not_lt.mp c2) c3
      · refine Ew.op (st' := zl ((-1)) :: _) f127_17 rfl rfl ?_
        refine Ew.lret f127_20 ?_
        exact h4 c1 (Int32.not_lt.mp c2) (Int32.not_le.mp c3)
theorem g127_21 {d c s : Nat} {t a b n1 n2 : Nat} {z : Int32} {I : zI} {L : zL} {P : zP} {S : zS} {Q : Option zV → zM → Prop} (pa : P 2 0 2 a = some (3, n1, 0)) (pb : P 2 0 2 b = some (3, n2, 0)) (s1 : S 3 n1 0 = (9, 0)) (s2 : S 3 n2 0 = (9, 0)) 
    (b1 : a < 4)
    (b2 : b < 4)
    (h1 : Ev d 0 0 19 0 [some (zr (some (0, 0, 14))), some (zr (some (3, n1, 0))), some (zr (some (3, n2, 0))), none, none] [] (I, L, zpj P, zsj S, 237 + t) (fun r M' => Ev (d + 1) c s 127 44 [some (zr (some (0, 0, 0))), some (zi (nI a)), some (zi (nI b)), some (zi z)] (zpush r []) M' Q)) : Ev (d + 1) c s 127 21 [some (zr (some (0, 0, 0))), some (zi (nI a)), some (zi (nI b)), some (zi z)] [] (I, L, zpj P, zsj S, 237 + t) Q := by
  refine Ew.ld f127_21 rfl rfl rfl rfl ?_
  refine Ew.getp (v := some (0, 0, 14)) f127_22 rfl rfl rfl ?_
  refine Ew.ld f127_25 rfl rfl rfl rfl ?_
  refine Ew.getp (v := some (2, 0, 0)) f127_26 rfl rfl rfl ?_
  refine Ew.ld f127_29 rfl rfl rfl rfl ?_
  refine Ew.call0 (ls0 := [some (zr (some (2, 0, 0))), some (zi (nI a))]) f127_30 rfl (Nat.le_of_ble_eq_true rfl) rfl rfl (Nat.le_of_ble_eq_true rfl) rfl (Nat.le_of_ble_eq_true rfl) rfl rfl ?_
  refine Ew.ld f54_0 rfl rfl rfl rfl ?_
  refine Ew.getp (v := some (2, 0, 2)) f54_1 rfl rfl rfl ?_
  refine Ew.ld f54_4 rfl rfl rfl rfl ?_
  refine Ew.aaldn (v := some (3, n1, 0)) f54_5 (Nat.le_of_ble_eq_true rfl) b1 (Nat.le_of_ble_eq_true rfl) rfl (show zpj P 2 0 2 a = _ from pa) ?_
  refine Ew.aret f54_6 ?_
  show Ev (d + 1) c s 127 33 [some (zr (some (0, 0, 0))), some (zi (nI a)), some (zi (nI b)), some (zi z)] [zr (some (3, n1, 0)), zr (some (0, 0, 14))] (I, L, zpj P, zsj S, 237 + t) Q
  refine Ew.ld f127_33 rfl rfl rfl rfl ?_
  refine Ew.getp (v := some (2, 0, 0)) f127_34 rfl rfl rfl ?_
  refine Ew.ld f127_37 rfl rfl rfl rfl ?_
  refine Ew.call0 (ls0 := [some (zr (some (2, 0, 0))), some (zi (nI b))]) f127_38 rfl (Nat.le_of_ble_eq_true rfl) rfl rfl (Nat.le_of_ble_eq_true rfl) rfl (Nat.le_of_ble_eq_true rfl) rfl rfl ?_
  refine Ew.ld f54_0 rfl rfl rfl rfl ?_
  refine Ew.getp (v := some (2, 0, 2)) f54_1 rfl rfl rfl ?_
  refine Ew.ld f54_4 rfl rfl rfl rfl ?_
  refine Ew.aaldn (v := some (3, n2, 0)) f54_5 (Nat.le_of_ble_eq_true rfl) b2 (Nat.le_of_ble_eq_true rfl) rfl (show zpj P 2 0 2 b = _ from pb) ?_
  refine Ew.aret f54_6 ?_
  show Ev (d + 1) c s 127 41 [some (zr (some (0, 0, 0))), some (zi (nI a)), some (zi (nI b)), some (zi z)] [zr (some (3, n2, 0)), zr (some (3, n1, 0)), zr (some (0, 0, 14))] (I, L, zpj P, zsj S, 237 + t) Q
  refine Ew.call0 (ls0 := [some (zr (some (0, 0, 14))), some (zr (some (3, n1, 0))), some (zr (some (3, n2, 0))), none, none]) f127_41 rfl (Nat.le_of_ble_eq_true rfl) rfl rfl (Nat.le_of_ble_eq_true rfl) rfl (Nat.le_of_ble_eq_true rfl) rfl rfl ?_
  exact h1
theorem g127_44 {d c s : Nat} {t a b : Nat} {z : Int32} {I : zI} {L : zL} {P : zP} {S : zS} {Q : Option zV → zM → Prop}
    (h1 : (¬ z = 0) → Q (some (zl (L 0 0 14 3))) (I, L, zpj P, zsj S, 237 + t))
    (h2 : (z = 0) → Q (some (zl (L 0 0 14 2))) (I, L, zpj P, zsj S, 237 + t)) : Ev (d + 1) c s 127 44 [some (zr (some (0, 0, 0))), some (zi (nI a)), some (zi (nI b)), some (zi z)] [] (I, L, zpj P, zsj S, 237 + t) Q := by
  refine Ew.ld f127_44 rfl rfl rfl rfl ?_
  refine Ew.ifc f127_45 rfl rfl (fun c1 => ?_) (fun c1 => ?_)
  · refine Ew.ld f127_58 rfl rfl rfl rfl ?_
    refine Ew.getp (v := some (0, 0, 14)) f127_59 rfl rfl rfl ?_
    refine Ew.call0 (ls0 := [some (zr (some (0, 0, 14)))]) f127_62 rfl (Nat.le_of_ble_eq_true rfl) rfl rfl (Nat.le_of_ble_eq_true rfl) rfl (Nat.le_of_ble_eq_true rfl) rfl rfl ?_
    refine Ew.ld f15_0 rfl rfl rfl rfl ?_
    refine Ew.getl f15_1 rfl rfl ?_
    refine Ew.lret f15_4 ?_
    show Ev (d + 1) c s 127 65 [some (zr (some (0, 0, 0))), some (zi (nI a)), some (zi (nI b)), some (zi z)] [zl (L 0 0 14 3)] (I, L, zpj P, zsj S, 237 + t) Q
    refine Ew.lret f127_65 ?_
    exact h1 c1
  · refine Ew.ld f127_48 rfl rfl rfl rfl ?_
    refine Ew.getp (v := some (0, 0, 14)) f127_49 rfl rfl rfl ?_
    refine Ew.call0 (ls0 := [some (zr (some (0, 0, 14)))]) f127_52 rfl (Nat.le_of_ble_eq_true rfl) rfl rfl (Nat.le_of_ble_eq_true rfl) rfl (Nat.le_of_ble_eq_true rfl) rfl rfl ?_
    refine Ew.ld f14_0 rfl rfl rfl rfl ?_
    refine Ew.getl f14_1 rfl rfl ?_
    refine Ew.lret f14_4 ?_
    show Ev (d + 1) c s 127 55 [some (zr (some (0, 0, 0))), some (zi (nI a)), some (zi (nI b)), some (zi z)] [zl (L 0 0 14 2)] (I, L, zpj P, zsj S, 237 + t) Q
    refine Ew.goto f127_55 rfl ?_
    refine Ew.lret f127_65 ?_
    exact h2 (Classical.not_not.mp c1)
theorem g128_0i {d c s : Nat} {t : Nat} {x y z : Int32} {I : zI} {L : zL} {P : zP} {S : zS} {Q : Option zV → zM → Prop}
    (h1 : (aTwo x y = none) → Q (some (zl ((-1)))) (I, L, zpj P, zsj S, 237 + t))
    (h2 : (¬ (aTwo x y = none)) → (z < 0) → Q (some (zl ((-1)))) (I, L, zpj P, zsj S, 237 + t))
    (h3 : (¬ (aTwo x y = none)) → (0 ≤ z) → (z ≤ (nI 1)) → Ev (d + 2) c s 128 21 [some (zr (some (0, 0, 0))), some (zi x), some (zi y), some (zi z)] [] (I, L, zpj P, zsj S, 237 + t) Q)
    (h4 : (¬ (aTwo x y = none)) → (0 ≤ z) → ((nI 1) < z) → Q (some (zl ((-1)))) (I, L, zpj P, zsj S, 237 + t)) : Ev (d + 2) c s 128 0 [some (zr (some (0, 0, 0))), some (zi x), some (zi y), some (zi z)] [] (I, L, zpj P, zsj S, 237 + t) Q := by
  refine Ew.ld f128_0 rfl rfl rfl rfl ?_
  refine Ew.ld f128_1 rfl rfl rfl rfl ?_
  refine Ew.call0 (ls0 := [some (zi x), some (zi y)]) f128_2 rfl (Nat.le_of_ble_eq_true rfl) rfl rfl (Nat.le_of_ble_eq_true rfl) trivial (Nat.le_of_ble_eq_true rfl) rfl rfl ?_
  refine sp_noPair (fun c1 => ?_) (fun c1 => ?_)
  · refine Ew.ifc f128_5 rfl rfl (fun _ => ?_) (fun h => absurd (show ¬ ((nI 1) : Int32) = 0 by decide) h)
    refine Ew.op (st' := zl ((-1)) :: _) f128_17 rfl rfl ?_
    refine Ew.lret f128_20 ?_
    exact h1 c1
  · refine Ew.ifc f128_5 rfl rfl (fun h => absurd h (show ¬ (¬ ((nI 0) : Int32) = 0) by decide)) (fun _ => ?_)
    refine Ew.ld f128_8 rfl rfl rfl rfl ?_
    refine Ew.ifc f128_9 rfl rfl (fun c2 => ?_) (fun c2 => ?_)
    · refine Ew.op (st' := zl ((-1)) :: _) f128_17 rfl rfl ?_
      refine Ew.lret f128_20 ?_
      exact h2 c1 c2
    · refine Ew.ld f128_12 rfl rfl rfl rfl ?_
      refine Ew.op (st' := zi (nI 1) :: _) f128_13 rfl rfl ?_
      refine Ew.icmp f128_14 rfl rfl (fun c3 => ?_) (fun c3 => ?_)
      · exact h3 c1 (Int32.not_lt.mp c2) c3
      · refine Ew.op (st' := zl ((-1)) :: _) f128_17 rfl rfl ?_
        refine Ew.lret f128_20 ?_
        exact h4 c1 (Int32.not_lt.mp c2) (Int32.not_le.mp c3)
theorem g128_21 {d c s : Nat} {t a b n1 n2 : Nat} {z : Int32} {I : zI} {L : zL} {P : zP} {S : zS} {Q : Option zV → zM → Prop} (pa : P 2 0 2 a = some (3, n1, 0)) (pb : P 2 0 2 b = some (3, n2, 0)) (s1 : S 3 n1 0 = (9, 0)) (s2 : S 3 n2 0 = (9, 0)) 
    (b1 : a < 4)
    (b2 : b < 4)
    (h1 : Ev d 0 0 19 0 [some (zr (some (0, 0, 14))), some (zr (some (3, n1, 0))), some (zr (some (3, n2, 0))), none, none] [] (I, L, zpj P, zsj S, 237 + t) (fun r M' => Ev (d + 1) c s 128 44 [some (zr (some (0, 0, 0))), some (zi (nI a)), some (zi (nI b)), some (zi z)] (zpush r []) M' Q)) : Ev (d + 1) c s 128 21 [some (zr (some (0, 0, 0))), some (zi (nI a)), some (zi (nI b)), some (zi z)] [] (I, L, zpj P, zsj S, 237 + t) Q := by
  refine Ew.ld f128_21 rfl rfl rfl rfl ?_
  refine Ew.getp (v := some (0, 0, 14)) f128_22 rfl rfl rfl ?_
  refine Ew.ld f128_25 rfl rfl rfl rfl ?_
  refine Ew.getp (v := some (2, 0, 0)) f128_26 rfl rfl rfl ?_
  refine Ew.ld f128_29 rfl rfl rfl rfl ?_
  refine Ew.call0 (ls0 := [some (zr (some (2, 0, 0))), some (zi (nI a))]) f128_30 rfl (Nat.le_of_ble_eq_true rfl) rfl rfl (Nat.le_of_ble_eq_true rfl) rfl (Nat.le_of_ble_eq_true rfl) rfl rfl ?_
  refine Ew.ld f54_0 rfl rfl rfl rfl ?_
  refine Ew.getp (v := some (2, 0, 2)) f54_1 rfl rfl rfl ?_
  refine Ew.ld f54_4 rfl rfl rfl rfl ?_
  refine Ew.aaldn (v := some (3, n1, 0)) f54_5 (Nat.le_of_ble_eq_true rfl) b1 (Nat.le_of_ble_eq_true rfl) rfl (show zpj P 2 0 2 a = _ from pa) ?_
  refine Ew.aret f54_6 ?_
  show Ev (d + 1) c s 128 33 [some (zr (some (0, 0, 0))), some (zi (nI a)), some (zi (nI b)), some (zi z)] [zr (some (3, n1, 0)), zr (some (0, 0, 14))] (I, L, zpj P, zsj S, 237 + t) Q
  refine Ew.ld f128_33 rfl rfl rfl rfl ?_
  refine Ew.getp (v := some (2, 0, 0)) f128_34 rfl rfl rfl ?_
  refine Ew.ld f128_37 rfl rfl rfl rfl ?_
  refine Ew.call0 (ls0 := [some (zr (some (2, 0, 0))), some (zi (nI b))]) f128_38 rfl (Nat.le_of_ble_eq_true rfl) rfl rfl (Nat.le_of_ble_eq_true rfl) rfl (Nat.le_of_ble_eq_true rfl) rfl rfl ?_
  refine Ew.ld f54_0 rfl rfl rfl rfl ?_
  refine Ew.getp (v := some (2, 0, 2)) f54_1 rfl rfl rfl ?_
  refine Ew.ld f54_4 rfl rfl rfl rfl ?_
  refine Ew.aaldn (v := some (3, n2, 0)) f54_5 (Nat.le_of_ble_eq_true rfl) b2 (Nat.le_of_ble_eq_true rfl) rfl (show zpj P 2 0 2 b = _ from pb) ?_
  refine Ew.aret f54_6 ?_
  show Ev (d + 1) c s 128 41 [some (zr (some (0, 0, 0))), some (zi (nI a)), some (zi (nI b)), some (zi z)] [zr (some (3, n2, 0)), zr (some (3, n1, 0)), zr (some (0, 0, 14))] (I, L, zpj P, zsj S, 237 + t) Q
  refine Ew.call0 (ls0 := [some (zr (some (0, 0, 14))), some (zr (some (3, n1, 0))), some (zr (some (3, n2, 0))), none, none]) f128_41 rfl (Nat.le_of_ble_eq_true rfl) rfl rfl (Nat.le_of_ble_eq_true rfl) rfl (Nat.le_of_ble_eq_true rfl) rfl rfl ?_
  exact h1
theorem g128_44 {d c s : Nat} {t a b : Nat} {z : Int32} {I : zI} {L : zL} {P : zP} {S : zS} {Q : Option zV → zM → Prop}
    (h1 : (¬ z = 0) → Ev d 0 0 18 0 [some (zr (some (0, 0, 14)))] [] (I, L, zpj P, zsj S, 237 + t) (fun r M' => Ev (d + 1) c s 128 65 [some (zr (some (0, 0, 0))), some (zi (nI a)), some (zi (nI b)), some (zi z)] (zpush r []) M' Q))
    (h2 : (z = 0) → Ev d 0 0 17 0 [some (zr (some (0, 0, 14)))] [] (I, L, zpj P, zsj S, 237 + t) (fun r M' => Ev (d + 1) c s 128 55 [some (zr (some (0, 0, 0))), some (zi (nI a)), some (zi (nI b)), some (zi z)] (zpush r []) M' Q)) : Ev (d + 1) c s 128 44 [some (zr (some (0, 0, 0))), some (zi (nI a)), some (zi (nI b)), some (zi z)] [] (I, L, zpj P, zsj S, 237 + t) Q := by
  refine Ew.ld f128_44 rfl rfl rfl rfl ?_
  refine Ew.ifc f128_45 rfl rfl (fun c1 => ?_) (fun c1 => ?_)
  · refine Ew.ld f128_58 rfl rfl rfl rfl ?_
    refine Ew.getp (v := some (0, 0, 14)) f128_59 rfl rfl rfl ?_
    refine Ew.call0 (ls0 := [some (zr (some (0, 0, 14)))]) f128_62 rfl (Nat.le_of_ble_eq_true rfl) rfl rfl (Nat.le_of_ble_eq_true rfl) rfl (Nat.le_of_ble_eq_true rfl) rfl rfl ?_
    exact h1 c1
  · refine Ew.ld f128_48 rfl rfl rfl rfl ?_
    refine Ew.getp (v := some (0, 0, 14)) f128_49 rfl rfl rfl ?_
    refine Ew.call0 (ls0 := [some (zr (some (0, 0, 14)))]) f128_52 rfl (Nat.le_of_ble_eq_true rfl) rfl rfl (Nat.le_of_ble_eq_true rfl) rfl (Nat.le_of_ble_eq_true rfl) rfl rfl ?_
    exact h2 (Classical.not_not.mp c1)
theorem g128_55 {d c s : Nat} {t a b : Nat} {z : Int32} {u : Int64} {I : zI} {L : zL} {P : zP} {S : zS} {Q : Option zV → zM → Prop}
    (h1 : Q (some (zl u)) (I, L, zpj P, zsj S, 237 + t)) : Ev d c s 128 55 [some (zr (some (0, 0, 0))), some (zi (nI a)), some (zi (nI b)), some (zi z)] [zl u] (I, L, zpj P, zsj S, 237 + t) Q := by
  refine Ew.goto f128_55 rfl ?_
  refine Ew.lret f128_65 ?_
  exact h1
theorem g128_65 {d c s : Nat} {t a b : Nat} {z : Int32} {u : Int64} {I : zI} {L : zL} {P : zP} {S : zS} {Q : Option zV → zM → Prop}
    (h1 : Q (some (zl u)) (I, L, zpj P, zsj S, 237 + t)) : Ev d c s 128 65 [some (zr (some (0, 0, 0))), some (zi (nI a)), some (zi (nI b)), some (zi z)] [zl u] (I, L, zpj P, zsj S, 237 + t) Q := by
  refine Ew.lret f128_65 ?_
  exact h1
theorem g129_0i {d c s : Nat} {t : Nat} {x y : Int32} {I : zI} {L : zL} {P : zP} {S : zS} {Q : Option zV → zM → Prop}
    (h1 : (aTwo x y = none) → Q (some (zi ((-1)))) (I, L, zpj P, zsj S, 237 + t))
    (h2 : (¬ (aTwo x y = none)) → Ev (d + 2) c s 129 10 [some (zr (some (0, 0, 0))), some (zi x), some (zi y)] [] (I, L, zpj P, zsj S, 237 + t) Q) : Ev (d + 2) c s 129 0 [some (zr (some (0, 0, 0))), some (zi x), some (zi y)] [] (I, L, zpj P, zsj S, 237 + t) Q := by
  refine Ew.ld f129_0 rfl rfl rfl rfl ?_
  refine Ew.ld f129_1 rfl rfl rfl rfl ?_
  refine Ew.call0 (ls0 := [some (zi x), some (zi y)]) f129_2 rfl (Nat.le_of_ble_eq_true rfl) rfl rfl (Nat.le_of_ble_eq_true rfl) trivial (Nat.le_of_ble_eq_true rfl) rfl rfl ?_
  refine sp_noPair (fun c1 => ?_) (fun c1 => ?_)
  · refine Ew.ifc f129_5 rfl rfl (fun h => absurd h (show ¬ (((nI 1) : Int32) = 0) by decide)) (fun _ => ?_)
    refine Ew.op (st' := zi ((-1)) :: _) f129_8 rfl rfl ?_
    refine Ew.ireti f129_9 ?_
    exact h1 c1
  · refine Ew.ifc f129_5 rfl rfl (fun _ => ?_) (fun h => absurd (show ((nI 0) : Int32) = 0 by decide) h)
    exact h2 c1
theorem g129_10 {d c s : Nat} {t a b n1 n2 : Nat} {I : zI} {L : zL} {P : zP} {S : zS} {Q : Option zV → zM → Prop} (pa : P 2 0 2 a = some (3, n1, 0)) (pb : P 2 0 2 b = some (3, n2, 0)) (s1 : S 3 n1 0 = (9, 0)) (s2 : S 3 n2 0 = (9, 0)) 
    (b1 : a < 4)
    (b2 : b < 4)
    (h1 : Ev d 0 0 19 0 [some (zr (some (0, 0, 14))), some (zr (some (3, n1, 0))), some (zr (some (3, n2, 0))), none, none] [] (I, L, zpj P, zsj S, 237 + t) (fun r M' => Ev (d + 1) c s 129 33 [some (zr (some (0, 0, 0))), some (zi (nI a)), some (zi (nI b))] (zpush r []) M' Q)) : Ev (d + 1) c s 129 10 [some (zr (some (0, 0, 0))), some (zi (nI a)), some (zi (nI b))] [] (I, L, zpj P, zsj S, 237 + t) Q := by
  refine Ew.ld f129_10 rfl rfl rfl rfl ?_
  refine Ew.getp (v := some (0, 0, 14)) f129_11 rfl rfl rfl ?_
  refine Ew.ld f129_14 rfl rfl rfl rfl ?_
  refine Ew.getp (v := some (2, 0, 0)) f129_15 rfl rfl rfl ?_
  refine Ew.ld f129_18 rfl rfl rfl rfl ?_
  refine Ew.call0 (ls0 := [some (zr (some (2, 0, 0))), some (zi (nI a))]) f129_19 rfl (Nat.le_of_ble_eq_true rfl) rfl rfl (Nat.le_of_ble_eq_true rfl) rfl (Nat.le_of_ble_eq_true rfl) rfl rfl ?_
  refine Ew.ld f54_0 rfl rfl rfl rfl ?_
  refine Ew.getp (v := some (2, 0, 2)) f54_1 rfl rfl rfl ?_
  refine Ew.ld f54_4 rfl rfl rfl rfl ?_
  refine Ew.aaldn (v := some (3, n1, 0)) f54_5 (Nat.le_of_ble_eq_true rfl) b1 (Nat.le_of_ble_eq_true rfl) rfl (show zpj P 2 0 2 a = _ from pa) ?_
  refine Ew.aret f54_6 ?_
  show Ev (d + 1) c s 129 22 [some (zr (some (0, 0, 0))), some (zi (nI a)), some (zi (nI b))] [zr (some (3, n1, 0)), zr (some (0, 0, 14))] (I, L, zpj P, zsj S, 237 + t) Q
  refine Ew.ld f129_22 rfl rfl rfl rfl ?_
  refine Ew.getp (v := some (2, 0, 0)) f129_23 rfl rfl rfl ?_
  refine Ew.ld f129_26 rfl rfl rfl rfl ?_
  refine Ew.call0 (ls0 := [some (zr (some (2, 0, 0))), some (zi (nI b))]) f129_27 rfl (Nat.le_of_ble_eq_true rfl) rfl rfl (Nat.le_of_ble_eq_true rfl) rfl (Nat.le_of_ble_eq_true rfl) rfl rfl ?_
  refine Ew.ld f54_0 rfl rfl rfl rfl ?_
  refine Ew.getp (v := some (2, 0, 2)) f54_1 rfl rfl rfl ?_
  refine Ew.ld f54_4 rfl rfl rfl rfl ?_
  refine Ew.aaldn (v := some (3, n2, 0)) f54_5 (Nat.le_of_ble_eq_true rfl) b2 (Nat.le_of_ble_eq_true rfl) rfl (show zpj P 2 0 2 b = _ from pb) ?_
  refine Ew.aret f54_6 ?_
  show Ev (d + 1) c s 129 30 [some (zr (some (0, 0, 0))), some (zi (nI a)), some (zi (nI b))] [zr (some (3, n2, 0)), zr (some (3, n1, 0)), zr (some (0, 0, 14))] (I, L, zpj P, zsj S, 237 + t) Q
  refine Ew.call0 (ls0 := [some (zr (some (0, 0, 14))), some (zr (some (3, n1, 0))), some (zr (some (3, n2, 0))), none, none]) f129_30 rfl (Nat.le_of_ble_eq_true rfl) rfl rfl (Nat.le_of_ble_eq_true rfl) rfl (Nat.le_of_ble_eq_true rfl) rfl rfl ?_
  exact h1
theorem g129_33 {d c s : Nat} {t a b : Nat} {I : zI} {L : zL} {P : zP} {S : zS} {Q : Option zV → zM → Prop}
    (h1 : Q (some (zi (I 0 0 14 5))) (I, L, zpj P, zsj S, 237 + t)) : Ev (d + 1) c s 129 33 [some (zr (some (0, 0, 0))), some (zi (nI a)), some (zi (nI b))] [] (I, L, zpj P, zsj S, 237 + t) Q := by
  refine Ew.ld f129_33 rfl rfl rfl rfl ?_
  refine Ew.getp (v := some (0, 0, 14)) f129_34 rfl rfl rfl ?_
  refine Ew.call0 (ls0 := [some (zr (some (0, 0, 14)))]) f129_37 rfl (Nat.le_of_ble_eq_true rfl) rfl rfl (Nat.le_of_ble_eq_true rfl) rfl (Nat.le_of_ble_eq_true rfl) rfl rfl ?_
  refine Ew.ld f16_0 rfl rfl rfl rfl ?_
  refine Ew.geti f16_1 rfl rfl ?_
  refine Ew.ireti f16_4 ?_
  show Ev (d + 1) c s 129 40 [some (zr (some (0, 0, 0))), some (zi (nI a)), some (zi (nI b))] [zi (I 0 0 14 5)] (I, L, zpj P, zsj S, 237 + t) Q
  refine Ew.ireti f129_40 ?_
  exact h1
theorem g112_0i {d c s : Nat} {t : Nat} {x : Int32} {I : zI} {L : zL} {P : zP} {S : zS} {Q : Option zV → zM → Prop}
    (h1 : (x < (nI 32)) → Q (some (zi ((-1)))) (I, L, zpj P, zsj S, 237 + t))
    (h2 : ((nI 32) ≤ x) → (x ≤ (nI 126)) → Ev d c s 112 14 [some (zr (some (0, 0, 0))), some (zi x)] [] (I, L, zpj P, zsj S, 237 + t) Q)
    (h3 : ((nI 32) ≤ x) → ((nI 126) < x) → Q (some (zi ((-1)))) (I, L, zpj P, zsj S, 237 + t)) : Ev d c s 112 0 [some (zr (some (0, 0, 0))), some (zi x)] [] (I, L, zpj P, zsj S, 237 + t) Q := by
  refine Ew.ld f112_0 rfl rfl rfl rfl ?_
  refine Ew.op (st' := zi (nI 32) :: _) f112_1 rfl rfl ?_
  refine Ew.icmp f112_3 rfl rfl (fun c1 => ?_) (fun c1 => ?_)
  · refine Ew.op (st' := zi ((-1)) :: _) f112_12 rfl rfl ?_
    refine Ew.ireti f112_13 ?_
    exact h1 c1
  · refine Ew.ld f112_6 rfl rfl rfl rfl ?_
    refine Ew.op (st' := zi (nI 126) :: _) f112_7 rfl rfl ?_
    refine Ew.icmp f112_9 rfl rfl (fun c2 => ?_) (fun c2 => ?_)
    · exact h2 (Int32.not_lt.mp c1) c2
    · refine Ew.op (st' := zi ((-1)) :: _) f112_12 rfl rfl ?_
      refine Ew.ireti f112_13 ?_
      exact h3 (Int32.not_lt.mp c1) (Int32.not_le.mp c2)
theorem g112_14 {d c s : Nat} {t u : Nat} {I : zI} {L : zL} {P : zP} {S : zS} {Q : Option zV → zM → Prop}
    (h1 : Ev d 0 0 90 0 [some (zr (some (0, 0, 1))), some (zi (((nI u).toUInt32 % 65536).toInt32))] [] (I, L, zpj P, zsj S, 237 + t) (fun r M' => Ev (d + 1) c s 112 23 [some (zr (some (0, 0, 0))), some (zi (nI u))] (zpush r []) M' Q)) : Ev (d + 1) c s 112 14 [some (zr (some (0, 0, 0))), some (zi (nI u))] [] (I, L, zpj P, zsj S, 237 + t) Q := by
  refine Ew.ld f112_14 rfl rfl rfl rfl ?_
  refine Ew.getp (v := some (0, 0, 1)) f112_15 rfl rfl rfl ?_
  refine Ew.ld f112_18 rfl rfl rfl rfl ?_
  refine Ew.op (st' := zi (((nI u).toUInt32 % 65536).toInt32) :: _) f112_19 rfl rfl ?_
  refine Ew.call0 (ls0 := [some (zr (some (0, 0, 1))), some (zi (((nI u).toUInt32 % 65536).toInt32))]) f112_20 rfl (Nat.le_of_ble_eq_true rfl) rfl rfl (Nat.le_of_ble_eq_true rfl) rfl (Nat.le_of_ble_eq_true rfl) rfl rfl ?_
  exact h1
theorem g112_23y {d c s : Nat} {t u : Nat} {I : zI} {L : zL} {P : zP} {S : zS} {Q : Option zV → zM → Prop}
    (h1 : Q (some (zi (I 0 0 1 1))) (I, L, zpj P, zsj S, 237 + t)) : Ev (d + 1) c s 112 23 [some (zr (some (0, 0, 0))), some (zi (nI u))] [zi (nI 1)] (I, L, zpj P, zsj S, 237 + t) Q := by
  refine Ew.ifc f112_23 rfl rfl (fun h => absurd h (show ¬ (((nI 1) : Int32) = 0) by decide)) (fun _ => ?_)
  refine Ew.ld f112_26 rfl rfl rfl rfl ?_
  refine Ew.getp (v := some (0, 0, 1)) f112_27 rfl rfl rfl ?_
  refine Ew.call0 (ls0 := [some (zr (some (0, 0, 1)))]) f112_30 rfl (Nat.le_of_ble_eq_true rfl) rfl rfl (Nat.le_of_ble_eq_true rfl) rfl (Nat.le_of_ble_eq_true rfl) rfl rfl ?_
  refine Ew.ld f89_0 rfl rfl rfl rfl ?_
  refine Ew.geti f89_1 rfl rfl ?_
  refine Ew.ireti f89_4 ?_
  show Ev (d + 1) c s 112 33 [some (zr (some (0, 0, 0))), some (zi (nI u))] [zi (I 0 0 1 1)] (I, L, zpj P, zsj S, 237 + t) Q
  refine Ew.goto f112_33 rfl ?_
  refine Ew.ireti f112_38 ?_
  exact h1
theorem g112_23n {d c s : Nat} {t u : Nat} {I : zI} {L : zL} {P : zP} {S : zS} {Q : Option zV → zM → Prop}
    (h1 : Q (some (zi ((-3)))) (I, L, zpj P, zsj S, 237 + t)) : Ev d c s 112 23 [some (zr (some (0, 0, 0))), some (zi (nI u))] [zi (nI 0)] (I, L, zpj P, zsj S, 237 + t) Q := by
  refine Ew.ifc f112_23 rfl rfl (fun _ => ?_) (fun h => absurd (show ((nI 0) : Int32) = 0 by decide) h)
  refine Ew.op (st' := zi ((-3)) :: _) f112_36 rfl rfl ?_
  refine Ew.ireti f112_38 ?_
  exact h1
theorem aTwo_ex {x y : Int32} (h : ¬ aTwo x y = none) : ∃ a b, a < 4 ∧ b < 4 ∧ x = nI a ∧ y = nI b ∧ aTwo x y = some (a, b) := by
  unfold aTwo at h ⊢
  by_cases e1 : aIx x 4 = none
  · rw [e1] at h; exact absurd rfl h
  · by_cases e2 : aIx y 4 = none
    · rw [e2] at h
      obtain ⟨a, _, _, ea⟩ := aIx_ex e1
      rw [ea] at h
      exact absurd rfl h
    · obtain ⟨a, ha, xa, ea⟩ := aIx_ex e1
      obtain ⟨b, hb, yb, eb⟩ := aIx_ex e2
      rw [ea, eb] at h ⊢
      by_cases e : a = b
      · simp only [if_pos e] at h; exact absurd trivial h
      · exact ⟨a, b, ha, hb, xa, yb, by simp only [if_neg e]⟩
section
variable {d c s t B : Nat} {x y z : Int32} {σ : zSt} {I : zI} {L : zL} {P P' : zP} {S : zS} {Q : Option zV → zM → Prop}
/-- things of the class itself change, but not the tape's letters nor whether there is an image -/
theorem zCls.o0 {ρ' : Nat → Nat → Int32} {l' : Nat → Nat → Int64} (h : zCls I L P S t σ) (h0 : ρ' 0 8 = I 0 0 0 8 ∧ ρ' 1 1 = I 0 0 1 1 ∧ ∀ i, ρ' 2 i = I 0 0 2 i) (hP : ∀ r j q i, ¬ r = 0 → P' r j q i = P r j q i) : zCls (so I 0 0 ρ') (so L 0 0 l') P' S t σ := by
  have ho : cOld (t + 9) I P S (so I 0 0 ρ') P' S := fun n _ => ⟨by rw [so_n _ _ (by omega)], funext fun i => hP 3 n 0 i (by omega), rfl⟩
  refine ⟨h.1.fr (Nat.le_refl _) (fun q i => so3 (by omega)) (fun q i => hP _ _ _ _ (by omega)) ho, h.2.fr (Nat.le_refl _) (fun j q i _ => ⟨so3 (by omega), hP _ _ _ _ (by omega)⟩) (fun j q i => ⟨so3 (by omega), hP _ _ _ _ (by omega)⟩) (fun j q i => ⟨so3 (by omega), so3 (by omega)⟩) ?_ ho⟩
  rw [so_s]
  exact h0
theorem zFm_o0 {ρ' : Nat → Nat → Int32} {l' : Nat → Nat → Int64} : zFm I L S (so I 0 0 ρ') (so L 0 0 l') S := fun r' hr => ⟨by unfold so; rw [zup_n _ _ (by omega)], by unfold so; rw [zup_n _ _ (by omega)], rfl⟩
theorem zCls.o0' {ρ' : Nat → Nat → Int32} (h : zCls I L P S t σ) (h0 : ρ' 0 8 = I 0 0 0 8 ∧ ρ' 1 1 = I 0 0 1 1 ∧ ∀ i, ρ' 2 i = I 0 0 2 i) : zCls (so I 0 0 ρ') L P S t σ := by
  have := h.o0 (P' := P) (l' := L 0 0) h0 (fun _ _ _ _ _ => rfl)
  rw [so_id] at this
  exact this
theorem cp_ahead (hG : zGood B σ) (hC : zCls I L P S t σ) (k : cK I L S B σ (zi (aAhead σ x y)) Q) : Ev (d + 5) c s 125 0 [some (zr (some (0, 0, 0))), some (zi x), some (zi y)] [] (I, L, zpj P, zsj S, 237 + t) Q := by
  unfold aAhead at k
  obtain ⟨hx, ti, huq, hO, hst, _⟩ := zG_f hG
  by_cases e1 : aIx x 6 = none
  · rw [e1] at k
    exact g125_0 (d := d + 4) (fun _ => k I L P S t hC (hG.mono (by omega)) zFm.refl) (fun q => absurd e1 q) (fun q => absurd e1 q) (fun q => absurd e1 q)
  · obtain ⟨a, ha, xa, ea⟩ := aIx_ex e1
    by_cases e2 : aIx y 6 = none
    · rw [e2, ea] at k
      exact g125_0 (d := d + 4) (fun q => absurd q e1) (fun _ _ => k I L P S t hC (hG.mono (by omega)) zFm.refl) (fun _ q => absurd e2 q) (fun _ q => absurd e2 q)
    · obtain ⟨b, hb, yb, eb⟩ := aIx_ex e2
      subst xa
      subst yb
      rw [ea, eb] at k
      have exy : nI a = nI b ↔ a = b := zeq (by omega) (by omega)
      refine g125_0 (d := d + 4) (fun q => absurd q e1) (fun _ q => absurd q e2) (fun _ _ q => ?_) (fun _ _ q => ?_)
      · simp only [if_neg (fun g => q (exy.mpr g))] at k
        refine ev_om 0 0 (sp_cRd (d := d) (hC.1.ps hx) hO (fun ρ1 n1 o1 => om_t (Q := fun r M' => Ev (d + 5) c s 125 32 [some (zr (some (0, 0, 0))), some (zi (nI a)), some (zi (nI b))] (zpush r []) M' Q) ?_))
        have hC1 := hC.o0' (ρ' := ρ1) ⟨n1 _ _ (by decide), n1 _ _ (by decide), fun i => n1 _ _ (by decide)⟩
        have fm : zFm I L S (so I 0 0 ρ1) L S := zFm_so (by decide) (by decide)
        have o2 : cOr ((so I 0 0 ρ1) 0 0) (fun a => rBeN (tτ σ.w) a 6) := by rw [so_s]; exact o1
        refine g125_32 (d := d + 4) (ev_om 0 0 (sp_cIsA (d := d + 3) ha hb o2 (fun g => ?_) (fun g => ?_)))
        · refine om_q (Q := fun r M' => Ev (d + 5) c s 125 41 [some (zr (some (0, 0, 0))), some (zi (nI a)), some (zi (nI b))] (zpush r []) M' Q) (g125_41b ?_)
          simp only [if_pos g] at k
          exact k _ _ _ _ _ hC1 (hG.mono (by omega)) fm
        · refine om_q (Q := fun r M' => Ev (d + 5) c s 125 41 [some (zr (some (0, 0, 0))), some (zi (nI a)), some (zi (nI b))] (zpush r []) M' Q) (g125_41a ?_)
          simp only [if_neg g] at k
          exact k _ _ _ _ _ hC1 (hG.mono (by omega)) fm
      · simp only [if_pos (exy.mp q)] at k
        exact k I L P S t hC (hG.mono (by omega)) zFm.refl
theorem cp_loops (hG : zGood B σ) (hC : zCls I L P S t σ) (k : cK I L S B σ (zi (aLoops σ x)) Q) : Ev (d + 5) c s 126 0 [some (zr (some (0, 0, 0))), some (zi x)] [] (I, L, zpj P, zsj S, 237 + t) Q := by
  unfold aLoops at k
  obtain ⟨hx, ti, huq, hO, hst, _⟩ := zG_f hG
  by_cases e1 : aIx x 3 = none
  · rw [e1] at k
    have kk := k I L P S t hC (hG.mono (by omega)) zFm.refl
    have no : ¬ (0 ≤ x ∧ x < nI 3) := fun ⟨a, b⟩ => absurd e1 (aIx_in (by decide) a b)
    exact g126_0 (d := d + 4) (fun _ => kk) (fun a b => absurd ⟨a, Int32.lt_of_le_of_lt b (by decide)⟩ no) (fun _ _ => kk)
  · obtain ⟨u, hu, xa, ea⟩ := aIx_ex e1
    subst xa
    rw [ea] at k
    refine g126_0 (d := d + 4) (fun g => absurd g (nI_pos (by omega))) (fun _ _ => ?_) (fun _ g => absurd ((zlt_iff (by decide) (by omega)).mp g) (by omega))
    refine ev_om 0 0 (sp_cRd (d := d) (hC.1.ps hx) hO (fun ρ1 n1 o1 => om_t (Q := fun r M' => Ev (d + 5) c s 126 22 [some (zr (some (0, 0, 0))), some (zi (nI u))] (zpush r []) M' Q) ?_))
    have hC1 := hC.o0' (ρ' := ρ1) ⟨n1 _ _ (by decide), n1 _ _ (by decide), fun i => n1 _ _ (by decide)⟩
    have fm : zFm I L S (so I 0 0 ρ1) L S := zFm_so (by decide) (by decide)
    have o2 : cOr ((so I 0 0 ρ1) 0 0) (aBe σ.w) := by rw [so_s]; exact o1
    refine g126_22 (d := d + 4) (ev_om 0 0 (sp_cTlL (d := d + 1) o2 (om_q (Q := fun r M' => Ev (d + 5) c s 126 30 [some (zr (some (0, 0, 0))), some (zi (nI u))] (zpush r []) M' Q) (g126_30 ?_))))
    have kk := k _ _ _ _ _ hC1 (hG.mono (by omega)) fm
    have e0 : nI u = 0 ↔ u = 0 := zeq (by omega) (by decide)
    have e1' : nI u = nI 1 ↔ u = 1 := zeq (by omega) (by decide)
    by_cases g0 : u = 0
    · simp only [if_pos g0] at kk
      rw [if_pos (e0.mpr g0)]
      exact kk
    · by_cases g1 : u = 1
      · simp only [if_neg g0, if_pos g1] at kk
        rw [if_neg (fun q => g0 (e0.mp q)), if_pos (e1'.mpr g1)]
        exact kk
      · simp only [if_neg g0, if_neg g1] at kk
        rw [if_neg (fun q => g0 (e0.mp q)), if_neg (fun q => g1 (e1'.mp q))]
        exact kk
/-- both tasks go all ways -/
theorem gm_Ways {a b : Nat} (hG : zGood B σ) (hC : zCls I L P S t σ) (ha : a < 4) (hb : b < 4) {n1 n2 : Nat} (pa : P 2 0 2 a = some (3, n1, 0)) (ca : cTr I P S (t + 9) n1 (tTr σ.w a)) (pb : P 2 0 2 b = some (3, n2, 0)) (cb : cTr I P S (t + 9) n2 (tTr σ.w b)) (k : ∀ I' L' P', zCls I' L' P' S t σ → zFm I L S I' L' S → cGs (I' 0 0) (L' 0 0) (aPair σ.w a b) → Q none (I', L', zpj P', zsj S, 237 + t)) : Ev (d + 5) c s 19 0 [some (zr (some (0, 0, 14))), some (zr (some (3, n1, 0))), some (zr (some (3, n2, 0))), none, none] [] (I, L, zpj P, zsj S, 237 + t) Q := by
  have hx := hG.1.2.1
  have oa := tTr_ok hx ha
  have ob := tTr_ok hx hb
  have za := rTrs_τ hx a ha
  have zb := rTrs_τ hx b hb
  have eMa := rM_of hx (rTrs_τ hx) ha
  have eMb := rM_of hx (rTrs_τ hx) hb
  refine ev_om 0 0 (sp_cWays (d := d) (C1 := gC (tτ σ.w) a b) (C2 := fun p q => gC (tτ σ.w) b a q p) ca cb (fun p q _ hq => gC_can za zb oa ob hq) (fun p q hp _ => gC_can zb za ob oa hp) (fun p q e => by rw [← eMa]; exact gC_le e) (fun p q e => by rw [← eMb]; exact gC_le e) (fun ρ1 l1 f1 g1 => ?_))
  have e : OM (XP (XP (I, L, P, S, 237 + t) 0 0 14 6 (some (3, n1, 0))) 0 0 14 7 (some (3, n2, 0))) 0 0 ρ1 l1 = (so I 0 0 ρ1, so L 0 0 l1, zpj (zup4 (zup4 P 0 0 14 6 (some (3, n1, 0))) 0 0 14 7 (some (3, n2, 0))), zsj S, 237 + t) := rfl
  rw [e]
  refine k _ _ _ (hC.o0 ⟨f1.1 _ _ (by omega), f1.1 _ _ (by omega), fun i => f1.1 _ _ (by omega)⟩ (fun r j q i h => by rw [zu4n _ _ (by omega), zu4n _ _ (by omega)])) zFm_o0 ?_
  rw [so_s, so_s]
  exact g1
theorem aPair_b {a b : Nat} (hG : zGood B σ) (ha : a < 4) (hb : b < 4) : (aPair σ.w a b).2.2.2.2.1 < 2 ^ 63 := by
  have hx := hG.1.2.1
  have oa := tTr_ok hx ha
  have ob := tTr_ok hx hb
  have eMa := rM_of hx (rTrs_τ hx) ha
  have eMb := rM_of hx (rTrs_τ hx) hb
  have h := gAll_inv (C1 := gC (tτ σ.w) a b) (C2 := fun p q => gC (tτ σ.w) b a q p) (n := (tTr σ.w a).n) (m := (tTr σ.w b).n) oa.1 ob.1 (fun p q e => by rw [← eMa]; exact gC_le e) (fun p q e => by rw [← eMb]; exact gC_le e) ((tTr σ.w a).n + 1) (Nat.le_refl _)
  have := h.2.1
  show (gAll _ _ _ _ _ gS0).2.2.2.2.1 < _
  omega
theorem cp_ways (hG : zGood B σ) (hC : zCls I L P S t σ) (k : cK I L S B σ (zl (aWays σ x y z)) Q) : Ev (d + 6) c s 127 0 [some (zr (some (0, 0, 0))), some (zi x), some (zi y), some (zi z)] [] (I, L, zpj P, zsj S, 237 + t) Q := by
  unfold aWays at k
  by_cases e1 : aTwo x y = none
  · rw [e1] at k
    exact g127_0i (d := d + 4) (fun _ => k I L P S t hC (hG.mono (by omega)) zFm.refl) (fun q => absurd e1 q) (fun q => absurd e1 q) (fun q => absurd e1 q)
  · obtain ⟨a, b, ha, hb, xa, yb, eab⟩ := aTwo_ex e1
    rw [eab] at k
    by_cases e2 : aIx z 2 = none
    · rw [e2] at k
      have kk := k I L P S t hC (hG.mono (by omega)) zFm.refl
      have no : ¬ (0 ≤ z ∧ z < nI 2) := fun ⟨a, b⟩ => absurd e2 (aIx_in (by decide) a b)
      exact g127_0i (d := d + 4) (fun q => absurd q e1) (fun _ _ => kk) (fun _ a b => absurd ⟨a, Int32.lt_of_le_of_lt b (by decide)⟩ no) (fun _ _ _ => kk)
    · obtain ⟨u, hu, xu, eu⟩ := aIx_ex e2
      rw [eu] at k
      subst xu
      subst xa
      subst yb
      obtain ⟨_, n1, pa, ca⟩ := hC.1.2 a ha
      obtain ⟨_, n2, pb, cb⟩ := hC.1.2 b hb
      refine g127_0i (d := d + 4) (fun q => absurd q e1) (fun _ g => absurd g (nI_pos (by omega))) (fun _ _ _ => ?_) (fun _ _ g => absurd ((zlt_iff (by decide) (by omega)).mp g) (by omega))
      refine g127_21 (d := d + 5) pa pb ca.sh cb.sh ha hb (gm_Ways (d := d) hG hC ha hb pa ca pb cb (fun I1 L1 P1 hC1 f1 g1 => ?_))
      have kk := k _ _ _ _ _ hC1 (hG.mono (by omega)) f1
      have e0 : nI u = 0 ↔ u = 0 := zeq (by omega) (by decide)
      refine g127_44 (d := d + 5) (fun g => ?_) (fun g => ?_)
      · simp only [if_neg (fun q => g (e0.mpr q))] at kk
        rw [g1.2.2.1]; exact kk
      · simp only [if_pos (e0.mp g)] at kk
        rw [g1.2.1]; exact kk
theorem cp_odds (hG : zGood B σ) (hC : zCls I L P S t σ) (k : cK I L S B σ (zl (aOdds σ x y z)) Q) : Ev (d + 6) c s 128 0 [some (zr (some (0, 0, 0))), some (zi x), some (zi y), some (zi z)] [] (I, L, zpj P, zsj S, 237 + t) Q := by
  unfold aOdds at k
  by_cases e1 : aTwo x y = none
  · rw [e1] at k
    exact g128_0i (d := d + 4) (fun _ => k I L P S t hC (hG.mono (by omega)) zFm.refl) (fun q => absurd e1 q) (fun q => absurd e1 q) (fun q => absurd e1 q)
  · obtain ⟨a, b, ha, hb, xa, yb, eab⟩ := aTwo_ex e1
    rw [eab] at k
    by_cases e2 : aIx z 2 = none
    · rw [e2] at k
      have kk := k I L P S t hC (hG.mono (by omega)) zFm.refl
      have no : ¬ (0 ≤ z ∧ z < nI 2) := fun ⟨a, b⟩ => absurd e2 (aIx_in (by decide) a b)
      exact g128_0i (d := d + 4) (fun q => absurd q e1) (fun _ _ => kk) (fun _ a b => absurd ⟨a, Int32.lt_of_le_of_lt b (by decide)⟩ no) (fun _ _ _ => kk)
    · obtain ⟨u, hu, xu, eu⟩ := aIx_ex e2
      rw [eu] at k
      subst xu
      subst xa
      subst yb
      obtain ⟨_, n1, pa, ca⟩ := hC.1.2 a ha
      obtain ⟨_, n2, pb, cb⟩ := hC.1.2 b hb
      have hlt := aPair_b hG ha hb
      refine g128_0i (d := d + 4) (fun q => absurd q e1) (fun _ g => absurd g (nI_pos (by omega))) (fun _ _ _ => ?_) (fun _ _ g => absurd ((zlt_iff (by decide) (by omega)).mp g) (by omega))
      refine g128_21 (d := d + 5) pa pb ca.sh cb.sh ha hb (gm_Ways (d := d) hG hC ha hb pa ca pb cb (fun I1 L1 P1 hC1 f1 g1 => ?_))
      have kk := k _ _ _ _ _ hC1 (hG.mono (by omega)) f1
      have e0 : nI u = 0 ↔ u = 0 := zeq (by omega) (by decide)
      refine g128_44 (d := d + 5) (fun g => ?_) (fun g => ?_)
      · simp only [if_neg (fun q => g (e0.mpr q))] at kk
        exact ev_om 0 0 (sp_cBlw (d := d + 4) hlt g1.2.2.2.1 (om_q (Q := fun r M' => Ev (d + 6) c s 128 65 [some (zr (some (0, 0, 0))), some (zi (nI a)), some (zi (nI b)), some (zi (nI u))] (zpush r []) M' Q) (g128_65 kk)))
      · simp only [if_pos (e0.mp g)] at kk
        exact ev_om 0 0 (sp_cAbv (d := d + 4) hlt g1.2.2.2.1 (om_q (Q := fun r M' => Ev (d + 6) c s 128 55 [some (zr (some (0, 0, 0))), some (zi (nI a)), some (zi (nI b)), some (zi (nI u))] (zpush r []) M' Q) (g128_55 kk)))
theorem cp_near (hG : zGood B σ) (hC : zCls I L P S t σ) (k : cK I L S B σ (zi (aNear σ x y)) Q) : Ev (d + 6) c s 129 0 [some (zr (some (0, 0, 0))), some (zi x), some (zi y)] [] (I, L, zpj P, zsj S, 237 + t) Q := by
  unfold aNear at k
  by_cases e1 : aTwo x y = none
  · rw [e1] at k
    exact g129_0i (d := d + 4) (fun _ => k I L P S t hC (hG.mono (by omega)) zFm.refl) (fun q => absurd e1 q)
  · obtain ⟨a, b, ha, hb, xa, yb, eab⟩ := aTwo_ex e1
    rw [eab] at k
    subst xa
    subst yb
    obtain ⟨_, n1, pa, ca⟩ := hC.1.2 a ha
    obtain ⟨_, n2, pb, cb⟩ := hC.1.2 b hb
    refine g129_0i (d := d + 4) (fun q => absurd q e1) (fun _ => ?_)
    refine g129_10 (d := d + 5) pa pb ca.sh cb.sh ha hb (gm_Ways (d := d) hG hC ha hb pa ca pb cb (fun I1 L1 P1 hC1 f1 g1 => g129_33 (d := d + 5) ?_))
    rw [g1.2.2.2.2]
    exact k _ _ _ _ _ hC1 (hG.mono (by omega)) f1
theorem cTp_push {ρ : Nat → Nat → Int32} {T : List Nat} {u : Nat} (h : cTp ρ T) : cTp (zu (zu ρ 2 T.length (nI u)) 1 1 (nI (T.length + 1))) (T ++ [u]) := by
  refine ⟨?_, fun k hk => ?_⟩
  · rw [zu_e, List.length_append]; rfl
  · rw [List.length_append] at hk
    have hk' : k < T.length + 1 := hk
    rw [zu_i_ne (by omega)]
    by_cases e : k = T.length
    · subst e
      rw [zu_e, List.getElem_append_right (Nat.le_refl _)]
      simp
    · have hk1 : k < T.length := by omega
      rw [zu_i_ne (by omega), List.getElem_append_left hk1]
      exact h.2 k hk1
theorem i2c127 : ∀ u, u < 127 → ((nI u).toUInt32 % 65536).toInt32 = nI u := by decide
theorem cp_type (hG : zGood B σ) (hC : zCls I L P S t σ) (k : cK I L S B (aType σ x).2 (zi (aType σ x).1) Q) : Ev (d + 1) c s 112 0 [some (zr (some (0, 0, 0))), some (zi x)] [] (I, L, zpj P, zsj S, 237 + t) Q := by
  unfold aType at k
  have hT := hC.2.2.2.1
  have h60 := hG.2.2.2.1.1
  by_cases e1 : aIx x 127 = none
  · rw [e1] at k
    have kk := k I L P S t hC (hG.mono (by omega)) zFm.refl
    have no : ¬ (0 ≤ x ∧ x < nI 127) := fun ⟨a, b⟩ => absurd e1 (aIx_in (by decide) a b)
    exact g112_0i (fun _ => kk) (fun a b => absurd ⟨Int32.le_trans (by decide) a, Int32.lt_of_le_of_lt b (by decide)⟩ no) (fun _ _ => kk)
  · obtain ⟨u, hu, xu, eu⟩ := aIx_ex e1
    subst xu
    rw [eu] at k
    refine g112_0i (fun g => ?_) (fun g _ => ?_) (fun _ g => absurd ((zlt_iff (by decide) (by omega)).mp g) (by omega))
    · simp only [if_pos ((zlt_iff (by omega) (by decide)).mp g)] at k
      exact k I L P S t hC (hG.mono (by omega)) zFm.refl
    · have g32 := (zle_iff (by decide) (by omega)).mp g
      simp only [if_neg (show ¬ u < 32 by omega)] at k
      refine g112_14 (d := d) ?_
      rw [i2c127 u hu]
      refine ev_om 0 0 (g90_0 (N := σ.T.length) hT.1 (by omega) (fun q => q) (fun q => om_t (Q := fun r M' => Ev (d + 1) c s 112 23 [some (zr (some (0, 0, 0))), some (zi (nI u))] (zpush r []) M' Q) ?_) (fun q => om_q (Q := fun r M' => Ev (d + 1) c s 112 23 [some (zr (some (0, 0, 0))), some (zi (nI u))] (zpush r []) M' Q) (g112_23n ?_)))
      · simp only [if_neg (show ¬ σ.T.length = 60 by omega)] at k
        refine g112_23y (d := d) ?_
        rw [so_s, zu_e, znar hu]
        have hG2 := hG.mono (B' := B + 40) (by omega)
        have fr := hC.o0' (ρ' := zu (zu (I 0 0) 2 σ.T.length (nI u)) 1 1 (nI (σ.T.length + 1)))
        refine k _ _ _ _ _ ⟨hC.1.fr (Nat.le_refl _) (fun q i => so3 (by omega)) (fun _ _ => rfl) (cOld_so (by decide)), ?_⟩ ⟨hG2.1, hG2.2.1, hG2.2.2.1, ⟨?_, ?_⟩, hG2.2.2.2.2⟩ (zFm_so (by decide) (by decide))
        · obtain ⟨_, hH, hK, _, hS⟩ := hC
          refine ⟨hH.fr (Nat.le_refl _) (fun q i => ⟨so3 (by omega), rfl⟩) (fun j' _ _ q i => ⟨so3 (by omega), rfl⟩) (cOld_so (by decide)), hK.fr (Nat.le_refl _) (fun j q i _ => ⟨so3 (by omega), rfl⟩) (fun q i => ⟨so3 (by omega), rfl⟩) ?_ (cOld_so (by decide)), by rw [so_s]; exact cTp_push hT, hS.fr (fun j q i => ⟨so3 (by omega), rfl⟩)⟩
          · rw [so_s, zu_i_ne (by omega), zu_i_ne (by omega)]
        · show (σ.T ++ [u]).length ≤ 60
          rw [List.length_append]; show σ.T.length + 1 ≤ 60; omega
        · intro x hx
          have hx : x ∈ σ.T ++ [u] := hx
          rcases List.mem_append.mp hx with h | h
          · exact hG.2.2.2.1.2 x h
          · rw [List.mem_singleton.mp h]; exact ⟨g32, hu⟩
      · simp only [if_pos (show σ.T.length = 60 by omega)] at k
        exact k I L P S t hC (hG.mono (by omega)) zFm.refl
end
