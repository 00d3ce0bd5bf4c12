/-! the class: calls that turn, lay, rule; questions of the table -/
theorem g119_0i {d c s : Nat} {t : Nat} {x : Int32} {I : zI} {L : zL} {P : zP} {S : zS} {Q : Option zV → zM → Prop}
    (h1 : (aIx x 4 = none) → Q (some (zi ((-1)))) (I, L, zpj P, zsj S, 237 + t))
    (h2 : (¬ (aIx x 4 = none)) → Ev (d + 1) c s 119 9 [some (zr (some (0, 0, 0))), some (zi x)] [] (I, L, zpj P, zsj S, 237 + t) Q) : Ev (d + 1) c s 119 0 [some (zr (some (0, 0, 0))), some (zi x)] [] (I, L, zpj P, zsj S, 237 + t) Q := by
  refine Ew.ld f119_0 rfl rfl rfl rfl ?_
  refine Ew.call0 (ls0 := [some (zi x)]) f119_1 rfl (Nat.le_of_ble_eq_true rfl) rfl rfl (Nat.le_of_ble_eq_true rfl) trivial (Nat.le_of_ble_eq_true rfl) rfl rfl ?_
  refine sp_noTask (fun c1 => ?_) (fun c1 => ?_)
  · refine Ew.ifc f119_4 rfl rfl (fun h => absurd h (show ¬ (((nI 1) : Int32) = 0) by decide)) (fun _ => ?_)
    refine Ew.op (st' := zi ((-1)) :: _) f119_7 rfl rfl ?_
    refine Ew.ireti f119_8 ?_
    exact h1 c1
  · refine Ew.ifc f119_4 rfl rfl (fun _ => ?_) (fun h => absurd (show ((nI 0) : Int32) = 0 by decide) h)
    exact h2 c1
theorem g119_0 {d c s : Nat} {t u : Nat} {I : zI} {L : zL} {P : zP} {S : zS} {Q : Option zV → zM → Prop}
    (h1 : (aIx (nI u) 4 = none) → Q (some (zi ((-1)))) (I, L, zpj P, zsj S, 237 + t))
    (h2 : (¬ (aIx (nI u) 4 = none)) → Ev d 0 0 58 0 [some (zr (some (2, 0, 0))), some (zi (nI u))] [] (I, L, zpj P, zsj S, 237 + t) (fun r M' => Ev (d + 1) c s 119 17 [some (zr (some (0, 0, 0))), some (zi (nI u))] (zpush r []) M' Q)) : Ev (d + 1) c s 119 0 [some (zr (some (0, 0, 0))), some (zi (nI u))] [] (I, L, zpj P, zsj S, 237 + t) Q := by
  refine Ew.ld f119_0 rfl rfl rfl rfl ?_
  refine Ew.call0 (ls0 := [some (zi (nI u))]) f119_1 rfl (Nat.le_of_ble_eq_true rfl) rfl rfl (Nat.le_of_ble_eq_true rfl) trivial (Nat.le_of_ble_eq_true rfl) rfl rfl ?_
  refine sp_noTask (fun c1 => ?_) (fun c1 => ?_)
  · refine Ew.ifc f119_4 rfl rfl (fun h => absurd h (show ¬ (((nI 1) : Int32) = 0) by decide)) (fun _ => ?_)
    refine Ew.op (st' := zi ((-1)) :: _) f119_7 rfl rfl ?_
    refine Ew.ireti f119_8 ?_
    exact h1 c1
  · refine Ew.ifc f119_4 rfl rfl (fun _ => ?_) (fun h => absurd (show ((nI 0) : Int32) = 0 by decide) h)
    refine Ew.ld f119_9 rfl rfl rfl rfl ?_
    refine Ew.getp (v := some (2, 0, 0)) f119_10 rfl rfl rfl ?_
    refine Ew.ld f119_13 rfl rfl rfl rfl ?_
    refine Ew.call0 (ls0 := [some (zr (some (2, 0, 0))), some (zi (nI u))]) f119_14 rfl (Nat.le_of_ble_eq_true rfl) rfl rfl (Nat.le_of_ble_eq_true rfl) rfl (Nat.le_of_ble_eq_true rfl) rfl rfl ?_
    exact h2 c1
theorem g119_17a {d c s : Nat} {t u : Nat} {I : zI} {L : zL} {P : zP} {S : zS} {Q : Option zV → zM → Prop}
    (h1 : Ev d 0 0 2 0 [some (zr (some (4, 0, 0))), some (zr (some (2, 0, 0)))] [] (I, L, zpj P, zsj S, 237 + t) (fun r M' => Ev (d + 1) c s 119 34 [some (zr (some (0, 0, 0))), some (zi (nI u))] (zpush r []) M' Q)) : Ev (d + 1) c s 119 17 [some (zr (some (0, 0, 0))), some (zi (nI u))] [zi (nI 0)] (I, L, zpj P, zsj S, 237 + t) Q := by
  refine Ew.ifc f119_17 rfl rfl (fun _ => ?_) (fun h => absurd (show ((nI 0) : Int32) = 0 by decide) h)
  refine Ew.ld f119_23 rfl rfl rfl rfl ?_
  refine Ew.getp (v := some (4, 0, 0)) f119_24 rfl rfl rfl ?_
  refine Ew.ld f119_27 rfl rfl rfl rfl ?_
  refine Ew.getp (v := some (2, 0, 0)) f119_28 rfl rfl rfl ?_
  refine Ew.call0 (ls0 := [some (zr (some (4, 0, 0))), some (zr (some (2, 0, 0)))]) f119_31 rfl (Nat.le_of_ble_eq_true rfl) rfl rfl (Nat.le_of_ble_eq_true rfl) rfl (Nat.le_of_ble_eq_true rfl) rfl rfl ?_
  exact h1
theorem g119_17b {d c s : Nat} {t u : Nat} {I : zI} {L : zL} {P : zP} {S : zS} {Q : Option zV → zM → Prop}
    (h1 : Q (some (zi ((-2)))) (I, L, zpj P, zsj S, 237 + t)) : Ev d c s 119 17 [some (zr (some (0, 0, 0))), some (zi (nI u))] [zi (nI 1)] (I, L, zpj P, zsj S, 237 + t) Q := by
  refine Ew.ifc f119_17 rfl rfl (fun h => absurd h (show ¬ (((nI 1) : Int32) = 0) by decide)) (fun _ => ?_)
  refine Ew.op (st' := zi ((-2)) :: _) f119_20 rfl rfl ?_
  refine Ew.ireti f119_22 ?_
  exact h1
theorem g119_34 {d c s : Nat} {t u : Nat} {I : zI} {L : zL} {P : zP} {S : zS} {Q : Option zV → zM → Prop}
    (h1 : Ev d 0 0 80 0 [some (zr (some (2, 0, 0))), some (zi (nI u)), none] [] (I, L, zpj P, zsj S, 237 + t) (fun r M' => Ev (d + 1) c s 119 42 [some (zr (some (0, 0, 0))), some (zi (nI u))] (zpush r []) M' Q)) : Ev (d + 1) c s 119 34 [some (zr (some (0, 0, 0))), some (zi (nI u))] [] (I, L, zpj P, zsj S, 237 + t) Q := by
  refine Ew.ld f119_34 rfl rfl rfl rfl ?_
  refine Ew.getp (v := some (2, 0, 0)) f119_35 rfl rfl rfl ?_
  refine Ew.ld f119_38 rfl rfl rfl rfl ?_
  refine Ew.call0 (ls0 := [some (zr (some (2, 0, 0))), some (zi (nI u)), none]) f119_39 rfl (Nat.le_of_ble_eq_true rfl) rfl rfl (Nat.le_of_ble_eq_true rfl) rfl (Nat.le_of_ble_eq_true rfl) rfl rfl ?_
  exact h1
theorem g119_42 {d c s : Nat} {t u : Nat} {x : Int32} {I : zI} {L : zL} {P : zP} {S : zS} {Q : Option zV → zM → Prop}
    (h1 : Q (some (zi x)) (I, L, zpj P, zsj S, 237 + t)) : Ev d c s 119 42 [some (zr (some (0, 0, 0))), some (zi (nI u))] [zi x] (I, L, zpj P, zsj S, 237 + t) Q := by
  refine Ew.ireti f119_42 ?_
  exact h1
theorem g121_0 {d c s : Nat} {t : Nat} {I : zI} {L : zL} {P : zP} {S : zS} {Q : Option zV → zM → Prop}
    (h1 : Ev d 0 0 61 0 [some (zr (some (2, 0, 0)))] [] (I, L, zpj P, zsj S, 237 + t) (fun r M' => Ev (d + 1) c s 121 7 [some (zr (some (0, 0, 0)))] (zpush r []) M' Q)) : Ev (d + 1) c s 121 0 [some (zr (some (0, 0, 0)))] [] (I, L, zpj P, zsj S, 237 + t) Q := by
  refine Ew.ld f121_0 rfl rfl rfl rfl ?_
  refine Ew.getp (v := some (2, 0, 0)) f121_1 rfl rfl rfl ?_
  refine Ew.call0 (ls0 := [some (zr (some (2, 0, 0)))]) f121_4 rfl (Nat.le_of_ble_eq_true rfl) rfl rfl (Nat.le_of_ble_eq_true rfl) rfl (Nat.le_of_ble_eq_true rfl) rfl rfl ?_
  exact h1
theorem g121_7a {d c s : Nat} {t : Nat} {I : zI} {L : zL} {P : zP} {S : zS} {Q : Option zV → zM → Prop}
    (h1 : Ev d 0 0 2 0 [some (zr (some (4, 0, 0))), some (zr (some (2, 0, 0)))] [] (I, L, zpj P, zsj S, 237 + t) (fun r M' => Ev (d + 1) c s 121 24 [some (zr (some (0, 0, 0)))] (zpush r []) M' Q)) : Ev (d + 1) c s 121 7 [some (zr (some (0, 0, 0)))] [zi (nI 0)] (I, L, zpj P, zsj S, 237 + t) Q := by
  refine Ew.ifc f121_7 rfl rfl (fun _ => ?_) (fun h => absurd (show ((nI 0) : Int32) = 0 by decide) h)
  refine Ew.ld f121_13 rfl rfl rfl rfl ?_
  refine Ew.getp (v := some (4, 0, 0)) f121_14 rfl rfl rfl ?_
  refine Ew.ld f121_17 rfl rfl rfl rfl ?_
  refine Ew.getp (v := some (2, 0, 0)) f121_18 rfl rfl rfl ?_
  refine Ew.call0 (ls0 := [some (zr (some (4, 0, 0))), some (zr (some (2, 0, 0)))]) f121_21 rfl (Nat.le_of_ble_eq_true rfl) rfl rfl (Nat.le_of_ble_eq_true rfl) rfl (Nat.le_of_ble_eq_true rfl) rfl rfl ?_
  exact h1
theorem g121_7b {d c s : Nat} {t : Nat} {I : zI} {L : zL} {P : zP} {S : zS} {Q : Option zV → zM → Prop}
    (h1 : Q (some (zi ((-2)))) (I, L, zpj P, zsj S, 237 + t)) : Ev d c s 121 7 [some (zr (some (0, 0, 0)))] [zi (nI 1)] (I, L, zpj P, zsj S, 237 + t) Q := by
  refine Ew.ifc f121_7 rfl rfl (fun h => absurd h (show ¬ (((nI 1) : Int32) = 0) by decide)) (fun _ => ?_)
  refine Ew.op (st' := zi ((-2)) :: _) f121_10 rfl rfl ?_
  refine Ew.ireti f121_12 ?_
  exact h1
theorem g121_24 {d c s : Nat} {t : Nat} {I : zI} {L : zL} {P : zP} {S : zS} {Q : Option zV → zM → Prop}
    (h1 : Ev d 0 0 77 0 [some (zr (some (2, 0, 0))), none, none] [] (I, L, zpj P, zsj S, 237 + t) (fun r M' => Ev (d + 1) c s 121 31 [some (zr (some (0, 0, 0)))] (zpush r []) M' Q)) : Ev (d + 1) c s 121 24 [some (zr (some (0, 0, 0)))] [] (I, L, zpj P, zsj S, 237 + t) Q := by
  refine Ew.ld f121_24 rfl rfl rfl rfl ?_
  refine Ew.getp (v := some (2, 0, 0)) f121_25 rfl rfl rfl ?_
  refine Ew.call0 (ls0 := [some (zr (some (2, 0, 0))), none, none]) f121_28 rfl (Nat.le_of_ble_eq_true rfl) rfl rfl (Nat.le_of_ble_eq_true rfl) rfl (Nat.le_of_ble_eq_true rfl) rfl rfl ?_
  exact h1
theorem g121_31 {d c s : Nat} {t : Nat} {x : Int32} {I : zI} {L : zL} {P : zP} {S : zS} {Q : Option zV → zM → Prop}
    (h1 : Q (some (zi x)) (I, L, zpj P, zsj S, 237 + t)) : Ev d c s 121 31 [some (zr (some (0, 0, 0)))] [zi x] (I, L, zpj P, zsj S, 237 + t) Q := by
  refine Ew.ireti f121_31 ?_
  exact h1
theorem g118_0 {d c s : Nat} {t : Nat} {x : Int32} {I : zI} {L : zL} {P : zP} {S : zS} {Q : Option zV → zM → Prop}
    (h1 : (x < 0) → Q (some (zi ((-1)))) (I, L, zpj P, zsj S, 237 + t))
    (h2 : (0 ≤ x) → (x < (nI 5)) → (¬ x = (I 2 0 0 3)) → Ev d 0 0 2 0 [some (zr (some (4, 0, 0))), some (zr (some (2, 0, 0)))] [] (I, L, zpj P, zsj S, 237 + t) (fun r M' => Ev (d + 1) c s 118 38 [some (zr (some (0, 0, 0))), some (zi x), some (zi (I 2 0 0 3))] (zpush r []) M' Q))
    (h3 : (0 ≤ x) → (x < (nI 5)) → (x = (I 2 0 0 3)) → Q (some (zi ((-2)))) (I, L, zpj P, zsj S, 237 + t))
    (h4 : (0 ≤ x) → ((nI 5) ≤ x) → Q (some (zi ((-1)))) (I, L, zpj P, zsj S, 237 + t)) : Ev (d + 1) c s 118 0 [some (zr (some (0, 0, 0))), some (zi x), none] [] (I, L, zpj P, zsj S, 237 + t) Q := by
  refine Ew.ld f118_0 rfl rfl rfl rfl ?_
  refine Ew.ifc f118_1 rfl rfl (fun c1 => ?_) (fun c1 => ?_)
  · refine Ew.op (st' := zi ((-1)) :: _) f118_9 rfl rfl ?_
    refine Ew.ireti f118_10 ?_
    exact h1 c1
  · refine Ew.ld f118_4 rfl rfl rfl rfl ?_
    refine Ew.op (st' := zi (nI 5) :: _) f118_5 rfl rfl ?_
    refine Ew.icmp f118_6 rfl rfl (fun c2 => ?_) (fun c2 => ?_)
    · refine Ew.ld f118_11 rfl rfl rfl rfl ?_
      refine Ew.getp (v := some (2, 0, 0)) f118_12 rfl rfl rfl ?_
      refine Ew.call0 (ls0 := [some (zr (some (2, 0, 0)))]) f118_15 rfl (Nat.le_of_ble_eq_true rfl) rfl rfl (Nat.le_of_ble_eq_true rfl) rfl (Nat.le_of_ble_eq_true rfl) rfl rfl ?_
      refine Ew.ld f56_0 rfl rfl rfl rfl ?_
      refine Ew.geti f56_1 rfl rfl ?_
      refine Ew.ireti f56_4 ?_
      show Ev (d + 1) c s 118 18 [some (zr (some (0, 0, 0))), some (zi x), none] [zi (I 2 0 0 3)] (I, L, zpj P, zsj S, 237 + t) Q
      refine Ew.sr (ls' := [some (zr (some (0, 0, 0))), some (zi x), some (zi (I 2 0 0 3))]) f118_18 rfl rfl (Nat.le_of_ble_eq_true rfl) rfl rfl ?_
      refine Ew.ld f118_19 rfl rfl rfl rfl ?_
      refine Ew.ld f118_20 rfl rfl rfl rfl ?_
      refine Ew.icmp f118_21 rfl rfl (fun c3 => ?_) (fun c3 => ?_)
      · refine Ew.ld f118_27 rfl rfl rfl rfl ?_
        refine Ew.getp (v := some (4, 0, 0)) f118_28 rfl rfl rfl ?_
        refine Ew.ld f118_31 rfl rfl rfl rfl ?_
        refine Ew.getp (v := some (2, 0, 0)) f118_32 rfl rfl rfl ?_
        refine Ew.call0 (ls0 := [some (zr (some (4, 0, 0))), some (zr (some (2, 0, 0)))]) f118_35 rfl (Nat.le_of_ble_eq_true rfl) rfl rfl (Nat.le_of_ble_eq_true rfl) rfl (Nat.le_of_ble_eq_true rfl) rfl rfl ?_
        exact h2 (Int32.not_lt.mp c1) c2 c3
      · refine Ew.op (st' := zi ((-2)) :: _) f118_24 rfl rfl ?_
        refine Ew.ireti f118_26 ?_
        exact h3 (Int32.not_lt.mp c1) c2 (Classical.not_not.mp c3)
    · refine Ew.op (st' := zi ((-1)) :: _) f118_9 rfl rfl ?_
      refine Ew.ireti f118_10 ?_
      exact h4 (Int32.not_lt.mp c1) (Int32.not_lt.mp c2)
theorem g118_38 {d c s : Nat} {t : Nat} {x y : Int32} {I : zI} {L : zL} {P : zP} {S : zS} {Q : Option zV → zM → Prop}
    (h1 : Q (some (zi y)) (zup4 I 2 0 0 3 x, L, zpj P, zsj S, 237 + t)) : Ev (d + 1) c s 118 38 [some (zr (some (0, 0, 0))), some (zi x), some (zi y)] [] (I, L, zpj P, zsj S, 237 + t) Q := by
  refine Ew.ld f118_38 rfl rfl rfl rfl ?_
  refine Ew.getp (v := some (2, 0, 0)) f118_39 rfl rfl rfl ?_
  refine Ew.ld f118_42 rfl rfl rfl rfl ?_
  refine Ew.call0 (ls0 := [some (zr (some (2, 0, 0))), some (zi x)]) f118_43 rfl (Nat.le_of_ble_eq_true rfl) rfl rfl (Nat.le_of_ble_eq_true rfl) rfl (Nat.le_of_ble_eq_true rfl) rfl rfl ?_
  refine Ew.ld f74_0 rfl rfl rfl rfl ?_
  refine Ew.ld f74_1 rfl rfl rfl rfl ?_
  refine Ew.puti f74_2 rfl rfl ?_
  refine Ew.vret f74_5 ?_
  show Ev (d + 1) c s 118 46 [some (zr (some (0, 0, 0))), some (zi x), some (zi y)] [] (zup4 I 2 0 0 3 x, L, zpj P, zsj S, 237 + t) Q
  refine Ew.ld f118_46 rfl rfl rfl rfl ?_
  refine Ew.ireti f118_47 ?_
  exact h1
theorem g132_0 {d c s : Nat} {t : Nat} {x : Int32} {I : zI} {L : zL} {P : zP} {S : zS} {Q : Option zV → zM → Prop}
    (h1 : (0 ≤ x) → Q (some (zi (I 2 0 0 4))) (zup4 I 2 0 0 4 x, L, zpj P, zsj S, 237 + t))
    (h2 : (x < 0) → Q (some (zi ((-1)))) (I, L, zpj P, zsj S, 237 + t)) : Ev (d + 1) c s 132 0 [some (zr (some (0, 0, 0))), some (zi x)] [] (I, L, zpj P, zsj S, 237 + t) Q := by
  refine Ew.ld f132_0 rfl rfl rfl rfl ?_
  refine Ew.ifc f132_1 rfl rfl (fun c1 => ?_) (fun c1 => ?_)
  · refine Ew.ld f132_8 rfl rfl rfl rfl ?_
    refine Ew.getp (v := some (2, 0, 0)) f132_9 rfl rfl rfl ?_
    refine Ew.ld f132_12 rfl rfl rfl rfl ?_
    refine Ew.call0 (ls0 := [some (zr (some (2, 0, 0))), some (zi x), none]) f132_13 rfl (Nat.le_of_ble_eq_true rfl) rfl rfl (Nat.le_of_ble_eq_true rfl) rfl (Nat.le_of_ble_eq_true rfl) rfl rfl ?_
    refine Ew.ld f75_0 rfl rfl rfl rfl ?_
    refine Ew.geti f75_1 rfl rfl ?_
    refine Ew.sr (ls' := [some (zr (some (2, 0, 0))), some (zi x), some (zi (I 2 0 0 4))]) f75_4 rfl rfl (Nat.le_of_ble_eq_true rfl) rfl rfl ?_
    refine Ew.ld f75_5 rfl rfl rfl rfl ?_
    refine Ew.ld f75_6 rfl rfl rfl rfl ?_
    refine Ew.puti f75_7 rfl rfl ?_
    refine Ew.ld f75_10 rfl rfl rfl rfl ?_
    refine Ew.ireti f75_11 ?_
    show Ev (d + 1) c s 132 16 [some (zr (some (0, 0, 0))), some (zi x)] [zi (I 2 0 0 4)] (zup4 I 2 0 0 4 x, L, zpj P, zsj S, 237 + t) Q
    refine Ew.ireti f132_16 ?_
    exact h1 c1
  · refine Ew.op (st' := zi ((-1)) :: _) f132_4 rfl rfl ?_
    refine Ew.goto f132_5 rfl ?_
    refine Ew.ireti f132_16 ?_
    exact h2 (Int32.not_le.mp c1)
theorem g122_0i {d c s : Nat} {t : Nat} {x y : Int32} {I : zI} {L : zL} {P : zP} {S : zS} {Q : Option zV → zM → Prop}
    (h1 : (aIx x 6 = none) → Q (some (zi ((-1)))) (I, L, zpj P, zsj S, 237 + t))
    (h2 : (¬ (aIx x 6 = none)) → Ev (d + 1) c s 122 11 [some (zr (some (0, 0, 0))), some (zi x), some (zi y)] [] (I, L, zpj P, zsj S, 237 + t) Q) : Ev (d + 1) c s 122 0 [some (zr (some (0, 0, 0))), some (zi x), some (zi y)] [] (I, L, zpj P, zsj S, 237 + t) Q := by
  refine Ew.ld f122_0 rfl rfl rfl rfl ?_
  refine Ew.call0 (ls0 := [some (zi x)]) f122_1 rfl (Nat.le_of_ble_eq_true rfl) rfl rfl (Nat.le_of_ble_eq_true rfl) trivial (Nat.le_of_ble_eq_true rfl) rfl rfl ?_
  refine sp_noGate (fun c1 => ?_) (fun c1 => ?_)
  · refine Ew.ifc f122_4 rfl rfl (fun h => absurd h (show ¬ (((nI 1) : Int32) = 0) by decide)) (fun _ => ?_)
    refine Ew.op (st' := zi ((-1)) :: _) f122_7 rfl rfl ?_
    refine Ew.goto f122_8 rfl ?_
    refine Ew.ireti f122_20 ?_
    exact h1 c1
  · refine Ew.ifc f122_4 rfl rfl (fun _ => ?_) (fun h => absurd (show ((nI 0) : Int32) = 0 by decide) h)
    exact h2 c1
theorem g122_11 {d c s : Nat} {t u : Nat} {y : Int32} {I : zI} {L : zL} {P : zP} {S : zS} {Q : Option zV → zM → Prop}
    (h1 : Ev d 0 0 64 0 [some (zr (some (2, 0, 0))), some (zi (nI u)), some (zi y)] [] (I, L, zpj P, zsj S, 237 + t) (fun r M' => Ev (d + 1) c s 122 20 [some (zr (some (0, 0, 0))), some (zi (nI u)), some (zi y)] (zpush r []) M' Q)) : Ev (d + 1) c s 122 11 [some (zr (some (0, 0, 0))), some (zi (nI u)), some (zi y)] [] (I, L, zpj P, zsj S, 237 + t) Q := by
  refine Ew.ld f122_11 rfl rfl rfl rfl ?_
  refine Ew.getp (v := some (2, 0, 0)) f122_12 rfl rfl rfl ?_
  refine Ew.ld f122_15 rfl rfl rfl rfl ?_
  refine Ew.ld f122_16 rfl rfl rfl rfl ?_
  refine Ew.call0 (ls0 := [some (zr (some (2, 0, 0))), some (zi (nI u)), some (zi y)]) f122_17 rfl (Nat.le_of_ble_eq_true rfl) rfl rfl (Nat.le_of_ble_eq_true rfl) rfl (Nat.le_of_ble_eq_true rfl) rfl rfl ?_
  exact h1
theorem g122_20 {d c s : Nat} {t : Nat} {x : Int32} {o1 o2 : Option zV} {I : zI} {L : zL} {P : zP} {S : zS} {Q : Option zV → zM → Prop}
    (h1 : Q (some (zi x)) (I, L, zpj P, zsj S, 237 + t)) : Ev d c s 122 20 [some (zr (some (0, 0, 0))), o1, o2] [zi x] (I, L, zpj P, zsj S, 237 + t) Q := by
  refine Ew.ireti f122_20 ?_
  exact h1
theorem g123_0i {d c s : Nat} {t : Nat} {x y : Int32} {I : zI} {L : zL} {P : zP} {S : zS} {Q : Option zV → zM → Prop}
    (h1 : (aIx x 4 = none) → Q (some (zi ((-1)))) (I, L, zpj P, zsj S, 237 + t))
    (h2 : (¬ (aIx x 4 = none)) → Ev (d + 1) c s 123 11 [some (zr (some (0, 0, 0))), some (zi x), some (zi y)] [] (I, L, zpj P, zsj S, 237 + t) Q) : Ev (d + 1) c s 123 0 [some (zr (some (0, 0, 0))), some (zi x), some (zi y)] [] (I, L, zpj P, zsj S, 237 + t) Q := by
  refine Ew.ld f123_0 rfl rfl rfl rfl ?_
  refine Ew.call0 (ls0 := [some (zi x)]) f123_1 rfl (Nat.le_of_ble_eq_true rfl) rfl rfl (Nat.le_of_ble_eq_true rfl) trivial (Nat.le_of_ble_eq_true rfl) rfl rfl ?_
  refine sp_noTask (fun c1 => ?_) (fun c1 => ?_)
  · refine Ew.ifc f123_4 rfl rfl (fun h => absurd h (show ¬ (((nI 1) : Int32) = 0) by decide)) (fun _ => ?_)
    refine Ew.op (st' := zi ((-1)) :: _) f123_7 rfl rfl ?_
    refine Ew.goto f123_8 rfl ?_
    refine Ew.ireti f123_20 ?_
    exact h1 c1
  · refine Ew.ifc f123_4 rfl rfl (fun _ => ?_) (fun h => absurd (show ((nI 0) : Int32) = 0 by decide) h)
    exact h2 c1
theorem g123_11 {d c s : Nat} {t u : Nat} {y : Int32} {I : zI} {L : zL} {P : zP} {S : zS} {Q : Option zV → zM → Prop}
    (h1 : Ev d 0 0 65 0 [some (zr (some (2, 0, 0))), some (zi (nI u)), some (zi y)] [] (I, L, zpj P, zsj S, 237 + t) (fun r M' => Ev (d + 1) c s 123 20 [some (zr (some (0, 0, 0))), some (zi (nI u)), some (zi y)] (zpush r []) M' Q)) : Ev (d + 1) c s 123 11 [some (zr (some (0, 0, 0))), some (zi (nI u)), some (zi y)] [] (I, L, zpj P, zsj S, 237 + t) Q := by
  refine Ew.ld f123_11 rfl rfl rfl rfl ?_
  refine Ew.getp (v := some (2, 0, 0)) f123_12 rfl rfl rfl ?_
  refine Ew.ld f123_15 rfl rfl rfl rfl ?_
  refine Ew.ld f123_16 rfl rfl rfl rfl ?_
  refine Ew.call0 (ls0 := [some (zr (some (2, 0, 0))), some (zi (nI u)), some (zi y)]) f123_17 rfl (Nat.le_of_ble_eq_true rfl) rfl rfl (Nat.le_of_ble_eq_true rfl) rfl (Nat.le_of_ble_eq_true rfl) rfl rfl ?_
  exact h1
theorem g123_20 {d c s : Nat} {t : Nat} {x : Int32} {o1 o2 : Option zV} {I : zI} {L : zL} {P : zP} {S : zS} {Q : Option zV → zM → Prop}
    (h1 : Q (some (zi x)) (I, L, zpj P, zsj S, 237 + t)) : Ev d c s 123 20 [some (zr (some (0, 0, 0))), o1, o2] [zi x] (I, L, zpj P, zsj S, 237 + t) Q := by
  refine Ew.ireti f123_20 ?_
  exact h1
theorem g124_0 {d c s : Nat} {t : Nat} {x : Int32} {I : zI} {L : zL} {P : zP} {S : zS} {Q : Option zV → zM → Prop}
    (h1 : (¬ x = (nI 8)) → Ev d 0 0 66 0 [some (zr (some (2, 0, 0))), some (zi x)] [] (I, L, zpj P, zsj S, 237 + t) (fun r M' => Ev (d + 1) c s 124 24 [some (zr (some (0, 0, 0))), some (zi x)] (zpush r []) M' Q))
    (h2 : (x = (nI 8)) → Q (some (zi (I 4 0 0 1))) (I, L, zpj P, zsj S, 237 + t)) : Ev (d + 1) c s 124 0 [some (zr (some (0, 0, 0))), some (zi x)] [] (I, L, zpj P, zsj S, 237 + t) Q := by
  refine Ew.ld f124_0 rfl rfl rfl rfl ?_
  refine Ew.op (st' := zi (nI 8) :: _) f124_1 rfl rfl ?_
  refine Ew.icmp f124_3 rfl rfl (fun c1 => ?_) (fun c1 => ?_)
  · refine Ew.ld f124_16 rfl rfl rfl rfl ?_
    refine Ew.getp (v := some (2, 0, 0)) f124_17 rfl rfl rfl ?_
    refine Ew.ld f124_20 rfl rfl rfl rfl ?_
    refine Ew.call0 (ls0 := [some (zr (some (2, 0, 0))), some (zi x)]) f124_21 rfl (Nat.le_of_ble_eq_true rfl) rfl rfl (Nat.le_of_ble_eq_true rfl) rfl (Nat.le_of_ble_eq_true rfl) rfl rfl ?_
    exact h1 c1
  · refine Ew.ld f124_6 rfl rfl rfl rfl ?_
    refine Ew.getp (v := some (4, 0, 0)) f124_7 rfl rfl rfl ?_
    refine Ew.call0 (ls0 := [some (zr (some (4, 0, 0)))]) f124_10 rfl (Nat.le_of_ble_eq_true rfl) rfl rfl (Nat.le_of_ble_eq_true rfl) rfl (Nat.le_of_ble_eq_true rfl) rfl rfl ?_
    refine Ew.ld f1_0 rfl rfl rfl rfl ?_
    refine Ew.geti f1_1 rfl rfl ?_
    refine Ew.ireti f1_4 ?_
    show Ev (d + 1) c s 124 13 [some (zr (some (0, 0, 0))), some (zi x)] [zi (I 4 0 0 1)] (I, L, zpj P, zsj S, 237 + t) Q
    refine Ew.goto f124_13 rfl ?_
    refine Ew.ireti f124_24 ?_
    exact h2 (Classical.not_not.mp c1)
theorem g124_24 {d c s : Nat} {t : Nat} {x : Int32} {o1 : Option zV} {I : zI} {L : zL} {P : zP} {S : zS} {Q : Option zV → zM → Prop}
    (h1 : Q (some (zi x)) (I, L, zpj P, zsj S, 237 + t)) : Ev d c s 124 24 [some (zr (some (0, 0, 0))), o1] [zi x] (I, L, zpj P, zsj S, 237 + t) Q := by
  refine Ew.ireti f124_24 ?_
  exact h1
theorem g116_0i {d c s : Nat} {t : Nat} {x y : Int32} {I : zI} {L : zL} {P : zP} {S : zS} {Q : Option zV → zM → Prop}
    (h1 : (aIx x 4 = none) → Q (some (zi ((-1)))) (I, L, zpj P, zsj S, 237 + t))
    (h2 : (¬ (aIx x 4 = none)) → Ev (d + 1) c s 116 11 [some (zr (some (0, 0, 0))), some (zi x), some (zi y)] [] (I, L, zpj P, zsj S, 237 + t) Q) : Ev (d + 1) c s 116 0 [some (zr (some (0, 0, 0))), some (zi x), some (zi y)] [] (I, L, zpj P, zsj S, 237 + t) Q := by
  refine Ew.ld f116_0 rfl rfl rfl rfl ?_
  refine Ew.call0 (ls0 := [some (zi x)]) f116_1 rfl (Nat.le_of_ble_eq_true rfl) rfl rfl (Nat.le_of_ble_eq_true rfl) trivial (Nat.le_of_ble_eq_true rfl) rfl rfl ?_
  refine sp_noTask (fun c1 => ?_) (fun c1 => ?_)
  · refine Ew.ifc f116_4 rfl rfl (fun h => absurd h (show ¬ (((nI 1) : Int32) = 0) by decide)) (fun _ => ?_)
    refine Ew.op (st' := zi ((-1)) :: _) f116_7 rfl rfl ?_
    refine Ew.goto f116_8 rfl ?_
    refine Ew.ireti f116_23 ?_
    exact h1 c1
  · refine Ew.ifc f116_4 rfl rfl (fun _ => ?_) (fun h => absurd (show ((nI 0) : Int32) = 0 by decide) h)
    exact h2 c1
theorem g116_11 {d c s : Nat} {t u n bb : Nat} {T : tT} {y : Int32} {I : zI} {L : zL} {P : zP} {S : zS} {Q : Option zV → zM → Prop} (pt : P 2 0 2 u = some (3, n, 0)) (hc : cTr I P S bb n T) 
    (b1 : u < 4)
    (h1 : Ev d 0 0 109 0 [some (zr (some (3, n, 0))), some (zi y)] [] (I, L, zpj P, zsj S, 237 + t) (fun r M' => Ev (d + 1) c s 116 23 [some (zr (some (0, 0, 0))), some (zi (nI u)), some (zi y)] (zpush r []) M' Q)) : Ev (d + 1) c s 116 11 [some (zr (some (0, 0, 0))), some (zi (nI u)), some (zi y)] [] (I, L, zpj P, zsj S, 237 + t) Q := by
  refine Ew.ld f116_11 rfl rfl rfl rfl ?_
  refine Ew.getp (v := some (2, 0, 0)) f116_12 rfl rfl rfl ?_
  refine Ew.ld f116_15 rfl rfl rfl rfl ?_
  refine Ew.call0 (ls0 := [some (zr (some (2, 0, 0))), some (zi (nI u))]) f116_16 rfl (Nat.le_of_ble_eq_true rfl) rfl rfl (Nat.le_of_ble_eq_true rfl) rfl (Nat.le_of_ble_eq_true rfl) rfl rfl ?_
  refine Ew.ld f54_0 rfl rfl rfl rfl ?_
  refine Ew.getp (v := some (2, 0, 2)) f54_1 rfl rfl rfl ?_
  refine Ew.ld f54_4 rfl rfl rfl rfl ?_
  refine Ew.aaldn (v := some (3, n, 0)) f54_5 (Nat.le_of_ble_eq_true rfl) b1 (Nat.le_of_ble_eq_true rfl) rfl (show zpj P 2 0 2 u = _ from pt) ?_
  refine Ew.aret f54_6 ?_
  show Ev (d + 1) c s 116 19 [some (zr (some (0, 0, 0))), some (zi (nI u)), some (zi y)] [zr (some (3, n, 0))] (I, L, zpj P, zsj S, 237 + t) Q
  refine Ew.ld f116_19 rfl rfl rfl rfl ?_
  refine Ew.call0 (ls0 := [some (zr (some (3, n, 0))), some (zi y)]) f116_20 rfl (Nat.le_of_ble_eq_true rfl) rfl rfl (Nat.le_of_ble_eq_true rfl) (by show (S 3 n 0).1 = _; rw [hc.sh]) (Nat.le_of_ble_eq_true rfl) rfl rfl ?_
  exact h1
theorem g116_23 {d c s : Nat} {t : Nat} {x : Int32} {o1 o2 : Option zV} {I : zI} {L : zL} {P : zP} {S : zS} {Q : Option zV → zM → Prop}
    (h1 : Q (some (zi x)) (I, L, zpj P, zsj S, 237 + t)) : Ev d c s 116 23 [some (zr (some (0, 0, 0))), o1, o2] [zi x] (I, L, zpj P, zsj S, 237 + t) Q := by
  refine Ew.ireti f116_23 ?_
  exact h1
theorem g117_0i {d c s : Nat} {t : Nat} {x y z : Int32} {I : zI} {L : zL} {P : zP} {S : zS} {Q : Option zV → zM → Prop}
    (h1 : (aIx x 4 = none) → Q (some (zi ((-1)))) (I, L, zpj P, zsj S, 237 + t))
    (h2 : (¬ (aIx x 4 = none)) → Ev (d + 1) c s 117 11 [some (zr (some (0, 0, 0))), some (zi x), some (zi z), some (zi y)] [] (I, L, zpj P, zsj S, 237 + t) Q) : Ev (d + 1) c s 117 0 [some (zr (some (0, 0, 0))), some (zi x), some (zi z), some (zi y)] [] (I, L, zpj P, zsj S, 237 + t) Q := by
  refine Ew.ld f117_0 rfl rfl rfl rfl ?_
  refine Ew.call0 (ls0 := [some (zi x)]) f117_1 rfl (Nat.le_of_ble_eq_true rfl) rfl rfl (Nat.le_of_ble_eq_true rfl) trivial (Nat.le_of_ble_eq_true rfl) rfl rfl ?_
  refine sp_noTask (fun c1 => ?_) (fun c1 => ?_)
  · refine Ew.ifc f117_4 rfl rfl (fun h => absurd h (show ¬ (((nI 1) : Int32) = 0) by decide)) (fun _ => ?_)
    refine Ew.op (st' := zi ((-1)) :: _) f117_7 rfl rfl ?_
    refine Ew.goto f117_8 rfl ?_
    refine Ew.ireti f117_24 ?_
    exact h1 c1
  · refine Ew.ifc f117_4 rfl rfl (fun _ => ?_) (fun h => absurd (show ((nI 0) : Int32) = 0 by decide) h)
    exact h2 c1
theorem g117_11 {d c s : Nat} {t u n bb : Nat} {T : tT} {y z : Int32} {I : zI} {L : zL} {P : zP} {S : zS} {Q : Option zV → zM → Prop} (pt : P 2 0 2 u = some (3, n, 0)) (hc : cTr I P S bb n T) 
    (b1 : u < 4)
    (h1 : Ev d 0 0 110 0 [some (zr (some (3, n, 0))), some (zi z), some (zi y)] [] (I, L, zpj P, zsj S, 237 + t) (fun r M' => Ev (d + 1) c s 117 24 [some (zr (some (0, 0, 0))), some (zi (nI u)), some (zi z), some (zi y)] (zpush r []) M' Q)) : Ev (d + 1) c s 117 11 [some (zr (some (0, 0, 0))), some (zi (nI u)), some (zi z), some (zi y)] [] (I, L, zpj P, zsj S, 237 + t) Q := by
  refine Ew.ld f117_11 rfl rfl rfl rfl ?_
  refine Ew.getp (v := some (2, 0, 0)) f117_12 rfl rfl rfl ?_
  refine Ew.ld f117_15 rfl rfl rfl rfl ?_
  refine Ew.call0 (ls0 := [some (zr (some (2, 0, 0))), some (zi (nI u))]) f117_16 rfl (Nat.le_of_ble_eq_true rfl) rfl rfl (Nat.le_of_ble_eq_true rfl) rfl (Nat.le_of_ble_eq_true rfl) rfl rfl ?_
  refine Ew.ld f54_0 rfl rfl rfl rfl ?_
  refine Ew.getp (v := some (2, 0, 2)) f54_1 rfl rfl rfl ?_
  refine Ew.ld f54_4 rfl rfl rfl rfl ?_
  refine Ew.aaldn (v := some (3, n, 0)) f54_5 (Nat.le_of_ble_eq_true rfl) b1 (Nat.le_of_ble_eq_true rfl) rfl (show zpj P 2 0 2 u = _ from pt) ?_
  refine Ew.aret f54_6 ?_
  show Ev (d + 1) c s 117 19 [some (zr (some (0, 0, 0))), some (zi (nI u)), some (zi z), some (zi y)] [zr (some (3, n, 0))] (I, L, zpj P, zsj S, 237 + t) Q
  refine Ew.ld f117_19 rfl rfl rfl rfl ?_
  refine Ew.ld f117_20 rfl rfl rfl rfl ?_
  refine Ew.call0 (ls0 := [some (zr (some (3, n, 0))), some (zi z), some (zi y)]) f117_21 rfl (Nat.le_of_ble_eq_true rfl) rfl rfl (Nat.le_of_ble_eq_true rfl) (by show (S 3 n 0).1 = _; rw [hc.sh]) (Nat.le_of_ble_eq_true rfl) rfl rfl ?_
  exact h1
theorem g117_24 {d c s : Nat} {t : Nat} {x : Int32} {o1 o2 o3 : Option zV} {I : zI} {L : zL} {P : zP} {S : zS} {Q : Option zV → zM → Prop}
    (h1 : Q (some (zi x)) (I, L, zpj P, zsj S, 237 + t)) : Ev d c s 117 24 [some (zr (some (0, 0, 0))), o1, o2, o3] [zi x] (I, L, zpj P, zsj S, 237 + t) Q := by
  refine Ew.ireti f117_24 ?_
  exact h1
section
variable {d c s t B : Nat} {x y z : Int32} {σ : zSt} {I : zI} {L : zL} {P : zP} {S : zS} {Q : Option zV → zM → Prop}
theorem cp_turn (hG : zGood B σ) (hB : B < 2 ^ 29) (hC : zCls I L P S t σ) (k : cK I L S B (aTurn σ x).2 (zi (aTurn σ x).1) Q) : Ev (d + 6) c s 119 0 [some (zr (some (0, 0, 0))), some (zi x)] [] (I, L, zpj P, zsj S, 237 + t) Q := by
  unfold aTurn at k
  by_cases e : aIx x 4 = none
  · rw [e] at k
    exact g119_0i (fun _ => k I L P S t hC (hG.mono (by omega)) zFm.refl) (fun q => absurd e q)
  · obtain ⟨u, hu, ex, eu⟩ := aIx_ex e
    rw [eu] at k
    subst ex
    obtain ⟨hx, ti, huq, hO, hst, _⟩ := zG_f hG
    refine g119_0 (d := d + 5) (fun q => absurd q e) (fun _ => gm_Over (by decide) hu hC.1.1 hst (fun g => ?_) (fun g => ?_))
    · simp only [if_pos g] at k
      exact g119_17b (k I L P S t hC (hG.mono (by omega)) zFm.refl)
    · simp only [if_neg g] at k
      refine g119_17a (d := d + 5) (cp_keep (d := d + 4) hC (fun I1 P1 hC1 f1 => g119_34 (d := d + 5) ?_))
      refine gm_Turn (d := d + 1) (by decide) hu (hC1.1.ps hx) hC1.1.1 huq ti.1 (ti.ag (by omega)) (fun ρ' a b => g119_42 ?_)
      have hT := hO.tr
      have tx : ∀ i, (i = 0 ∨ 26 ≤ i) → rTurnW (tτ σ.w) u σ.w i = σ.w i := fun i hi => rTurnW_tx hT hu ti.1 hi
      exact k _ _ _ _ _ (hC1.row tx a) (hG.note (by omega) (hG.1.to tx ((ti.turn hT hu).mono (by omega)) b)) (f1.trans (zFm_so (by decide) (by decide)))
theorem cp_lay (hG : zGood B σ) (hC : zCls I L P S t σ) (k : cK I L S B (aLay σ).2 (zi (aLay σ).1) Q) : Ev (d + 4) c s 121 0 [some (zr (some (0, 0, 0)))] [] (I, L, zpj P, zsj S, 237 + t) Q := by
  unfold aLay at k
  obtain ⟨hx, ti, huq, hO, hst, _⟩ := zG_f hG
  refine g121_0 (d := d + 3) (gm_Unt (d := d + 1) hC.1.1 hst (fun g => ?_) (fun g => ?_))
  · rw [if_pos g] at k
    exact g121_7b (k I L P S t hC (hG.mono (by omega)) zFm.refl)
  · rw [if_neg g] at k
    refine g121_7a (d := d + 3) (cp_keep (d := d + 2) hC (fun I1 P1 hC1 f1 => g121_24 (d := d + 3) ?_))
    refine gm_Lay (d := d + 1) (hC1.1.ps hx) hC1.1.1 huq ti.1 ti.2.1 (fun ρ' a b => g121_31 ?_)
    have hT := hO.tr
    have tx : ∀ i, (i = 0 ∨ 26 ≤ i) → zup (rLayL (tτ σ.w) σ.w 4) 2 (nI 0) i = σ.w i := fun i hi => by rw [zup_n _ _ (by omega)]; exact rLayL_at hT ti.1 4 (Nat.le_refl _) i (by omega)
    exact k _ _ _ _ _ (hC1.row tx a) (hG.note (by omega) (hG.1.to tx ((ti.lay hT).mono (by omega)) b)) (f1.trans (zFm_so (by decide) (by decide)))
theorem so_1 {f : zI} {r j q n : Nat} {v : Int32} : zup4 f r j q n v = so f r j (zu (f r j) q n v) := rfl
theorem cp_rule (hG : zGood B σ) (hC : zCls I L P S t σ) (k : cK I L S B (aRule σ x).2 (zi (aRule σ x).1) Q) : Ev (d + 2) c s 118 0 [some (zr (some (0, 0, 0))), some (zi x), none] [] (I, L, zpj P, zsj S, 237 + t) Q := by
  unfold aRule at k
  obtain ⟨hx, ti, huq, hO, hst, _⟩ := zG_f hG
  by_cases e : aIx x 5 = none
  · rw [e] at k
    have kk := k I L P S t hC (hG.mono (by omega)) zFm.refl
    have no : ¬ (0 ≤ x ∧ x < nI 5) := fun ⟨a, b⟩ => absurd e (aIx_in (by decide) a b)
    exact g118_0 (d := d + 1) (fun _ => kk) (fun a b => absurd ⟨a, b⟩ no) (fun a b => absurd ⟨a, b⟩ no) (fun _ _ => kk)
  · obtain ⟨u, hu, ex, eu⟩ := aIx_ex e
    rw [eu] at k
    subst ex
    have h1 : I 2 0 0 3 = σ.w 1 := hC.1.1.1.2.1
    refine g118_0 (d := d + 1) (fun g => absurd g (nI_pos (by omega))) (fun _ _ g => ?_) (fun _ _ g => ?_) (fun _ g => absurd ((zlt_iff (by omega) (by decide)).mpr hu) (Int32.not_lt.mpr g))
    · rw [h1] at g ⊢
      simp only [if_neg (fun q => g (Eq.symm q))] at k
      refine cp_keep (d := d) hC (fun I1 P1 hC1 f1 => g118_38 (d := d + 1) ?_)
      rw [so_1]
      have ff := hC1.1.1.1
      have fl := cTI_fld (ρ' := zu (I1 2 0) 0 3 (nI u)) (w' := zup σ.w 1 (nI u)) hC1.1.1 huq ⟨by rw [zu_i_ne (by omega), zup_n _ _ (by omega)]; exact ff.1, by rw [zu_e, zup_s], by rw [zu_i_ne (by omega), zup_n _ _ (by omega)]; exact ff.2.2.1, by rw [zu_i_ne (by omega), zup_n _ _ (by omega)]; exact ff.2.2.2⟩ (fun q i hq => by rw [zu_i_ne (by omega)]) (fun i hi => zup_n _ _ (by omega))
      have tx : ∀ i, (i = 0 ∨ 26 ≤ i) → zup σ.w 1 (nI u) i = σ.w i := fun i hi => zup_n _ _ (by omega)
      exact k _ _ _ _ _ (hC1.row tx fl.1) (hG.note (by omega) (hG.1.to tx ((ti.rule hu).mono (by omega)) fl.2)) (f1.trans (zFm_so (by decide) (by decide)))
    · rw [h1] at g
      simp only [if_pos (Eq.symm g)] at k
      exact k I L P S t hC (hG.mono (by omega)) zFm.refl
theorem cp_seed (hG : zGood B σ) (hC : zCls I L P S t σ) (k : cK I L S B (aSeed σ x).2 (zi (aSeed σ x).1) Q) : Ev (d + 1) c s 132 0 [some (zr (some (0, 0, 0))), some (zi x)] [] (I, L, zpj P, zsj S, 237 + t) Q := by
  unfold aSeed at k
  obtain ⟨hx, ti, huq, hO, hst, _⟩ := zG_f hG
  refine g132_0 (fun g => ?_) (fun g => ?_)
  · rw [if_neg (Int32.not_lt.mpr g)] at k
    have ff := hC.1.1.1
    rw [ff.2.2.1, so_1]
    have fl := cTI_fld (ρ' := zu (I 2 0) 0 4 x) (w' := zup σ.w 3 x) hC.1.1 huq ⟨by rw [zu_i_ne (by omega), zup_n _ _ (by omega)]; exact ff.1, by rw [zu_i_ne (by omega), zup_n _ _ (by omega)]; exact ff.2.1, by rw [zu_e, zup_s], by rw [zu_i_ne (by omega), zup_n _ _ (by omega)]; exact ff.2.2.2⟩ (fun q i hq => by rw [zu_i_ne (by omega)]) (fun i hi => zup_n _ _ (by omega))
    have tx : ∀ i, (i = 0 ∨ 26 ≤ i) → zup σ.w 3 x i = σ.w i := fun i hi => zup_n _ _ (by omega)
    obtain ⟨_, _, ⟨n1, n2, n3, n4⟩⟩ := id ti
    have t2 : tI B (tτ σ.w) (zup σ.w 3 x) := ti.same (fun i g => zup_n _ _ (by omega)) (by rw [zup_n _ _ (by omega)]; exact n1) (by rw [zup_n _ _ (by omega)]; exact n2) (by rw [zup_s]; exact g)
    have hG2 := hG.mono (B' := B + 40) (by omega)
    exact k _ _ _ _ _ (hC.row tx fl.1) ⟨hG.1.to tx (t2.mono (by omega)) fl.2, hG2.2⟩ (zFm_so (by decide) (by decide))
  · rw [if_pos g] at k
    exact k I L P S t hC (hG.mono (by omega)) zFm.refl
theorem cp_gate (hG : zGood B σ) (hC : zCls I L P S t σ) (k : Q (some (zi (aGate σ x y))) (I, L, zpj P, zsj S, 237 + t)) : Ev (d + 3) c s 122 0 [some (zr (some (0, 0, 0))), some (zi x), some (zi y)] [] (I, L, zpj P, zsj S, 237 + t) Q := by
  obtain ⟨hx, ti, huq, hO, hst, _⟩ := zG_f hG
  by_cases e : aIx x 6 = none
  · unfold aGate at k
    rw [e] at k
    exact g122_0i (fun _ => k) (fun q => absurd e q)
  · obtain ⟨u, hu, ex, eu⟩ := aIx_ex e
    subst ex
    rw [aGate_c σ hu] at k
    exact g122_0i (d := d + 2) (fun q => absurd q e) (fun _ => g122_11 (d := d + 2) (gm_TellG (d := d) hu hC.1.1 ⟨tG σ.w, hx.1.2, hx.1.1⟩ (g122_20 k)))
theorem cp_task (hG : zGood B σ) (hC : zCls I L P S t σ) (k : Q (some (zi (aTask σ x y))) (I, L, zpj P, zsj S, 237 + t)) : Ev (d + 4) c s 123 0 [some (zr (some (0, 0, 0))), some (zi x), some (zi y)] [] (I, L, zpj P, zsj S, 237 + t) Q := by
  obtain ⟨hx, ti, huq, hO, hst, hwt⟩ := zG_f hG
  by_cases e : aIx x 4 = none
  · unfold aTask at k
    rw [e] at k
    exact g123_0i (fun _ => k) (fun q => absurd e q)
  · obtain ⟨u, hu, ex, eu⟩ := aIx_ex e
    subst ex
    rw [aTask_c σ hu] at k
    exact g123_0i (d := d + 3) (fun q => absurd q e) (fun _ => g123_11 (d := d + 3) (gm_TellT (d := d) hu hC.1.1 huq hwt (g123_20 k)))
theorem cp_count (hG : zGood B σ) (hC : zCls I L P S t σ) (k : Q (some (zi (aCount σ x))) (I, L, zpj P, zsj S, 237 + t)) : Ev (d + 5) c s 124 0 [some (zr (some (0, 0, 0))), some (zi x)] [] (I, L, zpj P, zsj S, 237 + t) Q := by
  obtain ⟨hx, ti, huq, hO, hst, hwt⟩ := zG_f hG
  rw [aCount_c] at k
  refine g124_0 (d := d + 4) (fun g => ?_) (fun g => ?_)
  · rw [if_neg g] at k
    exact gm_TellA (d := d) hC.1.1 hwt (g124_24 k)
  · rw [if_pos g] at k
    obtain ⟨p, _, _, hs, _⟩ := hC.2.1
    rw [hs]
    exact k
theorem cp_alone (hG : zGood B σ) (hC : zCls I L P S t σ) (k : Q (some (zi (aAlone σ x y))) (I, L, zpj P, zsj S, 237 + t)) : Ev (d + 1) c s 116 0 [some (zr (some (0, 0, 0))), some (zi x), some (zi y)] [] (I, L, zpj P, zsj S, 237 + t) Q := by
  by_cases e : aIx x 4 = none
  · unfold aAlone at k
    rw [e] at k
    exact g116_0i (fun _ => k) (fun q => absurd e q)
  · obtain ⟨u, hu, ex, eu⟩ := aIx_ex e
    subst ex
    rw [aAlone_c σ hu] at k
    obtain ⟨_, n, pn, cn⟩ := hC.1.2 u hu
    exact g116_0i (d := d) (fun q => absurd q e) (fun _ => g116_11 (d := d) pn cn hu (sp_tSum cn (g116_23 k)))
theorem cp_step (hG : zGood B σ) (hC : zCls I L P S t σ) (k : Q (some (zi (aStep σ x z y))) (I, L, zpj P, zsj S, 237 + t)) : Ev (d + 2) c s 117 0 [some (zr (some (0, 0, 0))), some (zi x), some (zi z), some (zi y)] [] (I, L, zpj P, zsj S, 237 + t) Q := by
  by_cases e : aIx x 4 = none
  · unfold aStep at k
    rw [e] at k
    exact g117_0i (fun _ => k) (fun q => absurd e q)
  · obtain ⟨u, hu, ex, eu⟩ := aIx_ex e
    subst ex
    rw [aStep_c σ hu] at k
    obtain ⟨_, n, pn, cn⟩ := hC.1.2 u hu
    exact g117_0i (d := d + 1) (fun q => absurd q e) (fun _ => g117_11 (d := d + 1) pn cn hu (sp_tDet (d := d) cn (g117_24 k)))
end
