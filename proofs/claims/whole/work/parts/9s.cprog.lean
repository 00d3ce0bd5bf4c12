/-! the class: program -/
theorem g72_0 {d c s : Nat} {u m n : Nat} {X : zM} {ρ : Nat → Nat → Int32} {l : Nat → Nat → Int64} {Q : Option zV → zM → Prop} (sm : X.2.2.2.1 3 m 0 = (5, 0)) (sn : X.2.2.2.1 3 n 0 = (9, 0)) 
    (b1 : u < 4)
    (b2 : u < 4)
    (h1 : Ev d 0 0 87 0 [some (zr (some (2, 0, 0))), some (zi (nI u))] [] (OM (XP (XP X 2 0 1 u (some (3, m, 0))) 2 0 2 u (some (3, n, 0))) 2 0 ρ l) (fun r M' => Ev (d + 1) c s 72 19 [some (zr (some (2, 0, 0))), some (zi (nI u)), some (zr (some (3, m, 0))), some (zr (some (3, n, 0)))] (zpush r []) M' Q)) : Ev (d + 1) c s 72 0 [some (zr (some (2, 0, 0))), some (zi (nI u)), some (zr (some (3, m, 0))), some (zr (some (3, n, 0)))] [] (OM X 2 0 ρ l) Q := by
  refine Ew.ld f72_0 rfl rfl rfl rfl ?_
  refine Ew.getp (v := some (2, 0, 1)) f72_1 rfl rfl rfl ?_
  refine Ew.ld f72_4 rfl rfl rfl rfl ?_
  refine Ew.ld f72_5 rfl rfl rfl rfl ?_
  refine Ew.aastn f72_6 (Nat.le_of_ble_eq_true rfl) (by show (X.2.2.2.1 3 m 0).1 = zel (zsj X.2.2.2.1 2 0 1).1; rw [sm]; rfl) b1 (Nat.le_of_ble_eq_true rfl) rfl ?_
  rw [zpj_up (r := 2) (j := 0) (q := 1) (n := u) (fun _ => rfl)]
  show Ev (d + 1) c s 72 7 [some (zr (some (2, 0, 0))), some (zi (nI u)), some (zr (some (3, m, 0))), some (zr (some (3, n, 0)))] [] (OM (XP X 2 0 1 u (some (3, m, 0))) 2 0 ρ l) Q
  refine Ew.ld f72_7 rfl rfl rfl rfl ?_
  refine Ew.getp (v := some (2, 0, 2)) f72_8 rfl rfl rfl ?_
  refine Ew.ld f72_11 rfl rfl rfl rfl ?_
  refine Ew.ld f72_12 rfl rfl rfl rfl ?_
  refine Ew.aastn f72_13 (Nat.le_of_ble_eq_true rfl) (by show (X.2.2.2.1 3 n 0).1 = zel (zsj X.2.2.2.1 2 0 2).1; rw [sn]; rfl) b2 (Nat.le_of_ble_eq_true rfl) rfl ?_
  rw [zpj_up (r := 2) (j := 0) (q := 2) (n := u) (fun _ => rfl)]
  show Ev (d + 1) c s 72 14 [some (zr (some (2, 0, 0))), some (zi (nI u)), some (zr (some (3, m, 0))), some (zr (some (3, n, 0)))] [] (OM (XP (XP X 2 0 1 u (some (3, m, 0))) 2 0 2 u (some (3, n, 0))) 2 0 ρ l) Q
  refine Ew.ld f72_14 rfl rfl rfl rfl ?_
  refine Ew.ld f72_15 rfl rfl rfl rfl ?_
  refine Ew.call0 (ls0 := [some (zr (some (2, 0, 0))), some (zi (nI u))]) f72_16 rfl (Nat.le_of_ble_eq_true rfl) rfl rfl (Nat.le_of_ble_eq_true rfl) rfl (Nat.le_of_ble_eq_true rfl) rfl rfl ?_
  exact h1
theorem g72_19 {d c s : Nat} {u m n : Nat} {X : zM} {ρ : Nat → Nat → Int32} {l : Nat → Nat → Int64} {Q : Option zV → zM → Prop}
    (h1 : Q none (OM X 2 0 ρ l)) : Ev d c s 72 19 [some (zr (some (2, 0, 0))), some (zi (nI u)), some (zr (some (3, m, 0))), some (zr (some (3, n, 0)))] [] (OM X 2 0 ρ l) Q := by
  refine Ew.vret f72_19 ?_
  exact h1
theorem g148_0 {d c s : Nat} {t u : Nat} {I : zI} {L : zL} {P : zP} {S : zS} {Q : Option zV → zM → Prop}
    (h1 : Ev d 0 0 92 0 [some (zr (some (0, 0, 1))), none] [] (I, L, zpj P, zsj S, 237 + t) (fun r M' => Ev (d + 1) c s 148 7 [some (zr (some (0, 0, 0))), some (zi (nI u)), none, none] (zpush r []) M' Q)) : Ev (d + 1) c s 148 0 [some (zr (some (0, 0, 0))), some (zi (nI u)), none, none] [] (I, L, zpj P, zsj S, 237 + t) Q := by
  refine Ew.ld f148_0 rfl rfl rfl rfl ?_
  refine Ew.getp (v := some (0, 0, 1)) f148_1 rfl rfl rfl ?_
  refine Ew.call0 (ls0 := [some (zr (some (0, 0, 1))), none]) f148_4 rfl (Nat.le_of_ble_eq_true rfl) rfl rfl (Nat.le_of_ble_eq_true rfl) rfl (Nat.le_of_ble_eq_true rfl) rfl rfl ?_
  exact h1
theorem g148_7 {d c s : Nat} {t u : Nat} {p : Int32} {I : zI} {L : zL} {P : zP} {S : zS} {Q : Option zV → zM → Prop}
    (h1 : (p = ((-4))) → Ev d c s 148 19 [some (zr (some (0, 0, 0))), some (zi (nI u)), some (zi p), none] [] (I, L, zpj P, zsj S, 237 + t) Q)
    (h2 : (¬ p = ((-4))) → Q (some (zi (((-20)) - p))) (I, L, zpj P, zsj S, 237 + t)) : Ev d c s 148 7 [some (zr (some (0, 0, 0))), some (zi (nI u)), none, none] [zi p] (I, L, zpj P, zsj S, 237 + t) Q := by
  refine Ew.sr (ls' := [some (zr (some (0, 0, 0))), some (zi (nI u)), some (zi p), none]) f148_7 rfl rfl (Nat.le_of_ble_eq_true rfl) rfl rfl ?_
  refine Ew.ld f148_8 rfl rfl rfl rfl ?_
  refine Ew.op (st' := zi ((-4)) :: _) f148_9 rfl rfl ?_
  refine Ew.icmp f148_11 rfl rfl (fun c1 => ?_) (fun c1 => ?_)
  · exact h1 c1
  · refine Ew.op (st' := zi ((-20)) :: _) f148_14 rfl rfl ?_
    refine Ew.ld f148_16 rfl rfl rfl rfl ?_
    refine Ew.op (st' := zi (((-20)) - p) :: _) f148_17 rfl rfl ?_
    refine Ew.ireti f148_18 ?_
    exact h2 c1
theorem g148_19 {d c s : Nat} {t u : Nat} {p : Int32} {I : zI} {L : zL} {P : zP} {S : zS} {Q : Option zV → zM → Prop}
    (h1 : Ev d 3 121 93 0 [some (zr (some (0, 0, 1))), none, none, none] [] (I, L, zpj P, zsj S, 237 + t) (fun r M' => Ev (d + 1) c s 148 26 [some (zr (some (0, 0, 0))), some (zi (nI u)), some (zi p), none] (zpush r []) M' Q)) : Ev (d + 1) (c + 3) (s + 121) 148 19 [some (zr (some (0, 0, 0))), some (zi (nI u)), some (zi p), none] [] (I, L, zpj P, zsj S, 237 + t) Q := by
  refine Ew.ld f148_19 rfl rfl rfl rfl ?_
  refine Ew.getp (v := some (0, 0, 1)) f148_20 rfl rfl rfl ?_
  refine Ew.callB (c := c) (s := s) (ls0 := [some (zr (some (0, 0, 1))), none, none, none]) f148_23 rfl (Nat.le_of_ble_eq_true rfl) rfl rfl (Nat.le_of_ble_eq_true rfl) rfl (Nat.le_of_ble_eq_true rfl) rfl rfl ?_
  exact h1
theorem g148_26 {d c s : Nat} {t u m G : Nat} {p : Int32} {I : zI} {L : zL} {P : zP} {S : zS} {Q : Option zV → zM → Prop} (sm : S 3 m 0 = (5, 0)) (hG : I 2 0 0 2 = nI G) 
    (h1 : Ev d 0 0 24 0 [some (zr (some (0, 0, 4))), some (zr (some (3, m, 0))), some (zi (nI G))] [] (I, L, zpj P, zsj S, 237 + t) (fun r M' => Ev (d + 1) c s 148 42 [some (zr (some (0, 0, 0))), some (zi (nI u)), some (zi p), some (zr (some (3, m, 0)))] (zpush r []) M' Q)) : Ev (d + 1) c s 148 26 [some (zr (some (0, 0, 0))), some (zi (nI u)), some (zi p), none] [zr (some (3, m, 0))] (I, L, zpj P, zsj S, 237 + t) Q := by
  refine Ew.sr (ls' := [some (zr (some (0, 0, 0))), some (zi (nI u)), some (zi p), some (zr (some (3, m, 0)))]) f148_26 rfl rfl (Nat.le_of_ble_eq_true rfl) rfl rfl ?_
  refine Ew.ld f148_27 rfl rfl rfl rfl ?_
  refine Ew.getp (v := some (0, 0, 4)) f148_28 rfl rfl rfl ?_
  refine Ew.ld f148_31 rfl rfl rfl rfl ?_
  refine Ew.ld f148_32 rfl rfl rfl rfl ?_
  refine Ew.getp (v := some (2, 0, 0)) f148_33 rfl rfl rfl ?_
  refine Ew.call0 (ls0 := [some (zr (some (2, 0, 0)))]) f148_36 rfl (Nat.le_of_ble_eq_true rfl) rfl rfl (Nat.le_of_ble_eq_true rfl) rfl (Nat.le_of_ble_eq_true rfl) rfl rfl ?_
  refine Ew.ld f55_0 rfl rfl rfl rfl ?_
  refine Ew.getiV (v := nI G) f55_1 rfl hG rfl ?_
  refine Ew.ireti f55_4 ?_
  show Ev (d + 1) c s 148 39 [some (zr (some (0, 0, 0))), some (zi (nI u)), some (zi p), some (zr (some (3, m, 0)))] [zi (nI G), zr (some (3, m, 0)), zr (some (0, 0, 4))] (I, L, zpj P, zsj S, 237 + t) Q
  refine Ew.call0 (ls0 := [some (zr (some (0, 0, 4))), some (zr (some (3, m, 0))), some (zi (nI G))]) f148_39 rfl (Nat.le_of_ble_eq_true rfl) rfl rfl (Nat.le_of_ble_eq_true rfl) rfl (Nat.le_of_ble_eq_true rfl) rfl rfl ?_
  exact h1
theorem g148_42a {d c s : Nat} {t u m : Nat} {p : Int32} {I : zI} {L : zL} {P : zP} {S : zS} {Q : Option zV → zM → Prop} (sm : S 3 m 0 = (5, 0)) 
    (h1 : Q (some (zi ((-3)))) (I, L, zpj P, zsj S, 237 + t)) : Ev d c s 148 42 [some (zr (some (0, 0, 0))), some (zi (nI u)), some (zi p), some (zr (some (3, m, 0)))] [zi (nI 0)] (I, L, zpj P, zsj S, 237 + t) Q := by
  refine Ew.ifc f148_42 rfl rfl (fun h => absurd h (show ¬ (¬ ((nI 0) : Int32) = 0) by decide)) (fun _ => ?_)
  refine Ew.op (st' := zi ((-3)) :: _) f148_45 rfl rfl ?_
  refine Ew.ireti f148_47 ?_
  exact h1
theorem g148_42b {d c s : Nat} {t u m : Nat} {p : Int32} {I : zI} {L : zL} {P : zP} {S : zS} {Q : Option zV → zM → Prop} (sm : S 3 m 0 = (5, 0)) 
    (h1 : Ev d 0 0 2 0 [some (zr (some (4, 0, 0))), some (zr (some (2, 0, 0)))] [] (I, L, zpj P, zsj S, 237 + t) (fun r M' => Ev (d + 1) c s 148 59 [some (zr (some (0, 0, 0))), some (zi (nI u)), some (zi p), some (zr (some (3, m, 0)))] (zpush r []) M' Q)) : Ev (d + 1) c s 148 42 [some (zr (some (0, 0, 0))), some (zi (nI u)), some (zi p), some (zr (some (3, m, 0)))] [zi (nI 1)] (I, L, zpj P, zsj S, 237 + t) Q := by
  refine Ew.ifc f148_42 rfl rfl (fun _ => ?_) (fun h => absurd (show ¬ ((nI 1) : Int32) = 0 by decide) h)
  refine Ew.ld f148_48 rfl rfl rfl rfl ?_
  refine Ew.getp (v := some (4, 0, 0)) f148_49 rfl rfl rfl ?_
  refine Ew.ld f148_52 rfl rfl rfl rfl ?_
  refine Ew.getp (v := some (2, 0, 0)) f148_53 rfl rfl rfl ?_
  refine Ew.call0 (ls0 := [some (zr (some (4, 0, 0))), some (zr (some (2, 0, 0)))]) f148_56 rfl (Nat.le_of_ble_eq_true rfl) rfl rfl (Nat.le_of_ble_eq_true rfl) rfl (Nat.le_of_ble_eq_true rfl) rfl rfl ?_
  exact h1
theorem g148_59 {d c s : Nat} {t u m : Nat} {p : Int32} {I : zI} {L : zL} {P : zP} {S : zS} {Q : Option zV → zM → Prop} (sm : S 3 m 0 = (5, 0)) 
    (h1 : Ev d c s 148 65 [some (zr (some (0, 0, 0))), some (zi (nI u)), some (zi p), some (zr (some (3, m, 0)))] [zr (some (3, m, 0)), zi (nI u), zr (some (2, 0, 0))] (I, L, zpj P, zsj S, 237 + t) Q) : Ev d c s 148 59 [some (zr (some (0, 0, 0))), some (zi (nI u)), some (zi p), some (zr (some (3, m, 0)))] [] (I, L, zpj P, zsj S, 237 + t) Q := by
  refine Ew.ld f148_59 rfl rfl rfl rfl ?_
  refine Ew.getp (v := some (2, 0, 0)) f148_60 rfl rfl rfl ?_
  refine Ew.ld f148_63 rfl rfl rfl rfl ?_
  refine Ew.ld f148_64 rfl rfl rfl rfl ?_
  exact h1
theorem g148_68 {d c s : Nat} {t u m n : Nat} {p : Int32} {I : zI} {L : zL} {P : zP} {S : zS} {Q : Option zV → zM → Prop} (sm : S 3 m 0 = (5, 0)) (sn : S 3 n 0 = (9, 0)) 
    (h1 : Ev d 4 124 98 0 [some (zr (some (3, n, 0))), some (zr (some (0, 0, 4)))] [] (I, L, zpj P, zsj S, 237 + t) (fun r M' => Ev (d + 1) c s 148 76 [some (zr (some (0, 0, 0))), some (zi (nI u)), some (zi p), some (zr (some (3, m, 0)))] (zpush r [zr (some (3, n, 0)), zr (some (3, m, 0)), zi (nI u), zr (some (2, 0, 0))]) M' Q)) : Ev (d + 1) (c + 4) (s + 124) 148 68 [some (zr (some (0, 0, 0))), some (zi (nI u)), some (zi p), some (zr (some (3, m, 0)))] [zr (some (3, n, 0)), zr (some (3, m, 0)), zi (nI u), zr (some (2, 0, 0))] (I, L, zpj P, zsj S, 237 + t) Q := by
  refine Ew.op (st' := zr (some (3, n, 0)) :: zr (some (3, n, 0)) :: _) f148_68 rfl rfl ?_
  refine Ew.ld f148_69 rfl rfl rfl rfl ?_
  refine Ew.getp (v := some (0, 0, 4)) f148_70 rfl rfl rfl ?_
  refine Ew.callB (c := c) (s := s) (ls0 := [some (zr (some (3, n, 0))), some (zr (some (0, 0, 4)))]) f148_73 rfl (Nat.le_of_ble_eq_true rfl) rfl rfl (Nat.le_of_ble_eq_true rfl) trivial (Nat.le_of_ble_eq_true rfl) rfl rfl ?_
  exact h1
theorem g148_76 {d c s : Nat} {t u m n : Nat} {p : Int32} {I : zI} {L : zL} {P : zP} {S : zS} {Q : Option zV → zM → Prop} (sm : S 3 m 0 = (5, 0)) (sn : S 3 n 0 = (9, 0)) 
    (h1 : Ev d 0 0 72 0 [some (zr (some (2, 0, 0))), some (zi (nI u)), some (zr (some (3, m, 0))), some (zr (some (3, n, 0)))] [] (I, L, zpj P, zsj S, 237 + t) (fun r M' => Ev (d + 1) c s 148 79 [some (zr (some (0, 0, 0))), some (zi (nI u)), some (zi p), some (zr (some (3, m, 0)))] (zpush r []) M' Q)) : Ev (d + 1) c s 148 76 [some (zr (some (0, 0, 0))), some (zi (nI u)), some (zi p), some (zr (some (3, m, 0)))] [zr (some (3, n, 0)), zr (some (3, m, 0)), zi (nI u), zr (some (2, 0, 0))] (I, L, zpj P, zsj S, 237 + t) Q := by
  refine Ew.call0 (ls0 := [some (zr (some (2, 0, 0))), some (zi (nI u)), some (zr (some (3, m, 0))), some (zr (some (3, n, 0)))]) f148_76 rfl (Nat.le_of_ble_eq_true rfl) rfl rfl (Nat.le_of_ble_eq_true rfl) rfl (Nat.le_of_ble_eq_true rfl) rfl rfl ?_
  exact h1
theorem g148_79 {d c s : Nat} {t u m n bb : Nat} {T : tT} {p : Int32} {I : zI} {L : zL} {P : zP} {S : zS} {Q : Option zV → zM → Prop} (pt : P 2 0 2 u = some (3, n, 0)) (hc : cTr I P S bb n T) 
    (b1 : u < 4)
    (b2 : cTr I P S bb n T)
    (h1 : Q (some (zi (nI T.n))) (I, L, zpj P, zsj S, 237 + t)) : Ev (d + 1) c s 148 79 [some (zr (some (0, 0, 0))), some (zi (nI u)), some (zi p), some (zr (some (3, m, 0)))] [] (I, L, zpj P, zsj S, 237 + t) Q := by
  refine Ew.ld f148_79 rfl rfl rfl rfl ?_
  refine Ew.getp (v := some (2, 0, 0)) f148_80 rfl rfl rfl ?_
  refine Ew.ld f148_83 rfl rfl rfl rfl ?_
  refine Ew.call0 (ls0 := [some (zr (some (2, 0, 0))), some (zi (nI u))]) f148_84 rfl (Nat.le_of_ble_eq_true rfl) rfl rfl (Nat.le_of_ble_eq_true rfl) rfl (Nat.le_of_ble_eq_true rfl) rfl rfl ?_
  refine Ew.ld f54_0 rfl rfl rfl rfl ?_
  refine Ew.getp (v := some (2, 0, 2)) f54_1 rfl rfl rfl ?_
  refine Ew.ld f54_4 rfl rfl rfl rfl ?_
  refine Ew.aaldn (v := some (3, n, 0)) f54_5 (Nat.le_of_ble_eq_true rfl) b1 (Nat.le_of_ble_eq_true rfl) rfl (show zpj P 2 0 2 u = _ from pt) ?_
  refine Ew.aret f54_6 ?_
  show Ev (d + 1) c s 148 87 [some (zr (some (0, 0, 0))), some (zi (nI u)), some (zi p), some (zr (some (3, m, 0)))] [zr (some (3, n, 0))] (I, L, zpj P, zsj S, 237 + t) Q
  refine Ew.call0 (ls0 := [some (zr (some (3, n, 0)))]) f148_87 rfl (Nat.le_of_ble_eq_true rfl) rfl rfl (Nat.le_of_ble_eq_true rfl) (by show (S 3 n 0).1 = _; rw [hc.sh]) (Nat.le_of_ble_eq_true rfl) rfl rfl ?_
  refine sp_tLen b2 ?_
  show Ev (d + 1) c s 148 90 [some (zr (some (0, 0, 0))), some (zi (nI u)), some (zi p), some (zr (some (3, m, 0)))] [zi (nI T.n)] (I, L, zpj P, zsj S, 237 + t) Q
  refine Ew.ireti f148_90 ?_
  exact h1
theorem g113_0i {d c s : Nat} {t : Nat} {x : Int32} {I : zI} {L : zL} {P : zP} {S : zS} {Q : Option zV → zM → Prop}
    (h1 : (aIx x 4 = none) → Q (some (zi ((-1)))) (I, L, zpj P, zsj S, 237 + t))
    (h2 : (¬ (aIx x 4 = none)) → Ev (d + 1) c s 113 9 [some (zr (some (0, 0, 0))), some (zi x), none] [] (I, L, zpj P, zsj S, 237 + t) Q) : Ev (d + 1) c s 113 0 [some (zr (some (0, 0, 0))), some (zi x), none] [] (I, L, zpj P, zsj S, 237 + t) Q := by
  refine Ew.ld f113_0 rfl rfl rfl rfl ?_
  refine Ew.call0 (ls0 := [some (zi x)]) f113_1 rfl (Nat.le_of_ble_eq_true rfl) rfl rfl (Nat.le_of_ble_eq_true rfl) trivial (Nat.le_of_ble_eq_true rfl) rfl rfl ?_
  refine sp_noTask (fun c1 => ?_) (fun c1 => ?_)
  · refine Ew.ifc f113_4 rfl rfl (fun h => absurd h (show ¬ (((nI 1) : Int32) = 0) by decide)) (fun _ => ?_)
    refine Ew.op (st' := zi ((-1)) :: _) f113_7 rfl rfl ?_
    refine Ew.ireti f113_8 ?_
    exact h1 c1
  · refine Ew.ifc f113_4 rfl rfl (fun _ => ?_) (fun h => absurd (show ((nI 0) : Int32) = 0 by decide) h)
    exact h2 c1
theorem g113_9 {d c s : Nat} {t u : Nat} {I : zI} {L : zL} {P : zP} {S : zS} {Q : Option zV → zM → Prop}
    (h1 : Ev d 0 0 60 0 [some (zr (some (2, 0, 0)))] [] (I, L, zpj P, zsj S, 237 + t) (fun r M' => Ev (d + 1) c s 113 16 [some (zr (some (0, 0, 0))), some (zi (nI u)), none] (zpush r []) M' Q)) : Ev (d + 1) c s 113 9 [some (zr (some (0, 0, 0))), some (zi (nI u)), none] [] (I, L, zpj P, zsj S, 237 + t) Q := by
  refine Ew.ld f113_9 rfl rfl rfl rfl ?_
  refine Ew.getp (v := some (2, 0, 0)) f113_10 rfl rfl rfl ?_
  refine Ew.call0 (ls0 := [some (zr (some (2, 0, 0)))]) f113_13 rfl (Nat.le_of_ble_eq_true rfl) rfl rfl (Nat.le_of_ble_eq_true rfl) rfl (Nat.le_of_ble_eq_true rfl) rfl rfl ?_
  exact h1
theorem g113_16a {d c s : Nat} {t u : Nat} {I : zI} {L : zL} {P : zP} {S : zS} {Q : Option zV → zM → Prop}
    (h1 : Ev d 8 255 148 0 [some (zr (some (0, 0, 0))), some (zi (nI u)), none, none] [] (I, L, zpj P, zsj S, 237 + t) (fun r M' => Ev (d + 1) c s 113 29 [some (zr (some (0, 0, 0))), some (zi (nI u)), none] (zpush r []) M' Q)) : Ev (d + 1) (c + 8) (s + 255) 113 16 [some (zr (some (0, 0, 0))), some (zi (nI u)), none] [zi (nI 0)] (I, L, zpj P, zsj S, 237 + t) Q := by
  refine Ew.ifc f113_16 rfl rfl (fun _ => ?_) (fun h => absurd (show ((nI 0) : Int32) = 0 by decide) h)
  refine Ew.ld f113_24 rfl rfl rfl rfl ?_
  refine Ew.ld f113_25 rfl rfl rfl rfl ?_
  refine Ew.callB (c := c) (s := s) (ls0 := [some (zr (some (0, 0, 0))), some (zi (nI u)), none, none]) f113_26 rfl (Nat.le_of_ble_eq_true rfl) rfl rfl (Nat.le_of_ble_eq_true rfl) rfl (Nat.le_of_ble_eq_true rfl) rfl rfl ?_
  exact h1
theorem g113_16b {d c s : Nat} {t u : Nat} {I : zI} {L : zL} {P : zP} {S : zS} {Q : Option zV → zM → Prop}
    (h1 : Ev d 0 0 91 0 [some (zr (some (0, 0, 1)))] [] (I, L, zpj P, zsj S, 237 + t) (fun r M' => Ev (d + 1) c s 113 37 [some (zr (some (0, 0, 0))), some (zi (nI u)), some (zi ((-2)))] (zpush r []) M' Q)) : Ev (d + 1) c s 113 16 [some (zr (some (0, 0, 0))), some (zi (nI u)), none] [zi (nI 1)] (I, L, zpj P, zsj S, 237 + t) Q := by
  refine Ew.ifc f113_16 rfl rfl (fun h => absurd h (show ¬ (((nI 1) : Int32) = 0) by decide)) (fun _ => ?_)
  refine Ew.op (st' := zi ((-2)) :: _) f113_19 rfl rfl ?_
  refine Ew.goto f113_21 rfl ?_
  refine Ew.sr (ls' := [some (zr (some (0, 0, 0))), some (zi (nI u)), some (zi ((-2)))]) f113_29 rfl rfl (Nat.le_of_ble_eq_true rfl) rfl rfl ?_
  refine Ew.ld f113_30 rfl rfl rfl rfl ?_
  refine Ew.getp (v := some (0, 0, 1)) f113_31 rfl rfl rfl ?_
  refine Ew.call0 (ls0 := [some (zr (some (0, 0, 1)))]) f113_34 rfl (Nat.le_of_ble_eq_true rfl) rfl rfl (Nat.le_of_ble_eq_true rfl) rfl (Nat.le_of_ble_eq_true rfl) rfl rfl ?_
  exact h1
theorem g113_29 {d c s : Nat} {t u : Nat} {y : Int32} {I : zI} {L : zL} {P : zP} {S : zS} {Q : Option zV → zM → Prop}
    (h1 : Ev d 0 0 91 0 [some (zr (some (0, 0, 1)))] [] (I, L, zpj P, zsj S, 237 + t) (fun r M' => Ev (d + 1) c s 113 37 [some (zr (some (0, 0, 0))), some (zi (nI u)), some (zi y)] (zpush r []) M' Q)) : Ev (d + 1) c s 113 29 [some (zr (some (0, 0, 0))), some (zi (nI u)), none] [zi y] (I, L, zpj P, zsj S, 237 + t) Q := by
  refine Ew.sr (ls' := [some (zr (some (0, 0, 0))), some (zi (nI u)), some (zi y)]) f113_29 rfl rfl (Nat.le_of_ble_eq_true rfl) rfl rfl ?_
  refine Ew.ld f113_30 rfl rfl rfl rfl ?_
  refine Ew.getp (v := some (0, 0, 1)) f113_31 rfl rfl rfl ?_
  refine Ew.call0 (ls0 := [some (zr (some (0, 0, 1)))]) f113_34 rfl (Nat.le_of_ble_eq_true rfl) rfl rfl (Nat.le_of_ble_eq_true rfl) rfl (Nat.le_of_ble_eq_true rfl) rfl rfl ?_
  exact h1
theorem g113_37 {d c s : Nat} {t u : Nat} {y : Int32} {I : zI} {L : zL} {P : zP} {S : zS} {Q : Option zV → zM → Prop}
    (h1 : Q (some (zi y)) (I, L, zpj P, zsj S, 237 + t)) : Ev d c s 113 37 [some (zr (some (0, 0, 0))), some (zi (nI u)), some (zi y)] [] (I, L, zpj P, zsj S, 237 + t) Q := by
  refine Ew.ld f113_37 rfl rfl rfl rfl ?_
  refine Ew.ireti f113_38 ?_
  exact h1
theorem kScan_le : ∀ (T : List Nat) (k : Nat) (x : kSt) (p : Nat), kScan T k x = Sum.inl p → p < k + T.length := by
  intro T
  induction T with
  | nil => intro k x p h; cases h
  | cons a T ih =>
    intro k x p h
    have h : (if a = 32 then kScan T (k + 1) x else match kStep x a with
      | none => Sum.inl k
      | some y => kScan T (k + 1) y) = Sum.inl p := h
    show p < k + (T.length + 1)
    split at h
    · have := ih _ _ _ h; omega
    · split at h
      · have := Sum.inl.inj h; omega
      · have := ih _ _ _ h; omega
theorem aFlt_le {T : List Nat} {p : Nat} (h : aFlt T = some p) : p ≤ T.length := by
  unfold aFlt at h
  split at h
  · rename_i k e
    have := kScan_le _ _ _ _ e
    have := Option.some.inj h
    omega
  · split at h
    · cases h
    · have := Option.some.inj h; omega
def aTold (σ : zSt) (u : Nat) : Int32 × zSt := match aFlt σ.T with
  | some p => (-20 - nI p, σ)
  | none => if tOvB (aProgW u (aDense σ.T) σ.w) = true then (-3, σ) else (nI (tTr (aProgW u (aDense σ.T) σ.w) u).n, (aProgW u (aDense σ.T) σ.w, hNote σ.H σ.w, σ.2.2))
section
variable {d c s t B : Nat} {x y z : Int32} {σ : zSt} {I I' : zI} {L L' : zL} {P P' : zP} {S S' : zS} {Q : Option zV → zM → Prop}
theorem cFn.old {t b : Nat} (h : cFn t I L P S I' L' P' S') (hb : b ≤ t + 9) : cOld b I P S I' P' S' := fun n hn => by
  have := h 3 n 0 (by omega)
  exact ⟨this.1, this.2.2.1, this.2.2.2⟩
theorem cFn.fm {t : Nat} (h : cFn t I L P S I' L' P' S') : zFm I L S I' L' S' := fun r hr => ⟨funext fun j => funext fun q => (h r j q (by omega)).1, funext fun j => funext fun q => (h r j q (by omega)).2.1, funext fun j => funext fun q => (h r j q (by omega)).2.2.2⟩
theorem zCls.new {t' : Nat} (h : zCls I L P S t σ) (hf : cFn t I L P S I' L' P' S') (ht : t ≤ t') : zCls I' L' P' S' t' σ := by
  have ho := hf.old (b := t + 9) (Nat.le_refl _)
  have e : ∀ r j q i, ¬ r = 3 → I' r j q i = I r j q i ∧ P' r j q i = P r j q i ∧ L' r j q i = L r j q i := fun r j q i g => by
    have := hf r j q (by omega)
    exact ⟨by rw [this.1], by rw [this.2.2.1], by rw [this.2.1]⟩
  exact ⟨h.1.fr (by omega) (fun q i => (e 2 0 q i (by decide)).1) (fun q i => (e 2 0 q i (by decide)).2.1) ho, h.2.fr ht (fun j q i _ => ⟨(e 2 j q i (by decide)).1, (e 2 j q i (by decide)).2.1⟩) (fun j q i => ⟨(e 4 j q i (by decide)).1, (e 4 j q i (by decide)).2.1⟩) (fun j q i => ⟨(e 5 j q i (by decide)).1, (e 5 j q i (by decide)).2.2⟩) ⟨(e 0 0 0 8 (by decide)).1, (e 0 0 1 1 (by decide)).1, fun i => (e 0 0 2 i (by decide)).1⟩ ho⟩
/-- the row is kept; what else stays -/
theorem cp_keepF (hC : zCls I L P S t σ) (k : ∀ I' P', cHf 0 2 I I' P P' → zCls I' L P' S t (σ.w, hNote σ.H σ.w, σ.2.2) → zFm I L S I' L S → Q none (I', L, zpj P', zsj S, 237 + t)) : Ev (d + 1) c s 2 0 [some (zr (some (4, 0, 0))), some (zr (some (2, 0, 0)))] [] (I, L, zpj P, zsj S, 237 + t) Q := by
  obtain ⟨hT, hH, hK, hTp, hS⟩ := hC
  refine sp_hKeep (by decide) ⟨by decide, by decide⟩ hH hT (fun I1 P1 hf h1 => k I1 P1 hf ⟨hT.fr (Nat.le_refl _) (fun q i => (hf 2 0 q i (by omega)).1) (fun q i => (hf 2 0 q i (by omega)).2) hf.old, h1, hK.fr (Nat.le_refl _) (fun j q i g => hf 2 j q i (by omega)) (fun q i => hf 4 1 q i (by omega)) (hf 0 0 0 8 (by omega)).1 hf.old, ⟨(hf 0 0 1 1 (by omega)).1.trans hTp.1, fun k hk => (hf 0 0 2 k (by omega)).1.trans (hTp.2 k hk)⟩, hS.fr (fun j q i => ⟨(hf 5 j q i (by omega)).1, rfl⟩)⟩ (fun r hr => ⟨funext fun j => funext fun q => funext fun i => (hf r j q i (by omega)).1, rfl, rfl⟩))
theorem cp_told {u : Nat} (hG : zGood B σ) (hC : zCls I L P S t σ) (hu : u < 4) (hb : aBusy σ.w = 0) (k : cK I L S B (aTold σ u).2 (zi (aTold σ u).1) Q) : Ev (d + 26) (c + 8) (s + 255) 148 0 [some (zr (some (0, 0, 0))), some (zi (nI u)), none, none] [] (I, L, zpj P, zsj S, 237 + t) Q := by
  have hx := hG.1.2.1
  have hTp := hC.2.2.2.1
  have h60 := hG.2.2.2.1.1
  have h32 := hG.2.2.2.1.2
  refine g148_0 (d := d + 25) (ev_om 0 0 (sp_kFlt (d := d + 22) hTp h60 h32 (fun ρ1 f1 => om_t (Q := fun r' M' => Ev (d + 26) (c + 8) (s + 255) 148 7 [some (zr (some (0, 0, 0))), some (zi (nI u)), none, none] (zpush r' []) M' Q) ?_)))
  have hC1 : zCls (so I 0 0 ρ1) L P S t σ := hC.o0' ⟨f1 _ _ (by omega), f1 _ _ (by omega), fun i => f1 _ _ (by omega)⟩
  have m1 : zFm I L S (so I 0 0 ρ1) L S := zFm_so (by decide) (by decide)
  unfold aTold at k
  rcases eF : aFlt σ.T with _ | p
  · rw [eF] at k
    have hD : isBody (aDense σ.T) := aFlt_body eF h60 h32
    generalize hI1 : so I 0 0 ρ1 = I1 at *
    refine g148_7 (fun _ => ?_) (fun g => absurd rfl g)
    refine g148_19 (d := d + 25) (c := c + 5) (s := s + 134) (sp_toScr (d := d + 23) (c := 0) (s := 0) hC1.2.2.2.1 h60 h32 (fun I2 L2 P2 S2 f2 c2 => ?_))
    show Ev (d + 26) (c + 5) (s + 134) 148 26 [some (zr (some (0, 0, 0))), some (zi (nI u)), some (zi (-4)), none] [zr (some (3, t + 1 + 9, 0))] (I2, L2, zpj P2, zsj S2, 237 + (t + 2)) Q
    have hC2 : zCls I2 L2 P2 S2 (t + 2) σ := hC1.new f2 (by omega)
    have m2 := m1.trans f2.fm
    have eG : I2 2 0 0 2 = nI (tG σ.w) := hC2.1.1.1.1.trans hx.1.1
    refine g148_26 (d := d + 25) c2.sh eG (ev_om 0 0 (sp_cPlays (d := d + 1) c2 hD hx.1.2 (fun ho ρ3 f3 => ?_) (fun ho ρ3 hd3 f3 => ?_)))
    · -- too long
      have eo : tOvB (aProgW u (aDense σ.T) σ.w) = true := (tOvB_iff _).mpr ((prog_ov hx hu hD).mpr ho)
      simp only [eo, if_true] at k
      show Ev (d + 26) (c + 5) (s + 134) 148 42 [some (zr (some (0, 0, 0))), some (zi (nI u)), some (zi (-4)), some (zr (some (3, t + 1 + 9, 0)))] [zi (nI 0)] (so I2 0 0 ρ3, so L2 0 0 (L2 0 0), zpj (zup4 P2 0 0 4 0 (some (3, t + 1 + 9, 0))), zsj S2, 237 + (t + 2)) Q
      refine g148_42a c2.sh (k _ _ _ _ _ (hC2.o0 ⟨f3 _ _ (by omega), f3 _ _ (by omega), fun i => f3 _ _ (by omega)⟩ (fun r j q i g => zu4n _ _ (by omega))) (hG.mono (by omega)) (m2.trans zFm_o0))
    · have eo : ¬ tOvB (aProgW u (aDense σ.T) σ.w) = true := fun e => ho ((prog_ov hx hu hD).mp ((tOvB_iff _).mp e))
      simp only [if_neg eo] at k
      show Ev (d + 26) (c + 5) (s + 134) 148 42 [some (zr (some (0, 0, 0))), some (zi (nI u)), some (zi (-4)), some (zr (some (3, t + 1 + 9, 0)))] [zi (nI 1)] (so I2 0 0 ρ3, so L2 0 0 (L2 0 0), zpj (zup4 P2 0 0 4 0 (some (3, t + 1 + 9, 0))), zsj S2, 237 + (t + 2)) Q
      rw [so_id]
      have hC3 : zCls (so I2 0 0 ρ3) L2 (zup4 P2 0 0 4 0 (some (3, t + 1 + 9, 0))) S2 (t + 2) σ := by
        have := hC2.o0 (ρ' := ρ3) (l' := L2 0 0) (P' := zup4 P2 0 0 4 0 (some (3, t + 1 + 9, 0))) ⟨f3 _ _ (by omega), f3 _ _ (by omega), fun i => f3 _ _ (by omega)⟩ (fun r j q i g => zu4n _ _ (by omega))
        rw [so_id] at this
        exact this
      have m3 : zFm I L S (so I2 0 0 ρ3) L2 S2 := m2.trans (zFm_so (by decide) (by decide))
      have o3 : cOld (t + 2 + 9) I2 P2 S2 (so I2 0 0 ρ3) (zup4 P2 0 0 4 0 (some (3, t + 1 + 9, 0))) S2 := fun n _ => ⟨by rw [so_n _ _ (by omega)], funext fun i => zu4n _ _ (by omega), rfl⟩
      have c3 := c2.fr (Nat.le_refl _) o3
      have d3 : cDn ((so I2 0 0 ρ3) 0 0) (pTrace (aDense σ.T) (tG σ.w)) := by rw [so_s]; exact hd3
      generalize so I2 0 0 ρ3 = I3 at *
      generalize zup4 P2 0 0 4 0 (some (3, t + 1 + 9, 0)) = P3 at *
      refine g148_42b (d := d + 25) c2.sh (cp_keepF (d := d + 24) hC3 (fun I4 P4 hf4 hC4 m4 => g148_59 c2.sh ?_))
      have c4 := c3.fr (Nat.le_refl _) (hf4.old (b := t + 2 + 9) (S := S2))
      have e4 : I4 0 0 = I3 0 0 := funext fun q => funext fun i => (hf4 0 0 q i (by omega)).1
      refine Ew.newC (d := d + 26) (c := c + 4) (s := s + 124) f148_65 rfl (fun I5 L5 P5 S5 f5 s5 _ => ?_)
      have s5 : S5 3 (t + 2 + 9) 0 = (9, 0) := s5
      have e5 : I5 0 0 = I4 0 0 := funext fun q => (f5 0 0 q (by omega)).1
      have c5 := c4.fr (Nat.le_refl _) (f5.old (b := t + 2 + 9) (by omega))
      have d5 : cDn (I5 0 0) (pTrace (aDense σ.T) (tG σ.w)) := by rw [e5, e4]; exact d3
      refine g148_68 (d := d + 25) (c := c) (s := s) c5.sh s5 (sp_tInit (d := d + 23) (c := 0) (s := 0) s5 (by omega) d5 (fun I6 L6 P6 S6 f6 c6 => ?_))
      show Ev (d + 26) c s 148 76 [some (zr (some (0, 0, 0))), some (zi (nI u)), some (zi (-4)), some (zr (some (3, t + 1 + 9, 0)))] [zr (some (3, t + 2 + 9, 0)), zr (some (3, t + 1 + 9, 0)), zi (nI u), zr (some (2, 0, 0))] (I6, L6, zpj P6, zsj S6, 237 + (t + 2 + 1 + 4)) Q
      have f56 : cFn (t + 2) I4 L2 P4 S2 I6 L6 P6 S6 := by
        intro r j q hn
        have a := f5 r j q hn
        have b := f6 r j q (by omega)
        exact ⟨b.1.trans a.1, b.2.1.trans a.2.1, b.2.2.1.trans a.2.2.1, b.2.2.2.trans a.2.2.2⟩
      have hC6 : zCls I6 L6 P6 S6 (t + 2 + 1 + 4) (σ.w, hNote σ.H σ.w, σ.2.2) := hC4.new f56 (by omega)
      have c6s := c4.fr (b' := t + 2 + 1 + 4 + 9) (by omega) (f56.old (b := t + 2 + 9) (by omega))
      have m6 : zFm I L S I6 L6 S6 := (m3.trans m4).trans f56.fm
      have c6t : cTr I6 P6 S6 (t + 2 + 1 + 4 + 9) (t + 2 + 9) (pTrace (aDense σ.T) (tG σ.w)) := c6
      refine g148_76 (d := d + 25) c6s.sh c6t.sh (ev_om 2 0 (g72_0 (d := d + 24) c6s.sh c6t.sh hu hu (sp_cRest (by decide) hu (g72_19 ?_))))
      have eM : OM (XP (XP (I6, L6, P6, S6, 237 + (t + 2 + 1 + 4)) 2 0 1 u (some (3, t + 1 + 9, 0))) 2 0 2 u (some (3, t + 2 + 9, 0))) 2 0 (cIdR u (I6 2 0)) (L6 2 0) = (so I6 2 0 (cIdR u (I6 2 0)), so L6 2 0 (L6 2 0), zpj (zup4 (zup4 P6 2 0 1 u (some (3, t + 1 + 9, 0))) 2 0 2 u (some (3, t + 2 + 9, 0))), zsj S6, 237 + (t + 2 + 1 + 4)) := rfl
      rw [eM, so_id]
      obtain ⟨rw', hx', hr'⟩ := prog_row hG.1 hb hu hD ho
      have hr0 := tRest_of hG.1 hb
      have E0 := (cE_iff hx hr0).mp hC6.1.1
      have E1 : cE (cIdR u (I6 2 0)) (aProgW u (aDense σ.T) σ.w) := cE_idle hu E0 (fun i h1 h2 => aProgW_lo _ _ h1 h2) (aProgW_t _ _).1 (aProgW_t _ _).2.1 (aProgW_t _ _).2.2
      have o7 : cOld (t + 2 + 1 + 4 + 9) I6 P6 S6 (so I6 2 0 (cIdR u (I6 2 0))) (zup4 (zup4 P6 2 0 1 u (some (3, t + 1 + 9, 0))) 2 0 2 u (some (3, t + 2 + 9, 0))) S6 := fun n _ => ⟨by rw [so_n _ _ (by omega)], funext fun i => by rw [zu4n _ _ (by omega), zu4n _ _ (by omega)], rfl⟩
      have hC7 : zCls (so I6 2 0 (cIdR u (I6 2 0))) L6 (zup4 (zup4 P6 2 0 1 u (some (3, t + 1 + 9, 0))) 2 0 2 u (some (3, t + 2 + 9, 0))) S6 (t + 2 + 1 + 4) (aProgW u (aDense σ.T) σ.w, hNote σ.H σ.w, σ.2.2) := by
        refine ⟨⟨by show cTI (tτ (aProgW u (aDense σ.T) σ.w)) _ (aProgW u (aDense σ.T) σ.w); rw [so_s]; exact (cE_iff hx' hr').mpr E1, fun v hv => ?_⟩, hC6.2.fr (Nat.le_refl _) (fun j q i g => ⟨so3 (by omega), by rw [zu4n _ _ (by omega), zu4n _ _ (by omega)]⟩) (fun j q i => ⟨so3 (by omega), by rw [zu4n _ _ (by omega), zu4n _ _ (by omega)]⟩) (fun j q i => ⟨so3 (by omega), rfl⟩) ⟨so3 (by omega), so3 (by omega), fun i => so3 (by omega)⟩ o7⟩
        show (∃ m, _ ∧ cSc _ _ _ _ m (tL (aProgW u (aDense σ.T) σ.w) v)) ∧ ∃ n, _ ∧ cTr _ _ _ _ n (tTr (aProgW u (aDense σ.T) σ.w) v)
        rw [aProgW_Tr hx hu hv hD]
        by_cases e : v = u
        · subst e
          rw [if_pos rfl, aProgW_tL hv hD.1 (fun x hx => (hD.2.1 x hx).2)]
          refine ⟨⟨t + 1 + 9, ?_, c6s.fr (Nat.le_refl _) o7⟩, t + 2 + 9, ?_, c6t.fr (Nat.le_refl _) o7⟩
          · rw [zu4n _ _ (by omega), zu4s]
          · rw [zu4s]
        · rw [if_neg e, aProgW_o hx hu hv e]
          obtain ⟨⟨m, p1, q1⟩, n, p2, q2⟩ := hC6.1.2 v hv
          refine ⟨⟨m, ?_, q1.fr (Nat.le_refl _) o7⟩, n, ?_, q2.fr (Nat.le_refl _) o7⟩
          · rw [zu4n _ _ (by omega), zu4n _ _ (by omega)]; exact p1
          · rw [zu4n _ _ (by omega), zu4n _ _ (by omega)]; exact p2
      obtain ⟨_, n7, p7, c7⟩ := hC7.1.2 u hu
      refine g148_79 (d := d + 25) p7 c7 hu c7 ?_
      exact k _ _ _ _ _ hC7 (hG.note (by omega) (rw'.mono (by omega))) (m6.trans (zFm_so (by decide) (by decide)))
  · rw [eF] at k
    have hp : p ≤ 60 := Nat.le_trans (aFlt_le eF) h60
    refine g148_7 (fun g => absurd g (nI_ne4 (by omega))) (fun _ => k _ _ _ _ _ hC1 (hG.mono (by omega)) m1)
theorem zCls.clr (h : zCls I L P S t σ) : zCls (so I 0 0 (zu (I 0 0) 1 1 (nI 0))) L P S t (σ.1, σ.2.1, σ.2.2.1, [], σ.S) := by
  obtain ⟨hT, hH, hK, hTp, hS⟩ := h
  refine ⟨hT.fr (Nat.le_refl _) (fun q i => so3 (by omega)) (fun _ _ => rfl) (cOld_so (by decide)), hH.fr (Nat.le_refl _) (fun q i => ⟨so3 (by omega), rfl⟩) (fun j' _ _ q i => ⟨so3 (by omega), rfl⟩) (cOld_so (by decide)), hK.fr (Nat.le_refl _) (fun j q i _ => ⟨so3 (by omega), rfl⟩) (fun q i => ⟨so3 (by omega), rfl⟩) ?_ (cOld_so (by decide)), ⟨?_, fun k hk => absurd hk (Nat.not_lt_zero k)⟩, hS.fr (fun j q i => ⟨so3 (by omega), rfl⟩)⟩
  · rw [so_s, zu_i_ne (by omega)]
  · rw [so_s, zu_e]; rfl
theorem zGood.clr (h : zGood B σ) : zGood B (σ.1, σ.2.1, σ.2.2.1, [], σ.S) := ⟨h.1, h.2.1, h.2.2.1, ⟨Nat.zero_le _, fun x hx => by cases hx⟩, h.2.2.2.2⟩
theorem aProg_told {u : Nat} (hu : u < 4) (hb : aBusy σ.w = 0) : aProg σ (nI u) = ((aTold σ u).1, ((aTold σ u).2.1, (aTold σ u).2.2.1, (aTold σ u).2.2.2.1, [], (aTold σ u).2.S)) := by
  unfold aProg aTold
  rw [aIx_some hu (by decide)]
  simp only [if_pos hb]
  rcases aFlt σ.T with _ | p
  · simp only []
    split
    · rfl
    · rfl
  · rfl
theorem cp_program (hG : zGood B σ) (hC : zCls I L P S t σ) (k : cK I L S B (aProg σ x).2 (zi (aProg σ x).1) Q) : Ev (d + 27) (c + 8) (s + 255) 113 0 [some (zr (some (0, 0, 0))), some (zi x), none] [] (I, L, zpj P, zsj S, 237 + t) Q := by
  obtain ⟨hx, ti, huq, hO, hst, _⟩ := zG_f hG
  by_cases e : aIx x 4 = none
  · unfold aProg at k
    rw [e] at k
    exact g113_0i (d := d + 26) (fun _ => k I L P S t hC (hG.mono (by omega)) zFm.refl) (fun q => absurd e q)
  · obtain ⟨u, hu, ex, eu⟩ := aIx_ex e
    subst ex
    refine g113_0i (d := d + 26) (fun q => absurd q e) (fun _ => g113_9 (d := d + 26) (gm_Busy (d := d + 24) hC.1.1 hst (fun g => ?_) (fun g => ?_)))
    · unfold aProg at k
      rw [eu] at k
      simp only [if_neg g] at k
      refine g113_16b (d := d + 26) (ev_om 0 0 (g91_0 (om_t (Q := fun r' M' => Ev (d + 27) (c + 8) (s + 255) 113 37 [some (zr (some (0, 0, 0))), some (zi (nI u)), some (zi (-2))] (zpush r' []) M' Q) (g113_37 ?_))))
      exact k _ _ _ _ _ hC.clr (hG.mono (by omega)).clr (zFm_so (by decide) (by decide))
    · rw [aProg_told hu g] at k
      refine g113_16a (d := d + 26) (c := c) (s := s) (cp_told (d := d) (c := 0) (s := 0) hG hC hu g (fun I1 L1 P1 S1 t1 h1 h2 h3 => ?_))
      refine g113_29 (d := d + 26) (ev_om 0 0 (g91_0 (om_t (Q := fun r' M' => Ev (d + 27) c s 113 37 [some (zr (some (0, 0, 0))), some (zi (nI u)), some (zi (aTold σ u).1)] (zpush r' []) M' Q) (g113_37 ?_))))
      exact k _ _ _ _ _ h1.clr h2.clr (h3.trans (zFm_so (by decide) (by decide)))
end
