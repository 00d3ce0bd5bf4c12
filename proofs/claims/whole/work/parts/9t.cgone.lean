/-! the class: gone -/
theorem g114_0i {d c s : Nat} {t : Nat} {x : Int32} {I : zI} {L : zL} {P : zP} {S : zS} {Q : Option zV → zM → Prop}
    (h1 : (aIx x 6 = none) → Q (some (zi ((-1)))) (I, L, zpj P, zsj S, 237 + t))
    (h2 : (¬ (aIx x 6 = none)) → Ev (d + 1) c s 114 9 [some (zr (some (0, 0, 0))), some (zi x), none, none] [] (I, L, zpj P, zsj S, 237 + t) Q) : Ev (d + 1) c s 114 0 [some (zr (some (0, 0, 0))), some (zi x), none, none] [] (I, L, zpj P, zsj S, 237 + t) Q := by
  refine Ew.ld f114_0 rfl rfl rfl rfl ?_
  refine Ew.call0 (ls0 := [some (zi x)]) f114_1 rfl (Nat.le_of_ble_eq_true rfl) rfl rfl (Nat.le_of_ble_eq_true rfl) trivial (Nat.le_of_ble_eq_true rfl) rfl rfl ?_
  refine sp_noGate (fun c1 => ?_) (fun c1 => ?_)
  · refine Ew.ifc f114_4 rfl rfl (fun h => absurd h (show ¬ (((nI 1) : Int32) = 0) by decide)) (fun _ => ?_)
    refine Ew.op (st' := zi ((-1)) :: _) f114_7 rfl rfl ?_
    refine Ew.ireti f114_8 ?_
    exact h1 c1
  · refine Ew.ifc f114_4 rfl rfl (fun _ => ?_) (fun h => absurd (show ((nI 0) : Int32) = 0 by decide) h)
    exact h2 c1
theorem g114_9 {d c s : Nat} {t g : Nat} {I : zI} {L : zL} {P : zP} {S : zS} {Q : Option zV → zM → Prop}
    (h1 : Ev d 0 0 60 0 [some (zr (some (2, 0, 0)))] [] (I, L, zpj P, zsj S, 237 + t) (fun r M' => Ev (d + 1) c s 114 16 [some (zr (some (0, 0, 0))), some (zi (nI g)), none, none] (zpush r []) M' Q)) : Ev (d + 1) c s 114 9 [some (zr (some (0, 0, 0))), some (zi (nI g)), none, none] [] (I, L, zpj P, zsj S, 237 + t) Q := by
  refine Ew.ld f114_9 rfl rfl rfl rfl ?_
  refine Ew.getp (v := some (2, 0, 0)) f114_10 rfl rfl rfl ?_
  refine Ew.call0 (ls0 := [some (zr (some (2, 0, 0)))]) f114_13 rfl (Nat.le_of_ble_eq_true rfl) rfl rfl (Nat.le_of_ble_eq_true rfl) rfl (Nat.le_of_ble_eq_true rfl) rfl rfl ?_
  exact h1
theorem g114_16b {d c s : Nat} {t g : Nat} {I : zI} {L : zL} {P : zP} {S : zS} {Q : Option zV → zM → Prop}
    (h1 : Q (some (zi ((-2)))) (I, L, zpj P, zsj S, 237 + t)) : Ev d c s 114 16 [some (zr (some (0, 0, 0))), some (zi (nI g)), none, none] [zi (nI 1)] (I, L, zpj P, zsj S, 237 + t) Q := by
  refine Ew.ifc f114_16 rfl rfl (fun h => absurd h (show ¬ (((nI 1) : Int32) = 0) by decide)) (fun _ => ?_)
  refine Ew.op (st' := zi ((-2)) :: _) f114_19 rfl rfl ?_
  refine Ew.ireti f114_21 ?_
  exact h1
theorem g114_16a {d c s : Nat} {t g : Nat} {I : zI} {L : zL} {P : zP} {S : zS} {Q : Option zV → zM → Prop}
    (h1 : Ev (d + 1) c s 114 37 [some (zr (some (0, 0, 0))), some (zi (nI g)), some (zi ((I 2 0 0 2) ^^^ ((nI 1) <<< ((nI g) &&& 31)))), some (zi (nI 0))] [] (I, L, zpj P, zsj S, 237 + t) Q) : Ev (d + 1) c s 114 16 [some (zr (some (0, 0, 0))), some (zi (nI g)), none, none] [zi (nI 0)] (I, L, zpj P, zsj S, 237 + t) Q := by
  refine Ew.ifc f114_16 rfl rfl (fun _ => ?_) (fun h => absurd (show ((nI 0) : Int32) = 0 by decide) h)
  refine Ew.ld f114_22 rfl rfl rfl rfl ?_
  refine Ew.getp (v := some (2, 0, 0)) f114_23 rfl rfl rfl ?_
  refine Ew.call0 (ls0 := [some (zr (some (2, 0, 0)))]) f114_26 rfl (Nat.le_of_ble_eq_true rfl) rfl rfl (Nat.le_of_ble_eq_true rfl) rfl (Nat.le_of_ble_eq_true rfl) rfl rfl ?_
  refine Ew.ld f55_0 rfl rfl rfl rfl ?_
  refine Ew.geti f55_1 rfl rfl ?_
  refine Ew.ireti f55_4 ?_
  show Ev (d + 1) c s 114 29 [some (zr (some (0, 0, 0))), some (zi (nI g)), none, none] [zi (I 2 0 0 2)] (I, L, zpj P, zsj S, 237 + t) Q
  refine Ew.ld f114_29 rfl rfl rfl rfl ?_
  refine Ew.call0 (ls0 := [some (zi (nI g))]) f114_30 rfl (Nat.le_of_ble_eq_true rfl) rfl rfl (Nat.le_of_ble_eq_true rfl) trivial (Nat.le_of_ble_eq_true rfl) rfl rfl ?_
  refine Ew.op (st' := zi (nI 1) :: _) f146_0 rfl rfl ?_
  refine Ew.ld f146_1 rfl rfl rfl rfl ?_
  refine Ew.op (st' := zi ((nI 1) <<< ((nI g) &&& 31)) :: _) f146_2 rfl rfl ?_
  refine Ew.ireti f146_3 ?_
  show Ev (d + 1) c s 114 33 [some (zr (some (0, 0, 0))), some (zi (nI g)), none, none] [zi ((nI 1) <<< ((nI g) &&& 31)), zi (I 2 0 0 2)] (I, L, zpj P, zsj S, 237 + t) Q
  refine Ew.op (st' := zi ((I 2 0 0 2) ^^^ ((nI 1) <<< ((nI g) &&& 31))) :: _) f114_33 rfl rfl ?_
  refine Ew.sr (ls' := [some (zr (some (0, 0, 0))), some (zi (nI g)), some (zi ((I 2 0 0 2) ^^^ ((nI 1) <<< ((nI g) &&& 31)))), none]) f114_34 rfl rfl (Nat.le_of_ble_eq_true rfl) rfl rfl ?_
  refine Ew.op (st' := zi (nI 0) :: _) f114_35 rfl rfl ?_
  refine Ew.sr (ls' := [some (zr (some (0, 0, 0))), some (zi (nI g)), some (zi ((I 2 0 0 2) ^^^ ((nI 1) <<< ((nI g) &&& 31)))), some (zi (nI 0))]) f114_36 rfl rfl (Nat.le_of_ble_eq_true rfl) rfl rfl ?_
  exact h1
theorem g114_37 {d c s : Nat} {t g G u m : Nat} {I : zI} {L : zL} {P : zP} {S : zS} {Q : Option zV → zM → Prop} (pm : P 2 0 1 u = some (3, m, 0))  (nb_u : u < 5000)
    (h1 : (4 ≤ u) → Ev d 0 0 2 0 [some (zr (some (4, 0, 0))), some (zr (some (2, 0, 0)))] [] (I, L, zpj P, zsj S, 237 + t) (fun r M' => Ev (d + 1) c s 114 98 [some (zr (some (0, 0, 0))), some (zi (nI g)), some (zi (nI G)), some (zi (nI u))] (zpush r []) M' Q))
    (b1 : (u < 4) → u < 4)
    (h2 : (u < 4) → Ev d 0 0 24 0 [some (zr (some (0, 0, 4))), some (zr (some (3, m, 0))), some (zi (nI G))] [] (I, L, zpj P, zsj S, 237 + t) (fun r M' => Ev (d + 1) c s 114 58 [some (zr (some (0, 0, 0))), some (zi (nI g)), some (zi (nI G)), some (zi (nI u))] (zpush r []) M' Q)) : Ev (d + 1) c s 114 37 [some (zr (some (0, 0, 0))), some (zi (nI g)), some (zi (nI G)), some (zi (nI u))] [] (I, L, zpj P, zsj S, 237 + t) Q := by
  refine Ew.ld f114_37 rfl rfl rfl rfl ?_
  refine Ew.op (st' := zi (nI 4) :: _) f114_38 rfl rfl ?_
  refine Ew.icmp f114_39 rfl rfl (fun c1 => ?_) (fun c1 => ?_)
  · refine Ew.ld f114_87 rfl rfl rfl rfl ?_
    refine Ew.getp (v := some (4, 0, 0)) f114_88 rfl rfl rfl ?_
    refine Ew.ld f114_91 rfl rfl rfl rfl ?_
    refine Ew.getp (v := some (2, 0, 0)) f114_92 rfl rfl rfl ?_
    refine Ew.call0 (ls0 := [some (zr (some (4, 0, 0))), some (zr (some (2, 0, 0)))]) f114_95 rfl (Nat.le_of_ble_eq_true rfl) rfl rfl (Nat.le_of_ble_eq_true rfl) rfl (Nat.le_of_ble_eq_true rfl) rfl rfl ?_
    exact h1 ((zle_iff (by decide) nb_u).mp c1)
  · refine Ew.ld f114_42 rfl rfl rfl rfl ?_
    refine Ew.getp (v := some (0, 0, 4)) f114_43 rfl rfl rfl ?_
    refine Ew.ld f114_46 rfl rfl rfl rfl ?_
    refine Ew.getp (v := some (2, 0, 0)) f114_47 rfl rfl rfl ?_
    refine Ew.ld f114_50 rfl rfl rfl rfl ?_
    refine Ew.call0 (ls0 := [some (zr (some (2, 0, 0))), some (zi (nI u))]) f114_51 rfl (Nat.le_of_ble_eq_true rfl) rfl rfl (Nat.le_of_ble_eq_true rfl) rfl (Nat.le_of_ble_eq_true rfl) rfl rfl ?_
    refine Ew.ld f53_0 rfl rfl rfl rfl ?_
    refine Ew.getp (v := some (2, 0, 1)) f53_1 rfl rfl rfl ?_
    refine Ew.ld f53_4 rfl rfl rfl rfl ?_
    refine Ew.aaldn (v := some (3, m, 0)) f53_5 (Nat.le_of_ble_eq_true rfl) (b1 (Nat.not_le.mp fun e => c1 ((zle_iff (by decide) nb_u).mpr e))) (Nat.le_of_ble_eq_true rfl) rfl (show zpj P 2 0 1 u = _ from pm) ?_
    refine Ew.aret f53_6 ?_
    show Ev (d + 1) c s 114 54 [some (zr (some (0, 0, 0))), some (zi (nI g)), some (zi (nI G)), some (zi (nI u))] [zr (some (3, m, 0)), zr (some (0, 0, 4))] (I, L, zpj P, zsj S, 237 + t) Q
    refine Ew.ld f114_54 rfl rfl rfl rfl ?_
    refine Ew.call0 (ls0 := [some (zr (some (0, 0, 4))), some (zr (some (3, m, 0))), some (zi (nI G))]) f114_55 rfl (Nat.le_of_ble_eq_true rfl) rfl rfl (Nat.le_of_ble_eq_true rfl) rfl (Nat.le_of_ble_eq_true rfl) rfl rfl ?_
    exact h2 (Nat.not_le.mp fun e => c1 ((zle_iff (by decide) nb_u).mpr e))
theorem g114_37e {d c s : Nat} {t g G : Nat} {I : zI} {L : zL} {P : zP} {S : zS} {Q : Option zV → zM → Prop}
    (h1 : Ev d 0 0 2 0 [some (zr (some (4, 0, 0))), some (zr (some (2, 0, 0)))] [] (I, L, zpj P, zsj S, 237 + t) (fun r M' => Ev (d + 1) c s 114 98 [some (zr (some (0, 0, 0))), some (zi (nI g)), some (zi (nI G)), some (zi (nI 4))] (zpush r []) M' Q)) : Ev (d + 1) c s 114 37 [some (zr (some (0, 0, 0))), some (zi (nI g)), some (zi (nI G)), some (zi (nI 4))] [] (I, L, zpj P, zsj S, 237 + t) Q := by
  refine Ew.ld f114_37 rfl rfl rfl rfl ?_
  refine Ew.op (st' := zi (nI 4) :: _) f114_38 rfl rfl ?_
  refine Ew.icmp f114_39 rfl rfl (fun _ => ?_) (fun h => absurd (show (nI 4) ≤ ((nI 4) : Int32) by decide) h)
  refine Ew.ld f114_87 rfl rfl rfl rfl ?_
  refine Ew.getp (v := some (4, 0, 0)) f114_88 rfl rfl rfl ?_
  refine Ew.ld f114_91 rfl rfl rfl rfl ?_
  refine Ew.getp (v := some (2, 0, 0)) f114_92 rfl rfl rfl ?_
  refine Ew.call0 (ls0 := [some (zr (some (4, 0, 0))), some (zr (some (2, 0, 0)))]) f114_95 rfl (Nat.le_of_ble_eq_true rfl) rfl rfl (Nat.le_of_ble_eq_true rfl) rfl (Nat.le_of_ble_eq_true rfl) rfl rfl ?_
  exact h1
theorem g114_58a {d c s : Nat} {t g G u : Nat} {I : zI} {L : zL} {P : zP} {S : zS} {Q : Option zV → zM → Prop}
    (h1 : Q (some (zi ((-3)))) (I, L, zpj P, zsj S, 237 + t)) : Ev d c s 114 58 [some (zr (some (0, 0, 0))), some (zi (nI g)), some (zi (nI G)), some (zi (nI u))] [zi (nI 0)] (I, L, zpj P, zsj S, 237 + t) Q := by
  refine Ew.ifc f114_58 rfl rfl (fun h => absurd h (show ¬ (¬ ((nI 0) : Int32) = 0) by decide)) (fun _ => ?_)
  refine Ew.op (st' := zi ((-3)) :: _) f114_61 rfl rfl ?_
  refine Ew.ireti f114_63 ?_
  exact h1
theorem g114_58b {d c s : Nat} {t g G u : Nat} {I : zI} {L : zL} {P : zP} {S : zS} {Q : Option zV → zM → Prop}
    (h1 : Ev d c s 114 69 [some (zr (some (0, 0, 0))), some (zi (nI g)), some (zi (nI G)), some (zi (nI u))] [zi (nI u), zr (some (0, 0, 11))] (I, L, zpj P, zsj S, 237 + t) Q) : Ev d c s 114 58 [some (zr (some (0, 0, 0))), some (zi (nI g)), some (zi (nI G)), some (zi (nI u))] [zi (nI 1)] (I, L, zpj P, zsj S, 237 + t) Q := by
  refine Ew.ifc f114_58 rfl rfl (fun _ => ?_) (fun h => absurd (show ¬ ((nI 1) : Int32) = 0 by decide) h)
  refine Ew.ld f114_64 rfl rfl rfl rfl ?_
  refine Ew.getp (v := some (0, 0, 11)) f114_65 rfl rfl rfl ?_
  refine Ew.ld f114_68 rfl rfl rfl rfl ?_
  exact h1
theorem g114_72 {d c s : Nat} {t g G u n : Nat} {I : zI} {L : zL} {P : zP} {S : zS} {Q : Option zV → zM → Prop} (sn : S 3 n 0 = (9, 0)) 
    (h1 : Ev d 4 124 98 0 [some (zr (some (3, n, 0))), some (zr (some (0, 0, 4)))] [] (I, L, zpj P, zsj S, 237 + t) (fun r M' => Ev (d + 1) c s 114 80 [some (zr (some (0, 0, 0))), some (zi (nI g)), some (zi (nI G)), some (zi (nI u))] (zpush r [zr (some (3, n, 0)), zi (nI u), zr (some (0, 0, 11))]) M' Q)) : Ev (d + 1) (c + 4) (s + 124) 114 72 [some (zr (some (0, 0, 0))), some (zi (nI g)), some (zi (nI G)), some (zi (nI u))] [zr (some (3, n, 0)), zi (nI u), zr (some (0, 0, 11))] (I, L, zpj P, zsj S, 237 + t) Q := by
  refine Ew.op (st' := zr (some (3, n, 0)) :: zr (some (3, n, 0)) :: _) f114_72 rfl rfl ?_
  refine Ew.ld f114_73 rfl rfl rfl rfl ?_
  refine Ew.getp (v := some (0, 0, 4)) f114_74 rfl rfl rfl ?_
  refine Ew.callB (c := c) (s := s) (ls0 := [some (zr (some (3, n, 0))), some (zr (some (0, 0, 4)))]) f114_77 rfl (Nat.le_of_ble_eq_true rfl) rfl rfl (Nat.le_of_ble_eq_true rfl) trivial (Nat.le_of_ble_eq_true rfl) rfl rfl ?_
  exact h1
theorem g114_80 {d c s : Nat} {t g G u n : Nat} {I : zI} {L : zL} {P : zP} {S : zS} {Q : Option zV → zM → Prop} (sn : S 3 n 0 = (9, 0)) 
    (b1 : u < 4)
    (h1 : Ev d c s 114 37 [some (zr (some (0, 0, 0))), some (zi (nI g)), some (zi (nI G)), some (zi (nI (u + 1)))] [] (I, L, zpj (zup4 P 0 0 11 u (some (3, n, 0))), zsj S, 237 + t) Q) : Ev d c s 114 80 [some (zr (some (0, 0, 0))), some (zi (nI g)), some (zi (nI G)), some (zi (nI u))] [zr (some (3, n, 0)), zi (nI u), zr (some (0, 0, 11))] (I, L, zpj P, zsj S, 237 + t) Q := by
  refine Ew.aastn f114_80 (Nat.le_of_ble_eq_true rfl) (by show (S 3 n 0).1 = zel (zsj S 0 0 11).1; rw [sn]; rfl) b1 (Nat.le_of_ble_eq_true rfl) rfl ?_
  rw [zpj_up (r := 0) (j := 0) (q := 11) (n := u) (fun _ => rfl)]
  show Ev d c s 114 81 [some (zr (some (0, 0, 0))), some (zi (nI g)), some (zi (nI G)), some (zi (nI u))] [] (I, L, zpj (zup4 P 0 0 11 u (some (3, n, 0))), zsj S, 237 + t) Q
  refine Ew.iinc (v := nI (u + 1)) (ls' := [some (zr (some (0, 0, 0))), some (zi (nI g)), some (zi (nI G)), some (zi (nI (u + 1)))]) f114_81 rfl (nI_1 _) rfl rfl ?_
  refine Ew.goto f114_84 rfl ?_
  exact h1
theorem g114_98 {d c s : Nat} {t g G u : Nat} {I : zI} {L : zL} {P : zP} {S : zS} {Q : Option zV → zM → Prop}
    (h1 : Ev d 0 0 73 0 [some (zr (some (2, 0, 0))), some (zi (nI G)), some (zr (some (0, 0, 11))), none] [] (I, L, zpj P, zsj S, 237 + t) (fun r M' => Ev (d + 1) c s 114 110 [some (zr (some (0, 0, 0))), some (zi (nI g)), some (zi (nI G)), some (zi (nI u))] (zpush r []) M' Q)) : Ev (d + 1) c s 114 98 [some (zr (some (0, 0, 0))), some (zi (nI g)), some (zi (nI G)), some (zi (nI u))] [] (I, L, zpj P, zsj S, 237 + t) Q := by
  refine Ew.ld f114_98 rfl rfl rfl rfl ?_
  refine Ew.getp (v := some (2, 0, 0)) f114_99 rfl rfl rfl ?_
  refine Ew.ld f114_102 rfl rfl rfl rfl ?_
  refine Ew.ld f114_103 rfl rfl rfl rfl ?_
  refine Ew.getp (v := some (0, 0, 11)) f114_104 rfl rfl rfl ?_
  refine Ew.call0 (ls0 := [some (zr (some (2, 0, 0))), some (zi (nI G)), some (zr (some (0, 0, 11))), none]) f114_107 rfl (Nat.le_of_ble_eq_true rfl) rfl rfl (Nat.le_of_ble_eq_true rfl) rfl (Nat.le_of_ble_eq_true rfl) rfl rfl ?_
  exact h1
theorem g114_110 {d c s : Nat} {t g G u : Nat} {I : zI} {L : zL} {P : zP} {S : zS} {Q : Option zV → zM → Prop}
    (h1 : (cHas (nI G) (nI g)) → Q (some (zi (nI 1))) (I, L, zpj P, zsj S, 237 + t))
    (h2 : (¬ (cHas (nI G) (nI g))) → Q (some (zi (nI 0))) (I, L, zpj P, zsj S, 237 + t)) : Ev (d + 1) c s 114 110 [some (zr (some (0, 0, 0))), some (zi (nI g)), some (zi (nI G)), some (zi (nI u))] [] (I, L, zpj P, zsj S, 237 + t) Q := by
  refine Ew.ld f114_110 rfl rfl rfl rfl ?_
  refine Ew.ld f114_111 rfl rfl rfl rfl ?_
  refine Ew.call0 (ls0 := [some (zi (nI G)), some (zi (nI g))]) f114_112 rfl (Nat.le_of_ble_eq_true rfl) rfl rfl (Nat.le_of_ble_eq_true rfl) trivial (Nat.le_of_ble_eq_true rfl) rfl rfl ?_
  refine sp_cHas (fun c1 => ?_) (fun c1 => ?_)
  · refine Ew.ifc f114_115 rfl rfl (fun h => absurd h (show ¬ (((nI 1) : Int32) = 0) by decide)) (fun _ => ?_)
    refine Ew.op (st' := zi (nI 1) :: _) f114_118 rfl rfl ?_
    refine Ew.goto f114_119 rfl ?_
    refine Ew.ireti f114_123 ?_
    exact h1 c1
  · refine Ew.ifc f114_115 rfl rfl (fun _ => ?_) (fun h => absurd (show ((nI 0) : Int32) = 0 by decide) h)
    refine Ew.op (st' := zi (nI 0) :: _) f114_122 rfl rfl ?_
    refine Ew.ireti f114_123 ?_
    exact h2 c1
theorem g73_0 {d c s : Nat} {G : Nat} {X : zM} {ρ : Nat → Nat → Int32} {l : Nat → Nat → Int64} {Q : Option zV → zM → Prop}
    (h1 : Ev d c s 73 7 [some (zr (some (2, 0, 0))), some (zi (nI G)), some (zr (some (0, 0, 11))), some (zi (nI 0))] [] (OM X 2 0 (zu ρ 0 2 (nI G)) l) Q) : Ev d c s 73 0 [some (zr (some (2, 0, 0))), some (zi (nI G)), some (zr (some (0, 0, 11))), none] [] (OM X 2 0 ρ l) Q := by
  refine Ew.ld f73_0 rfl rfl rfl rfl ?_
  refine Ew.ld f73_1 rfl rfl rfl rfl ?_
  refine Ew.putiO f73_2 rfl rfl ?_
  refine Ew.op (st' := zi (nI 0) :: _) f73_5 rfl rfl ?_
  refine Ew.sr (ls' := [some (zr (some (2, 0, 0))), some (zi (nI G)), some (zr (some (0, 0, 11))), some (zi (nI 0))]) f73_6 rfl rfl (Nat.le_of_ble_eq_true rfl) rfl rfl ?_
  exact h1
theorem g73_7 {d c s : Nat} {G u n : Nat} {X : zM} {ρ : Nat → Nat → Int32} {l : Nat → Nat → Int64} {Q : Option zV → zM → Prop} (pn : X.2.2.1 0 0 11 u = some (3, n, 0)) (sn : X.2.2.2.1 3 n 0 = (9, 0))  (nb_u : u < 5000)
    (h1 : (4 ≤ u) → Q none (OM X 2 0 ρ l))
    (h2 : (u < 4) → (4 ≤ u) → Q none (OM X 2 0 ρ l))
    (b1 : (u < 4) → (u < 4) → u < 4)
    (b2 : (u < 4) → (u < 4) → u < 4)
    (h3 : (u < 4) → (u < 4) → Ev d 0 0 87 0 [some (zr (some (2, 0, 0))), some (zi (nI u))] [] (OM (XP X 2 0 2 u (some (3, n, 0))) 2 0 ρ l) (fun r M' => Ev (d + 1) c s 73 32 [some (zr (some (2, 0, 0))), some (zi (nI G)), some (zr (some (0, 0, 11))), some (zi (nI u))] (zpush r []) M' Q)) : Ev (d + 1) c s 73 7 [some (zr (some (2, 0, 0))), some (zi (nI G)), some (zr (some (0, 0, 11))), some (zi (nI u))] [] (OM X 2 0 ρ l) Q := by
  refine Ew.ld f73_7 rfl rfl rfl rfl ?_
  refine Ew.op (st' := zi (nI 4) :: _) f73_8 rfl rfl ?_
  refine Ew.icmp f73_9 rfl rfl (fun c1 => ?_) (fun c1 => ?_)
  · refine Ew.vret f73_38 ?_
    exact h1 ((zle_iff (by decide) nb_u).mp c1)
  · refine Ew.ld f73_12 rfl rfl rfl rfl ?_
    refine Ew.ld f73_13 rfl rfl rfl rfl ?_
    refine Ew.alen (n := 4) f73_14 (Nat.le_of_ble_eq_true rfl) rfl rfl ?_
    refine Ew.icmp f73_15 rfl rfl (fun c2 => ?_) (fun c2 => ?_)
    · refine Ew.vret f73_38 ?_
      exact h2 (Nat.not_le.mp fun e => c1 ((zle_iff (by decide) nb_u).mpr e)) ((zle_iff (by decide) nb_u).mp c2)
    · refine Ew.ld f73_18 rfl rfl rfl rfl ?_
      refine Ew.getp (v := some (2, 0, 2)) f73_19 rfl rfl rfl ?_
      refine Ew.ld f73_22 rfl rfl rfl rfl ?_
      refine Ew.ld f73_23 rfl rfl rfl rfl ?_
      refine Ew.ld f73_24 rfl rfl rfl rfl ?_
      refine Ew.aaldn (v := some (3, n, 0)) f73_25 (Nat.le_of_ble_eq_true rfl) (b1 (Nat.not_le.mp fun e => c1 ((zle_iff (by decide) nb_u).mpr e)) (Nat.not_le.mp fun e => c2 ((zle_iff (by decide) nb_u).mpr e))) (Nat.le_of_ble_eq_true rfl) rfl (show zpj X.2.2.1 0 0 11 u = _ from pn) ?_
      refine Ew.aastn f73_26 (Nat.le_of_ble_eq_true rfl) (by show (X.2.2.2.1 3 n 0).1 = zel (zsj X.2.2.2.1 2 0 2).1; rw [sn]; rfl) (b2 (Nat.not_le.mp fun e => c1 ((zle_iff (by decide) nb_u).mpr e)) (Nat.not_le.mp fun e => c2 ((zle_iff (by decide) nb_u).mpr e))) (Nat.le_of_ble_eq_true rfl) rfl ?_
      rw [zpj_up (r := 2) (j := 0) (q := 2) (n := u) (fun _ => rfl)]
      show Ev (d + 1) c s 73 27 [some (zr (some (2, 0, 0))), some (zi (nI G)), some (zr (some (0, 0, 11))), some (zi (nI u))] [] (OM (XP X 2 0 2 u (some (3, n, 0))) 2 0 ρ l) Q
      refine Ew.ld f73_27 rfl rfl rfl rfl ?_
      refine Ew.ld f73_28 rfl rfl rfl rfl ?_
      refine Ew.call0 (ls0 := [some (zr (some (2, 0, 0))), some (zi (nI u))]) f73_29 rfl (Nat.le_of_ble_eq_true rfl) rfl rfl (Nat.le_of_ble_eq_true rfl) rfl (Nat.le_of_ble_eq_true rfl) rfl rfl ?_
      exact h3 (Nat.not_le.mp fun e => c1 ((zle_iff (by decide) nb_u).mpr e)) (Nat.not_le.mp fun e => c2 ((zle_iff (by decide) nb_u).mpr e))
theorem g73_7e {d c s : Nat} {G : Nat} {X : zM} {ρ : Nat → Nat → Int32} {l : Nat → Nat → Int64} {Q : Option zV → zM → Prop}
    (h1 : Q none (OM X 2 0 ρ l)) : Ev d c s 73 7 [some (zr (some (2, 0, 0))), some (zi (nI G)), some (zr (some (0, 0, 11))), some (zi (nI 4))] [] (OM X 2 0 ρ l) Q := by
  refine Ew.ld f73_7 rfl rfl rfl rfl ?_
  refine Ew.op (st' := zi (nI 4) :: _) f73_8 rfl rfl ?_
  refine Ew.icmp f73_9 rfl rfl (fun _ => ?_) (fun h => absurd (show (nI 4) ≤ ((nI 4) : Int32) by decide) h)
  refine Ew.vret f73_38 ?_
  exact h1
theorem g73_32 {d c s : Nat} {G u : Nat} {X : zM} {ρ : Nat → Nat → Int32} {l : Nat → Nat → Int64} {Q : Option zV → zM → Prop}
    (h1 : Ev d c s 73 7 [some (zr (some (2, 0, 0))), some (zi (nI G)), some (zr (some (0, 0, 11))), some (zi (nI (u + 1)))] [] (OM X 2 0 ρ l) Q) : Ev d c s 73 32 [some (zr (some (2, 0, 0))), some (zi (nI G)), some (zr (some (0, 0, 11))), some (zi (nI u))] [] (OM X 2 0 ρ l) Q := by
  refine Ew.iinc (v := nI (u + 1)) (ls' := [some (zr (some (2, 0, 0))), some (zi (nI G)), some (zr (some (0, 0, 11))), some (zi (nI (u + 1)))]) f73_32 rfl (nI_1 _) rfl rfl ?_
  refine Ew.goto f73_35 rfl ?_
  exact h1
theorem sp_cGates {d c s G : Nat} {nn : Nat → Nat} {X : zM} {ρ : Nat → Nat → Int32} {l : Nat → Nat → Int64} {Q : Option zV → zM → Prop} (hp : ∀ u, u < 4 → X.2.2.1 0 0 11 u = some (3, nn u, 0)) (hs : ∀ u, u < 4 → X.2.2.2.1 3 (nn u) 0 = (9, 0)) (k : ∀ P', (∀ r j q i, ¬ (r = 2 ∧ j = 0 ∧ q = 2) → P' r j q i = X.2.2.1 r j q i) → (∀ u, u < 4 → P' 2 0 2 u = some (3, nn u, 0)) → Q none (OM (X.1, X.2.1, P', X.2.2.2.1, X.2.2.2.2) 2 0 (cIdR 3 (cIdR 2 (cIdR 1 (cIdR 0 (zu ρ 0 2 (nI G)))))) l)) : Ev (d + 1) c s 73 0 [some (zr (some (2, 0, 0))), some (zi (nI G)), some (zr (some (0, 0, 11))), none] [] (OM X 2 0 ρ l) Q := by
  have stp : ∀ u (X1 : zM) ρ1, u < 4 → X1.2.2.1 0 0 11 u = some (3, nn u, 0) → X1.2.2.2.1 3 (nn u) 0 = (9, 0) → Ev (d + 1) c s 73 7 [some (zr (some (2, 0, 0))), some (zi (nI G)), some (zr (some (0, 0, 11))), some (zi (nI (u + 1)))] [] (OM (XP X1 2 0 2 u (some (3, nn u, 0))) 2 0 (cIdR u ρ1) l) Q → Ev (d + 1) c s 73 7 [some (zr (some (2, 0, 0))), some (zi (nI G)), some (zr (some (0, 0, 11))), some (zi (nI u))] [] (OM X1 2 0 ρ1 l) Q := by
    intro u X1 ρ1 hu h1 h2 h3
    exact g73_7 (d := d) h1 h2 (by omega) (fun g => by omega) (fun _ g => by omega) (fun _ _ => hu) (fun _ _ => hu) (fun _ _ => sp_cRest (by decide) hu (g73_32 h3))
  have eP : ∀ (X1 : zM) u v w, (XP X1 2 0 2 u v).2.2.1 0 0 11 w = X1.2.2.1 0 0 11 w := fun X1 u v w => by
    show zup4 X1.2.2.1 2 0 2 u v 0 0 11 w = _
    rw [zu4n _ _ (by omega)]
  refine g73_0 ?_
  refine stp 0 X _ (by decide) (hp 0 (by decide)) (hs 0 (by decide)) ?_
  refine stp 1 _ _ (by decide) (by rw [eP]; exact hp 1 (by decide)) (hs 1 (by decide)) ?_
  refine stp 2 _ _ (by decide) (by rw [eP, eP]; exact hp 2 (by decide)) (hs 2 (by decide)) ?_
  refine stp 3 _ _ (by decide) (by rw [eP, eP, eP]; exact hp 3 (by decide)) (hs 3 (by decide)) ?_
  refine g73_7e ?_
  refine k (zup4 (zup4 (zup4 (zup4 X.2.2.1 2 0 2 0 (some (3, nn 0, 0))) 2 0 2 1 (some (3, nn 1, 0))) 2 0 2 2 (some (3, nn 2, 0))) 2 0 2 3 (some (3, nn 3, 0))) (fun r j q i g => ?_) (fun u hu => ?_)
  · rw [zu4n _ _ (by omega), zu4n _ _ (by omega), zu4n _ _ (by omega), zu4n _ _ (by omega)]
  · have h4 : u = 0 ∨ u = 1 ∨ u = 2 ∨ u = 3 := by omega
    rcases h4 with e | e | e | e <;> subst e
    · rw [zu4n _ _ (by omega), zu4n _ _ (by omega), zu4n _ _ (by omega), zu4s]
    · rw [zu4n _ _ (by omega), zu4n _ _ (by omega), zu4s]
    · rw [zu4n _ _ (by omega), zu4s]
    · rw [zu4s]
theorem cE_fld {ρ : Nat → Nat → Int32} {w : Nat → Int32} (h : cE ρ w) (v : Int32) : cE (zu ρ 0 2 v) (zup w 0 v) := by
  obtain ⟨⟨a1, a2, a3, a4⟩, b, c⟩ := h
  refine ⟨⟨?_, ?_, ?_, ?_⟩, fun g hg => ?_, fun t ht => ?_⟩
  · rw [zu_e, zup_s]
  · rw [zu_i_ne (by omega), zup_n _ _ (by omega)]; exact a2
  · rw [zu_i_ne (by omega), zup_n _ _ (by omega)]; exact a3
  · rw [zu_i_ne (by omega), zup_n _ _ (by omega)]; exact a4
  · rw [zu_i_ne (by omega), zu_i_ne (by omega), zu_i_ne (by omega), zup_n _ _ (by omega)]; exact b g hg
  · rw [zu_i_ne (by omega), zu_i_ne (by omega), zu_i_ne (by omega), zu_i_ne (by omega), zu_i_ne (by omega), zup_n _ _ (by omega), zup_n _ _ (by omega), zup_n _ _ (by omega), zup_n _ _ (by omega)]; exact c t ht
theorem cE_rIdL {ρ : Nat → Nat → Int32} {w : Nat → Int32} (h : cE ρ w) : cE (cIdR 3 (cIdR 2 (cIdR 1 (cIdR 0 ρ)))) (rIdL w 4) := by
  have st : ∀ u ρ1 w1, u < 4 → cE ρ1 w1 → cE (cIdR u ρ1) (rIdleW u w1) := by
    intro u ρ1 w1 hu h1
    refine cE_idle hu h1 (fun i h1 h2 => rIdleW_at _ (by omega)) ?_ ?_ ?_
    · unfold rIdleW; rw [zup_n _ _ (by omega), zup_n _ _ (by omega), zup_s]
    · unfold rIdleW; rw [zup_n _ _ (by omega), zup_s]
    · unfold rIdleW; rw [zup_s]
  exact st 3 _ _ (by decide) (st 2 _ _ (by decide) (st 1 _ _ (by decide) (st 0 _ _ (by decide) h)))
section
variable {d c s t B : Nat} {x y z : Int32} {σ : zSt} {I : zI} {L : zL} {P : zP} {S : zS} {Q : Option zV → zM → Prop}
theorem cp_gone (hG : zGood B σ) (hC : zCls I L P S t σ) (k : cK I L S B (aGone σ x).2 (zi (aGone σ x).1) Q) : Ev (d + 27) (c + 20) (s + 536) 114 0 [some (zr (some (0, 0, 0))), some (zi x), none, none] [] (I, L, zpj P, zsj S, 237 + t) Q := by
  unfold aGone at k
  obtain ⟨hx, ti, huq, hO, hst, _⟩ := zG_f hG
  by_cases e : aIx x 6 = none
  · rw [e] at k
    exact g114_0i (d := d + 26) (fun _ => k I L P S t hC (hG.mono (by omega)) zFm.refl) (fun q => absurd e q)
  · obtain ⟨g, hg, ex, eu⟩ := aIx_ex e
    subst ex
    rw [eu] at k
    refine g114_0i (d := d + 26) (fun q => absurd q e) (fun _ => g114_9 (d := d + 26) (gm_Busy (d := d + 24) hC.1.1 hst (fun hb => ?_) (fun hb => ?_)))
    · simp only [if_neg hb] at k
      exact g114_16b (k I L P S t hC (hG.mono (by omega)) zFm.refl)
    · simp only [if_pos hb] at k
      obtain ⟨eW, eGG, hGG⟩ := aGoneW_0 hx hg
      have ovI : tOv (aGoneW g σ.w) ↔ ∃ u, u < 4 ∧ pOver (tL σ.w u) (tG σ.w ^^^ 2 ^ g) := by
        unfold tOv
        rw [eGG]
        constructor
        · intro ⟨u, hu, q⟩; rw [aGoneW_tr] at q; exact ⟨u, hu, q⟩
        · intro ⟨u, hu, q⟩; exact ⟨u, hu, by rw [aGoneW_tr]; exact q⟩
      refine g114_16a (d := d + 26) ?_
      have e02 : I 2 0 0 2 = nI (tG σ.w) := hC.1.1.1.1.trans hx.1.1
      rw [e02, (zxor6 hg hx.1.2).1]
      generalize hGd : tG σ.w ^^^ 2 ^ g = G at *
      have lp : ∀ r, r ≤ 4 → ∀ I1 L1 P1 S1 t1, zCls I1 L1 P1 S1 t1 σ → zFm I L S I1 L1 S1 → (∀ u, u < 4 - r → ¬ pOver (tL σ.w u) G ∧ ∃ n, P1 0 0 11 u = some (3, n, 0) ∧ cTr I1 P1 S1 (t1 + 9) n (pTrace (tL σ.w u) G)) → Ev (d + 27) (c + 5 * r) (s + 134 * r) 114 37 [some (zr (some (0, 0, 0))), some (zi (nI g)), some (zi (nI G)), some (zi (nI (4 - r)))] [] (I1, L1, zpj P1, zsj S1, 237 + t1) Q := by
        intro r
        induction r with
        | zero =>
          intro _ I1 L1 P1 S1 t1 hC1 m1 hT1
          have nov : ¬ tOv (aGoneW g σ.w) := fun q => by
            obtain ⟨u, hu, q⟩ := ovI.mp q
            exact (hT1 u hu).1 q
          have eo : ¬ tOvB (aGoneW g σ.w) = true := fun q => nov ((tOvB_iff _).mp q)
          simp only [if_neg eo] at k
          refine g114_37e (d := d + 26) (cp_keepF (d := d + 25) hC1 (fun I2 P2 hf2 hC2 m2 => g114_98 (d := d + 26) ?_))
          have hT2 : ∀ u, u < 4 → ∃ n, P2 0 0 11 u = some (3, n, 0) ∧ cTr I2 P2 S1 (t1 + 9) n (pTrace (tL σ.w u) G) := fun u hu => by
            obtain ⟨_, n, p, q⟩ := hT1 u hu
            exact ⟨n, (hf2 0 0 11 u (by omega)).2.trans p, q.fr (Nat.le_refl _) hf2.old⟩
          have hn : ∃ nn : Nat → Nat, ∀ u, u < 4 → P2 0 0 11 u = some (3, nn u, 0) ∧ cTr I2 P2 S1 (t1 + 9) (nn u) (pTrace (tL σ.w u) G) := by
            refine ⟨fun u => if h : u < 4 then (hT2 u h).choose else 0, fun u hu => ?_⟩
            simp only [dif_pos hu]
            exact (hT2 u hu).choose_spec
          obtain ⟨nn, hnn⟩ := hn
          refine ev_om 2 0 (sp_cGates (d := d + 25) (nn := nn) (fun u hu => (hnn u hu).1) (fun u hu => (hnn u hu).2.sh) (fun P3 f3 q3 => ?_))
          have eM : OM (((I2, L1, P2, S1, 237 + t1) : zM).1, ((I2, L1, P2, S1, 237 + t1) : zM).2.1, P3, ((I2, L1, P2, S1, 237 + t1) : zM).2.2.2.1, ((I2, L1, P2, S1, 237 + t1) : zM).2.2.2.2) 2 0 (cIdR 3 (cIdR 2 (cIdR 1 (cIdR 0 (zu (I2 2 0) 0 2 (nI G)))))) (L1 2 0) = (so I2 2 0 (cIdR 3 (cIdR 2 (cIdR 1 (cIdR 0 (zu (I2 2 0) 0 2 (nI G)))))), so L1 2 0 (L1 2 0), zpj P3, zsj S1, 237 + t1) := rfl
          rw [eM, so_id]
          obtain ⟨rw', hx', hr'⟩ := gone_row hG.1 hg nov
          have hr0 := tRest_of hG.1 hb
          have E0 := (cE_iff hx hr0).mp hC2.1.1
          have eAG : aGoneW g σ.w = rIdL (zup σ.w 0 (nI G)) 4 := by
            unfold aGoneW
            rw [hx.1.1, (zxor6 hg hx.1.2).1, hGd]
          have E1 : cE (cIdR 3 (cIdR 2 (cIdR 1 (cIdR 0 (zu (I2 2 0) 0 2 (nI G)))))) (aGoneW g σ.w) := by
            rw [eAG]
            exact cE_rIdL (cE_fld E0 (nI G))
          generalize cIdR 3 (cIdR 2 (cIdR 1 (cIdR 0 (zu (I2 2 0) 0 2 (nI G))))) = ρ3 at *
          have o3 : cOld (t1 + 9) I2 P2 S1 (so I2 2 0 ρ3) P3 S1 := fun n _ => ⟨by rw [so_n _ _ (by omega)], funext fun i => f3 3 n 0 i (by omega), rfl⟩
          have hC3 : zCls (so I2 2 0 ρ3) L1 P3 S1 t1 (aGoneW g σ.w, hNote σ.H σ.w, σ.2.2) := by
            refine ⟨⟨by show cTI (tτ (aGoneW g σ.w)) _ (aGoneW g σ.w); rw [so_s]; exact (cE_iff hx' hr').mpr E1, fun v hv => ?_⟩, hC2.2.fr (Nat.le_refl _) (fun j q i _ => ⟨so3 (by omega), f3 _ _ _ _ (by omega)⟩) (fun j q i => ⟨so3 (by omega), f3 _ _ _ _ (by omega)⟩) (fun j q i => ⟨so3 (by omega), rfl⟩) ⟨so3 (by omega), so3 (by omega), fun i => so3 (by omega)⟩ o3⟩
            show (∃ m, _ ∧ cSc _ _ _ _ m (tL (aGoneW g σ.w) v)) ∧ ∃ n, _ ∧ cTr _ _ _ _ n (pTrace (tL (aGoneW g σ.w) v) (tG (aGoneW g σ.w)))
            rw [aGoneW_tr, eGG]
            obtain ⟨⟨m, p1, q1⟩, _⟩ := hC2.1.2 v hv
            exact ⟨⟨m, (f3 2 0 1 v (by omega)).trans p1, q1.fr (Nat.le_refl _) o3⟩, nn v, q3 v hv, (hnn v hv).2.fr (Nat.le_refl _) o3⟩
          have m3 : zFm I L S (so I2 2 0 ρ3) L1 S1 := (m1.trans m2).trans (zFm_so (by decide) (by decide))
          have gd := hG.note (B' := B + 40) (by omega) (rw'.mono (by omega))
          have b1 := cHas_bit (v := G) (k := g) hg hGG
          have b2 := zhas6 (v := G) (k := g) hg hGG
          have kk := k _ _ _ _ _ hC3 gd m3
          rw [eW] at kk
          refine g114_110 (d := d + 26) (fun q => ?_) (fun q => ?_)
          · rw [if_pos (b2.mpr (b1.mp q))] at kk; exact kk
          · rw [if_neg (fun q2 => q (b1.mpr (b2.mp q2)))] at kk; exact kk
        | succ r ih =>
          intro hr I1 L1 P1 S1 t1 hC1 m1 hT1
          have hv : 4 - (r + 1) < 4 := by omega
          obtain ⟨⟨m, pm, cm⟩, _⟩ := hC1.1.2 (4 - (r + 1)) hv
          have hbd : isBody (tL σ.w (4 - (r + 1))) := (hx.2 _ hv).2.1
          refine g114_37 (d := d + 26) pm (by omega) (fun q => by omega) (fun _ => hv) (fun _ => ev_om 0 0 (sp_cPlays (d := d + 2) cm hbd hGG (fun ho ρ3 f3 => ?_) (fun ho ρ3 hd3 f3 => ?_)))
          · have eo : tOvB (aGoneW g σ.w) = true := (tOvB_iff _).mpr (ovI.mpr ⟨_, hv, ho⟩)
            simp only [eo, if_true] at k
            show Ev (d + 27) (c + 5 * (r + 1)) (s + 134 * (r + 1)) 114 58 [some (zr (some (0, 0, 0))), some (zi (nI g)), some (zi (nI G)), some (zi (nI (4 - (r + 1))))] [zi (nI 0)] (so I1 0 0 ρ3, so L1 0 0 (L1 0 0), zpj (zup4 P1 0 0 4 0 (some (3, m, 0))), zsj S1, 237 + t1) Q
            exact g114_58a (k _ _ _ _ _ (hC1.o0 ⟨f3 _ _ (by omega), f3 _ _ (by omega), fun i => f3 _ _ (by omega)⟩ (fun r j q i g => zu4n _ _ (by omega))) (hG.mono (by omega)) (m1.trans zFm_o0))
          · show Ev (d + 27) (c + 5 * (r + 1)) (s + 134 * (r + 1)) 114 58 [some (zr (some (0, 0, 0))), some (zi (nI g)), some (zi (nI G)), some (zi (nI (4 - (r + 1))))] [zi (nI 1)] (so I1 0 0 ρ3, so L1 0 0 (L1 0 0), zpj (zup4 P1 0 0 4 0 (some (3, m, 0))), zsj S1, 237 + t1) Q
            rw [so_id]
            have hC3 : zCls (so I1 0 0 ρ3) L1 (zup4 P1 0 0 4 0 (some (3, m, 0))) S1 t1 σ := by
              have := hC1.o0 (ρ' := ρ3) (l' := L1 0 0) (P' := zup4 P1 0 0 4 0 (some (3, m, 0))) ⟨f3 _ _ (by omega), f3 _ _ (by omega), fun i => f3 _ _ (by omega)⟩ (fun r j q i g => zu4n _ _ (by omega))
              rw [so_id] at this
              exact this
            have m3 : zFm I L S (so I1 0 0 ρ3) L1 S1 := m1.trans (zFm_so (by decide) (by decide))
            have o3 : cOld (t1 + 9) I1 P1 S1 (so I1 0 0 ρ3) (zup4 P1 0 0 4 0 (some (3, m, 0))) S1 := fun n _ => ⟨by rw [so_n _ _ (by omega)], funext fun i => zu4n _ _ (by omega), rfl⟩
            have d3 : cDn ((so I1 0 0 ρ3) 0 0) (pTrace (tL σ.w (4 - (r + 1))) G) := by rw [so_s]; exact hd3
            have p3 : ∀ u, zup4 P1 0 0 4 0 (some (3, m, 0)) 0 0 11 u = P1 0 0 11 u := fun u => zu4n _ _ (by omega)
            generalize so I1 0 0 ρ3 = I3 at *
            generalize zup4 P1 0 0 4 0 (some (3, m, 0)) = P3 at *
            refine g114_58b ?_
            rw [show c + 5 * (r + 1) = c + 5 * r + 4 + 1 by omega, show s + 134 * (r + 1) = s + 134 * r + 124 + 10 by omega]
            refine Ew.newC (d := d + 27) (c := c + 5 * r + 4) (s := s + 134 * r + 124) f114_69 rfl (fun I5 L5 P5 S5 f5 s5 _ => ?_)
            have s5 : S5 3 (t1 + 9) 0 = (9, 0) := s5
            have e5 : I5 0 0 = I3 0 0 := funext fun q => (f5 0 0 q (by omega)).1
            have d5 : cDn (I5 0 0) (pTrace (tL σ.w (4 - (r + 1))) G) := by rw [e5]; exact d3
            refine g114_72 (d := d + 26) (c := c + 5 * r) (s := s + 134 * r) s5 (sp_tInit (d := d + 24) (c := 0) (s := 0) s5 (by omega) d5 (fun I6 L6 P6 S6 f6 c6 => ?_))
            show Ev (d + 27) (c + 5 * r) (s + 134 * r) 114 80 [some (zr (some (0, 0, 0))), some (zi (nI g)), some (zi (nI G)), some (zi (nI (4 - (r + 1))))] [zr (some (3, t1 + 9, 0)), zi (nI (4 - (r + 1))), zr (some (0, 0, 11))] (I6, L6, zpj P6, zsj S6, 237 + (t1 + 1 + 4)) Q
            have f56 : cFn t1 I3 L1 P3 S1 I6 L6 P6 S6 := by
              intro r j q hn
              have a := f5 r j q hn
              have b := f6 r j q (by omega)
              exact ⟨b.1.trans a.1, b.2.1.trans a.2.1, b.2.2.1.trans a.2.2.1, b.2.2.2.trans a.2.2.2⟩
            have hC6 : zCls I6 L6 P6 S6 (t1 + 1 + 4) σ := hC3.new f56 (by omega)
            have m6 : zFm I L S I6 L6 S6 := m3.trans f56.fm
            refine g114_80 c6.sh hv ?_
            rw [show 4 - (r + 1) + 1 = 4 - r by omega]
            have hC7 : zCls I6 L6 (zup4 P6 0 0 11 (4 - (r + 1)) (some (3, t1 + 9, 0))) S6 (t1 + 1 + 4) σ := by
              have := hC6.o0 (ρ' := I6 0 0) (l' := L6 0 0) (P' := zup4 P6 0 0 11 (4 - (r + 1)) (some (3, t1 + 9, 0))) ⟨rfl, rfl, fun _ => rfl⟩ (fun r j q i g => zu4n _ _ (by omega))
              rw [so_id, so_id] at this
              exact this
            have o7 : cOld (t1 + 1 + 4 + 9) I6 P6 S6 I6 (zup4 P6 0 0 11 (4 - (r + 1)) (some (3, t1 + 9, 0))) S6 := fun n _ => ⟨rfl, funext fun i => zu4n _ _ (by omega), rfl⟩
            refine ih (by omega) _ _ _ _ _ hC7 m6 (fun u hu => ?_)
            by_cases eq : u = 4 - (r + 1)
            · subst eq
              exact ⟨ho, t1 + 9, zu4s _ _ _ _ _ _, c6.fr (Nat.le_refl _) o7⟩
            · obtain ⟨q1, n, q2, q3⟩ := hT1 u (by omega)
              have q3' := (q3.fr (Nat.le_refl _) o3).fr (b' := t1 + 1 + 4 + 9) (by omega) (f56.old (b := t1 + 9) (Nat.le_refl _))
              refine ⟨q1, n, ?_, q3'.fr (Nat.le_refl _) o7⟩
              rw [zu4n _ _ (by omega), (f56 0 0 11 (by omega)).2.2.1, p3]
              exact q2
      have h0 := lp 4 (Nat.le_refl _) I L P S t hC zFm.refl (fun u hu => by omega)
      exact h0
end
