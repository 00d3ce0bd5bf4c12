/-! the class: go, drift, undo, image, restore, run -/
theorem g120_0i {d c s : Nat} {t : Nat} {x : Int32} {I : zI} {L : zL} {P : zP} {S : zS} {Q : Option zV → zM → Prop}
    (h1 : (x < (nI 1)) → Q (some (zi ((-1)))) (I, L, zpj P, zsj S, 237 + t))
    (h2 : ((nI 1) ≤ x) → (x ≤ (nI 40)) → Ev d c s 120 13 [some (zr (some (0, 0, 0))), some (zi x), none] [] (I, L, zpj P, zsj S, 237 + t) Q)
    (h3 : ((nI 1) ≤ x) → ((nI 40) < x) → Q (some (zi ((-1)))) (I, L, zpj P, zsj S, 237 + t)) : Ev d c s 120 0 [some (zr (some (0, 0, 0))), some (zi x), none] [] (I, L, zpj P, zsj S, 237 + t) Q := by
  refine Ew.ld f120_0 rfl rfl rfl rfl ?_
  refine Ew.op (st' := zi (nI 1) :: _) f120_1 rfl rfl ?_
  refine Ew.icmp f120_2 rfl rfl (fun c1 => ?_) (fun c1 => ?_)
  · refine Ew.op (st' := zi ((-1)) :: _) f120_11 rfl rfl ?_
    refine Ew.ireti f120_12 ?_
    exact h1 c1
  · refine Ew.ld f120_5 rfl rfl rfl rfl ?_
    refine Ew.op (st' := zi (nI 40) :: _) f120_6 rfl rfl ?_
    refine Ew.icmp f120_8 rfl rfl (fun c2 => ?_) (fun c2 => ?_)
    · exact h2 (Int32.not_lt.mp c1) c2
    · refine Ew.op (st' := zi ((-1)) :: _) f120_11 rfl rfl ?_
      refine Ew.ireti f120_12 ?_
      exact h3 (Int32.not_lt.mp c1) (Int32.not_le.mp c2)
theorem g120_13 {d c s : Nat} {t n : Nat} {I : zI} {L : zL} {P : zP} {S : zS} {Q : Option zV → zM → Prop}
    (h1 : Ev d 0 0 63 0 [some (zr (some (2, 0, 0)))] [] (I, L, zpj P, zsj S, 237 + t) (fun r M' => Ev (d + 1) c s 120 20 [some (zr (some (0, 0, 0))), some (zi (nI n)), none] (zpush r []) M' Q)) : Ev (d + 1) c s 120 13 [some (zr (some (0, 0, 0))), some (zi (nI n)), none] [] (I, L, zpj P, zsj S, 237 + t) Q := by
  refine Ew.ld f120_13 rfl rfl rfl rfl ?_
  refine Ew.getp (v := some (2, 0, 0)) f120_14 rfl rfl rfl ?_
  refine Ew.call0 (ls0 := [some (zr (some (2, 0, 0)))]) f120_17 rfl (Nat.le_of_ble_eq_true rfl) rfl rfl (Nat.le_of_ble_eq_true rfl) rfl (Nat.le_of_ble_eq_true rfl) rfl rfl ?_
  exact h1
theorem g120_20 {d c s : Nat} {t n m : Nat} {I : zI} {L : zL} {P : zP} {S : zS} {Q : Option zV → zM → Prop} (nb_m : m < 5000)
    (h1 : (¬ m = 0) → Ev d 0 0 2 0 [some (zr (some (4, 0, 0))), some (zr (some (2, 0, 0)))] [] (I, L, zpj P, zsj S, 237 + t) (fun r M' => Ev (d + 1) c s 120 36 [some (zr (some (0, 0, 0))), some (zi (nI n)), none] (zpush r []) M' Q))
    (h2 : (m = 0) → Q (some (zi (nI 0))) (I, L, zpj P, zsj S, 237 + t)) : Ev (d + 1) c s 120 20 [some (zr (some (0, 0, 0))), some (zi (nI n)), none] [zi (nI m)] (I, L, zpj P, zsj S, 237 + t) Q := by
  refine Ew.ifc f120_20 rfl rfl (fun c1 => ?_) (fun c1 => ?_)
  · refine Ew.ld f120_25 rfl rfl rfl rfl ?_
    refine Ew.getp (v := some (4, 0, 0)) f120_26 rfl rfl rfl ?_
    refine Ew.ld f120_29 rfl rfl rfl rfl ?_
    refine Ew.getp (v := some (2, 0, 0)) f120_30 rfl rfl rfl ?_
    refine Ew.call0 (ls0 := [some (zr (some (4, 0, 0))), some (zr (some (2, 0, 0)))]) f120_33 rfl (Nat.le_of_ble_eq_true rfl) rfl rfl (Nat.le_of_ble_eq_true rfl) rfl (Nat.le_of_ble_eq_true rfl) rfl rfl ?_
    exact h1 (fun e => c1 ((zeq nb_m (by decide)).mpr e))
  · refine Ew.op (st' := zi (nI 0) :: _) f120_23 rfl rfl ?_
    refine Ew.ireti f120_24 ?_
    exact h2 ((zeq nb_m (by decide)).mp (Classical.not_not.mp c1))
theorem g120_36 {d c s : Nat} {t n : Nat} {I : zI} {L : zL} {P : zP} {S : zS} {Q : Option zV → zM → Prop}
    (h1 : Ev d c s 120 38 [some (zr (some (0, 0, 0))), some (zi (nI n)), some (zi (nI 0))] [] (I, L, zpj P, zsj S, 237 + t) Q) : Ev d c s 120 36 [some (zr (some (0, 0, 0))), some (zi (nI n)), none] [] (I, L, zpj P, zsj S, 237 + t) Q := by
  refine Ew.op (st' := zi (nI 0) :: _) f120_36 rfl rfl ?_
  refine Ew.sr (ls' := [some (zr (some (0, 0, 0))), some (zi (nI n)), some (zi (nI 0))]) f120_37 rfl rfl (Nat.le_of_ble_eq_true rfl) rfl rfl ?_
  exact h1
theorem g120_38 {d c s : Nat} {t n k : Nat} {I : zI} {L : zL} {P : zP} {S : zS} {Q : Option zV → zM → Prop} (nb_k : k < 5000) (nb_n : n < 5000)
    (h1 : (n ≤ k) → Q (some (zi (nI k))) (I, L, zpj P, zsj S, 237 + t))
    (h2 : (k < n) → Ev d 0 0 63 0 [some (zr (some (2, 0, 0)))] [] (I, L, zpj P, zsj S, 237 + t) (fun r M' => Ev (d + 1) c s 120 50 [some (zr (some (0, 0, 0))), some (zi (nI n)), some (zi (nI k))] (zpush r []) M' Q)) : Ev (d + 1) c s 120 38 [some (zr (some (0, 0, 0))), some (zi (nI n)), some (zi (nI k))] [] (I, L, zpj P, zsj S, 237 + t) Q := by
  refine Ew.ld f120_38 rfl rfl rfl rfl ?_
  refine Ew.ld f120_39 rfl rfl rfl rfl ?_
  refine Ew.icmp f120_40 rfl rfl (fun c1 => ?_) (fun c1 => ?_)
  · refine Ew.ld f120_66 rfl rfl rfl rfl ?_
    refine Ew.ireti f120_67 ?_
    exact h1 ((zle_iff nb_n nb_k).mp c1)
  · refine Ew.ld f120_43 rfl rfl rfl rfl ?_
    refine Ew.getp (v := some (2, 0, 0)) f120_44 rfl rfl rfl ?_
    refine Ew.call0 (ls0 := [some (zr (some (2, 0, 0)))]) f120_47 rfl (Nat.le_of_ble_eq_true rfl) rfl rfl (Nat.le_of_ble_eq_true rfl) rfl (Nat.le_of_ble_eq_true rfl) rfl rfl ?_
    exact h2 (Nat.not_le.mp fun e => c1 ((zle_iff nb_n nb_k).mpr e))
theorem g120_50 {d c s : Nat} {t n k m : Nat} {I : zI} {L : zL} {P : zP} {S : zS} {Q : Option zV → zM → Prop} (nb_m : m < 5000)
    (h1 : (m = 0) → Q (some (zi (nI k))) (I, L, zpj P, zsj S, 237 + t))
    (h2 : (¬ m = 0) → Ev d 0 0 78 0 [some (zr (some (2, 0, 0))), none, none, none, none, none] [] (I, L, zpj P, zsj S, 237 + t) (fun r M' => Ev (d + 1) c s 120 60 [some (zr (some (0, 0, 0))), some (zi (nI n)), some (zi (nI k))] (zpush r []) M' Q)) : Ev (d + 1) c s 120 50 [some (zr (some (0, 0, 0))), some (zi (nI n)), some (zi (nI k))] [zi (nI m)] (I, L, zpj P, zsj S, 237 + t) Q := by
  refine Ew.ifc f120_50 rfl rfl (fun c1 => ?_) (fun c1 => ?_)
  · refine Ew.ld f120_66 rfl rfl rfl rfl ?_
    refine Ew.ireti f120_67 ?_
    exact h1 ((zeq nb_m (by decide)).mp c1)
  · refine Ew.ld f120_53 rfl rfl rfl rfl ?_
    refine Ew.getp (v := some (2, 0, 0)) f120_54 rfl rfl rfl ?_
    refine Ew.call0 (ls0 := [some (zr (some (2, 0, 0))), none, none, none, none, none]) f120_57 rfl (Nat.le_of_ble_eq_true rfl) rfl rfl (Nat.le_of_ble_eq_true rfl) rfl (Nat.le_of_ble_eq_true rfl) rfl rfl ?_
    exact h2 (fun e => c1 ((zeq nb_m (by decide)).mpr e))
theorem g120_60 {d c s : Nat} {t n k : Nat} {I : zI} {L : zL} {P : zP} {S : zS} {Q : Option zV → zM → Prop}
    (h1 : Ev d c s 120 38 [some (zr (some (0, 0, 0))), some (zi (nI n)), some (zi (nI (k + 1)))] [] (I, L, zpj P, zsj S, 237 + t) Q) : Ev d c s 120 60 [some (zr (some (0, 0, 0))), some (zi (nI n)), some (zi (nI k))] [] (I, L, zpj P, zsj S, 237 + t) Q := by
  refine Ew.iinc (v := nI (k + 1)) (ls' := [some (zr (some (0, 0, 0))), some (zi (nI n)), some (zi (nI (k + 1)))]) f120_60 rfl (nI_1 _) rfl rfl ?_
  refine Ew.goto f120_63 rfl ?_
  exact h1
theorem g130_0i {d c s : Nat} {t : Nat} {x : Int32} {I : zI} {L : zL} {P : zP} {S : zS} {Q : Option zV → zM → Prop}
    (h1 : (x < (nI 1)) → Q (some (zi ((-1)))) (I, L, zpj P, zsj S, 237 + t))
    (h2 : ((nI 1) ≤ x) → (x ≤ (nI 40)) → Ev d c s 130 13 [some (zr (some (0, 0, 0))), some (zi x), none] [] (I, L, zpj P, zsj S, 237 + t) Q)
    (h3 : ((nI 1) ≤ x) → ((nI 40) < x) → Q (some (zi ((-1)))) (I, L, zpj P, zsj S, 237 + t)) : Ev d c s 130 0 [some (zr (some (0, 0, 0))), some (zi x), none] [] (I, L, zpj P, zsj S, 237 + t) Q := by
  refine Ew.ld f130_0 rfl rfl rfl rfl ?_
  refine Ew.op (st' := zi (nI 1) :: _) f130_1 rfl rfl ?_
  refine Ew.icmp f130_2 rfl rfl (fun c1 => ?_) (fun c1 => ?_)
  · refine Ew.op (st' := zi ((-1)) :: _) f130_11 rfl rfl ?_
    refine Ew.ireti f130_12 ?_
    exact h1 c1
  · refine Ew.ld f130_5 rfl rfl rfl rfl ?_
    refine Ew.op (st' := zi (nI 40) :: _) f130_6 rfl rfl ?_
    refine Ew.icmp f130_8 rfl rfl (fun c2 => ?_) (fun c2 => ?_)
    · exact h2 (Int32.not_lt.mp c1) c2
    · refine Ew.op (st' := zi ((-1)) :: _) f130_11 rfl rfl ?_
      refine Ew.ireti f130_12 ?_
      exact h3 (Int32.not_lt.mp c1) (Int32.not_le.mp c2)
theorem g130_13 {d c s : Nat} {t n : Nat} {I : zI} {L : zL} {P : zP} {S : zS} {Q : Option zV → zM → Prop}
    (h1 : Ev d c s 130 15 [some (zr (some (0, 0, 0))), some (zi (nI n)), some (zi (nI 0))] [] (I, L, zpj P, zsj S, 237 + t) Q) : Ev d c s 130 13 [some (zr (some (0, 0, 0))), some (zi (nI n)), none] [] (I, L, zpj P, zsj S, 237 + t) Q := by
  refine Ew.op (st' := zi (nI 0) :: _) f130_13 rfl rfl ?_
  refine Ew.sr (ls' := [some (zr (some (0, 0, 0))), some (zi (nI n)), some (zi (nI 0))]) f130_14 rfl rfl (Nat.le_of_ble_eq_true rfl) rfl rfl ?_
  exact h1
theorem g130_15 {d c s : Nat} {t n k : Nat} {I : zI} {L : zL} {P : zP} {S : zS} {Q : Option zV → zM → Prop} (nb_k : k < 5000) (nb_n : n < 5000)
    (h1 : (n ≤ k) → Ev d 0 0 62 0 [some (zr (some (2, 0, 0))), some (zi (nI 0)), none, none] [] (I, L, zpj P, zsj S, 237 + t) (fun r M' => Ev (d + 1) c s 130 52 [some (zr (some (0, 0, 0))), some (zi (nI n)), some (zi (nI k))] (zpush r []) M' Q))
    (h2 : (k < n) → Ev d 0 0 2 0 [some (zr (some (4, 0, 0))), some (zr (some (2, 0, 0)))] [] (I, L, zpj P, zsj S, 237 + t) (fun r M' => Ev (d + 1) c s 130 31 [some (zr (some (0, 0, 0))), some (zi (nI n)), some (zi (nI k))] (zpush r []) M' Q)) : Ev (d + 1) c s 130 15 [some (zr (some (0, 0, 0))), some (zi (nI n)), some (zi (nI k))] [] (I, L, zpj P, zsj S, 237 + t) Q := by
  refine Ew.ld f130_15 rfl rfl rfl rfl ?_
  refine Ew.ld f130_16 rfl rfl rfl rfl ?_
  refine Ew.icmp f130_17 rfl rfl (fun c1 => ?_) (fun c1 => ?_)
  · refine Ew.ld f130_44 rfl rfl rfl rfl ?_
    refine Ew.getp (v := some (2, 0, 0)) f130_45 rfl rfl rfl ?_
    refine Ew.op (st' := zi (nI 0) :: _) f130_48 rfl rfl ?_
    refine Ew.call0 (ls0 := [some (zr (some (2, 0, 0))), some (zi (nI 0)), none, none]) f130_49 rfl (Nat.le_of_ble_eq_true rfl) rfl rfl (Nat.le_of_ble_eq_true rfl) rfl (Nat.le_of_ble_eq_true rfl) rfl rfl ?_
    exact h1 ((zle_iff nb_n nb_k).mp c1)
  · refine Ew.ld f130_20 rfl rfl rfl rfl ?_
    refine Ew.getp (v := some (4, 0, 0)) f130_21 rfl rfl rfl ?_
    refine Ew.ld f130_24 rfl rfl rfl rfl ?_
    refine Ew.getp (v := some (2, 0, 0)) f130_25 rfl rfl rfl ?_
    refine Ew.call0 (ls0 := [some (zr (some (4, 0, 0))), some (zr (some (2, 0, 0)))]) f130_28 rfl (Nat.le_of_ble_eq_true rfl) rfl rfl (Nat.le_of_ble_eq_true rfl) rfl (Nat.le_of_ble_eq_true rfl) rfl rfl ?_
    exact h2 (Nat.not_le.mp fun e => c1 ((zle_iff nb_n nb_k).mpr e))
theorem g130_31 {d c s : Nat} {t n k : Nat} {I : zI} {L : zL} {P : zP} {S : zS} {Q : Option zV → zM → Prop}
    (h1 : Ev d 0 0 79 0 [some (zr (some (2, 0, 0))), none, none, none] [] (I, L, zpj P, zsj S, 237 + t) (fun r M' => Ev (d + 1) c s 130 38 [some (zr (some (0, 0, 0))), some (zi (nI n)), some (zi (nI k))] (zpush r []) M' Q)) : Ev (d + 1) c s 130 31 [some (zr (some (0, 0, 0))), some (zi (nI n)), some (zi (nI k))] [] (I, L, zpj P, zsj S, 237 + t) Q := by
  refine Ew.ld f130_31 rfl rfl rfl rfl ?_
  refine Ew.getp (v := some (2, 0, 0)) f130_32 rfl rfl rfl ?_
  refine Ew.call0 (ls0 := [some (zr (some (2, 0, 0))), none, none, none]) f130_35 rfl (Nat.le_of_ble_eq_true rfl) rfl rfl (Nat.le_of_ble_eq_true rfl) rfl (Nat.le_of_ble_eq_true rfl) rfl rfl ?_
  exact h1
theorem g130_38 {d c s : Nat} {t n k : Nat} {I : zI} {L : zL} {P : zP} {S : zS} {Q : Option zV → zM → Prop}
    (h1 : Ev d c s 130 15 [some (zr (some (0, 0, 0))), some (zi (nI n)), some (zi (nI (k + 1)))] [] (I, L, zpj P, zsj S, 237 + t) Q) : Ev d c s 130 38 [some (zr (some (0, 0, 0))), some (zi (nI n)), some (zi (nI k))] [] (I, L, zpj P, zsj S, 237 + t) Q := by
  refine Ew.iinc (v := nI (k + 1)) (ls' := [some (zr (some (0, 0, 0))), some (zi (nI n)), some (zi (nI (k + 1)))]) f130_38 rfl (nI_1 _) rfl rfl ?_
  refine Ew.goto f130_41 rfl ?_
  exact h1
theorem g130_52 {d c s : Nat} {t : Nat} {x : Int32} {o1 o2 : Option zV} {I : zI} {L : zL} {P : zP} {S : zS} {Q : Option zV → zM → Prop}
    (h1 : Q (some (zi x)) (I, L, zpj P, zsj S, 237 + t)) : Ev d c s 130 52 [some (zr (some (0, 0, 0))), o1, o2] [zi x] (I, L, zpj P, zsj S, 237 + t) Q := by
  refine Ew.ireti f130_52 ?_
  exact h1
theorem g131_0 {d c s : Nat} {t : Nat} {I : zI} {L : zL} {P : zP} {S : zS} {Q : Option zV → zM → Prop}
    (h1 : (¬ (I 4 0 0 1) = 0) → Ev d 0 0 3 0 [some (zr (some (4, 0, 0))), some (zr (some (2, 0, 0)))] [] (I, L, zpj P, zsj S, 237 + t) (fun r M' => Ev (d + 1) c s 131 24 [some (zr (some (0, 0, 0)))] (zpush r []) M' Q))
    (h2 : ((I 4 0 0 1) = 0) → Q (some (zi ((-4)))) (I, L, zpj P, zsj S, 237 + t)) : Ev (d + 1) c s 131 0 [some (zr (some (0, 0, 0)))] [] (I, L, zpj P, zsj S, 237 + t) Q := by
  refine Ew.ld f131_0 rfl rfl rfl rfl ?_
  refine Ew.getp (v := some (4, 0, 0)) f131_1 rfl rfl rfl ?_
  refine Ew.call0 (ls0 := [some (zr (some (4, 0, 0)))]) f131_4 rfl (Nat.le_of_ble_eq_true rfl) rfl rfl (Nat.le_of_ble_eq_true rfl) rfl (Nat.le_of_ble_eq_true rfl) rfl rfl ?_
  refine Ew.ld f1_0 rfl rfl rfl rfl ?_
  refine Ew.geti f1_1 rfl rfl ?_
  refine Ew.ireti f1_4 ?_
  show Ev (d + 1) c s 131 7 [some (zr (some (0, 0, 0)))] [zi (I 4 0 0 1)] (I, L, zpj P, zsj S, 237 + t) Q
  refine Ew.ifc f131_7 rfl rfl (fun c1 => ?_) (fun c1 => ?_)
  · refine Ew.ld f131_13 rfl rfl rfl rfl ?_
    refine Ew.getp (v := some (4, 0, 0)) f131_14 rfl rfl rfl ?_
    refine Ew.ld f131_17 rfl rfl rfl rfl ?_
    refine Ew.getp (v := some (2, 0, 0)) f131_18 rfl rfl rfl ?_
    refine Ew.call0 (ls0 := [some (zr (some (4, 0, 0))), some (zr (some (2, 0, 0)))]) f131_21 rfl (Nat.le_of_ble_eq_true rfl) rfl rfl (Nat.le_of_ble_eq_true rfl) rfl (Nat.le_of_ble_eq_true rfl) rfl rfl ?_
    exact h1 c1
  · refine Ew.op (st' := zi ((-4)) :: _) f131_10 rfl rfl ?_
    refine Ew.ireti f131_12 ?_
    exact h2 (Classical.not_not.mp c1)
theorem g131_24 {d c s : Nat} {t : Nat} {I : zI} {L : zL} {P : zP} {S : zS} {Q : Option zV → zM → Prop}
    (h1 : Q (some (zi (I 4 0 0 1))) (I, L, zpj P, zsj S, 237 + t)) : Ev (d + 1) c s 131 24 [some (zr (some (0, 0, 0)))] [] (I, L, zpj P, zsj S, 237 + t) Q := by
  refine Ew.ld f131_24 rfl rfl rfl rfl ?_
  refine Ew.getp (v := some (4, 0, 0)) f131_25 rfl rfl rfl ?_
  refine Ew.call0 (ls0 := [some (zr (some (4, 0, 0)))]) f131_28 rfl (Nat.le_of_ble_eq_true rfl) rfl rfl (Nat.le_of_ble_eq_true rfl) rfl (Nat.le_of_ble_eq_true rfl) rfl rfl ?_
  refine Ew.ld f1_0 rfl rfl rfl rfl ?_
  refine Ew.geti f1_1 rfl rfl ?_
  refine Ew.ireti f1_4 ?_
  show Ev (d + 1) c s 131 31 [some (zr (some (0, 0, 0)))] [zi (I 4 0 0 1)] (I, L, zpj P, zsj S, 237 + t) Q
  refine Ew.ireti f131_31 ?_
  exact h1
theorem g133_0 {d c s : Nat} {t : Nat} {I : zI} {L : zL} {P : zP} {S : zS} {Q : Option zV → zM → Prop}
    (h1 : Ev d 0 0 52 0 [some (zr (some (2, 8, 0))), some (zr (some (2, 0, 0))), none] [] (I, L, zpj P, zsj S, 237 + t) (fun r M' => Ev (d + 1) c s 133 11 [some (zr (some (0, 0, 0)))] (zpush r []) M' Q)) : Ev (d + 1) c s 133 0 [some (zr (some (0, 0, 0)))] [] (I, L, zpj P, zsj S, 237 + t) Q := by
  refine Ew.ld f133_0 rfl rfl rfl rfl ?_
  refine Ew.getp (v := some (2, 8, 0)) f133_1 rfl rfl rfl ?_
  refine Ew.ld f133_4 rfl rfl rfl rfl ?_
  refine Ew.getp (v := some (2, 0, 0)) f133_5 rfl rfl rfl ?_
  refine Ew.call0 (ls0 := [some (zr (some (2, 8, 0))), some (zr (some (2, 0, 0))), none]) f133_8 rfl (Nat.le_of_ble_eq_true rfl) rfl rfl (Nat.le_of_ble_eq_true rfl) rfl (Nat.le_of_ble_eq_true rfl) rfl rfl ?_
  exact h1
theorem g133_11 {d c s : Nat} {t : Nat} {I : zI} {L : zL} {P : zP} {S : zS} {Q : Option zV → zM → Prop}
    (h1 : Ev d 0 0 4 0 [some (zr (some (4, 1, 0))), some (zr (some (4, 0, 0))), none] [] (I, L, zpj P, zsj S, 237 + t) (fun r M' => Ev (d + 1) c s 133 22 [some (zr (some (0, 0, 0)))] (zpush r []) M' Q)) : Ev (d + 1) c s 133 11 [some (zr (some (0, 0, 0)))] [] (I, L, zpj P, zsj S, 237 + t) Q := by
  refine Ew.ld f133_11 rfl rfl rfl rfl ?_
  refine Ew.getp (v := some (4, 1, 0)) f133_12 rfl rfl rfl ?_
  refine Ew.ld f133_15 rfl rfl rfl rfl ?_
  refine Ew.getp (v := some (4, 0, 0)) f133_16 rfl rfl rfl ?_
  refine Ew.call0 (ls0 := [some (zr (some (4, 1, 0))), some (zr (some (4, 0, 0))), none]) f133_19 rfl (Nat.le_of_ble_eq_true rfl) rfl rfl (Nat.le_of_ble_eq_true rfl) rfl (Nat.le_of_ble_eq_true rfl) rfl rfl ?_
  exact h1
theorem g133_22 {d c s : Nat} {t : Nat} {I : zI} {L : zL} {P : zP} {S : zS} {Q : Option zV → zM → Prop}
    (h1 : Q (some (zi (nI 1))) (zup4 I 0 0 0 8 (nI 1), L, zpj P, zsj S, 237 + t)) : Ev d c s 133 22 [some (zr (some (0, 0, 0)))] [] (I, L, zpj P, zsj S, 237 + t) Q := by
  refine Ew.ld f133_22 rfl rfl rfl rfl ?_
  refine Ew.op (st' := zi (nI 1) :: _) f133_23 rfl rfl ?_
  refine Ew.putb f133_24 rfl (Or.inr rfl) rfl ?_
  refine Ew.op (st' := zi (nI 1) :: _) f133_27 rfl rfl ?_
  refine Ew.ireti f133_28 ?_
  exact h1
theorem g134_0 {d c s : Nat} {t : Nat} {I : zI} {L : zL} {P : zP} {S : zS} {Q : Option zV → zM → Prop}
    (h1 : (¬ (I 0 0 0 8) = 0) → Ev d 0 0 52 0 [some (zr (some (2, 0, 0))), some (zr (some (2, 8, 0))), none] [] (I, L, zpj P, zsj S, 237 + t) (fun r M' => Ev (d + 1) c s 134 21 [some (zr (some (0, 0, 0)))] (zpush r []) M' Q))
    (h2 : ((I 0 0 0 8) = 0) → Q (some (zi ((-4)))) (I, L, zpj P, zsj S, 237 + t)) : Ev (d + 1) c s 134 0 [some (zr (some (0, 0, 0)))] [] (I, L, zpj P, zsj S, 237 + t) Q := by
  refine Ew.ld f134_0 rfl rfl rfl rfl ?_
  refine Ew.getb f134_1 rfl rfl ?_
  refine Ew.ifc f134_4 rfl rfl (fun c1 => ?_) (fun c1 => ?_)
  · refine Ew.ld f134_10 rfl rfl rfl rfl ?_
    refine Ew.getp (v := some (2, 0, 0)) f134_11 rfl rfl rfl ?_
    refine Ew.ld f134_14 rfl rfl rfl rfl ?_
    refine Ew.getp (v := some (2, 8, 0)) f134_15 rfl rfl rfl ?_
    refine Ew.call0 (ls0 := [some (zr (some (2, 0, 0))), some (zr (some (2, 8, 0))), none]) f134_18 rfl (Nat.le_of_ble_eq_true rfl) rfl rfl (Nat.le_of_ble_eq_true rfl) rfl (Nat.le_of_ble_eq_true rfl) rfl rfl ?_
    exact h1 c1
  · refine Ew.op (st' := zi ((-4)) :: _) f134_7 rfl rfl ?_
    refine Ew.ireti f134_9 ?_
    exact h2 (Classical.not_not.mp c1)
theorem g134_21 {d c s : Nat} {t : Nat} {I : zI} {L : zL} {P : zP} {S : zS} {Q : Option zV → zM → Prop}
    (h1 : Ev d 0 0 4 0 [some (zr (some (4, 0, 0))), some (zr (some (4, 1, 0))), none] [] (I, L, zpj P, zsj S, 237 + t) (fun r M' => Ev (d + 1) c s 134 32 [some (zr (some (0, 0, 0)))] (zpush r []) M' Q)) : Ev (d + 1) c s 134 21 [some (zr (some (0, 0, 0)))] [] (I, L, zpj P, zsj S, 237 + t) Q := by
  refine Ew.ld f134_21 rfl rfl rfl rfl ?_
  refine Ew.getp (v := some (4, 0, 0)) f134_22 rfl rfl rfl ?_
  refine Ew.ld f134_25 rfl rfl rfl rfl ?_
  refine Ew.getp (v := some (4, 1, 0)) f134_26 rfl rfl rfl ?_
  refine Ew.call0 (ls0 := [some (zr (some (4, 0, 0))), some (zr (some (4, 1, 0))), none]) f134_29 rfl (Nat.le_of_ble_eq_true rfl) rfl rfl (Nat.le_of_ble_eq_true rfl) rfl (Nat.le_of_ble_eq_true rfl) rfl rfl ?_
  exact h1
theorem g134_32 {d c s : Nat} {t : Nat} {I : zI} {L : zL} {P : zP} {S : zS} {Q : Option zV → zM → Prop}
    (h1 : Q (some (zi (nI 1))) (I, L, zpj P, zsj S, 237 + t)) : Ev d c s 134 32 [some (zr (some (0, 0, 0)))] [] (I, L, zpj P, zsj S, 237 + t) Q := by
  refine Ew.op (st' := zi (nI 1) :: _) f134_32 rfl rfl ?_
  refine Ew.ireti f134_33 ?_
  exact h1
theorem g115_0i {d c s : Nat} {t : Nat} {x : Int32} {I : zI} {L : zL} {P : zP} {S : zS} {Q : Option zV → zM → Prop}
    (h1 : (aIx x 4 = none) → Q (some (zi ((-1)))) (I, L, zpj P, zsj S, 237 + t))
    (h2 : (¬ (aIx x 4 = none)) → Ev (d + 1) c s 115 9 [some (zr (some (0, 0, 0))), some (zi x)] [] (I, L, zpj P, zsj S, 237 + t) Q) : Ev (d + 1) c s 115 0 [some (zr (some (0, 0, 0))), some (zi x)] [] (I, L, zpj P, zsj S, 237 + t) Q := by
  refine Ew.ld f115_0 rfl rfl rfl rfl ?_
  refine Ew.call0 (ls0 := [some (zi x)]) f115_1 rfl (Nat.le_of_ble_eq_true rfl) rfl rfl (Nat.le_of_ble_eq_true rfl) trivial (Nat.le_of_ble_eq_true rfl) rfl rfl ?_
  refine sp_noTask (fun c1 => ?_) (fun c1 => ?_)
  · refine Ew.ifc f115_4 rfl rfl (fun h => absurd h (show ¬ (((nI 1) : Int32) = 0) by decide)) (fun _ => ?_)
    refine Ew.op (st' := zi ((-1)) :: _) f115_7 rfl rfl ?_
    refine Ew.ireti f115_8 ?_
    exact h1 c1
  · refine Ew.ifc f115_4 rfl rfl (fun _ => ?_) (fun h => absurd (show ((nI 0) : Int32) = 0 by decide) h)
    exact h2 c1
theorem g115_9 {d c s : Nat} {t u : Nat} {I : zI} {L : zL} {P : zP} {S : zS} {Q : Option zV → zM → Prop}
    (h1 : Ev d 0 0 60 0 [some (zr (some (2, 0, 0)))] [] (I, L, zpj P, zsj S, 237 + t) (fun r M' => Ev (d + 1) c s 115 16 [some (zr (some (0, 0, 0))), some (zi (nI u))] (zpush r []) M' Q)) : Ev (d + 1) c s 115 9 [some (zr (some (0, 0, 0))), some (zi (nI u))] [] (I, L, zpj P, zsj S, 237 + t) Q := by
  refine Ew.ld f115_9 rfl rfl rfl rfl ?_
  refine Ew.getp (v := some (2, 0, 0)) f115_10 rfl rfl rfl ?_
  refine Ew.call0 (ls0 := [some (zr (some (2, 0, 0)))]) f115_13 rfl (Nat.le_of_ble_eq_true rfl) rfl rfl (Nat.le_of_ble_eq_true rfl) rfl (Nat.le_of_ble_eq_true rfl) rfl rfl ?_
  exact h1
theorem g115_16a {d c s : Nat} {t u : Nat} {I : zI} {L : zL} {P : zP} {S : zS} {Q : Option zV → zM → Prop}
    (h1 : Ev d 0 0 2 0 [some (zr (some (4, 0, 0))), some (zr (some (2, 0, 0)))] [] (I, L, zpj P, zsj S, 237 + t) (fun r M' => Ev (d + 1) c s 115 33 [some (zr (some (0, 0, 0))), some (zi (nI u))] (zpush r []) M' Q)) : Ev (d + 1) c s 115 16 [some (zr (some (0, 0, 0))), some (zi (nI u))] [zi (nI 0)] (I, L, zpj P, zsj S, 237 + t) Q := by
  refine Ew.ifc f115_16 rfl rfl (fun _ => ?_) (fun h => absurd (show ((nI 0) : Int32) = 0 by decide) h)
  refine Ew.ld f115_22 rfl rfl rfl rfl ?_
  refine Ew.getp (v := some (4, 0, 0)) f115_23 rfl rfl rfl ?_
  refine Ew.ld f115_26 rfl rfl rfl rfl ?_
  refine Ew.getp (v := some (2, 0, 0)) f115_27 rfl rfl rfl ?_
  refine Ew.call0 (ls0 := [some (zr (some (4, 0, 0))), some (zr (some (2, 0, 0)))]) f115_30 rfl (Nat.le_of_ble_eq_true rfl) rfl rfl (Nat.le_of_ble_eq_true rfl) rfl (Nat.le_of_ble_eq_true rfl) rfl rfl ?_
  exact h1
theorem g115_16b {d c s : Nat} {t u : Nat} {I : zI} {L : zL} {P : zP} {S : zS} {Q : Option zV → zM → Prop}
    (h1 : Q (some (zi ((-2)))) (I, L, zpj P, zsj S, 237 + t)) : Ev d c s 115 16 [some (zr (some (0, 0, 0))), some (zi (nI u))] [zi (nI 1)] (I, L, zpj P, zsj S, 237 + t) Q := by
  refine Ew.ifc f115_16 rfl rfl (fun h => absurd h (show ¬ (((nI 1) : Int32) = 0) by decide)) (fun _ => ?_)
  refine Ew.op (st' := zi ((-2)) :: _) f115_19 rfl rfl ?_
  refine Ew.ireti f115_21 ?_
  exact h1
theorem g115_33 {d c s : Nat} {t u : Nat} {I : zI} {L : zL} {P : zP} {S : zS} {Q : Option zV → zM → Prop}
    (h1 : Ev d 0 0 76 0 [some (zr (some (2, 0, 0))), some (zi (nI u))] [] (I, L, zpj P, zsj S, 237 + t) (fun r M' => Ev (d + 1) c s 115 41 [some (zr (some (0, 0, 0))), some (zi (nI u))] (zpush r []) M' Q)) : Ev (d + 1) c s 115 33 [some (zr (some (0, 0, 0))), some (zi (nI u))] [] (I, L, zpj P, zsj S, 237 + t) Q := by
  refine Ew.ld f115_33 rfl rfl rfl rfl ?_
  refine Ew.getp (v := some (2, 0, 0)) f115_34 rfl rfl rfl ?_
  refine Ew.ld f115_37 rfl rfl rfl rfl ?_
  refine Ew.call0 (ls0 := [some (zr (some (2, 0, 0))), some (zi (nI u))]) f115_38 rfl (Nat.le_of_ble_eq_true rfl) rfl rfl (Nat.le_of_ble_eq_true rfl) rfl (Nat.le_of_ble_eq_true rfl) rfl rfl ?_
  exact h1
theorem g115_41 {d c s : Nat} {t u n bb : Nat} {T : tT} {I : zI} {L : zL} {P : zP} {S : zS} {Q : Option zV → zM → Prop} (pt : P 2 0 2 u = some (3, n, 0)) (hc : cTr I P S bb n T) 
    (b1 : u < 4)
    (b2 : cTr I P S bb n T)
    (h1 : Q (some (zi (nI T.n))) (I, L, zpj P, zsj S, 237 + t)) : Ev (d + 1) c s 115 41 [some (zr (some (0, 0, 0))), some (zi (nI u))] [] (I, L, zpj P, zsj S, 237 + t) Q := by
  refine Ew.ld f115_41 rfl rfl rfl rfl ?_
  refine Ew.getp (v := some (2, 0, 0)) f115_42 rfl rfl rfl ?_
  refine Ew.ld f115_45 rfl rfl rfl rfl ?_
  refine Ew.call0 (ls0 := [some (zr (some (2, 0, 0))), some (zi (nI u))]) f115_46 rfl (Nat.le_of_ble_eq_true rfl) rfl rfl (Nat.le_of_ble_eq_true rfl) rfl (Nat.le_of_ble_eq_true rfl) rfl rfl ?_
  refine Ew.ld f54_0 rfl rfl rfl rfl ?_
  refine Ew.getp (v := some (2, 0, 2)) f54_1 rfl rfl rfl ?_
  refine Ew.ld f54_4 rfl rfl rfl rfl ?_
  refine Ew.aaldn (v := some (3, n, 0)) f54_5 (Nat.le_of_ble_eq_true rfl) b1 (Nat.le_of_ble_eq_true rfl) rfl (show zpj P 2 0 2 u = _ from pt) ?_
  refine Ew.aret f54_6 ?_
  show Ev (d + 1) c s 115 49 [some (zr (some (0, 0, 0))), some (zi (nI u))] [zr (some (3, n, 0))] (I, L, zpj P, zsj S, 237 + t) Q
  refine Ew.call0 (ls0 := [some (zr (some (3, n, 0)))]) f115_49 rfl (Nat.le_of_ble_eq_true rfl) rfl rfl (Nat.le_of_ble_eq_true rfl) (by show (S 3 n 0).1 = _; rw [hc.sh]) (Nat.le_of_ble_eq_true rfl) rfl rfl ?_
  refine sp_tLen b2 ?_
  show Ev (d + 1) c s 115 52 [some (zr (some (0, 0, 0))), some (zi (nI u))] [zi (nI T.n)] (I, L, zpj P, zsj S, 237 + t) Q
  refine Ew.ireti f115_52 ?_
  exact h1
theorem g76_0 {d c s : Nat} {t n bb : Nat} {T : tT} {X : zM} {ρ : Nat → Nat → Int32} {l : Nat → Nat → Int64} {Q : Option zV → zM → Prop} (pt : X.2.2.1 2 0 2 t = some (3, n, 0)) (hc : cTr X.1 X.2.2.1 X.2.2.2.1 bb n T) 
    (b1 : t < 4)
    (b2 : t < 4)
    (b3 : cTr X.1 X.2.2.1 X.2.2.2.1 bb n T)
    (h1 : Ev d 0 0 105 0 [some (zr (some (3, n, 0))), some (zr (some (2, 0, 3))), some (zi (nI T.n)), some (zi (nI 1)), none] [] (OM X 2 0 ρ l) (fun r M' => Ev (d + 1) c s 76 23 [some (zr (some (2, 0, 0))), some (zi (nI t))] (zpush r []) M' Q)) : Ev (d + 1) c s 76 0 [some (zr (some (2, 0, 0))), some (zi (nI t))] [] (OM X 2 0 ρ l) Q := by
  refine Ew.ld f76_0 rfl rfl rfl rfl ?_
  refine Ew.getp (v := some (2, 0, 2)) f76_1 rfl rfl rfl ?_
  refine Ew.ld f76_4 rfl rfl rfl rfl ?_
  refine Ew.aaldn (v := some (3, n, 0)) f76_5 (Nat.le_of_ble_eq_true rfl) b1 (Nat.le_of_ble_eq_true rfl) rfl (show zpj X.2.2.1 2 0 2 t = _ from pt) ?_
  refine Ew.ld f76_6 rfl rfl rfl rfl ?_
  refine Ew.getp (v := some (2, 0, 3)) f76_7 rfl rfl rfl ?_
  refine Ew.ld f76_10 rfl rfl rfl rfl ?_
  refine Ew.getp (v := some (2, 0, 2)) f76_11 rfl rfl rfl ?_
  refine Ew.ld f76_14 rfl rfl rfl rfl ?_
  refine Ew.aaldn (v := some (3, n, 0)) f76_15 (Nat.le_of_ble_eq_true rfl) b2 (Nat.le_of_ble_eq_true rfl) rfl (show zpj X.2.2.1 2 0 2 t = _ from pt) ?_
  refine Ew.call0 (ls0 := [some (zr (some (3, n, 0)))]) f76_16 rfl (Nat.le_of_ble_eq_true rfl) rfl rfl (Nat.le_of_ble_eq_true rfl) (by show (X.2.2.2.1 3 n 0).1 = _; rw [hc.sh]) (Nat.le_of_ble_eq_true rfl) rfl rfl ?_
  refine sp_tLen b3 ?_
  show Ev (d + 1) c s 76 19 [some (zr (some (2, 0, 0))), some (zi (nI t))] [zi (nI T.n), zr (some (2, 0, 3)), zr (some (3, n, 0))] (OM X 2 0 ρ l) Q
  refine Ew.op (st' := zi (nI 1) :: _) f76_19 rfl rfl ?_
  refine Ew.call0 (ls0 := [some (zr (some (3, n, 0))), some (zr (some (2, 0, 3))), some (zi (nI T.n)), some (zi (nI 1)), none]) f76_20 rfl (Nat.le_of_ble_eq_true rfl) rfl rfl (Nat.le_of_ble_eq_true rfl) (by show (X.2.2.2.1 3 n 0).1 = _; rw [hc.sh]) (Nat.le_of_ble_eq_true rfl) rfl rfl ?_
  exact h1
theorem g76_23 {d c s : Nat} {t : Nat} {X : zM} {ρ : Nat → Nat → Int32} {l : Nat → Nat → Int64} {Q : Option zV → zM → Prop}
    (h1 : Q none (OM X 2 0 ρ l)) : Ev d c s 76 23 [some (zr (some (2, 0, 0))), some (zi (nI t))] [] (OM X 2 0 ρ l) Q := by
  refine Ew.vret f76_23 ?_
  exact h1
section
variable {d c s t B : Nat} {x y z : Int32} {σ : zSt} {I : zI} {L : zL} {P : zP} {S : zS} {Q : Option zV → zM → Prop}
theorem cp_go (hG : zGood B σ) (hB : B < 2 ^ 29) (hC : zCls I L P S t σ) (k : cK I L S B (aGo σ x).2 (zi (aGo σ x).1) Q) : Ev (d + 6) c s 120 0 [some (zr (some (0, 0, 0))), some (zi x), none] [] (I, L, zpj P, zsj S, 237 + t) Q := by
  unfold aGo at k
  obtain ⟨hx, ti, huq, hO, hst, _⟩ := zG_f hG
  have hT := hO.tr
  have bad : (aIx x 41 = none ∨ x = nI 0) → Q (some (zi (-1))) (I, L, zpj P, zsj S, 237 + t) := by
    intro h
    rcases h with h | h
    · rw [h] at k; exact k I L P S t hC (hG.mono (by omega)) zFm.refl
    · rw [h, aIx_some (by decide) (by decide)] at k
      exact k I L P S t hC (hG.mono (by omega)) zFm.refl
  by_cases e : aIx x 41 = none
  · have no : ¬ (0 ≤ x ∧ x < nI 41) := fun ⟨a, b⟩ => absurd e (aIx_in (by decide) a b)
    refine g120_0i (fun _ => bad (Or.inl e)) (fun a b => absurd ⟨?_, ?_⟩ no) (fun _ _ => bad (Or.inl e))
    · exact Int32.le_trans (by decide) a
    · exact Int32.lt_of_le_of_lt b (by decide)
  · obtain ⟨n, hn, ex, en⟩ := aIx_ex e
    subst ex
    by_cases n0 : n = 0
    · subst n0
      exact g120_0i (fun _ => bad (Or.inr rfl)) (fun a b => absurd a (by decide)) (fun a b => absurd a (by decide))
    · rw [en] at k
      simp only [if_neg n0] at k
      refine g120_0i (fun g => absurd ((zlt_iff (by omega) (by decide)).mp g) (by omega)) (fun _ _ => g120_13 (d := d + 5) (gm_Left (d := d + 3) hC.1.1 hst ?_)) (fun _ g => absurd ((zlt_iff (by decide) (by omega)).mp g) (by omega))
      have lf : aLf σ.w < 16 := (aLf_ok (tτ σ.w) σ.w).2.1
      refine g120_20 (d := d + 5) (by omega) (fun q => ?_) (fun q => ?_)
      · refine cp_keep (d := d + 4) hC (fun I1 P1 hC1 f1 => g120_36 ?_)
        have lp : ∀ m, m ≤ n → ∀ I2 w, zCls I2 L P1 S t (w, hNote σ.H σ.w, σ.2.2) → zFm I1 L S I2 L S → (∀ i, (i = 0 ∨ 26 ≤ i) → w i = σ.w i) → tI (B + (n - m)) (tτ σ.w) w → cUq (tτ σ.w) w → ((aGoL (tτ σ.w) n σ.w).1 = n - m + (aGoL (tτ σ.w) m w).1 ∧ (aGoL (tτ σ.w) n σ.w).2 = (aGoL (tτ σ.w) m w).2) → ¬ (aGoL (tτ σ.w) n σ.w).1 = 0 → Ev (d + 6) c s 120 38 [some (zr (some (0, 0, 0))), some (zi (nI n)), some (zi (nI (n - m)))] [] (I2, L, zpj P1, zsj S, 237 + t) Q := by
          have fin : ∀ m I2 w, m ≤ n → zCls I2 L P1 S t (w, hNote σ.H σ.w, σ.2.2) → zFm I1 L S I2 L S → (∀ i, (i = 0 ∨ 26 ≤ i) → w i = σ.w i) → tI (B + (n - m)) (tτ σ.w) w → cUq (tτ σ.w) w → (aGoL (tτ σ.w) n σ.w).1 = n - m → (aGoL (tτ σ.w) n σ.w).2 = w → ¬ (aGoL (tτ σ.w) n σ.w).1 = 0 → Q (some (zi (nI (n - m)))) (I2, L, zpj P1, zsj S, 237 + t) := by
            intro m I2 w hm h1 h2 h3 h4 h5 e1 e2 e3
            rw [e1] at e3
            simp only [e1, e2, if_neg e3] at k
            exact k _ _ _ _ _ h1 (hG.note (by omega) (hG.1.to h3 (h4.mono (by omega)) h5)) (f1.trans h2)
          intro m
          induction m with
          | zero =>
            intro hm I2 w h1 h2 h3 h4 h5 h6 h7
            exact g120_38 (d := d + 5) (by omega) (by omega) (fun _ => fin 0 I2 w hm h1 h2 h3 h4 h5 h6.1 h6.2 h7) (fun g => by omega)
          | succ m ih =>
            intro hm I2 w h1 h2 h3 h4 h5 h6 h7
            have eτ : tτ w = tτ σ.w := tτ_eq h3
            have ht0 : cTI (tτ σ.w) (I2 2 0) w := by have := h1.1.1; rw [show tτ (zSt.w (w, hNote σ.H σ.w, σ.2.2)) = tτ σ.w from eτ] at this; exact this
            have hst2 : cSt w := fun u hu => (h4.1 u hu).2.2.2
            have lf2 : aLf w < 16 := (aLf_ok (tτ σ.w) w).2.1
            have eg : aGoL (tτ σ.w) (m + 1) w = if aLf w = 0 then (0, w) else ((aGoL (tτ σ.w) m (aGo1 (tτ σ.w) w)).1 + 1, (aGoL (tτ σ.w) m (aGo1 (tτ σ.w) w)).2) := rfl
            refine g120_38 (d := d + 5) (by omega) (by omega) (fun g => by omega) (fun _ => gm_Left (d := d + 3) ht0 hst2 (g120_50 (d := d + 5) (by omega) (fun g => ?_) (fun g => ?_)))
            · rw [eg, if_pos g] at h6
              exact fin (m + 1) I2 w hm h1 h2 h3 h4 h5 h6.1 h6.2 h7
            · rw [eg, if_neg g] at h6
              have gt := (aGoT_ok g).1
              have hps : cPs (I2, L, P1, S, 237 + t) 0 (t + 9) (tτ σ.w) := by
                have := h1.1.ps (L := L) (top := 237 + t) (hx.to h3)
                rw [show tτ (zSt.w (w, hNote σ.H σ.w, σ.2.2)) = tτ σ.w from eτ] at this
                exact this
              refine gm_Drawn (d := d) hps ht0 h5 h4.1 (h4.ag (by omega)) g (fun ρ' a b => g120_60 ?_)
              rw [show n - (m + 1) + 1 = n - m by omega]
              have t4 : tI (B + (n - (m + 1)) + 1) (tτ σ.w) (aGo1 (tτ σ.w) w) := h4.go1 hT gt
              have tx1 : ∀ i, (i = 0 ∨ 26 ≤ i) → aGo1 (tτ σ.w) w i = w i := fun i hi => by
                unfold aGo1
                rw [rTurnW_tx hT gt (h4.1.drw) hi]
                exact rDrwW_at w (by omega)
              have row := h1.row (w' := aGo1 (tτ σ.w) w) (ρ' := ρ') (fun i hi => tx1 i hi) (by
                rw [show tτ (zSt.w (w, hNote σ.H σ.w, σ.2.2)) = tτ σ.w from eτ]; exact a)
              exact ih (by omega) _ _ row (h2.trans (zFm_so (by decide) (by decide))) (fun i hi => (tx1 i hi).trans (h3 i hi)) (t4.mono (by omega)) b ⟨by omega, h6.2⟩ h7
        have h7 : ¬ (aGoL (tτ σ.w) n σ.w).1 = 0 := by
          obtain ⟨m, rfl⟩ : ∃ m, n = m + 1 := ⟨n - 1, by omega⟩
          unfold aGoL
          rw [if_neg q]
          exact Nat.succ_ne_zero _
        have h0 := lp n (Nat.le_refl _) I1 σ.w hC1 zFm.refl (fun _ _ => rfl) (ti.mono (by omega)) huq ⟨by omega, rfl⟩ h7
        rw [Nat.sub_self] at h0
        exact h0
      · obtain ⟨m, rfl⟩ : ∃ m, n = m + 1 := ⟨n - 1, by omega⟩
        have eg : aGoL (tτ σ.w) (m + 1) σ.w = (0, σ.w) := by unfold aGoL; rw [if_pos q]
        simp only [eg] at k
        exact k I L P S t hC (hG.mono (by omega)) zFm.refl
end
