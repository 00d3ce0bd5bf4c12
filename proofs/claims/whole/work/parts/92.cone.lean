/-! the class: the player does one item -/
theorem g26_0 {d c s : Nat} {n bb : Nat} {A : List Nat} {a D : Nat} {X : zM} {ρ : Nat → Nat → Int32} {l : Nat → Nat → Int64} {Q : Option zV → zM → Prop} (hc : cSc X.1 X.2.2.1 X.2.2.2.1 bb n A) (ps : X.2.2.1 0 0 4 0 = some (3, n, 0)) 
    (b1 : cSc X.1 X.2.2.1 X.2.2.2.1 bb n A)
    (b2 : a < 5000)
    (h1 : Ev (d + 1) c s 26 9 [some (zr (some (0, 0, 4))), some (zi (nI a)), some (zi (nI D)), some (zi (nI (pF A a)))] [] (OM X 0 0 ρ l) Q) : Ev (d + 1) c s 26 0 [some (zr (some (0, 0, 4))), some (zi (nI a)), some (zi (nI D)), none] [] (OM X 0 0 ρ l) Q := by
  refine Ew.ld f26_0 rfl rfl rfl rfl ?_
  refine Ew.getp (v := some (3, n, 0)) f26_1 rfl (show zpj X.2.2.1 0 0 4 0 = _ from ps) rfl ?_
  refine Ew.ld f26_4 rfl rfl rfl rfl ?_
  refine Ew.call0 (ls0 := [some (zr (some (3, n, 0))), some (zi (nI a))]) f26_5 rfl (Nat.le_of_ble_eq_true rfl) rfl rfl (Nat.le_of_ble_eq_true rfl) (by show (X.2.2.2.1 3 n 0).1 = _; rw [hc.sh]) (Nat.le_of_ble_eq_true rfl) rfl rfl ?_
  refine sp_sLet b1 b2 ?_
  show Ev (d + 1) c s 26 8 [some (zr (some (0, 0, 4))), some (zi (nI a)), some (zi (nI D)), none] [zi (nI (pF A a))] (OM X 0 0 ρ l) Q
  refine Ew.sr (ls' := [some (zr (some (0, 0, 4))), some (zi (nI a)), some (zi (nI D)), some (zi (nI (pF A a)))]) f26_8 rfl rfl (Nat.le_of_ble_eq_true rfl) rfl rfl ?_
  exact h1
theorem g26_9 {d c s : Nat} {n bb : Nat} {A : List Nat} {a D x : Nat} {X : zM} {ρ : Nat → Nat → Int32} {l : Nat → Nat → Int64} {Q : Option zV → zM → Prop} (hc : cSc X.1 X.2.2.1 X.2.2.2.1 bb n A) (ps : X.2.2.1 0 0 4 0 = some (3, n, 0))  (nb_x : x < 5000)
    (h1 : (¬ x = 33) → (¬ x = 91) → (x < 50) → (aIx ((nI x) - (nI 97)) 6 = none) → Q (some (zi ((-1)))) (OM X 0 0 ρ l))
    (b1 : (¬ x = 33) → (¬ x = 91) → (x < 50) → (¬ (aIx ((nI x) - (nI 97)) 6 = none)) → cSc X.1 X.2.2.1 X.2.2.2.1 bb n A)
    (b2 : (¬ x = 33) → (¬ x = 91) → (x < 50) → (¬ (aIx ((nI x) - (nI 97)) 6 = none)) → a + 1 < 5000)
    (h2 : (¬ x = 33) → (¬ x = 91) → (x < 50) → (¬ (aIx ((nI x) - (nI 97)) 6 = none)) → (¬ (nI (pF A (a + 1))) = (nI 40)) → Ev d 0 0 28 0 [some (zr (some (0, 0, 4))), some (zi (nI a)), some (zi ((nI x) - (nI 97))), none, none] [] (OM X 0 0 ρ l) (fun r M' => Ev (d + 1) c s 26 106 [some (zr (some (0, 0, 4))), some (zi (nI a)), some (zi (nI D)), some (zi (nI x))] (zpush r []) M' Q))
    (h3 : (¬ x = 33) → (¬ x = 91) → (x < 50) → (¬ (aIx ((nI x) - (nI 97)) 6 = none)) → ((nI (pF A (a + 1))) = (nI 40)) → Ev d 0 0 27 0 [some (zr (some (0, 0, 4))), some (zi (nI a)), some (zi ((nI x) - (nI 97))), some (zi (nI D)), none, none] [] (OM X 0 0 ρ l) (fun r M' => Ev (d + 1) c s 26 96 [some (zr (some (0, 0, 4))), some (zi (nI a)), some (zi (nI D)), some (zi (nI x))] (zpush r []) M' Q))
    (h4 : (¬ x = 33) → (¬ x = 91) → (50 ≤ x) → (53 < x) → (aIx ((nI x) - (nI 97)) 6 = none) → Q (some (zi ((-1)))) (OM X 0 0 ρ l))
    (b3 : (¬ x = 33) → (¬ x = 91) → (50 ≤ x) → (53 < x) → (¬ (aIx ((nI x) - (nI 97)) 6 = none)) → cSc X.1 X.2.2.1 X.2.2.2.1 bb n A)
    (b4 : (¬ x = 33) → (¬ x = 91) → (50 ≤ x) → (53 < x) → (¬ (aIx ((nI x) - (nI 97)) 6 = none)) → a + 1 < 5000)
    (h5 : (¬ x = 33) → (¬ x = 91) → (50 ≤ x) → (53 < x) → (¬ (aIx ((nI x) - (nI 97)) 6 = none)) → (¬ (nI (pF A (a + 1))) = (nI 40)) → Ev d 0 0 28 0 [some (zr (some (0, 0, 4))), some (zi (nI a)), some (zi ((nI x) - (nI 97))), none, none] [] (OM X 0 0 ρ l) (fun r M' => Ev (d + 1) c s 26 106 [some (zr (some (0, 0, 4))), some (zi (nI a)), some (zi (nI D)), some (zi (nI x))] (zpush r []) M' Q))
    (h6 : (¬ x = 33) → (¬ x = 91) → (50 ≤ x) → (53 < x) → (¬ (aIx ((nI x) - (nI 97)) 6 = none)) → ((nI (pF A (a + 1))) = (nI 40)) → Ev d 0 0 27 0 [some (zr (some (0, 0, 4))), some (zi (nI a)), some (zi ((nI x) - (nI 97))), some (zi (nI D)), none, none] [] (OM X 0 0 ρ l) (fun r M' => Ev (d + 1) c s 26 96 [some (zr (some (0, 0, 4))), some (zi (nI a)), some (zi (nI D)), some (zi (nI x))] (zpush r []) M' Q))
    (h7 : (¬ x = 33) → (¬ x = 91) → (50 ≤ x) → (x ≤ 53) → Ev d 0 0 30 0 [some (zr (some (0, 0, 4))), some (zi (nI a)), some (zi ((nI x) - (nI 48))), some (zi (nI D)), none, none, none, none] [] (OM X 0 0 ρ l) (fun r M' => Ev (d + 1) c s 26 58 [some (zr (some (0, 0, 4))), some (zi (nI a)), some (zi (nI D)), some (zi (nI x))] (zpush r []) M' Q))
    (h8 : (¬ x = 33) → (x = 91) → Ev d 0 0 29 0 [some (zr (some (0, 0, 4))), some (zi (nI a)), some (zi (nI D)), none, none] [] (OM X 0 0 ρ l) (fun r M' => Ev (d + 1) c s 26 35 [some (zr (some (0, 0, 4))), some (zi (nI a)), some (zi (nI D)), some (zi (nI x))] (zpush r []) M' Q))
    (h9 : (x = 33) → Q (some (zi ((-1)))) (OM X 0 0 (zu (zu ρ 4 14 (nI 2)) 4 15 ((-4))) l)) : Ev (d + 1) c s 26 9 [some (zr (some (0, 0, 4))), some (zi (nI a)), some (zi (nI D)), some (zi (nI x))] [] (OM X 0 0 ρ l) Q := by
  refine Ew.ld f26_9 rfl rfl rfl rfl ?_
  refine Ew.op (st' := zi (nI 33) :: _) f26_10 rfl rfl ?_
  refine Ew.icmp f26_12 rfl rfl (fun c1 => ?_) (fun c1 => ?_)
  · refine Ew.ld f26_23 rfl rfl rfl rfl ?_
    refine Ew.op (st' := zi (nI 91) :: _) f26_24 rfl rfl ?_
    refine Ew.icmp f26_26 rfl rfl (fun c2 => ?_) (fun c2 => ?_)
    · refine Ew.ld f26_36 rfl rfl rfl rfl ?_
      refine Ew.op (st' := zi (nI 50) :: _) f26_37 rfl rfl ?_
      refine Ew.icmp f26_39 rfl rfl (fun c3 => ?_) (fun c3 => ?_)
      · refine Ew.ld f26_59 rfl rfl rfl rfl ?_
        refine Ew.op (st' := zi (nI 97) :: _) f26_60 rfl rfl ?_
        refine Ew.op (st' := zi ((nI x) - (nI 97)) :: _) f26_62 rfl rfl ?_
        refine Ew.call0 (ls0 := [some (zi ((nI x) - (nI 97)))]) f26_63 rfl (Nat.le_of_ble_eq_true rfl) rfl rfl (Nat.le_of_ble_eq_true rfl) trivial (Nat.le_of_ble_eq_true rfl) rfl rfl ?_
        refine sp_noGate (fun c4 => ?_) (fun c4 => ?_)
        · refine Ew.ifc f26_66 rfl rfl (fun h => absurd h (show ¬ (((nI 1) : Int32) = 0) by decide)) (fun _ => ?_)
          refine Ew.op (st' := zi ((-1)) :: _) f26_69 rfl rfl ?_
          refine Ew.ireti f26_70 ?_
          exact h1 (fun e => c1 ((zeq nb_x (by decide)).mpr e)) (fun e => c2 ((zeq nb_x (by decide)).mpr e)) ((zlt_iff nb_x (by decide)).mp c3) c4
        · refine Ew.ifc f26_66 rfl rfl (fun _ => ?_) (fun h => absurd (show ((nI 0) : Int32) = 0 by decide) h)
          refine Ew.ld f26_71 rfl rfl rfl rfl ?_
          refine Ew.getp (v := some (3, n, 0)) f26_72 rfl (show zpj X.2.2.1 0 0 4 0 = _ from ps) rfl ?_
          refine Ew.ld f26_75 rfl rfl rfl rfl ?_
          refine Ew.op (st' := zi (nI 1) :: _) f26_76 rfl rfl ?_
          refine Ew.addn f26_77 rfl ?_
          refine Ew.call0 (ls0 := [some (zr (some (3, n, 0))), some (zi (nI (a + 1)))]) f26_78 rfl (Nat.le_of_ble_eq_true rfl) rfl rfl (Nat.le_of_ble_eq_true rfl) (by show (X.2.2.2.1 3 n 0).1 = _; rw [hc.sh]) (Nat.le_of_ble_eq_true rfl) rfl rfl ?_
          refine sp_sLet (b1 (fun e => c1 ((zeq nb_x (by decide)).mpr e)) (fun e => c2 ((zeq nb_x (by decide)).mpr e)) ((zlt_iff nb_x (by decide)).mp c3) c4) (b2 (fun e => c1 ((zeq nb_x (by decide)).mpr e)) (fun e => c2 ((zeq nb_x (by decide)).mpr e)) ((zlt_iff nb_x (by decide)).mp c3) c4) ?_
          show Ev (d + 1) c s 26 81 [some (zr (some (0, 0, 4))), some (zi (nI a)), some (zi (nI D)), some (zi (nI x))] [zi (nI (pF A (a + 1)))] (OM X 0 0 ρ l) Q
          refine Ew.op (st' := zi (nI 40) :: _) f26_81 rfl rfl ?_
          refine Ew.icmp f26_83 rfl rfl (fun c5 => ?_) (fun c5 => ?_)
          · refine Ew.ld f26_97 rfl rfl rfl rfl ?_
            refine Ew.ld f26_98 rfl rfl rfl rfl ?_
            refine Ew.ld f26_99 rfl rfl rfl rfl ?_
            refine Ew.op (st' := zi (nI 97) :: _) f26_100 rfl rfl ?_
            refine Ew.op (st' := zi ((nI x) - (nI 97)) :: _) f26_102 rfl rfl ?_
            refine Ew.call0 (ls0 := [some (zr (some (0, 0, 4))), some (zi (nI a)), some (zi ((nI x) - (nI 97))), none, none]) f26_103 rfl (Nat.le_of_ble_eq_true rfl) rfl rfl (Nat.le_of_ble_eq_true rfl) rfl (Nat.le_of_ble_eq_true rfl) rfl rfl ?_
            exact h2 (fun e => c1 ((zeq nb_x (by decide)).mpr e)) (fun e => c2 ((zeq nb_x (by decide)).mpr e)) ((zlt_iff nb_x (by decide)).mp c3) c4 c5
          · refine Ew.ld f26_86 rfl rfl rfl rfl ?_
            refine Ew.ld f26_87 rfl rfl rfl rfl ?_
            refine Ew.ld f26_88 rfl rfl rfl rfl ?_
            refine Ew.op (st' := zi (nI 97) :: _) f26_89 rfl rfl ?_
            refine Ew.op (st' := zi ((nI x) - (nI 97)) :: _) f26_91 rfl rfl ?_
            refine Ew.ld f26_92 rfl rfl rfl rfl ?_
            refine Ew.call0 (ls0 := [some (zr (some (0, 0, 4))), some (zi (nI a)), some (zi ((nI x) - (nI 97))), some (zi (nI D)), none, none]) f26_93 rfl (Nat.le_of_ble_eq_true rfl) rfl rfl (Nat.le_of_ble_eq_true rfl) rfl (Nat.le_of_ble_eq_true rfl) rfl rfl ?_
            exact h3 (fun e => c1 ((zeq nb_x (by decide)).mpr e)) (fun e => c2 ((zeq nb_x (by decide)).mpr e)) ((zlt_iff nb_x (by decide)).mp c3) c4 (Classical.not_not.mp c5)
      · refine Ew.ld f26_42 rfl rfl rfl rfl ?_
        refine Ew.op (st' := zi (nI 53) :: _) f26_43 rfl rfl ?_
        refine Ew.icmp f26_45 rfl rfl (fun c6 => ?_) (fun c6 => ?_)
        · refine Ew.ld f26_59 rfl rfl rfl rfl ?_
          refine Ew.op (st' := zi (nI 97) :: _) f26_60 rfl rfl ?_
          refine Ew.op (st' := zi ((nI x) - (nI 97)) :: _) f26_62 rfl rfl ?_
          refine Ew.call0 (ls0 := [some (zi ((nI x) - (nI 97)))]) f26_63 rfl (Nat.le_of_ble_eq_true rfl) rfl rfl (Nat.le_of_ble_eq_true rfl) trivial (Nat.le_of_ble_eq_true rfl) rfl rfl ?_
          refine sp_noGate (fun c7 => ?_) (fun c7 => ?_)
          · refine Ew.ifc f26_66 rfl rfl (fun h => absurd h (show ¬ (((nI 1) : Int32) = 0) by decide)) (fun _ => ?_)
            refine Ew.op (st' := zi ((-1)) :: _) f26_69 rfl rfl ?_
            refine Ew.ireti f26_70 ?_
            exact h4 (fun e => c1 ((zeq nb_x (by decide)).mpr e)) (fun e => c2 ((zeq nb_x (by decide)).mpr e)) (Nat.not_lt.mp fun e => c3 ((zlt_iff nb_x (by decide)).mpr e)) ((zlt_iff (by decide) nb_x).mp c6) c7
          · refine Ew.ifc f26_66 rfl rfl (fun _ => ?_) (fun h => absurd (show ((nI 0) : Int32) = 0 by decide) h)
            refine Ew.ld f26_71 rfl rfl rfl rfl ?_
            refine Ew.getp (v := some (3, n, 0)) f26_72 rfl (show zpj X.2.2.1 0 0 4 0 = _ from ps) rfl ?_
            refine Ew.ld f26_75 rfl rfl rfl rfl ?_
            refine Ew.op (st' := zi (nI 1) :: _) f26_76 rfl rfl ?_
            refine Ew.addn f26_77 rfl ?_
            refine Ew.call0 (ls0 := [some (zr (some (3, n, 0))), some (zi (nI (a + 1)))]) f26_78 rfl (Nat.le_of_ble_eq_true rfl) rfl rfl (Nat.le_of_ble_eq_true rfl) (by show (X.2.2.2.1 3 n 0).1 = _; rw [hc.sh]) (Nat.le_of_ble_eq_true rfl) rfl rfl ?_
            refine sp_sLet (b3 (fun e => c1 ((zeq nb_x (by decide)).mpr e)) (fun e => c2 ((zeq nb_x (by decide)).mpr e)) (Nat.not_lt.mp fun e => c3 ((zlt_iff nb_x (by decide)).mpr e)) ((zlt_iff (by decide) nb_x).mp c6) c7) (b4 (fun e => c1 ((zeq nb_x (by decide)).mpr e)) (fun e => c2 ((zeq nb_x (by decide)).mpr e)) (Nat.not_lt.mp fun e => c3 ((zlt_iff nb_x (by decide)).mpr e)) ((zlt_iff (by decide) nb_x).mp c6) c7) ?_
            show Ev (d + 1) c s 26 81 [some (zr (some (0, 0, 4))), some (zi (nI a)), some (zi (nI D)), some (zi (nI x))] [zi (nI (pF A (a + 1)))] (OM X 0 0 ρ l) Q
            refine Ew.op (st' := zi (nI 40) :: _) f26_81 rfl rfl ?_
            refine Ew.icmp f26_83 rfl rfl (fun c8 => ?_) (fun c8 => ?_)
            · refine Ew.ld f26_97 rfl rfl rfl rfl ?_
              refine Ew.ld f26_98 rfl rfl rfl rfl ?_
              refine Ew.ld f26_99 rfl rfl rfl rfl ?_
              refine Ew.op (st' := zi (nI 97) :: _) f26_100 rfl rfl ?_
              refine Ew.op (st' := zi ((nI x) - (nI 97)) :: _) f26_102 rfl rfl ?_
              refine Ew.call0 (ls0 := [some (zr (some (0, 0, 4))), some (zi (nI a)), some (zi ((nI x) - (nI 97))), none, none]) f26_103 rfl (Nat.le_of_ble_eq_true rfl) rfl rfl (Nat.le_of_ble_eq_true rfl) rfl (Nat.le_of_ble_eq_true rfl) rfl rfl ?_
              exact h5 (fun e => c1 ((zeq nb_x (by decide)).mpr e)) (fun e => c2 ((zeq nb_x (by decide)).mpr e)) (Nat.not_lt.mp fun e => c3 ((zlt_iff nb_x (by decide)).mpr e)) ((zlt_iff (by decide) nb_x).mp c6) c7 c8
            · refine Ew.ld f26_86 rfl rfl rfl rfl ?_
              refine Ew.ld f26_87 rfl rfl rfl rfl ?_
              refine Ew.ld f26_88 rfl rfl rfl rfl ?_
              refine Ew.op (st' := zi (nI 97) :: _) f26_89 rfl rfl ?_
              refine Ew.op (st' := zi ((nI x) - (nI 97)) :: _) f26_91 rfl rfl ?_
              refine Ew.ld f26_92 rfl rfl rfl rfl ?_
              refine Ew.call0 (ls0 := [some (zr (some (0, 0, 4))), some (zi (nI a)), some (zi ((nI x) - (nI 97))), some (zi (nI D)), none, none]) f26_93 rfl (Nat.le_of_ble_eq_true rfl) rfl rfl (Nat.le_of_ble_eq_true rfl) rfl (Nat.le_of_ble_eq_true rfl) rfl rfl ?_
              exact h6 (fun e => c1 ((zeq nb_x (by decide)).mpr e)) (fun e => c2 ((zeq nb_x (by decide)).mpr e)) (Nat.not_lt.mp fun e => c3 ((zlt_iff nb_x (by decide)).mpr e)) ((zlt_iff (by decide) nb_x).mp c6) c7 (Classical.not_not.mp c8)
        · refine Ew.ld f26_48 rfl rfl rfl rfl ?_
          refine Ew.ld f26_49 rfl rfl rfl rfl ?_
          refine Ew.ld f26_50 rfl rfl rfl rfl ?_
          refine Ew.op (st' := zi (nI 48) :: _) f26_51 rfl rfl ?_
          refine Ew.op (st' := zi ((nI x) - (nI 48)) :: _) f26_53 rfl rfl ?_
          refine Ew.ld f26_54 rfl rfl rfl rfl ?_
          refine Ew.call0 (ls0 := [some (zr (some (0, 0, 4))), some (zi (nI a)), some (zi ((nI x) - (nI 48))), some (zi (nI D)), none, none, none, none]) f26_55 rfl (Nat.le_of_ble_eq_true rfl) rfl rfl (Nat.le_of_ble_eq_true rfl) rfl (Nat.le_of_ble_eq_true rfl) rfl rfl ?_
          exact h7 (fun e => c1 ((zeq nb_x (by decide)).mpr e)) (fun e => c2 ((zeq nb_x (by decide)).mpr e)) (Nat.not_lt.mp fun e => c3 ((zlt_iff nb_x (by decide)).mpr e)) (Nat.not_lt.mp fun e => c6 ((zlt_iff (by decide) nb_x).mpr e))
    · refine Ew.ld f26_29 rfl rfl rfl rfl ?_
      refine Ew.ld f26_30 rfl rfl rfl rfl ?_
      refine Ew.ld f26_31 rfl rfl rfl rfl ?_
      refine Ew.call0 (ls0 := [some (zr (some (0, 0, 4))), some (zi (nI a)), some (zi (nI D)), none, none]) f26_32 rfl (Nat.le_of_ble_eq_true rfl) rfl rfl (Nat.le_of_ble_eq_true rfl) rfl (Nat.le_of_ble_eq_true rfl) rfl rfl ?_
      exact h8 (fun e => c1 ((zeq nb_x (by decide)).mpr e)) ((zeq nb_x (by decide)).mp (Classical.not_not.mp c2))
  · refine Ew.ld f26_15 rfl rfl rfl rfl ?_
    refine Ew.op (st' := zi (nI 2) :: _) f26_16 rfl rfl ?_
    refine Ew.op (st' := zi ((-4)) :: _) f26_17 rfl rfl ?_
    refine Ew.call0 (ls0 := [some (zr (some (0, 0, 4))), some (zi (nI 2)), some (zi ((-4)))]) f26_19 rfl (Nat.le_of_ble_eq_true rfl) rfl rfl (Nat.le_of_ble_eq_true rfl) rfl (Nat.le_of_ble_eq_true rfl) rfl rfl ?_
    refine Ew.ld f31_0 rfl rfl rfl rfl ?_
    refine Ew.ld f31_1 rfl rfl rfl rfl ?_
    refine Ew.putiO f31_2 rfl rfl ?_
    refine Ew.ld f31_5 rfl rfl rfl rfl ?_
    refine Ew.ld f31_6 rfl rfl rfl rfl ?_
    refine Ew.putiO f31_7 rfl rfl ?_
    refine Ew.op (st' := zi ((-1)) :: _) f31_10 rfl rfl ?_
    refine Ew.ireti f31_11 ?_
    show Ev (d + 1) c s 26 22 [some (zr (some (0, 0, 4))), some (zi (nI a)), some (zi (nI D)), some (zi (nI x))] [zi ((-1))] (OM X 0 0 (zu (zu ρ 4 14 (nI 2)) 4 15 ((-4))) l) Q
    refine Ew.ireti f26_22 ?_
    exact h9 ((zeq nb_x (by decide)).mp (Classical.not_not.mp c1))
theorem g26_35 {d c s : Nat} {a D x : Nat} {y : Int32} {X : zM} {ρ : Nat → Nat → Int32} {l : Nat → Nat → Int64} {Q : Option zV → zM → Prop}
    (h1 : Q (some (zi y)) (OM X 0 0 ρ l)) : Ev d c s 26 35 [some (zr (some (0, 0, 4))), some (zi (nI a)), some (zi (nI D)), some (zi (nI x))] [zi y] (OM X 0 0 ρ l) Q := by
  refine Ew.ireti f26_35 ?_
  exact h1
theorem g26_58 {d c s : Nat} {a D x : Nat} {y : Int32} {X : zM} {ρ : Nat → Nat → Int32} {l : Nat → Nat → Int64} {Q : Option zV → zM → Prop}
    (h1 : Q (some (zi y)) (OM X 0 0 ρ l)) : Ev d c s 26 58 [some (zr (some (0, 0, 4))), some (zi (nI a)), some (zi (nI D)), some (zi (nI x))] [zi y] (OM X 0 0 ρ l) Q := by
  refine Ew.ireti f26_58 ?_
  exact h1
theorem g26_96 {d c s : Nat} {a D x : Nat} {y : Int32} {X : zM} {ρ : Nat → Nat → Int32} {l : Nat → Nat → Int64} {Q : Option zV → zM → Prop}
    (h1 : Q (some (zi y)) (OM X 0 0 ρ l)) : Ev d c s 26 96 [some (zr (some (0, 0, 4))), some (zi (nI a)), some (zi (nI D)), some (zi (nI x))] [zi y] (OM X 0 0 ρ l) Q := by
  refine Ew.ireti f26_96 ?_
  exact h1
theorem g26_106 {d c s : Nat} {a D x : Nat} {y : Int32} {X : zM} {ρ : Nat → Nat → Int32} {l : Nat → Nat → Int64} {Q : Option zV → zM → Prop}
    (h1 : Q (some (zi y)) (OM X 0 0 ρ l)) : Ev d c s 26 106 [some (zr (some (0, 0, 4))), some (zi (nI a)), some (zi (nI D)), some (zi (nI x))] [zi y] (OM X 0 0 ρ l) Q := by
  refine Ew.ireti f26_106 ?_
  exact h1
theorem g25_0 {d c s : Nat} {n bb : Nat} {A : List Nat} {a D : Nat} {X : zM} {ρ : Nat → Nat → Int32} {l : Nat → Nat → Int64} {Q : Option zV → zM → Prop} (hc : cSc X.1 X.2.2.1 X.2.2.2.1 bb n A) (ps : X.2.2.1 0 0 4 0 = some (3, n, 0))  (nb_D : D < 5000)
    (h1 : (D ≤ 6) → Ev d c s 25 13 [some (zr (some (0, 0, 4))), some (zi (nI a)), some (zi (nI D)), some (zi (nI a)), some (zi (nI 0))] [] (OM X 0 0 ρ l) Q)
    (h2 : (6 < D) → Q (some (zi ((-1)))) (OM X 0 0 ρ l)) : Ev d c s 25 0 [some (zr (some (0, 0, 4))), some (zi (nI a)), some (zi (nI D)), none, none] [] (OM X 0 0 ρ l) Q := by
  refine Ew.ld f25_0 rfl rfl rfl rfl ?_
  refine Ew.op (st' := zi (nI 6) :: _) f25_1 rfl rfl ?_
  refine Ew.icmp f25_3 rfl rfl (fun c1 => ?_) (fun c1 => ?_)
  · refine Ew.ld f25_8 rfl rfl rfl rfl ?_
    refine Ew.sr (ls' := [some (zr (some (0, 0, 4))), some (zi (nI a)), some (zi (nI D)), some (zi (nI a)), none]) f25_9 rfl rfl (Nat.le_of_ble_eq_true rfl) rfl rfl ?_
    refine Ew.op (st' := zi (nI 0) :: _) f25_10 rfl rfl ?_
    refine Ew.sr (ls' := [some (zr (some (0, 0, 4))), some (zi (nI a)), some (zi (nI D)), some (zi (nI a)), some (zi (nI 0))]) f25_11 rfl rfl (Nat.le_of_ble_eq_true rfl) rfl rfl ?_
    exact h1 ((zle_iff nb_D (by decide)).mp c1)
  · refine Ew.op (st' := zi ((-1)) :: _) f25_6 rfl rfl ?_
    refine Ew.ireti f25_7 ?_
    exact h2 (Nat.not_le.mp fun e => c1 ((zle_iff nb_D (by decide)).mpr e))
theorem g25_13 {d c s : Nat} {n bb : Nat} {A : List Nat} {a b D i : Nat} {X : zM} {ρ : Nat → Nat → Int32} {l : Nat → Nat → Int64} {Q : Option zV → zM → Prop} (hc : cSc X.1 X.2.2.1 X.2.2.2.1 bb n A) (ps : X.2.2.1 0 0 4 0 = some (3, n, 0))  (nb_i : i < 5000)
    (h1 : (60 ≤ i) → Q (some (zi (nI a))) (OM X 0 0 ρ l))
    (b1 : (i < 60) → cSc X.1 X.2.2.1 X.2.2.2.1 bb n A)
    (b2 : (i < 60) → a < 5000)
    (h2 : (i < 60) → (pIsC (pF A a)) → Q (some (zi (nI a))) (OM X 0 0 ρ l))
    (h3 : (i < 60) → (¬ (pIsC (pF A a))) → Ev (d + 1) 0 0 26 0 [some (zr (some (0, 0, 4))), some (zi (nI a)), some (zi (nI D)), none] [] (OM X 0 0 ρ l) (fun r M' => Ev (d + 2) c s 25 37 [some (zr (some (0, 0, 4))), some (zi (nI b)), some (zi (nI D)), some (zi (nI a)), some (zi (nI i))] (zpush r []) M' Q)) : Ev (d + 2) c s 25 13 [some (zr (some (0, 0, 4))), some (zi (nI b)), some (zi (nI D)), some (zi (nI a)), some (zi (nI i))] [] (OM X 0 0 ρ l) Q := by
  refine Ew.ld f25_13 rfl rfl rfl rfl ?_
  refine Ew.op (st' := zi (nI 60) :: _) f25_15 rfl rfl ?_
  refine Ew.icmp f25_17 rfl rfl (fun c1 => ?_) (fun c1 => ?_)
  · refine Ew.ld f25_51 rfl rfl rfl rfl ?_
    refine Ew.ireti f25_52 ?_
    exact h1 ((zle_iff (by decide) nb_i).mp c1)
  · refine Ew.ld f25_20 rfl rfl rfl rfl ?_
    refine Ew.getp (v := some (3, n, 0)) f25_21 rfl (show zpj X.2.2.1 0 0 4 0 = _ from ps) rfl ?_
    refine Ew.ld f25_24 rfl rfl rfl rfl ?_
    refine Ew.call0 (ls0 := [some (zr (some (3, n, 0))), some (zi (nI a))]) f25_25 rfl (Nat.le_of_ble_eq_true rfl) rfl rfl (Nat.le_of_ble_eq_true rfl) (by show (X.2.2.2.1 3 n 0).1 = _; rw [hc.sh]) (Nat.le_of_ble_eq_true rfl) rfl rfl ?_
    refine sp_sCls (b1 (Nat.not_le.mp fun e => c1 ((zle_iff (by decide) nb_i).mpr e))) (b2 (Nat.not_le.mp fun e => c1 ((zle_iff (by decide) nb_i).mpr e))) (fun c2 => ?_) (fun c2 => ?_)
    · refine Ew.ifc f25_28 rfl rfl (fun _ => ?_) (fun h => absurd (show ¬ ((nI 1) : Int32) = 0 by decide) h)
      refine Ew.ld f25_51 rfl rfl rfl rfl ?_
      refine Ew.ireti f25_52 ?_
      exact h2 (Nat.not_le.mp fun e => c1 ((zle_iff (by decide) nb_i).mpr e)) c2
    · refine Ew.ifc f25_28 rfl rfl (fun h => absurd h (show ¬ (¬ ((nI 0) : Int32) = 0) by decide)) (fun _ => ?_)
      refine Ew.ld f25_31 rfl rfl rfl rfl ?_
      refine Ew.ld f25_32 rfl rfl rfl rfl ?_
      refine Ew.ld f25_33 rfl rfl rfl rfl ?_
      refine Ew.call0 (ls0 := [some (zr (some (0, 0, 4))), some (zi (nI a)), some (zi (nI D)), none]) f25_34 rfl (Nat.le_of_ble_eq_true rfl) rfl rfl (Nat.le_of_ble_eq_true rfl) rfl (Nat.le_of_ble_eq_true rfl) rfl rfl ?_
      exact h3 (Nat.not_le.mp fun e => c1 ((zle_iff (by decide) nb_i).mpr e)) c2
theorem g25_37 {d c s : Nat} {a b D i e : Nat} {X : zM} {ρ : Nat → Nat → Int32} {l : Nat → Nat → Int64} {Q : Option zV → zM → Prop}
    (h1 : (¬ (nI e) = ((-1))) → Ev d c s 25 13 [some (zr (some (0, 0, 4))), some (zi (nI b)), some (zi (nI D)), some (zi (nI e)), some (zi (nI (i + 1)))] [] (OM X 0 0 ρ l) Q)
    (h2 : ((nI e) = ((-1))) → Q (some (zi ((-1)))) (OM X 0 0 ρ l)) : Ev d c s 25 37 [some (zr (some (0, 0, 4))), some (zi (nI b)), some (zi (nI D)), some (zi (nI a)), some (zi (nI i))] [zi (nI e)] (OM X 0 0 ρ l) Q := by
  refine Ew.sr (ls' := [some (zr (some (0, 0, 4))), some (zi (nI b)), some (zi (nI D)), some (zi (nI e)), some (zi (nI i))]) f25_37 rfl rfl (Nat.le_of_ble_eq_true rfl) rfl rfl ?_
  refine Ew.ld f25_38 rfl rfl rfl rfl ?_
  refine Ew.op (st' := zi ((-1)) :: _) f25_39 rfl rfl ?_
  refine Ew.icmp f25_40 rfl rfl (fun c1 => ?_) (fun c1 => ?_)
  · refine Ew.iinc (v := nI (i + 1)) (ls' := [some (zr (some (0, 0, 4))), some (zi (nI b)), some (zi (nI D)), some (zi (nI e)), some (zi (nI (i + 1)))]) f25_45 rfl (nI_1 _) rfl rfl ?_
    refine Ew.goto f25_48 rfl ?_
    exact h1 c1
  · refine Ew.op (st' := zi ((-1)) :: _) f25_43 rfl rfl ?_
    refine Ew.ireti f25_44 ?_
    exact h2 (Classical.not_not.mp c1)
theorem g25_37m {d c s : Nat} {a b D i : Nat} {X : zM} {ρ : Nat → Nat → Int32} {l : Nat → Nat → Int64} {Q : Option zV → zM → Prop}
    (h1 : Q (some (zi ((-1)))) (OM X 0 0 ρ l)) : Ev d c s 25 37 [some (zr (some (0, 0, 4))), some (zi (nI b)), some (zi (nI D)), some (zi (nI a)), some (zi (nI i))] [zi ((-1))] (OM X 0 0 ρ l) Q := by
  refine Ew.sr (ls' := [some (zr (some (0, 0, 4))), some (zi (nI b)), some (zi (nI D)), some (zi ((-1))), some (zi (nI i))]) f25_37 rfl rfl (Nat.le_of_ble_eq_true rfl) rfl rfl ?_
  refine Ew.ld f25_38 rfl rfl rfl rfl ?_
  refine Ew.op (st' := zi ((-1)) :: _) f25_39 rfl rfl ?_
  refine Ew.icmp f25_40 rfl rfl (fun h => absurd h (show ¬ (¬ (((-1)) : Int32) = ((-1))) by decide)) (fun _ => ?_)
  refine Ew.op (st' := zi ((-1)) :: _) f25_43 rfl rfl ?_
  refine Ew.ireti f25_44 ?_
  exact h1
theorem sp_cOne {d c s n bb a D G : Nat} {A : List Nat} {z : pS} {R : Nat → pS → pO} {X : zM} {ρ : Nat → Nat → Int32} {l : Nat → Nat → Int64} {Q : Option zV → zM → Prop} (hc : cSc X.1 X.2.2.1 X.2.2.2.1 bb n A) (ps : X.2.2.1 0 0 4 0 = some (3, n, 0)) (hl : cPl ρ z) (ha : a < 4000) (hx : pF A a = 33 ∨ pF A a = 91 ∨ (50 ≤ pF A a ∧ pF A a ≤ 53) ∨ (97 ≤ pF A a ∧ pF A a ≤ 102)) (kT : pF A a = 91 → ∀ Q' : Option zV → zM → Prop, (∀ ρ' x, cOu ρ (pTry R (pF A) a z) ρ' x → Q' (some (zi x)) (OM X 0 0 ρ' l)) → Ev d 0 0 29 0 [some (zr (some (0, 0, 4))), some (zi (nI a)), some (zi (nI D)), none, none] [] (OM X 0 0 ρ l) Q') (kO : 50 ≤ pF A a → pF A a ≤ 53 → ∀ Q' : Option zV → zM → Prop, (∀ ρ' x, cOu ρ (pOft R a (pF A a - 48) z 0) ρ' x → Q' (some (zi x)) (OM X 0 0 ρ' l)) → Ev d 0 0 30 0 [some (zr (some (0, 0, 4))), some (zi (nI a)), some (zi (nI (pF A a - 48))), some (zi (nI D)), none, none, none, none] [] (OM X 0 0 ρ l) Q') (kS : 97 ≤ pF A a → pF A a ≤ 102 → pF A (a + 1) = 40 → ∀ Q' : Option zV → zM → Prop, (∀ ρ' x, cOu ρ (pStay R G a (pF A a - 97) z) ρ' x → Q' (some (zi x)) (OM X 0 0 ρ' l)) → Ev d 0 0 27 0 [some (zr (some (0, 0, 4))), some (zi (nI a)), some (zi (nI (pF A a - 97))), some (zi (nI D)), none, none] [] (OM X 0 0 ρ l) Q') (kA : 97 ≤ pF A a → pF A a ≤ 102 → ¬ pF A (a + 1) = 40 → ∀ Q' : Option zV → zM → Prop, (∀ ρ' x, cOu ρ (pAdd (pF A) a (pF A a - 97) z) ρ' x → Q' (some (zi x)) (OM X 0 0 ρ' l)) → Ev d 0 0 28 0 [some (zr (some (0, 0, 4))), some (zi (nI a)), some (zi (nI (pF A a - 97))), none, none] [] (OM X 0 0 ρ l) Q') (k : ∀ ρ' x, cOu ρ (pI R (pF A) G a z) ρ' x → Q (some (zi x)) (OM X 0 0 ρ' l)) : Ev (d + 1) c s 26 0 [some (zr (some (0, 0, 4))), some (zi (nI a)), some (zi (nI D)), none] [] (OM X 0 0 ρ l) Q := by
  unfold pI at k
  have hb := pF_b hc.2.1 a
  have hb1 := pF_b hc.2.1 (a + 1)
  have e40 : nI (pF A (a + 1)) = nI 40 ↔ pF A (a + 1) = 40 := zeq (by omega) (by omega)
  refine g26_0 hc ps hc (by omega) ?_
  generalize pF A a = x at *
  have e97 : 97 ≤ x → nI x - nI 97 = nI (x - 97) := fun q => pk_sub q
  have in6 : 97 ≤ x → x ≤ 102 → ¬ aIx (nI x - nI 97) 6 = none := by
    intro q1 q2
    rw [e97 q1, aIx_some (by omega) (by decide)]
    exact fun e => by cases e
  refine g26_9 hc ps (by omega) (fun q1 q2 q3 _ => by omega) (fun q1 q2 q3 _ => by omega) (fun q1 q2 q3 _ => by omega) (fun q1 q2 q3 _ _ => by omega) (fun q1 q2 q3 _ _ => by omega) (fun q1 q2 q3 q4 q5 => absurd q5 (in6 (by omega) (by omega))) (fun _ _ _ _ _ => hc) (fun _ _ _ _ _ => by omega) (fun q1 q2 q3 q4 _ q6 => ?_) (fun q1 q2 q3 q4 _ q6 => ?_) (fun q1 q2 q3 q4 => ?_) (fun q1 q2 => ?_) (fun q => k _ _ ?_)
  · rw [if_neg q1, if_neg q2, if_neg (by omega), if_pos (by omega), if_neg (fun e => q6 (e40.mpr e))] at k
    rw [e97 (by omega)]
    exact kA (by omega) (by omega) (fun e => q6 (e40.mpr e)) _ (fun ρ' y ho => g26_106 (k ρ' y ho))
  · rw [if_neg q1, if_neg q2, if_neg (by omega), if_pos (by omega), if_pos (e40.mp q6)] at k
    rw [e97 (by omega)]
    exact kS (by omega) (by omega) (e40.mp q6) _ (fun ρ' y ho => g26_96 (k ρ' y ho))
  · rw [if_neg q1, if_neg q2, if_pos ⟨q3, q4⟩] at k
    rw [show nI x - nI 48 = nI (x - 48) from pk_sub (by omega)]
    exact kO q3 q4 _ (fun ρ' y ho => g26_58 (k ρ' y ho))
  · rw [if_neg q1, if_pos q2] at k
    exact kT q2 _ (fun ρ' y ho => g26_35 (k ρ' y ho))
  · rw [if_pos q]
    have w := cPl_why hl (nI 2) (-4)
    refine ⟨w.1, w.2, rfl, fun _ => ⟨?_, zu_e⟩⟩
    rw [zu_i_ne (by omega), zu_e]
