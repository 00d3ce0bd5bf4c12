/-! the class: the tape, and whether it can stand -/
theorem g94_0q0 {d c s : Nat} {x m : Nat} {X : zM} {ρ : Nat → Nat → Int32} {l : Nat → Nat → Int64} {Q : Option zV → zM → Prop} (hp : ρ 1 4 = nI 0) (hm : ρ 1 3 = nI m)  (nb_x : x < 5000) (nb_m : m < 5000)
    (h1 : (x < 97) → (x < 50) → (¬ x = 91) → (x = 33) → Q (some (zi (nI 1))) (OM X 0 0 ρ l))
    (h2 : (x < 97) → (x < 50) → (¬ x = 91) → (¬ x = 33) → (m < 1) → Q (some (zi (nI 0))) (OM X 0 0 ρ l))
    (b1 : (x < 97) → (x < 50) → (¬ x = 91) → (¬ x = 33) → (1 ≤ m) → vp_in ((nI m) - (nI 1)) 6)
    (h3 : (x < 97) → (x < 50) → (¬ x = 91) → (¬ x = 33) → (1 ≤ m) → ((ρ 3 (((nI m) - (nI 1)).toNatClampNeg)) = (nI x)) → Q (some (zi (nI 1))) (OM X 0 0 (zu ρ 1 3 ((nI m) - (nI 1))) l))
    (h4 : (x < 97) → (x < 50) → (¬ x = 91) → (¬ x = 33) → (1 ≤ m) → (¬ (ρ 3 (((nI m) - (nI 1)).toNatClampNeg)) = (nI x)) → Q (some (zi (nI 0))) (OM X 0 0 ρ l))
    (b2 : (x < 97) → (x < 50) → (x = 91) → (m < 6) → m < 6)
    (h5 : (x < 97) → (x < 50) → (x = 91) → (m < 6) → Q (some (zi (nI 1))) (OM X 0 0 (zu (zu (zu ρ 3 m (vp_nar .char (nI 93))) 1 3 (nI (m + 1))) 1 4 (nI 0)) l))
    (h6 : (x < 97) → (x < 50) → (x = 91) → (6 ≤ m) → Q (some (zi (nI 0))) (OM X 0 0 ρ l))
    (h7 : (x < 97) → (50 ≤ x) → (53 < x) → (¬ x = 91) → (x = 33) → Q (some (zi (nI 1))) (OM X 0 0 ρ l))
    (h8 : (x < 97) → (50 ≤ x) → (53 < x) → (¬ x = 91) → (¬ x = 33) → (m < 1) → Q (some (zi (nI 0))) (OM X 0 0 ρ l))
    (b3 : (x < 97) → (50 ≤ x) → (53 < x) → (¬ x = 91) → (¬ x = 33) → (1 ≤ m) → vp_in ((nI m) - (nI 1)) 6)
    (h9 : (x < 97) → (50 ≤ x) → (53 < x) → (¬ x = 91) → (¬ x = 33) → (1 ≤ m) → ((ρ 3 (((nI m) - (nI 1)).toNatClampNeg)) = (nI x)) → Q (some (zi (nI 1))) (OM X 0 0 (zu ρ 1 3 ((nI m) - (nI 1))) l))
    (h10 : (x < 97) → (50 ≤ x) → (53 < x) → (¬ x = 91) → (¬ x = 33) → (1 ≤ m) → (¬ (ρ 3 (((nI m) - (nI 1)).toNatClampNeg)) = (nI x)) → Q (some (zi (nI 0))) (OM X 0 0 ρ l))
    (b4 : (x < 97) → (50 ≤ x) → (53 < x) → (x = 91) → (m < 6) → m < 6)
    (h11 : (x < 97) → (50 ≤ x) → (53 < x) → (x = 91) → (m < 6) → Q (some (zi (nI 1))) (OM X 0 0 (zu (zu (zu ρ 3 m (vp_nar .char (nI 93))) 1 3 (nI (m + 1))) 1 4 (nI 0)) l))
    (h12 : (x < 97) → (50 ≤ x) → (53 < x) → (x = 91) → (6 ≤ m) → Q (some (zi (nI 0))) (OM X 0 0 ρ l))
    (h13 : (x < 97) → (50 ≤ x) → (x ≤ 53) → Q (some (zi (nI 1))) (OM X 0 0 (zu ρ 1 4 (nI 3)) l))
    (h14 : (97 ≤ x) → (102 < x) → (x < 50) → (¬ x = 91) → (x = 33) → Q (some (zi (nI 1))) (OM X 0 0 ρ l))
    (h15 : (97 ≤ x) → (102 < x) → (x < 50) → (¬ x = 91) → (¬ x = 33) → (m < 1) → Q (some (zi (nI 0))) (OM X 0 0 ρ l))
    (b5 : (97 ≤ x) → (102 < x) → (x < 50) → (¬ x = 91) → (¬ x = 33) → (1 ≤ m) → vp_in ((nI m) - (nI 1)) 6)
    (h16 : (97 ≤ x) → (102 < x) → (x < 50) → (¬ x = 91) → (¬ x = 33) → (1 ≤ m) → ((ρ 3 (((nI m) - (nI 1)).toNatClampNeg)) = (nI x)) → Q (some (zi (nI 1))) (OM X 0 0 (zu ρ 1 3 ((nI m) - (nI 1))) l))
    (h17 : (97 ≤ x) → (102 < x) → (x < 50) → (¬ x = 91) → (¬ x = 33) → (1 ≤ m) → (¬ (ρ 3 (((nI m) - (nI 1)).toNatClampNeg)) = (nI x)) → Q (some (zi (nI 0))) (OM X 0 0 ρ l))
    (b6 : (97 ≤ x) → (102 < x) → (x < 50) → (x = 91) → (m < 6) → m < 6)
    (h18 : (97 ≤ x) → (102 < x) → (x < 50) → (x = 91) → (m < 6) → Q (some (zi (nI 1))) (OM X 0 0 (zu (zu (zu ρ 3 m (vp_nar .char (nI 93))) 1 3 (nI (m + 1))) 1 4 (nI 0)) l))
    (h19 : (97 ≤ x) → (102 < x) → (x < 50) → (x = 91) → (6 ≤ m) → Q (some (zi (nI 0))) (OM X 0 0 ρ l))
    (h20 : (97 ≤ x) → (102 < x) → (50 ≤ x) → (53 < x) → (¬ x = 91) → (x = 33) → Q (some (zi (nI 1))) (OM X 0 0 ρ l))
    (h21 : (97 ≤ x) → (102 < x) → (50 ≤ x) → (53 < x) → (¬ x = 91) → (¬ x = 33) → (m < 1) → Q (some (zi (nI 0))) (OM X 0 0 ρ l))
    (b7 : (97 ≤ x) → (102 < x) → (50 ≤ x) → (53 < x) → (¬ x = 91) → (¬ x = 33) → (1 ≤ m) → vp_in ((nI m) - (nI 1)) 6)
    (h22 : (97 ≤ x) → (102 < x) → (50 ≤ x) → (53 < x) → (¬ x = 91) → (¬ x = 33) → (1 ≤ m) → ((ρ 3 (((nI m) - (nI 1)).toNatClampNeg)) = (nI x)) → Q (some (zi (nI 1))) (OM X 0 0 (zu ρ 1 3 ((nI m) - (nI 1))) l))
    (h23 : (97 ≤ x) → (102 < x) → (50 ≤ x) → (53 < x) → (¬ x = 91) → (¬ x = 33) → (1 ≤ m) → (¬ (ρ 3 (((nI m) - (nI 1)).toNatClampNeg)) = (nI x)) → Q (some (zi (nI 0))) (OM X 0 0 ρ l))
    (b8 : (97 ≤ x) → (102 < x) → (50 ≤ x) → (53 < x) → (x = 91) → (m < 6) → m < 6)
    (h24 : (97 ≤ x) → (102 < x) → (50 ≤ x) → (53 < x) → (x = 91) → (m < 6) → Q (some (zi (nI 1))) (OM X 0 0 (zu (zu (zu ρ 3 m (vp_nar .char (nI 93))) 1 3 (nI (m + 1))) 1 4 (nI 0)) l))
    (h25 : (97 ≤ x) → (102 < x) → (50 ≤ x) → (53 < x) → (x = 91) → (6 ≤ m) → Q (some (zi (nI 0))) (OM X 0 0 ρ l))
    (h26 : (97 ≤ x) → (102 < x) → (50 ≤ x) → (x ≤ 53) → Q (some (zi (nI 1))) (OM X 0 0 (zu ρ 1 4 (nI 3)) l))
    (h27 : (97 ≤ x) → (x ≤ 102) → Q (some (zi (nI 1))) (OM X 0 0 (zu ρ 1 4 (nI 1)) l)) : Ev (d + 2) c s 94 0 [some (zr (some (0, 0, 1))), some (zi (nI x))] [] (OM X 0 0 ρ l) Q := by
  refine Ew.ld f94_0 rfl rfl rfl rfl ?_
  refine Ew.getiV (v := nI 0) f94_1 rfl (so_v hp) rfl ?_
  refine Ew.tsw f94_4 rfl ?_
  refine Ew.ld f94_116 rfl rfl rfl rfl ?_
  refine Ew.ld f94_117 rfl rfl rfl rfl ?_
  refine Ew.call0 (ls0 := [some (zr (some (0, 0, 1))), some (zi (nI x))]) f94_118 rfl (Nat.le_of_ble_eq_true rfl) rfl rfl (Nat.le_of_ble_eq_true rfl) rfl (Nat.le_of_ble_eq_true rfl) rfl rfl ?_
  refine Ew.ld f95_0 rfl rfl rfl rfl ?_
  refine Ew.op (st' := zi (nI 97) :: _) f95_1 rfl rfl ?_
  refine Ew.icmp f95_3 rfl rfl (fun c1 => ?_) (fun c1 => ?_)
  · refine Ew.ld f95_19 rfl rfl rfl rfl ?_
    refine Ew.op (st' := zi (nI 50) :: _) f95_20 rfl rfl ?_
    refine Ew.icmp f95_22 rfl rfl (fun c2 => ?_) (fun c2 => ?_)
    · refine Ew.ld f95_38 rfl rfl rfl rfl ?_
      refine Ew.op (st' := zi (nI 91) :: _) f95_39 rfl rfl ?_
      refine Ew.icmp f95_41 rfl rfl (fun c3 => ?_) (fun c3 => ?_)
      · refine Ew.ld f95_51 rfl rfl rfl rfl ?_
        refine Ew.op (st' := zi (nI 33) :: _) f95_52 rfl rfl ?_
        refine Ew.icmp f95_54 rfl rfl (fun c4 => ?_) (fun c4 => ?_)
        · refine Ew.op (st' := zi (nI 1) :: _) f95_65 rfl rfl ?_
          refine Ew.goto f95_66 rfl ?_
          refine Ew.iretb f95_70 (Or.inr rfl) ?_
          show Ev (d + 2) c s 94 121 [some (zr (some (0, 0, 1))), some (zi (nI x))] [zi (nI 1)] (OM X 0 0 ρ l) Q
          refine Ew.iretb f94_121 (Or.inr rfl) ?_
          exact h1 ((zlt_iff nb_x (by decide)).mp c1) ((zlt_iff nb_x (by decide)).mp c2) (fun e => c3 ((zeq nb_x (by decide)).mpr e)) ((zeq nb_x (by decide)).mp c4)
        · refine Ew.ld f95_57 rfl rfl rfl rfl ?_
          refine Ew.ld f95_58 rfl rfl rfl rfl ?_
          refine Ew.call0 (ls0 := [some (zr (some (0, 0, 1))), some (zi (nI x))]) f95_59 rfl (Nat.le_of_ble_eq_true rfl) rfl rfl (Nat.le_of_ble_eq_true rfl) rfl (Nat.le_of_ble_eq_true rfl) rfl rfl ?_
          refine Ew.ld f97_0 rfl rfl rfl rfl ?_
          refine Ew.getiV (v := nI m) f97_1 rfl (so_v hm) rfl ?_
          refine Ew.op (st' := zi (nI 1) :: _) f97_4 rfl rfl ?_
          refine Ew.icmp f97_5 rfl rfl (fun c5 => ?_) (fun c5 => ?_)
          · refine Ew.op (st' := zi (nI 0) :: _) f97_23 rfl rfl ?_
            refine Ew.iretb f97_24 (Or.inl rfl) ?_
            show Ev (d + 1) 0 0 95 62 [some (zr (some (0, 0, 1))), some (zi (nI x))] [zi (nI 0)] (OM X 0 0 ρ l) (fun r M' => Ev (d + 2) c s 94 121 [some (zr (some (0, 0, 1))), some (zi (nI x))] (zpush r []) M' Q)
            refine Ew.ifc f95_62 rfl rfl (fun _ => ?_) (fun h => absurd (show ((nI 0) : Int32) = 0 by decide) h)
            refine Ew.op (st' := zi (nI 0) :: _) f95_69 rfl rfl ?_
            refine Ew.iretb f95_70 (Or.inl rfl) ?_
            show Ev (d + 2) c s 94 121 [some (zr (some (0, 0, 1))), some (zi (nI x))] [zi (nI 0)] (OM X 0 0 ρ l) Q
            refine Ew.iretb f94_121 (Or.inl rfl) ?_
            exact h2 ((zlt_iff nb_x (by decide)).mp c1) ((zlt_iff nb_x (by decide)).mp c2) (fun e => c3 ((zeq nb_x (by decide)).mpr e)) (fun e => c4 ((zeq nb_x (by decide)).mpr e)) ((zlt_iff nb_m (by decide)).mp c5)
          · refine Ew.ld f97_8 rfl rfl rfl rfl ?_
            refine Ew.getp (v := some (0, 0, 3)) f97_9 rfl rfl rfl ?_
            refine Ew.ld f97_12 rfl rfl rfl rfl ?_
            refine Ew.getiV (v := nI m) f97_13 rfl (so_v hm) rfl ?_
            refine Ew.op (st' := zi (nI 1) :: _) f97_16 rfl rfl ?_
            refine Ew.op (st' := zi ((nI m) - (nI 1)) :: _) f97_17 rfl rfl ?_
            refine Ew.caldxO f97_18 rfl (b1 ((zlt_iff nb_x (by decide)).mp c1) ((zlt_iff nb_x (by decide)).mp c2) (fun e => c3 ((zeq nb_x (by decide)).mpr e)) (fun e => c4 ((zeq nb_x (by decide)).mpr e)) (Nat.not_lt.mp fun e => c5 ((zlt_iff nb_m (by decide)).mpr e))) rfl ?_
            refine Ew.ld f97_19 rfl rfl rfl rfl ?_
            refine Ew.icmp f97_20 rfl rfl (fun c6 => ?_) (fun c6 => ?_)
            · refine Ew.ld f97_25 rfl rfl rfl rfl ?_
              refine Ew.op (st' := zr (some (0, 0, 1)) :: zr (some (0, 0, 1)) :: _) f97_26 rfl rfl ?_
              refine Ew.getiV (v := nI m) f97_27 rfl (so_v hm) rfl ?_
              refine Ew.op (st' := zi (nI 1) :: _) f97_30 rfl rfl ?_
              refine Ew.op (st' := zi ((nI m) - (nI 1)) :: _) f97_31 rfl rfl ?_
              refine Ew.putiO f97_32 rfl rfl ?_
              refine Ew.op (st' := zi (nI 1) :: _) f97_35 rfl rfl ?_
              refine Ew.iretb f97_36 (Or.inr rfl) ?_
              show Ev (d + 1) 0 0 95 62 [some (zr (some (0, 0, 1))), some (zi (nI x))] [zi (nI 1)] (OM X 0 0 (zu ρ 1 3 ((nI m) - (nI 1))) l) (fun r M' => Ev (d + 2) c s 94 121 [some (zr (some (0, 0, 1))), some (zi (nI x))] (zpush r []) M' Q)
              refine Ew.ifc f95_62 rfl rfl (fun h => absurd h (show ¬ (((nI 1) : Int32) = 0) by decide)) (fun _ => ?_)
              refine Ew.op (st' := zi (nI 1) :: _) f95_65 rfl rfl ?_
              refine Ew.goto f95_66 rfl ?_
              refine Ew.iretb f95_70 (Or.inr rfl) ?_
              show Ev (d + 2) c s 94 121 [some (zr (some (0, 0, 1))), some (zi (nI x))] [zi (nI 1)] (OM X 0 0 (zu ρ 1 3 ((nI m) - (nI 1))) l) Q
              refine Ew.iretb f94_121 (Or.inr rfl) ?_
              exact h3 ((zlt_iff nb_x (by decide)).mp c1) ((zlt_iff nb_x (by decide)).mp c2) (fun e => c3 ((zeq nb_x (by decide)).mpr e)) (fun e => c4 ((zeq nb_x (by decide)).mpr e)) (Nat.not_lt.mp fun e => c5 ((zlt_iff nb_m (by decide)).mpr e)) c6
            · refine Ew.op (st' := zi (nI 0) :: _) f97_23 rfl rfl ?_
              refine Ew.iretb f97_24 (Or.inl rfl) ?_
              show Ev (d + 1) 0 0 95 62 [some (zr (some (0, 0, 1))), some (zi (nI x))] [zi (nI 0)] (OM X 0 0 ρ l) (fun r M' => Ev (d + 2) c s 94 121 [some (zr (some (0, 0, 1))), some (zi (nI x))] (zpush r []) M' Q)
              refine Ew.ifc f95_62 rfl rfl (fun _ => ?_) (fun h => absurd (show ((nI 0) : Int32) = 0 by decide) h)
              refine Ew.op (st' := zi (nI 0) :: _) f95_69 rfl rfl ?_
              refine Ew.iretb f95_70 (Or.inl rfl) ?_
              show Ev (d + 2) c s 94 121 [some (zr (some (0, 0, 1))), some (zi (nI x))] [zi (nI 0)] (OM X 0 0 ρ l) Q
              refine Ew.iretb f94_121 (Or.inl rfl) ?_
              exact h4 ((zlt_iff nb_x (by decide)).mp c1) ((zlt_iff nb_x (by decide)).mp c2) (fun e => c3 ((zeq nb_x (by decide)).mpr e)) (fun e => c4 ((zeq nb_x (by decide)).mpr e)) (Nat.not_lt.mp fun e => c5 ((zlt_iff nb_m (by decide)).mpr e)) c6
      · refine Ew.ld f95_44 rfl rfl rfl rfl ?_
        refine Ew.op (st' := zi (nI 93) :: _) f95_45 rfl rfl ?_
        refine Ew.call0 (ls0 := [some (zr (some (0, 0, 1))), some (zi (nI 93))]) f95_47 rfl (Nat.le_of_ble_eq_true rfl) rfl rfl (Nat.le_of_ble_eq_true rfl) rfl (Nat.le_of_ble_eq_true rfl) rfl rfl ?_
        refine Ew.ld f96_0 rfl rfl rfl rfl ?_
        refine Ew.getiV (v := nI m) f96_1 rfl (so_v hm) rfl ?_
        refine Ew.op (st' := zi (nI 6) :: _) f96_4 rfl rfl ?_
        refine Ew.icmp f96_6 rfl rfl (fun c7 => ?_) (fun c7 => ?_)
        · refine Ew.ld f96_11 rfl rfl rfl rfl ?_
          refine Ew.getp (v := some (0, 0, 3)) f96_12 rfl rfl rfl ?_
          refine Ew.ld f96_15 rfl rfl rfl rfl ?_
          refine Ew.getiV (v := nI m) f96_16 rfl (so_v hm) rfl ?_
          refine Ew.ld f96_19 rfl rfl rfl rfl ?_
          refine Ew.castnO f96_20 rfl (b2 ((zlt_iff nb_x (by decide)).mp c1) ((zlt_iff nb_x (by decide)).mp c2) ((zeq nb_x (by decide)).mp (Classical.not_not.mp c3)) ((zlt_iff nb_m (by decide)).mp c7)) (Nat.le_of_ble_eq_true rfl) rfl ?_
          refine Ew.ld f96_21 rfl rfl rfl rfl ?_
          refine Ew.op (st' := zr (some (0, 0, 1)) :: zr (some (0, 0, 1)) :: _) f96_22 rfl rfl ?_
          refine Ew.getiV (v := nI m) f96_23 rfl (so_v hm) rfl ?_
          refine Ew.op (st' := zi (nI 1) :: _) f96_26 rfl rfl ?_
          refine Ew.addn f96_27 rfl ?_
          refine Ew.putiO f96_28 rfl rfl ?_
          refine Ew.ld f96_31 rfl rfl rfl rfl ?_
          refine Ew.op (st' := zi (nI 0) :: _) f96_32 rfl rfl ?_
          refine Ew.putiO f96_33 rfl rfl ?_
          refine Ew.op (st' := zi (nI 1) :: _) f96_36 rfl rfl ?_
          refine Ew.iretb f96_37 (Or.inr rfl) ?_
          show Ev (d + 1) 0 0 95 50 [some (zr (some (0, 0, 1))), some (zi (nI x))] [zi (nI 1)] (OM X 0 0 (zu (zu (zu ρ 3 m (vp_nar .char (nI 93))) 1 3 (nI (m + 1))) 1 4 (nI 0)) l) (fun r M' => Ev (d + 2) c s 94 121 [some (zr (some (0, 0, 1))), some (zi (nI x))] (zpush r []) M' Q)
          refine Ew.iretb f95_50 (Or.inr rfl) ?_
          show Ev (d + 2) c s 94 121 [some (zr (some (0, 0, 1))), some (zi (nI x))] [zi (nI 1)] (OM X 0 0 (zu (zu (zu ρ 3 m (vp_nar .char (nI 93))) 1 3 (nI (m + 1))) 1 4 (nI 0)) l) Q
          refine Ew.iretb f94_121 (Or.inr rfl) ?_
          exact h5 ((zlt_iff nb_x (by decide)).mp c1) ((zlt_iff nb_x (by decide)).mp c2) ((zeq nb_x (by decide)).mp (Classical.not_not.mp c3)) ((zlt_iff nb_m (by decide)).mp c7)
        · refine Ew.op (st' := zi (nI 0) :: _) f96_9 rfl rfl ?_
          refine Ew.iretb f96_10 (Or.inl rfl) ?_
          show Ev (d + 1) 0 0 95 50 [some (zr (some (0, 0, 1))), some (zi (nI x))] [zi (nI 0)] (OM X 0 0 ρ l) (fun r M' => Ev (d + 2) c s 94 121 [some (zr (some (0, 0, 1))), some (zi (nI x))] (zpush r []) M' Q)
          refine Ew.iretb f95_50 (Or.inl rfl) ?_
          show Ev (d + 2) c s 94 121 [some (zr (some (0, 0, 1))), some (zi (nI x))] [zi (nI 0)] (OM X 0 0 ρ l) Q
          refine Ew.iretb f94_121 (Or.inl rfl) ?_
          exact h6 ((zlt_iff nb_x (by decide)).mp c1) ((zlt_iff nb_x (by decide)).mp c2) ((zeq nb_x (by decide)).mp (Classical.not_not.mp c3)) (Nat.not_lt.mp fun e => c7 ((zlt_iff nb_m (by decide)).mpr e))
    · refine Ew.ld f95_25 rfl rfl rfl rfl ?_
      refine Ew.op (st' := zi (nI 53) :: _) f95_26 rfl rfl ?_
      refine Ew.icmp f95_28 rfl rfl (fun c8 => ?_) (fun c8 => ?_)
      · refine Ew.ld f95_38 rfl rfl rfl rfl ?_
        refine Ew.op (st' := zi (nI 91) :: _) f95_39 rfl rfl ?_
        refine Ew.icmp f95_41 rfl rfl (fun c9 => ?_) (fun c9 => ?_)
        · refine Ew.ld f95_51 rfl rfl rfl rfl ?_
          refine Ew.op (st' := zi (nI 33) :: _) f95_52 rfl rfl ?_
          refine Ew.icmp f95_54 rfl rfl (fun c10 => ?_) (fun c10 => ?_)
          · refine Ew.op (st' := zi (nI 1) :: _) f95_65 rfl rfl ?_
            refine Ew.goto f95_66 rfl ?_
            refine Ew.iretb f95_70 (Or.inr rfl) ?_
            show Ev (d + 2) c s 94 121 [some (zr (some (0, 0, 1))), some (zi (nI x))] [zi (nI 1)] (OM X 0 0 ρ l) Q
            refine Ew.iretb f94_121 (Or.inr rfl) ?_
            exact h7 ((zlt_iff nb_x (by decide)).mp c1) (Nat.not_lt.mp fun e => c2 ((zlt_iff nb_x (by decide)).mpr e)) ((zlt_iff (by decide) nb_x).mp c8) (fun e => c9 ((zeq nb_x (by decide)).mpr e)) ((zeq nb_x (by decide)).mp c10)
          · refine Ew.ld f95_57 rfl rfl rfl rfl ?_
            refine Ew.ld f95_58 rfl rfl rfl rfl ?_
            refine Ew.call0 (ls0 := [some (zr (some (0, 0, 1))), some (zi (nI x))]) f95_59 rfl (Nat.le_of_ble_eq_true rfl) rfl rfl (Nat.le_of_ble_eq_true rfl) rfl (Nat.le_of_ble_eq_true rfl) rfl rfl ?_
            refine Ew.ld f97_0 rfl rfl rfl rfl ?_
            refine Ew.getiV (v := nI m) f97_1 rfl (so_v hm) rfl ?_
            refine Ew.op (st' := zi (nI 1) :: _) f97_4 rfl rfl ?_
            refine Ew.icmp f97_5 rfl rfl (fun c11 => ?_) (fun c11 => ?_)
            · refine Ew.op (st' := zi (nI 0) :: _) f97_23 rfl rfl ?_
              refine Ew.iretb f97_24 (Or.inl rfl) ?_
              show Ev (d + 1) 0 0 95 62 [some (zr (some (0, 0, 1))), some (zi (nI x))] [zi (nI 0)] (OM X 0 0 ρ l) (fun r M' => Ev (d + 2) c s 94 121 [some (zr (some (0, 0, 1))), some (zi (nI x))] (zpush r []) M' Q)
              refine Ew.ifc f95_62 rfl rfl (fun _ => ?_) (fun h => absurd (show ((nI 0) : Int32) = 0 by decide) h)
              refine Ew.op (st' := zi (nI 0) :: _) f95_69 rfl rfl ?_
              refine Ew.iretb f95_70 (Or.inl rfl) ?_
              show Ev (d + 2) c s 94 121 [some (zr (some (0, 0, 1))), some (zi (nI x))] [zi (nI 0)] (OM X 0 0 ρ l) Q
              refine Ew.iretb f94_121 (Or.inl rfl) ?_
              exact h8 ((zlt_iff nb_x (by decide)).mp c1) (Nat.not_lt.mp fun e => c2 ((zlt_iff nb_x (by decide)).mpr e)) ((zlt_iff (by decide) nb_x).mp c8) (fun e => c9 ((zeq nb_x (by decide)).mpr e)) (fun e => c10 ((zeq nb_x (by decide)).mpr e)) ((zlt_iff nb_m (by decide)).mp c11)
            · refine Ew.ld f97_8 rfl rfl rfl rfl ?_
              refine Ew.getp (v := some (0, 0, 3)) f97_9 rfl rfl rfl ?_
              refine Ew.ld f97_12 rfl rfl rfl rfl ?_
              refine Ew.getiV (v := nI m) f97_13 rfl (so_v hm) rfl ?_
              refine Ew.op (st' := zi (nI 1) :: _) f97_16 rfl rfl ?_
              refine Ew.op (st' := zi ((nI m) - (nI 1)) :: _) f97_17 rfl rfl ?_
              refine Ew.caldxO f97_18 rfl (b3 ((zlt_iff nb_x (by decide)).mp c1) (Nat.not_lt.mp fun e => c2 ((zlt_iff nb_x (by decide)).mpr e)) ((zlt_iff (by decide) nb_x).mp c8) (fun e => c9 ((zeq nb_x (by decide)).mpr e)) (fun e => c10 ((zeq nb_x (by decide)).mpr e)) (Nat.not_lt.mp fun e => c11 ((zlt_iff nb_m (by decide)).mpr e))) rfl ?_
              refine Ew.ld f97_19 rfl rfl rfl rfl ?_
              refine Ew.icmp f97_20 rfl rfl (fun c12 => ?_) (fun c12 => ?_)
              · refine Ew.ld f97_25 rfl rfl rfl rfl ?_
                refine Ew.op (st' := zr (some (0, 0, 1)) :: zr (some (0, 0, 1)) :: _) f97_26 rfl rfl ?_
                refine Ew.getiV (v := nI m) f97_27 rfl (so_v hm) rfl ?_
                refine Ew.op (st' := zi (nI 1) :: _) f97_30 rfl rfl ?_
                refine Ew.op (st' := zi ((nI m) - (nI 1)) :: _) f97_31 rfl rfl ?_
                refine Ew.putiO f97_32 rfl rfl ?_
                refine Ew.op (st' := zi (nI 1) :: _) f97_35 rfl rfl ?_
                refine Ew.iretb f97_36 (Or.inr rfl) ?_
                show Ev (d + 1) 0 0 95 62 [some (zr (some (0, 0, 1))), some (zi (nI x))] [zi (nI 1)] (OM X 0 0 (zu ρ 1 3 ((nI m) - (nI 1))) l) (fun r M' => Ev (d + 2) c s 94 121 [some (zr (some (0, 0, 1))), some (zi (nI x))] (zpush r []) M' Q)
                refine Ew.ifc f95_62 rfl rfl (fun h => absurd h (show ¬ (((nI 1) : Int32) = 0) by decide)) (fun _ => ?_)
                refine Ew.op (st' := zi (nI 1) :: _) f95_65 rfl rfl ?_
                refine Ew.goto f95_66 rfl ?_
                refine Ew.iretb f95_70 (Or.inr rfl) ?_
                show Ev (d + 2) c s 94 121 [some (zr (some (0, 0, 1))), some (zi (nI x))] [zi (nI 1)] (OM X 0 0 (zu ρ 1 3 ((nI m) - (nI 1))) l) Q
                refine Ew.iretb f94_121 (Or.inr rfl) ?_
                exact h9 ((zlt_iff nb_x (by decide)).mp c1) (Nat.not_lt.mp fun e => c2 ((zlt_iff nb_x (by decide)).mpr e)) ((zlt_iff (by decide) nb_x).mp c8) (fun e => c9 ((zeq nb_x (by decide)).mpr e)) (fun e => c10 ((zeq nb_x (by decide)).mpr e)) (Nat.not_lt.mp fun e => c11 ((zlt_iff nb_m (by decide)).mpr e)) c12
              · refine Ew.op (st' := zi (nI 0) :: _) f97_23 rfl rfl ?_
                refine Ew.iretb f97_24 (Or.inl rfl) ?_
                show Ev (d + 1) 0 0 95 62 [some (zr (some (0, 0, 1))), some (zi (nI x))] [zi (nI 0)] (OM X 0 0 ρ l) (fun r M' => Ev (d + 2) c s 94 121 [some (zr (some (0, 0, 1))), some (zi (nI x))] (zpush r []) M' Q)
                refine Ew.ifc f95_62 rfl rfl (fun _ => ?_) (fun h => absurd (show ((nI 0) : Int32) = 0 by decide) h)
                refine Ew.op (st' := zi (nI 0) :: _) f95_69 rfl rfl ?_
                refine Ew.iretb f95_70 (Or.inl rfl) ?_
                show Ev (d + 2) c s 94 121 [some (zr (some (0, 0, 1))), some (zi (nI x))] [zi (nI 0)] (OM X 0 0 ρ l) Q
                refine Ew.iretb f94_121 (Or.inl rfl) ?_
                exact h10 ((zlt_iff nb_x (by decide)).mp c1) (Nat.not_lt.mp fun e => c2 ((zlt_iff nb_x (by decide)).mpr e)) ((zlt_iff (by decide) nb_x).mp c8) (fun e => c9 ((zeq nb_x (by decide)).mpr e)) (fun e => c10 ((zeq nb_x (by decide)).mpr e)) (Nat.not_lt.mp fun e => c11 ((zlt_iff nb_m (by decide)).mpr e)) c12
        · refine Ew.ld f95_44 rfl rfl rfl rfl ?_
          refine Ew.op (st' := zi (nI 93) :: _) f95_45 rfl rfl ?_
          refine Ew.call0 (ls0 := [some (zr (some (0, 0, 1))), some (zi (nI 93))]) f95_47 rfl (Nat.le_of_ble_eq_true rfl) rfl rfl (Nat.le_of_ble_eq_true rfl) rfl (Nat.le_of_ble_eq_true rfl) rfl rfl ?_
          refine Ew.ld f96_0 rfl rfl rfl rfl ?_
          refine Ew.getiV (v := nI m) f96_1 rfl (so_v hm) rfl ?_
          refine Ew.op (st' := zi (nI 6) :: _) f96_4 rfl rfl ?_
          refine Ew.icmp f96_6 rfl rfl (fun c13 => ?_) (fun c13 => ?_)
          · refine Ew.ld f96_11 rfl rfl rfl rfl ?_
            refine Ew.getp (v := some (0, 0, 3)) f96_12 rfl rfl rfl ?_
            refine Ew.ld f96_15 rfl rfl rfl rfl ?_
            refine Ew.getiV (v := nI m) f96_16 rfl (so_v hm) rfl ?_
            refine Ew.ld f96_19 rfl rfl rfl rfl ?_
            refine Ew.castnO f96_20 rfl (b4 ((zlt_iff nb_x (by decide)).mp c1) (Nat.not_lt.mp fun e => c2 ((zlt_iff nb_x (by decide)).mpr e)) ((zlt_iff (by decide) nb_x).mp c8) ((zeq nb_x (by decide)).mp (Classical.not_not.mp c9)) ((zlt_iff nb_m (by decide)).mp c13)) (Nat.le_of_ble_eq_true rfl) rfl ?_
            refine Ew.ld f96_21 rfl rfl rfl rfl ?_
            refine Ew.op (st' := zr (some (0, 0, 1)) :: zr (some (0, 0, 1)) :: _) f96_22 rfl rfl ?_
            refine Ew.getiV (v := nI m) f96_23 rfl (so_v hm) rfl ?_
            refine Ew.op (st' := zi (nI 1) :: _) f96_26 rfl rfl ?_
            refine Ew.addn f96_27 rfl ?_
            refine Ew.putiO f96_28 rfl rfl ?_
            refine Ew.ld f96_31 rfl rfl rfl rfl ?_
            refine Ew.op (st' := zi (nI 0) :: _) f96_32 rfl rfl ?_
            refine Ew.putiO f96_33 rfl rfl ?_
            refine Ew.op (st' := zi (nI 1) :: _) f96_36 rfl rfl ?_
            refine Ew.iretb f96_37 (Or.inr rfl) ?_
            show Ev (d + 1) 0 0 95 50 [some (zr (some (0, 0, 1))), some (zi (nI x))] [zi (nI 1)] (OM X 0 0 (zu (zu (zu ρ 3 m (vp_nar .char (nI 93))) 1 3 (nI (m + 1))) 1 4 (nI 0)) l) (fun r M' => Ev (d + 2) c s 94 121 [some (zr (some (0, 0, 1))), some (zi (nI x))] (zpush r []) M' Q)
            refine Ew.iretb f95_50 (Or.inr rfl) ?_
            show Ev (d + 2) c s 94 121 [some (zr (some (0, 0, 1))), some (zi (nI x))] [zi (nI 1)] (OM X 0 0 (zu (zu (zu ρ 3 m (vp_nar .char (nI 93))) 1 3 (nI (m + 1))) 1 4 (nI 0)) l) Q
            refine Ew.iretb f94_121 (Or.inr rfl) ?_
            exact h11 ((zlt_iff nb_x (by decide)).mp c1) (Nat.not_lt.mp fun e => c2 ((zlt_iff nb_x (by decide)).mpr e)) ((zlt_iff (by decide) nb_x).mp c8) ((zeq nb_x (by decide)).mp (Classical.not_not.mp c9)) ((zlt_iff nb_m (by decide)).mp c13)
          · refine Ew.op (st' := zi (nI 0) :: _) f96_9 rfl rfl ?_
            refine Ew.iretb f96_10 (Or.inl rfl) ?_
            show Ev (d + 1) 0 0 95 50 [some (zr (some (0, 0, 1))), some (zi (nI x))] [zi (nI 0)] (OM X 0 0 ρ l) (fun r M' => Ev (d + 2) c s 94 121 [some (zr (some (0, 0, 1))), some (zi (nI x))] (zpush r []) M' Q)
            refine Ew.iretb f95_50 (Or.inl rfl) ?_
            show Ev (d + 2) c s 94 121 [some (zr (some (0, 0, 1))), some (zi (nI x))] [zi (nI 0)] (OM X 0 0 ρ l) Q
            refine Ew.iretb f94_121 (Or.inl rfl) ?_
            exact h12 ((zlt_iff nb_x (by decide)).mp c1) (Nat.not_lt.mp fun e => c2 ((zlt_iff nb_x (by decide)).mpr e)) ((zlt_iff (by decide) nb_x).mp c8) ((zeq nb_x (by decide)).mp (Classical.not_not.mp c9)) (Nat.not_lt.mp fun e => c13 ((zlt_iff nb_m (by decide)).mpr e))
      · refine Ew.ld f95_31 rfl rfl rfl rfl ?_
        refine Ew.op (st' := zi (nI 3) :: _) f95_32 rfl rfl ?_
        refine Ew.putiO f95_33 rfl rfl ?_
        refine Ew.op (st' := zi (nI 1) :: _) f95_36 rfl rfl ?_
        refine Ew.iretb f95_37 (Or.inr rfl) ?_
        show Ev (d + 2) c s 94 121 [some (zr (some (0, 0, 1))), some (zi (nI x))] [zi (nI 1)] (OM X 0 0 (zu ρ 1 4 (nI 3)) l) Q
        refine Ew.iretb f94_121 (Or.inr rfl) ?_
        exact h13 ((zlt_iff nb_x (by decide)).mp c1) (Nat.not_lt.mp fun e => c2 ((zlt_iff nb_x (by decide)).mpr e)) (Nat.not_lt.mp fun e => c8 ((zlt_iff (by decide) nb_x).mpr e))
  · refine Ew.ld f95_6 rfl rfl rfl rfl ?_
    refine Ew.op (st' := zi (nI 102) :: _) f95_7 rfl rfl ?_
    refine Ew.icmp f95_9 rfl rfl (fun c14 => ?_) (fun c14 => ?_)
    · refine Ew.ld f95_19 rfl rfl rfl rfl ?_
      refine Ew.op (st' := zi (nI 50) :: _) f95_20 rfl rfl ?_
      refine Ew.icmp f95_22 rfl rfl (fun c15 => ?_) (fun c15 => ?_)
      · refine Ew.ld f95_38 rfl rfl rfl rfl ?_
        refine Ew.op (st' := zi (nI 91) :: _) f95_39 rfl rfl ?_
        refine Ew.icmp f95_41 rfl rfl (fun c16 => ?_) (fun c16 => ?_)
        · refine Ew.ld f95_51 rfl rfl rfl rfl ?_
          refine Ew.op (st' := zi (nI 33) :: _) f95_52 rfl rfl ?_
          refine Ew.icmp f95_54 rfl rfl (fun c17 => ?_) (fun c17 => ?_)
          · refine Ew.op (st' := zi (nI 1) :: _) f95_65 rfl rfl ?_
            refine Ew.goto f95_66 rfl ?_
            refine Ew.iretb f95_70 (Or.inr rfl) ?_
            show Ev (d + 2) c s 94 121 [some (zr (some (0, 0, 1))), some (zi (nI x))] [zi (nI 1)] (OM X 0 0 ρ l) Q
            refine Ew.iretb f94_121 (Or.inr rfl) ?_
            exact h14 (Nat.not_lt.mp fun e => c1 ((zlt_iff nb_x (by decide)).mpr e)) ((zlt_iff (by decide) nb_x).mp c14) ((zlt_iff nb_x (by decide)).mp c15) (fun e => c16 ((zeq nb_x (by decide)).mpr e)) ((zeq nb_x (by decide)).mp c17)
          · refine Ew.ld f95_57 rfl rfl rfl rfl ?_
            refine Ew.ld f95_58 rfl rfl rfl rfl ?_
            refine Ew.call0 (ls0 := [some (zr (some (0, 0, 1))), some (zi (nI x))]) f95_59 rfl (Nat.le_of_ble_eq_true rfl) rfl rfl (Nat.le_of_ble_eq_true rfl) rfl (Nat.le_of_ble_eq_true rfl) rfl rfl ?_
            refine Ew.ld f97_0 rfl rfl rfl rfl ?_
            refine Ew.getiV (v := nI m) f97_1 rfl (so_v hm) rfl ?_
            refine Ew.op (st' := zi (nI 1) :: _) f97_4 rfl rfl ?_
            refine Ew.icmp f97_5 rfl rfl (fun c18 => ?_) (fun c18 => ?_)
            · refine Ew.op (st' := zi (nI 0) :: _) f97_23 rfl rfl ?_
              refine Ew.iretb f97_24 (Or.inl rfl) ?_
              show Ev (d + 1) 0 0 95 62 [some (zr (some (0, 0, 1))), some (zi (nI x))] [zi (nI 0)] (OM X 0 0 ρ l) (fun r M' => Ev (d + 2) c s 94 121 [some (zr (some (0, 0, 1))), some (zi (nI x))] (zpush r []) M' Q)
              refine Ew.ifc f95_62 rfl rfl (fun _ => ?_) (fun h => absurd (show ((nI 0) : Int32) = 0 by decide) h)
              refine Ew.op (st' := zi (nI 0) :: _) f95_69 rfl rfl ?_
              refine Ew.iretb f95_70 (Or.inl rfl) ?_
              show Ev (d + 2) c s 94 121 [some (zr (some (0, 0, 1))), some (zi (nI x))] [zi (nI 0)] (OM X 0 0 ρ l) Q
              refine Ew.iretb f94_121 (Or.inl rfl) ?_
              exact h15 (Nat.not_lt.mp fun e => c1 ((zlt_iff nb_x (by decide)).mpr e)) ((zlt_iff (by decide) nb_x).mp c14) ((zlt_iff nb_x (by decide)).mp c15) (fun e => c16 ((zeq nb_x (by decide)).mpr e)) (fun e => c17 ((zeq nb_x (by decide)).mpr e)) ((zlt_iff nb_m (by decide)).mp c18)
            · refine Ew.ld f97_8 rfl rfl rfl rfl ?_
              refine Ew.getp (v := some (0, 0, 3)) f97_9 rfl rfl rfl ?_
              refine Ew.ld f97_12 rfl rfl rfl rfl ?_
              refine Ew.getiV (v := nI m) f97_13 rfl (so_v hm) rfl ?_
              refine Ew.op (st' := zi (nI 1) :: _) f97_16 rfl rfl ?_
              refine Ew.op (st' := zi ((nI m) - (nI 1)) :: _) f97_17 rfl rfl ?_
              refine Ew.caldxO f97_18 rfl (b5 (Nat.not_lt.mp fun e => c1 ((zlt_iff nb_x (by decide)).mpr e)) ((zlt_iff (by decide) nb_x).mp c14) ((zlt_iff nb_x (by decide)).mp c15) (fun e => c16 ((zeq nb_x (by decide)).mpr e)) (fun e => c17 ((zeq nb_x (by decide)).mpr e)) (Nat.not_lt.mp fun e => c18 ((zlt_iff nb_m (by decide)).mpr e))) rfl ?_
              refine Ew.ld f97_19 rfl rfl rfl rfl ?_
              refine Ew.icmp f97_20 rfl rfl (fun c19 => ?_) (fun c19 => ?_)
              · refine Ew.ld f97_25 rfl rfl rfl rfl ?_
                refine Ew.op (st' := zr (some (0, 0, 1)) :: zr (some (0, 0, 1)) :: _) f97_26 rfl rfl ?_
                refine Ew.getiV (v := nI m) f97_27 rfl (so_v hm) rfl ?_
                refine Ew.op (st' := zi (nI 1) :: _) f97_30 rfl rfl ?_
                refine Ew.op (st' := zi ((nI m) - (nI 1)) :: _) f97_31 rfl rfl ?_
                refine Ew.putiO f97_32 rfl rfl ?_
                refine Ew.op (st' := zi (nI 1) :: _) f97_35 rfl rfl ?_
                refine Ew.iretb f97_36 (Or.inr rfl) ?_
                show Ev (d + 1) 0 0 95 62 [some (zr (some (0, 0, 1))), some (zi (nI x))] [zi (nI 1)] (OM X 0 0 (zu ρ 1 3 ((nI m) - (nI 1))) l) (fun r M' => Ev (d + 2) c s 94 121 [some (zr (some (0, 0, 1))), some (zi (nI x))] (zpush r []) M' Q)
                refine Ew.ifc f95_62 rfl rfl (fun h => absurd h (show ¬ (((nI 1) : Int32) = 0) by decide)) (fun _ => ?_)
                refine Ew.op (st' := zi (nI 1) :: _) f95_65 rfl rfl ?_
                refine Ew.goto f95_66 rfl ?_
                refine Ew.iretb f95_70 (Or.inr rfl) ?_
                show Ev (d + 2) c s 94 121 [some (zr (some (0, 0, 1))), some (zi (nI x))] [zi (nI 1)] (OM X 0 0 (zu ρ 1 3 ((nI m) - (nI 1))) l) Q
                refine Ew.iretb f94_121 (Or.inr rfl) ?_
                exact h16 (Nat.not_lt.mp fun e => c1 ((zlt_iff nb_x (by decide)).mpr e)) ((zlt_iff (by decide) nb_x).mp c14) ((zlt_iff nb_x (by decide)).mp c15) (fun e => c16 ((zeq nb_x (by decide)).mpr e)) (fun e => c17 ((zeq nb_x (by decide)).mpr e)) (Nat.not_lt.mp fun e => c18 ((zlt_iff nb_m (by decide)).mpr e)) c19
              · refine Ew.op (st' := zi (nI 0) :: _) f97_23 rfl rfl ?_
                refine Ew.iretb f97_24 (Or.inl rfl) ?_
                show Ev (d + 1) 0 0 95 62 [some (zr (some (0, 0, 1))), some (zi (nI x))] [zi (nI 0)] (OM X 0 0 ρ l) (fun r M' => Ev (d + 2) c s 94 121 [some (zr (some (0, 0, 1))), some (zi (nI x))] (zpush r []) M' Q)
                refine Ew.ifc f95_62 rfl rfl (fun _ => ?_) (fun h => absurd (show ((nI 0) : Int32) = 0 by decide) h)
                refine Ew.op (st' := zi (nI 0) :: _) f95_69 rfl rfl ?_
                refine Ew.iretb f95_70 (Or.inl rfl) ?_
                show Ev (d + 2) c s 94 121 [some (zr (some (0, 0, 1))), some (zi (nI x))] [zi (nI 0)] (OM X 0 0 ρ l) Q
                refine Ew.iretb f94_121 (Or.inl rfl) ?_
                exact h17 (Nat.not_lt.mp fun e => c1 ((zlt_iff nb_x (by decide)).mpr e)) ((zlt_iff (by decide) nb_x).mp c14) ((zlt_iff nb_x (by decide)).mp c15) (fun e => c16 ((zeq nb_x (by decide)).mpr e)) (fun e => c17 ((zeq nb_x (by decide)).mpr e)) (Nat.not_lt.mp fun e => c18 ((zlt_iff nb_m (by decide)).mpr e)) c19
        · refine Ew.ld f95_44 rfl rfl rfl rfl ?_
          refine Ew.op (st' := zi (nI 93) :: _) f95_45 rfl rfl ?_
          refine Ew.call0 (ls0 := [some (zr (some (0, 0, 1))), some (zi (nI 93))]) f95_47 rfl (Nat.le_of_ble_eq_true rfl) rfl rfl (Nat.le_of_ble_eq_true rfl) rfl (Nat.le_of_ble_eq_true rfl) rfl rfl ?_
          refine Ew.ld f96_0 rfl rfl rfl rfl ?_
          refine Ew.getiV (v := nI m) f96_1 rfl (so_v hm) rfl ?_
          refine Ew.op (st' := zi (nI 6) :: _) f96_4 rfl rfl ?_
          refine Ew.icmp f96_6 rfl rfl (fun c20 => ?_) (fun c20 => ?_)
          · refine Ew.ld f96_11 rfl rfl rfl rfl ?_
            refine Ew.getp (v := some (0, 0, 3)) f96_12 rfl rfl rfl ?_
            refine Ew.ld f96_15 rfl rfl rfl rfl ?_
            refine Ew.getiV (v := nI m) f96_16 rfl (so_v hm) rfl ?_
            refine Ew.ld f96_19 rfl rfl rfl rfl ?_
            refine Ew.castnO f96_20 rfl (b6 (Nat.not_lt.mp fun e => c1 ((zlt_iff nb_x (by decide)).mpr e)) ((zlt_iff (by decide) nb_x).mp c14) ((zlt_iff nb_x (by decide)).mp c15) ((zeq nb_x (by decide)).mp (Classical.not_not.mp c16)) ((zlt_iff nb_m (by decide)).mp c20)) (Nat.le_of_ble_eq_true rfl) rfl ?_
            refine Ew.ld f96_21 rfl rfl rfl rfl ?_
            refine Ew.op (st' := zr (some (0, 0, 1)) :: zr (some (0, 0, 1)) :: _) f96_22 rfl rfl ?_
            refine Ew.getiV (v := nI m) f96_23 rfl (so_v hm) rfl ?_
            refine Ew.op (st' := zi (nI 1) :: _) f96_26 rfl rfl ?_
            refine Ew.addn f96_27 rfl ?_
            refine Ew.putiO f96_28 rfl rfl ?_
            refine Ew.ld f96_31 rfl rfl rfl rfl ?_
            refine Ew.op (st' := zi (nI 0) :: _) f96_32 rfl rfl ?_
            refine Ew.putiO f96_33 rfl rfl ?_
            refine Ew.op (st' := zi (nI 1) :: _) f96_36 rfl rfl ?_
            refine Ew.iretb f96_37 (Or.inr rfl) ?_
            show Ev (d + 1) 0 0 95 50 [some (zr (some (0, 0, 1))), some (zi (nI x))] [zi (nI 1)] (OM X 0 0 (zu (zu (zu ρ 3 m (vp_nar .char (nI 93))) 1 3 (nI (m + 1))) 1 4 (nI 0)) l) (fun r M' => Ev (d + 2) c s 94 121 [some (zr (some (0, 0, 1))), some (zi (nI x))] (zpush r []) M' Q)
            refine Ew.iretb f95_50 (Or.inr rfl) ?_
            show Ev (d + 2) c s 94 121 [some (zr (some (0, 0, 1))), some (zi (nI x))] [zi (nI 1)] (OM X 0 0 (zu (zu (zu ρ 3 m (vp_nar .char (nI 93))) 1 3 (nI (m + 1))) 1 4 (nI 0)) l) Q
            refine Ew.iretb f94_121 (Or.inr rfl) ?_
            exact h18 (Nat.not_lt.mp fun e => c1 ((zlt_iff nb_x (by decide)).mpr e)) ((zlt_iff (by decide) nb_x).mp c14) ((zlt_iff nb_x (by decide)).mp c15) ((zeq nb_x (by decide)).mp (Classical.not_not.mp c16)) ((zlt_iff nb_m (by decide)).mp c20)
          · refine Ew.op (st' := zi (nI 0) :: _) f96_9 rfl rfl ?_
            refine Ew.iretb f96_10 (Or.inl rfl) ?_
            show Ev (d + 1) 0 0 95 50 [some (zr (some (0, 0, 1))), some (zi (nI x))] [zi (nI 0)] (OM X 0 0 ρ l) (fun r M' => Ev (d + 2) c s 94 121 [some (zr (some (0, 0, 1))), some (zi (nI x))] (zpush r []) M' Q)
            refine Ew.iretb f95_50 (Or.inl rfl) ?_
            show Ev (d + 2) c s 94 121 [some (zr (some (0, 0, 1))), some (zi (nI x))] [zi (nI 0)] (OM X 0 0 ρ l) Q
            refine Ew.iretb f94_121 (Or.inl rfl) ?_
            exact h19 (Nat.not_lt.mp fun e => c1 ((zlt_iff nb_x (by decide)).mpr e)) ((zlt_iff (by decide) nb_x).mp c14) ((zlt_iff nb_x (by decide)).mp c15) ((zeq nb_x (by decide)).mp (Classical.not_not.mp c16)) (Nat.not_lt.mp fun e => c20 ((zlt_iff nb_m (by decide)).mpr e))
      · refine Ew.ld f95_25 rfl rfl rfl rfl ?_
        refine Ew.op (st' := zi (nI 53) :: _) f95_26 rfl rfl ?_
        refine Ew.icmp f95_28 rfl rfl (fun c21 => ?_) (fun c21 => ?_)
        · refine Ew.ld f95_38 rfl rfl rfl rfl ?_
          refine Ew.op (st' := zi (nI 91) :: _) f95_39 rfl rfl ?_
          refine Ew.icmp f95_41 rfl rfl (fun c22 => ?_) (fun c22 => ?_)
          · refine Ew.ld f95_51 rfl rfl rfl rfl ?_
            refine Ew.op (st' := zi (nI 33) :: _) f95_52 rfl rfl ?_
            refine Ew.icmp f95_54 rfl rfl (fun c23 => ?_) (fun c23 => ?_)
            · refine Ew.op (st' := zi (nI 1) :: _) f95_65 rfl rfl ?_
              refine Ew.goto f95_66 rfl ?_
              refine Ew.iretb f95_70 (Or.inr rfl) ?_
              show Ev (d + 2) c s 94 121 [some (zr (some (0, 0, 1))), some (zi (nI x))] [zi (nI 1)] (OM X 0 0 ρ l) Q
              refine Ew.iretb f94_121 (Or.inr rfl) ?_
              exact h20 (Nat.not_lt.mp fun e => c1 ((zlt_iff nb_x (by decide)).mpr e)) ((zlt_iff (by decide) nb_x).mp c14) (Nat.not_lt.mp fun e => c15 ((zlt_iff nb_x (by decide)).mpr e)) ((zlt_iff (by decide) nb_x).mp c21) (fun e => c22 ((zeq nb_x (by decide)).mpr e)) ((zeq nb_x (by decide)).mp c23)
            · refine Ew.ld f95_57 rfl rfl rfl rfl ?_
              refine Ew.ld f95_58 rfl rfl rfl rfl ?_
              refine Ew.call0 (ls0 := [some (zr (some (0, 0, 1))), some (zi (nI x))]) f95_59 rfl (Nat.le_of_ble_eq_true rfl) rfl rfl (Nat.le_of_ble_eq_true rfl) rfl (Nat.le_of_ble_eq_true rfl) rfl rfl ?_
              refine Ew.ld f97_0 rfl rfl rfl rfl ?_
              refine Ew.getiV (v := nI m) f97_1 rfl (so_v hm) rfl ?_
              refine Ew.op (st' := zi (nI 1) :: _) f97_4 rfl rfl ?_
              refine Ew.icmp f97_5 rfl rfl (fun c24 => ?_) (fun c24 => ?_)
              · refine Ew.op (st' := zi (nI 0) :: _) f97_23 rfl rfl ?_
                refine Ew.iretb f97_24 (Or.inl rfl) ?_
                show Ev (d + 1) 0 0 95 62 [some (zr (some (0, 0, 1))), some (zi (nI x))] [zi (nI 0)] (OM X 0 0 ρ l) (fun r M' => Ev (d + 2) c s 94 121 [some (zr (some (0, 0, 1))), some (zi (nI x))] (zpush r []) M' Q)
                refine Ew.ifc f95_62 rfl rfl (fun _ => ?_) (fun h => absurd (show ((nI 0) : Int32) = 0 by decide) h)
                refine Ew.op (st' := zi (nI 0) :: _) f95_69 rfl rfl ?_
                refine Ew.iretb f95_70 (Or.inl rfl) ?_
                show Ev (d + 2) c s 94 121 [some (zr (some (0, 0, 1))), some (zi (nI x))] [zi (nI 0)] (OM X 0 0 ρ l) Q
                refine Ew.iretb f94_121 (Or.inl rfl) ?_
                exact h21 (Nat.not_lt.mp fun e => c1 ((zlt_iff nb_x (by decide)).mpr e)) ((zlt_iff (by decide) nb_x).mp c14) (Nat.not_lt.mp fun e => c15 ((zlt_iff nb_x (by decide)).mpr e)) ((zlt_iff (by decide) nb_x).mp c21) (fun e => c22 ((zeq nb_x (by decide)).mpr e)) (fun e => c23 ((zeq nb_x (by decide)).mpr e)) ((zlt_iff nb_m (by decide)).mp c24)
              · refine Ew.ld f97_8 rfl rfl rfl rfl ?_
                refine Ew.getp (v := some (0, 0, 3)) f97_9 rfl rfl rfl ?_
                refine Ew.ld f97_12 rfl rfl rfl rfl ?_
                refine Ew.getiV (v := nI m) f97_13 rfl (so_v hm) rfl ?_
                refine Ew.op (st' := zi (nI 1) :: _) f97_16 rfl rfl ?_
                refine Ew.op (st' := zi ((nI m) - (nI 1)) :: _) f97_17 rfl rfl ?_
                refine Ew.caldxO f97_18 rfl (b7 (Nat.not_lt.mp fun e => c1 ((zlt_iff nb_x (by decide)).mpr e)) ((zlt_iff (by decide) nb_x).mp c14) (Nat.not_lt.mp fun e => c15 ((zlt_iff nb_x (by decide)).mpr e)) ((zlt_iff (by decide) nb_x).mp c21) (fun e => c22 ((zeq nb_x (by decide)).mpr e)) (fun e => c23 ((zeq nb_x (by decide)).mpr e)) (Nat.not_lt.mp fun e => c24 ((zlt_iff nb_m (by decide)).mpr e))) rfl ?_
                refine Ew.ld f97_19 rfl rfl rfl rfl ?_
                refine Ew.icmp f97_20 rfl rfl (fun c25 => ?_) (fun c25 => ?_)
                · refine Ew.ld f97_25 rfl rfl rfl rfl ?_
                  refine Ew.op (st' := zr (some (0, 0, 1)) :: zr (some (0, 0, 1)) :: _) f97_26 rfl rfl ?_
                  refine Ew.getiV (v := nI m) f97_27 rfl (so_v hm) rfl ?_
                  refine Ew.op (st' := zi (nI 1) :: _) f97_30 rfl rfl ?_
                  refine Ew.op (st' := zi ((nI m) - (nI 1)) :: _) f97_31 rfl rfl ?_
                  refine Ew.putiO f97_32 rfl rfl ?_
                  refine Ew.op (st' := zi (nI 1) :: _) f97_35 rfl rfl ?_
                  refine Ew.iretb f97_36 (Or.inr rfl) ?_
                  show Ev (d + 1) 0 0 95 62 [some (zr (some (0, 0, 1))), some (zi (nI x))] [zi (nI 1)] (OM X 0 0 (zu ρ 1 3 ((nI m) - (nI 1))) l) (fun r M' => Ev (d + 2) c s 94 121 [some (zr (some (0, 0, 1))), some (zi (nI x))] (zpush r []) M' Q)
                  refine Ew.ifc f95_62 rfl rfl (fun h => absurd h (show ¬ (((nI 1) : Int32) = 0) by decide)) (fun _ => ?_)
                  refine Ew.op (st' := zi (nI 1) :: _) f95_65 rfl rfl ?_
                  refine Ew.goto f95_66 rfl ?_
                  refine Ew.iretb f95_70 (Or.inr rfl) ?_
                  show Ev (d + 2) c s 94 121 [some (zr (some (0, 0, 1))), some (zi (nI x))] [zi (nI 1)] (OM X 0 0 (zu ρ 1 3 ((nI m) - (nI 1))) l) Q
                  refine Ew.iretb f94_121 (Or.inr rfl) ?_
                  exact h22 (Nat.not_lt.mp fun e => c1 ((zlt_iff nb_x (by decide)).mpr e)) ((zlt_iff (by decide) nb_x).mp c14) (Nat.not_lt.mp fun e => c15 ((zlt_iff nb_x (by decide)).mpr e)) ((zlt_iff (by decide) nb_x).mp c21) (fun e => c22 ((zeq nb_x (by decide)).mpr e)) (fun e => c23 ((zeq nb_x (by decide)).mpr e)) (Nat.not_lt.mp fun e => c24 ((zlt_iff nb_m (by decide)).mpr e)) c25
                · refine Ew.op (st' := zi (nI 0) :: _) f97_23 rfl rfl ?_
                  refine Ew.iretb f97_24 (Or.inl rfl) ?_
                  show Ev (d + 1) 0 0 95 62 [some (zr (some (0, 0, 1))), some (zi (nI x))] [zi (nI 0)] (OM X 0 0 ρ l) (fun r M' => Ev (d + 2) c s 94 121 [some (zr (some (0, 0, 1))), some (zi (nI x))] (zpush r []) M' Q)
                  refine Ew.ifc f95_62 rfl rfl (fun _ => ?_) (fun h => absurd (show ((nI 0) : Int32) = 0 by decide) h)
                  refine Ew.op (st' := zi (nI 0) :: _) f95_69 rfl rfl ?_
                  refine Ew.iretb f95_70 (Or.inl rfl) ?_
                  show Ev (d + 2) c s 94 121 [some (zr (some (0, 0, 1))), some (zi (nI x))] [zi (nI 0)] (OM X 0 0 ρ l) Q
                  refine Ew.iretb f94_121 (Or.inl rfl) ?_
                  exact h23 (Nat.not_lt.mp fun e => c1 ((zlt_iff nb_x (by decide)).mpr e)) ((zlt_iff (by decide) nb_x).mp c14) (Nat.not_lt.mp fun e => c15 ((zlt_iff nb_x (by decide)).mpr e)) ((zlt_iff (by decide) nb_x).mp c21) (fun e => c22 ((zeq nb_x (by decide)).mpr e)) (fun e => c23 ((zeq nb_x (by decide)).mpr e)) (Nat.not_lt.mp fun e => c24 ((zlt_iff nb_m (by decide)).mpr e)) c25
          · refine Ew.ld f95_44 rfl rfl rfl rfl ?_
            refine Ew.op (st' := zi (nI 93) :: _) f95_45 rfl rfl ?_
            refine Ew.call0 (ls0 := [some (zr (some (0, 0, 1))), some (zi (nI 93))]) f95_47 rfl (Nat.le_of_ble_eq_true rfl) rfl rfl (Nat.le_of_ble_eq_true rfl) rfl (Nat.le_of_ble_eq_true rfl) rfl rfl ?_
            refine Ew.ld f96_0 rfl rfl rfl rfl ?_
            refine Ew.getiV (v := nI m) f96_1 rfl (so_v hm) rfl ?_
            refine Ew.op (st' := zi (nI 6) :: _) f96_4 rfl rfl ?_
            refine Ew.icmp f96_6 rfl rfl (fun c26 => ?_) (fun c26 => ?_)
            · refine Ew.ld f96_11 rfl rfl rfl rfl ?_
              refine Ew.getp (v := some (0, 0, 3)) f96_12 rfl rfl rfl ?_
              refine Ew.ld f96_15 rfl rfl rfl rfl ?_
              refine Ew.getiV (v := nI m) f96_16 rfl (so_v hm) rfl ?_
              refine Ew.ld f96_19 rfl rfl rfl rfl ?_
              refine Ew.castnO f96_20 rfl (b8 (Nat.not_lt.mp fun e => c1 ((zlt_iff nb_x (by decide)).mpr e)) ((zlt_iff (by decide) nb_x).mp c14) (Nat.not_lt.mp fun e => c15 ((zlt_iff nb_x (by decide)).mpr e)) ((zlt_iff (by decide) nb_x).mp c21) ((zeq nb_x (by decide)).mp (Classical.not_not.mp c22)) ((zlt_iff nb_m (by decide)).mp c26)) (Nat.le_of_ble_eq_true rfl) rfl ?_
              refine Ew.ld f96_21 rfl rfl rfl rfl ?_
              refine Ew.op (st' := zr (some (0, 0, 1)) :: zr (some (0, 0, 1)) :: _) f96_22 rfl rfl ?_
              refine Ew.getiV (v := nI m) f96_23 rfl (so_v hm) rfl ?_
              refine Ew.op (st' := zi (nI 1) :: _) f96_26 rfl rfl ?_
              refine Ew.addn f96_27 rfl ?_
              refine Ew.putiO f96_28 rfl rfl ?_
              refine Ew.ld f96_31 rfl rfl rfl rfl ?_
              refine Ew.op (st' := zi (nI 0) :: _) f96_32 rfl rfl ?_
              refine Ew.putiO f96_33 rfl rfl ?_
              refine Ew.op (st' := zi (nI 1) :: _) f96_36 rfl rfl ?_
              refine Ew.iretb f96_37 (Or.inr rfl) ?_
              show Ev (d + 1) 0 0 95 50 [some (zr (some (0, 0, 1))), some (zi (nI x))] [zi (nI 1)] (OM X 0 0 (zu (zu (zu ρ 3 m (vp_nar .char (nI 93))) 1 3 (nI (m + 1))) 1 4 (nI 0)) l) (fun r M' => Ev (d + 2) c s 94 121 [some (zr (some (0, 0, 1))), some (zi (nI x))] (zpush r []) M' Q)
              refine Ew.iretb f95_50 (Or.inr rfl) ?_
              show Ev (d + 2) c s 94 121 [some (zr (some (0, 0, 1))), some (zi (nI x))] [zi (nI 1)] (OM X 0 0 (zu (zu (zu ρ 3 m (vp_nar .char (nI 93))) 1 3 (nI (m + 1))) 1 4 (nI 0)) l) Q
              refine Ew.iretb f94_121 (Or.inr rfl) ?_
              exact h24 (Nat.not_lt.mp fun e => c1 ((zlt_iff nb_x (by decide)).mpr e)) ((zlt_iff (by decide) nb_x).mp c14) (Nat.not_lt.mp fun e => c15 ((zlt_iff nb_x (by decide)).mpr e)) ((zlt_iff (by decide) nb_x).mp c21) ((zeq nb_x (by decide)).mp (Classical.not_not.mp c22)) ((zlt_iff nb_m (by decide)).mp c26)
            · refine Ew.op (st' := zi (nI 0) :: _) f96_9 rfl rfl ?_
              refine Ew.iretb f96_10 (Or.inl rfl) ?_
              show Ev (d + 1) 0 0 95 50 [some (zr (some (0, 0, 1))), some (zi (nI x))] [zi (nI 0)] (OM X 0 0 ρ l) (fun r M' => Ev (d + 2) c s 94 121 [some (zr (some (0, 0, 1))), some (zi (nI x))] (zpush r []) M' Q)
              refine Ew.iretb f95_50 (Or.inl rfl) ?_
              show Ev (d + 2) c s 94 121 [some (zr (some (0, 0, 1))), some (zi (nI x))] [zi (nI 0)] (OM X 0 0 ρ l) Q
              refine Ew.iretb f94_121 (Or.inl rfl) ?_
              exact h25 (Nat.not_lt.mp fun e => c1 ((zlt_iff nb_x (by decide)).mpr e)) ((zlt_iff (by decide) nb_x).mp c14) (Nat.not_lt.mp fun e => c15 ((zlt_iff nb_x (by decide)).mpr e)) ((zlt_iff (by decide) nb_x).mp c21) ((zeq nb_x (by decide)).mp (Classical.not_not.mp c22)) (Nat.not_lt.mp fun e => c26 ((zlt_iff nb_m (by decide)).mpr e))
        · refine Ew.ld f95_31 rfl rfl rfl rfl ?_
          refine Ew.op (st' := zi (nI 3) :: _) f95_32 rfl rfl ?_
          refine Ew.putiO f95_33 rfl rfl ?_
          refine Ew.op (st' := zi (nI 1) :: _) f95_36 rfl rfl ?_
          refine Ew.iretb f95_37 (Or.inr rfl) ?_
          show Ev (d + 2) c s 94 121 [some (zr (some (0, 0, 1))), some (zi (nI x))] [zi (nI 1)] (OM X 0 0 (zu ρ 1 4 (nI 3)) l) Q
          refine Ew.iretb f94_121 (Or.inr rfl) ?_
          exact h26 (Nat.not_lt.mp fun e => c1 ((zlt_iff nb_x (by decide)).mpr e)) ((zlt_iff (by decide) nb_x).mp c14) (Nat.not_lt.mp fun e => c15 ((zlt_iff nb_x (by decide)).mpr e)) (Nat.not_lt.mp fun e => c21 ((zlt_iff (by decide) nb_x).mpr e))
    · refine Ew.ld f95_12 rfl rfl rfl rfl ?_
      refine Ew.op (st' := zi (nI 1) :: _) f95_13 rfl rfl ?_
      refine Ew.putiO f95_14 rfl rfl ?_
      refine Ew.op (st' := zi (nI 1) :: _) f95_17 rfl rfl ?_
      refine Ew.iretb f95_18 (Or.inr rfl) ?_
      show Ev (d + 2) c s 94 121 [some (zr (some (0, 0, 1))), some (zi (nI x))] [zi (nI 1)] (OM X 0 0 (zu ρ 1 4 (nI 1)) l) Q
      refine Ew.iretb f94_121 (Or.inr rfl) ?_
      exact h27 (Nat.not_lt.mp fun e => c1 ((zlt_iff nb_x (by decide)).mpr e)) (Nat.not_lt.mp fun e => c14 ((zlt_iff (by decide) nb_x).mpr e))
theorem g94_0q1 {d c s : Nat} {x m : Nat} {X : zM} {ρ : Nat → Nat → Int32} {l : Nat → Nat → Int64} {Q : Option zV → zM → Prop} (hp : ρ 1 4 = nI 1) (hm : ρ 1 3 = nI m)  (nb_x : x < 5000) (nb_m : m < 5000)
    (h1 : (x = 43) → Q (some (zi (nI 1))) (OM X 0 0 (zu ρ 1 4 (nI 2)) l))
    (h2 : (¬ x = 43) → (¬ x = 45) → (¬ x = 40) → Q (some (zi (nI 0))) (OM X 0 0 ρ l))
    (b1 : (¬ x = 43) → (¬ x = 45) → (x = 40) → (m < 6) → m < 6)
    (h3 : (¬ x = 43) → (¬ x = 45) → (x = 40) → (m < 6) → Q (some (zi (nI 1))) (OM X 0 0 (zu (zu (zu ρ 3 m (vp_nar .char (nI 41))) 1 3 (nI (m + 1))) 1 4 (nI 0)) l))
    (h4 : (¬ x = 43) → (¬ x = 45) → (x = 40) → (6 ≤ m) → Q (some (zi (nI 0))) (OM X 0 0 ρ l))
    (h5 : (¬ x = 43) → (x = 45) → Q (some (zi (nI 1))) (OM X 0 0 (zu ρ 1 4 (nI 2)) l)) : Ev (d + 1) c s 94 0 [some (zr (some (0, 0, 1))), some (zi (nI x))] [] (OM X 0 0 ρ l) Q := by
  refine Ew.ld f94_0 rfl rfl rfl rfl ?_
  refine Ew.getiV (v := nI 1) f94_1 rfl (so_v hp) rfl ?_
  refine Ew.tsw f94_4 rfl ?_
  refine Ew.ld f94_32 rfl rfl rfl rfl ?_
  refine Ew.op (st' := zi (nI 43) :: _) f94_33 rfl rfl ?_
  refine Ew.icmp f94_35 rfl rfl (fun c1 => ?_) (fun c1 => ?_)
  · refine Ew.ld f94_44 rfl rfl rfl rfl ?_
    refine Ew.op (st' := zi (nI 2) :: _) f94_45 rfl rfl ?_
    refine Ew.putiO f94_46 rfl rfl ?_
    refine Ew.op (st' := zi (nI 1) :: _) f94_49 rfl rfl ?_
    refine Ew.iretb f94_50 (Or.inr rfl) ?_
    exact h1 ((zeq nb_x (by decide)).mp c1)
  · refine Ew.ld f94_38 rfl rfl rfl rfl ?_
    refine Ew.op (st' := zi (nI 45) :: _) f94_39 rfl rfl ?_
    refine Ew.icmp f94_41 rfl rfl (fun c2 => ?_) (fun c2 => ?_)
    · refine Ew.ld f94_51 rfl rfl rfl rfl ?_
      refine Ew.op (st' := zi (nI 40) :: _) f94_52 rfl rfl ?_
      refine Ew.icmp f94_54 rfl rfl (fun c3 => ?_) (fun c3 => ?_)
      · refine Ew.op (st' := zi (nI 0) :: _) f94_70 rfl rfl ?_
        refine Ew.iretb f94_71 (Or.inl rfl) ?_
        exact h2 (fun e => c1 ((zeq nb_x (by decide)).mpr e)) (fun e => c2 ((zeq nb_x (by decide)).mpr e)) (fun e => c3 ((zeq nb_x (by decide)).mpr e))
      · refine Ew.ld f94_57 rfl rfl rfl rfl ?_
        refine Ew.op (st' := zi (nI 41) :: _) f94_58 rfl rfl ?_
        refine Ew.call0 (ls0 := [some (zr (some (0, 0, 1))), some (zi (nI 41))]) f94_60 rfl (Nat.le_of_ble_eq_true rfl) rfl rfl (Nat.le_of_ble_eq_true rfl) rfl (Nat.le_of_ble_eq_true rfl) rfl rfl ?_
        refine Ew.ld f96_0 rfl rfl rfl rfl ?_
        refine Ew.getiV (v := nI m) f96_1 rfl (so_v hm) rfl ?_
        refine Ew.op (st' := zi (nI 6) :: _) f96_4 rfl rfl ?_
        refine Ew.icmp f96_6 rfl rfl (fun c4 => ?_) (fun c4 => ?_)
        · refine Ew.ld f96_11 rfl rfl rfl rfl ?_
          refine Ew.getp (v := some (0, 0, 3)) f96_12 rfl rfl rfl ?_
          refine Ew.ld f96_15 rfl rfl rfl rfl ?_
          refine Ew.getiV (v := nI m) f96_16 rfl (so_v hm) rfl ?_
          refine Ew.ld f96_19 rfl rfl rfl rfl ?_
          refine Ew.castnO f96_20 rfl (b1 (fun e => c1 ((zeq nb_x (by decide)).mpr e)) (fun e => c2 ((zeq nb_x (by decide)).mpr e)) ((zeq nb_x (by decide)).mp (Classical.not_not.mp c3)) ((zlt_iff nb_m (by decide)).mp c4)) (Nat.le_of_ble_eq_true rfl) rfl ?_
          refine Ew.ld f96_21 rfl rfl rfl rfl ?_
          refine Ew.op (st' := zr (some (0, 0, 1)) :: zr (some (0, 0, 1)) :: _) f96_22 rfl rfl ?_
          refine Ew.getiV (v := nI m) f96_23 rfl (so_v hm) rfl ?_
          refine Ew.op (st' := zi (nI 1) :: _) f96_26 rfl rfl ?_
          refine Ew.addn f96_27 rfl ?_
          refine Ew.putiO f96_28 rfl rfl ?_
          refine Ew.ld f96_31 rfl rfl rfl rfl ?_
          refine Ew.op (st' := zi (nI 0) :: _) f96_32 rfl rfl ?_
          refine Ew.putiO f96_33 rfl rfl ?_
          refine Ew.op (st' := zi (nI 1) :: _) f96_36 rfl rfl ?_
          refine Ew.iretb f96_37 (Or.inr rfl) ?_
          show Ev (d + 1) c s 94 63 [some (zr (some (0, 0, 1))), some (zi (nI x))] [zi (nI 1)] (OM X 0 0 (zu (zu (zu ρ 3 m (vp_nar .char (nI 41))) 1 3 (nI (m + 1))) 1 4 (nI 0)) l) Q
          refine Ew.ifc f94_63 rfl rfl (fun h => absurd h (show ¬ (((nI 1) : Int32) = 0) by decide)) (fun _ => ?_)
          refine Ew.op (st' := zi (nI 1) :: _) f94_66 rfl rfl ?_
          refine Ew.goto f94_67 rfl ?_
          refine Ew.iretb f94_71 (Or.inr rfl) ?_
          exact h3 (fun e => c1 ((zeq nb_x (by decide)).mpr e)) (fun e => c2 ((zeq nb_x (by decide)).mpr e)) ((zeq nb_x (by decide)).mp (Classical.not_not.mp c3)) ((zlt_iff nb_m (by decide)).mp c4)
        · refine Ew.op (st' := zi (nI 0) :: _) f96_9 rfl rfl ?_
          refine Ew.iretb f96_10 (Or.inl rfl) ?_
          show Ev (d + 1) c s 94 63 [some (zr (some (0, 0, 1))), some (zi (nI x))] [zi (nI 0)] (OM X 0 0 ρ l) Q
          refine Ew.ifc f94_63 rfl rfl (fun _ => ?_) (fun h => absurd (show ((nI 0) : Int32) = 0 by decide) h)
          refine Ew.op (st' := zi (nI 0) :: _) f94_70 rfl rfl ?_
          refine Ew.iretb f94_71 (Or.inl rfl) ?_
          exact h4 (fun e => c1 ((zeq nb_x (by decide)).mpr e)) (fun e => c2 ((zeq nb_x (by decide)).mpr e)) ((zeq nb_x (by decide)).mp (Classical.not_not.mp c3)) (Nat.not_lt.mp fun e => c4 ((zlt_iff nb_m (by decide)).mpr e))
    · refine Ew.ld f94_44 rfl rfl rfl rfl ?_
      refine Ew.op (st' := zi (nI 2) :: _) f94_45 rfl rfl ?_
      refine Ew.putiO f94_46 rfl rfl ?_
      refine Ew.op (st' := zi (nI 1) :: _) f94_49 rfl rfl ?_
      refine Ew.iretb f94_50 (Or.inr rfl) ?_
      exact h5 (fun e => c1 ((zeq nb_x (by decide)).mpr e)) ((zeq nb_x (by decide)).mp (Classical.not_not.mp c2))
theorem g94_0q2 {d c s : Nat} {x m : Nat} {X : zM} {ρ : Nat → Nat → Int32} {l : Nat → Nat → Int64} {Q : Option zV → zM → Prop} (hp : ρ 1 4 = nI 2) (hm : ρ 1 3 = nI m)  (nb_x : x < 5000)
    (h1 : (x < 49) → Q (some (zi (nI 0))) (OM X 0 0 (zu ρ 1 4 (nI 0)) l))
    (h2 : (49 ≤ x) → (57 < x) → Q (some (zi (nI 0))) (OM X 0 0 (zu ρ 1 4 (nI 0)) l))
    (h3 : (49 ≤ x) → (x ≤ 57) → Q (some (zi (nI 1))) (OM X 0 0 (zu ρ 1 4 (nI 0)) l)) : Ev d c s 94 0 [some (zr (some (0, 0, 1))), some (zi (nI x))] [] (OM X 0 0 ρ l) Q := by
  refine Ew.ld f94_0 rfl rfl rfl rfl ?_
  refine Ew.getiV (v := nI 2) f94_1 rfl (so_v hp) rfl ?_
  refine Ew.tsw f94_4 rfl ?_
  refine Ew.ld f94_72 rfl rfl rfl rfl ?_
  refine Ew.op (st' := zi (nI 0) :: _) f94_73 rfl rfl ?_
  refine Ew.putiO f94_74 rfl rfl ?_
  refine Ew.ld f94_77 rfl rfl rfl rfl ?_
  refine Ew.op (st' := zi (nI 49) :: _) f94_78 rfl rfl ?_
  refine Ew.icmp f94_80 rfl rfl (fun c1 => ?_) (fun c1 => ?_)
  · refine Ew.op (st' := zi (nI 0) :: _) f94_93 rfl rfl ?_
    refine Ew.iretb f94_94 (Or.inl rfl) ?_
    exact h1 ((zlt_iff nb_x (by decide)).mp c1)
  · refine Ew.ld f94_83 rfl rfl rfl rfl ?_
    refine Ew.op (st' := zi (nI 57) :: _) f94_84 rfl rfl ?_
    refine Ew.icmp f94_86 rfl rfl (fun c2 => ?_) (fun c2 => ?_)
    · refine Ew.op (st' := zi (nI 0) :: _) f94_93 rfl rfl ?_
      refine Ew.iretb f94_94 (Or.inl rfl) ?_
      exact h2 (Nat.not_lt.mp fun e => c1 ((zlt_iff nb_x (by decide)).mpr e)) ((zlt_iff (by decide) nb_x).mp c2)
    · refine Ew.op (st' := zi (nI 1) :: _) f94_89 rfl rfl ?_
      refine Ew.goto f94_90 rfl ?_
      refine Ew.iretb f94_94 (Or.inr rfl) ?_
      exact h3 (Nat.not_lt.mp fun e => c1 ((zlt_iff nb_x (by decide)).mpr e)) (Nat.not_lt.mp fun e => c2 ((zlt_iff (by decide) nb_x).mpr e))
theorem g94_0q3 {d c s : Nat} {x m : Nat} {X : zM} {ρ : Nat → Nat → Int32} {l : Nat → Nat → Int64} {Q : Option zV → zM → Prop} (hp : ρ 1 4 = nI 3) (hm : ρ 1 3 = nI m)  (nb_x : x < 5000) (nb_m : m < 5000)
    (h1 : (¬ x = 123) → Q (some (zi (nI 0))) (OM X 0 0 ρ l))
    (b1 : (x = 123) → (m < 6) → m < 6)
    (h2 : (x = 123) → (m < 6) → Q (some (zi (nI 1))) (OM X 0 0 (zu (zu (zu ρ 3 m (vp_nar .char (nI 125))) 1 3 (nI (m + 1))) 1 4 (nI 0)) l))
    (h3 : (x = 123) → (6 ≤ m) → Q (some (zi (nI 0))) (OM X 0 0 ρ l)) : Ev (d + 1) c s 94 0 [some (zr (some (0, 0, 1))), some (zi (nI x))] [] (OM X 0 0 ρ l) Q := by
  refine Ew.ld f94_0 rfl rfl rfl rfl ?_
  refine Ew.getiV (v := nI 3) f94_1 rfl (so_v hp) rfl ?_
  refine Ew.tsw f94_4 rfl ?_
  refine Ew.ld f94_95 rfl rfl rfl rfl ?_
  refine Ew.op (st' := zi (nI 123) :: _) f94_96 rfl rfl ?_
  refine Ew.icmp f94_98 rfl rfl (fun c1 => ?_) (fun c1 => ?_)
  · refine Ew.op (st' := zi (nI 0) :: _) f94_114 rfl rfl ?_
    refine Ew.iretb f94_115 (Or.inl rfl) ?_
    exact h1 (fun e => c1 ((zeq nb_x (by decide)).mpr e))
  · refine Ew.ld f94_101 rfl rfl rfl rfl ?_
    refine Ew.op (st' := zi (nI 125) :: _) f94_102 rfl rfl ?_
    refine Ew.call0 (ls0 := [some (zr (some (0, 0, 1))), some (zi (nI 125))]) f94_104 rfl (Nat.le_of_ble_eq_true rfl) rfl rfl (Nat.le_of_ble_eq_true rfl) rfl (Nat.le_of_ble_eq_true rfl) rfl rfl ?_
    refine Ew.ld f96_0 rfl rfl rfl rfl ?_
    refine Ew.getiV (v := nI m) f96_1 rfl (so_v hm) rfl ?_
    refine Ew.op (st' := zi (nI 6) :: _) f96_4 rfl rfl ?_
    refine Ew.icmp f96_6 rfl rfl (fun c2 => ?_) (fun c2 => ?_)
    · refine Ew.ld f96_11 rfl rfl rfl rfl ?_
      refine Ew.getp (v := some (0, 0, 3)) f96_12 rfl rfl rfl ?_
      refine Ew.ld f96_15 rfl rfl rfl rfl ?_
      refine Ew.getiV (v := nI m) f96_16 rfl (so_v hm) rfl ?_
      refine Ew.ld f96_19 rfl rfl rfl rfl ?_
      refine Ew.castnO f96_20 rfl (b1 ((zeq nb_x (by decide)).mp (Classical.not_not.mp c1)) ((zlt_iff nb_m (by decide)).mp c2)) (Nat.le_of_ble_eq_true rfl) rfl ?_
      refine Ew.ld f96_21 rfl rfl rfl rfl ?_
      refine Ew.op (st' := zr (some (0, 0, 1)) :: zr (some (0, 0, 1)) :: _) f96_22 rfl rfl ?_
      refine Ew.getiV (v := nI m) f96_23 rfl (so_v hm) rfl ?_
      refine Ew.op (st' := zi (nI 1) :: _) f96_26 rfl rfl ?_
      refine Ew.addn f96_27 rfl ?_
      refine Ew.putiO f96_28 rfl rfl ?_
      refine Ew.ld f96_31 rfl rfl rfl rfl ?_
      refine Ew.op (st' := zi (nI 0) :: _) f96_32 rfl rfl ?_
      refine Ew.putiO f96_33 rfl rfl ?_
      refine Ew.op (st' := zi (nI 1) :: _) f96_36 rfl rfl ?_
      refine Ew.iretb f96_37 (Or.inr rfl) ?_
      show Ev (d + 1) c s 94 107 [some (zr (some (0, 0, 1))), some (zi (nI x))] [zi (nI 1)] (OM X 0 0 (zu (zu (zu ρ 3 m (vp_nar .char (nI 125))) 1 3 (nI (m + 1))) 1 4 (nI 0)) l) Q
      refine Ew.ifc f94_107 rfl rfl (fun h => absurd h (show ¬ (((nI 1) : Int32) = 0) by decide)) (fun _ => ?_)
      refine Ew.op (st' := zi (nI 1) :: _) f94_110 rfl rfl ?_
      refine Ew.goto f94_111 rfl ?_
      refine Ew.iretb f94_115 (Or.inr rfl) ?_
      exact h2 ((zeq nb_x (by decide)).mp (Classical.not_not.mp c1)) ((zlt_iff nb_m (by decide)).mp c2)
    · refine Ew.op (st' := zi (nI 0) :: _) f96_9 rfl rfl ?_
      refine Ew.iretb f96_10 (Or.inl rfl) ?_
      show Ev (d + 1) c s 94 107 [some (zr (some (0, 0, 1))), some (zi (nI x))] [zi (nI 0)] (OM X 0 0 ρ l) Q
      refine Ew.ifc f94_107 rfl rfl (fun _ => ?_) (fun h => absurd (show ((nI 0) : Int32) = 0 by decide) h)
      refine Ew.op (st' := zi (nI 0) :: _) f94_114 rfl rfl ?_
      refine Ew.iretb f94_115 (Or.inl rfl) ?_
      exact h3 ((zeq nb_x (by decide)).mp (Classical.not_not.mp c1)) (Nat.not_lt.mp fun e => c2 ((zlt_iff nb_m (by decide)).mpr e))
theorem g92_0 {d c s : Nat} {X : zM} {ρ : Nat → Nat → Int32} {l : Nat → Nat → Int64} {Q : Option zV → zM → Prop}
    (h1 : Ev d c s 92 12 [some (zr (some (0, 0, 1))), some (zi (nI 0))] [] (OM X 0 0 (zu (zu ρ 1 3 (nI 0)) 1 4 (nI 0)) l) Q) : Ev d c s 92 0 [some (zr (some (0, 0, 1))), none] [] (OM X 0 0 ρ l) Q := by
  refine Ew.ld f92_0 rfl rfl rfl rfl ?_
  refine Ew.op (st' := zi (nI 0) :: _) f92_1 rfl rfl ?_
  refine Ew.putiO f92_2 rfl rfl ?_
  refine Ew.ld f92_5 rfl rfl rfl rfl ?_
  refine Ew.op (st' := zi (nI 0) :: _) f92_6 rfl rfl ?_
  refine Ew.putiO f92_7 rfl rfl ?_
  refine Ew.op (st' := zi (nI 0) :: _) f92_10 rfl rfl ?_
  refine Ew.sr (ls' := [some (zr (some (0, 0, 1))), some (zi (nI 0))]) f92_11 rfl rfl (Nat.le_of_ble_eq_true rfl) rfl rfl ?_
  exact h1
theorem g92_12 {d c s : Nat} {k N : Nat} {X : zM} {ρ : Nat → Nat → Int32} {l : Nat → Nat → Int64} {Q : Option zV → zM → Prop} (hN : ρ 1 1 = nI N)  (nb_k : k < 5000) (nb_N : N < 5000)
    (h1 : (N ≤ k) → (¬ (ρ 1 3) = 0) → Q (some (zi (nI N))) (OM X 0 0 ρ l))
    (h2 : (N ≤ k) → ((ρ 1 3) = 0) → (¬ (ρ 1 4) = 0) → Q (some (zi (nI N))) (OM X 0 0 ρ l))
    (h3 : (N ≤ k) → ((ρ 1 3) = 0) → ((ρ 1 4) = 0) → Q (some (zi ((-4)))) (OM X 0 0 ρ l))
    (b1 : (k < N) → k < 60)
    (h4 : (k < N) → ((ρ 2 k) = (nI 32)) → Ev (d + 1) c s 92 12 [some (zr (some (0, 0, 1))), some (zi (nI (k + 1)))] [] (OM X 0 0 ρ l) Q)
    (b2 : (k < N) → (¬ (ρ 2 k) = (nI 32)) → k < 60)
    (h5 : (k < N) → (¬ (ρ 2 k) = (nI 32)) → Ev d 0 0 94 0 [some (zr (some (0, 0, 1))), some (zi (ρ 2 k))] [] (OM X 0 0 ρ l) (fun r M' => Ev (d + 1) c s 92 41 [some (zr (some (0, 0, 1))), some (zi (nI k))] (zpush r []) M' Q)) : Ev (d + 1) c s 92 12 [some (zr (some (0, 0, 1))), some (zi (nI k))] [] (OM X 0 0 ρ l) Q := by
  refine Ew.ld f92_12 rfl rfl rfl rfl ?_
  refine Ew.ld f92_13 rfl rfl rfl rfl ?_
  refine Ew.getiV (v := nI N) f92_14 rfl (so_v hN) rfl ?_
  refine Ew.icmp f92_17 rfl rfl (fun c1 => ?_) (fun c1 => ?_)
  · refine Ew.ld f92_52 rfl rfl rfl rfl ?_
    refine Ew.getiO f92_53 rfl rfl ?_
    refine Ew.ifc f92_56 rfl rfl (fun c2 => ?_) (fun c2 => ?_)
    · refine Ew.ld f92_71 rfl rfl rfl rfl ?_
      refine Ew.getiV (v := nI N) f92_72 rfl (so_v hN) rfl ?_
      refine Ew.ireti f92_75 ?_
      exact h1 ((zle_iff nb_N nb_k).mp c1) c2
    · refine Ew.ld f92_59 rfl rfl rfl rfl ?_
      refine Ew.getiO f92_60 rfl rfl ?_
      refine Ew.ifc f92_63 rfl rfl (fun c3 => ?_) (fun c3 => ?_)
      · refine Ew.ld f92_71 rfl rfl rfl rfl ?_
        refine Ew.getiV (v := nI N) f92_72 rfl (so_v hN) rfl ?_
        refine Ew.ireti f92_75 ?_
        exact h2 ((zle_iff nb_N nb_k).mp c1) (Classical.not_not.mp c2) c3
      · refine Ew.op (st' := zi ((-4)) :: _) f92_66 rfl rfl ?_
        refine Ew.goto f92_68 rfl ?_
        refine Ew.ireti f92_75 ?_
        exact h3 ((zle_iff nb_N nb_k).mp c1) (Classical.not_not.mp c2) (Classical.not_not.mp c3)
  · refine Ew.ld f92_20 rfl rfl rfl rfl ?_
    refine Ew.getp (v := some (0, 0, 2)) f92_21 rfl rfl rfl ?_
    refine Ew.ld f92_24 rfl rfl rfl rfl ?_
    refine Ew.caldnO f92_25 rfl (b1 (Nat.not_le.mp fun e => c1 ((zle_iff nb_N nb_k).mpr e))) (Nat.le_of_ble_eq_true rfl) rfl ?_
    refine Ew.op (st' := zi (nI 32) :: _) f92_26 rfl rfl ?_
    refine Ew.icmp f92_28 rfl rfl (fun c4 => ?_) (fun c4 => ?_)
    · refine Ew.iinc (v := nI (k + 1)) (ls' := [some (zr (some (0, 0, 1))), some (zi (nI (k + 1)))]) f92_46 rfl (nI_1 _) rfl rfl ?_
      refine Ew.goto f92_49 rfl ?_
      exact h4 (Nat.not_le.mp fun e => c1 ((zle_iff nb_N nb_k).mpr e)) c4
    · refine Ew.ld f92_31 rfl rfl rfl rfl ?_
      refine Ew.ld f92_32 rfl rfl rfl rfl ?_
      refine Ew.getp (v := some (0, 0, 2)) f92_33 rfl rfl rfl ?_
      refine Ew.ld f92_36 rfl rfl rfl rfl ?_
      refine Ew.caldnO f92_37 rfl (b2 (Nat.not_le.mp fun e => c1 ((zle_iff nb_N nb_k).mpr e)) c4) (Nat.le_of_ble_eq_true rfl) rfl ?_
      refine Ew.call0 (ls0 := [some (zr (some (0, 0, 1))), some (zi (ρ 2 k))]) f92_38 rfl (Nat.le_of_ble_eq_true rfl) rfl rfl (Nat.le_of_ble_eq_true rfl) rfl (Nat.le_of_ble_eq_true rfl) rfl rfl ?_
      exact h5 (Nat.not_le.mp fun e => c1 ((zle_iff nb_N nb_k).mpr e)) c4
theorem g92_41y {d c s : Nat} {k N : Nat} {X : zM} {ρ : Nat → Nat → Int32} {l : Nat → Nat → Int64} {Q : Option zV → zM → Prop} (hN : ρ 1 1 = nI N) 
    (h1 : Ev d c s 92 12 [some (zr (some (0, 0, 1))), some (zi (nI (k + 1)))] [] (OM X 0 0 ρ l) Q) : Ev d c s 92 41 [some (zr (some (0, 0, 1))), some (zi (nI k))] [zi (nI 1)] (OM X 0 0 ρ l) Q := by
  refine Ew.ifc f92_41 rfl rfl (fun _ => ?_) (fun h => absurd (show ¬ ((nI 1) : Int32) = 0 by decide) h)
  refine Ew.iinc (v := nI (k + 1)) (ls' := [some (zr (some (0, 0, 1))), some (zi (nI (k + 1)))]) f92_46 rfl (nI_1 _) rfl rfl ?_
  refine Ew.goto f92_49 rfl ?_
  exact h1
theorem g92_41n {d c s : Nat} {k N : Nat} {X : zM} {ρ : Nat → Nat → Int32} {l : Nat → Nat → Int64} {Q : Option zV → zM → Prop} (hN : ρ 1 1 = nI N) 
    (h1 : Q (some (zi (nI k))) (OM X 0 0 ρ l)) : Ev d c s 92 41 [some (zr (some (0, 0, 1))), some (zi (nI k))] [zi (nI 0)] (OM X 0 0 ρ l) Q := by
  refine Ew.ifc f92_41 rfl rfl (fun h => absurd h (show ¬ (¬ ((nI 0) : Int32) = 0) by decide)) (fun _ => ?_)
  refine Ew.ld f92_44 rfl rfl rfl rfl ?_
  refine Ew.ireti f92_45 ?_
  exact h1
theorem g90_0 {d c s : Nat} {x N : Nat} {X : zM} {ρ : Nat → Nat → Int32} {l : Nat → Nat → Int64} {Q : Option zV → zM → Prop} (hN : ρ 1 1 = nI N)  (nb_N : N < 5000)
    (b1 : (N < 60) → N < 60)
    (h1 : (N < 60) → Q (some (zi (nI 1))) (OM X 0 0 (zu (zu ρ 2 N (vp_nar .char (nI x))) 1 1 (nI (N + 1))) l))
    (h2 : (60 ≤ N) → Q (some (zi (nI 0))) (OM X 0 0 ρ l)) : Ev d c s 90 0 [some (zr (some (0, 0, 1))), some (zi (nI x))] [] (OM X 0 0 ρ l) Q := by
  refine Ew.ld f90_0 rfl rfl rfl rfl ?_
  refine Ew.getiV (v := nI N) f90_1 rfl (so_v hN) rfl ?_
  refine Ew.op (st' := zi (nI 60) :: _) f90_4 rfl rfl ?_
  refine Ew.icmp f90_6 rfl rfl (fun c1 => ?_) (fun c1 => ?_)
  · refine Ew.ld f90_11 rfl rfl rfl rfl ?_
    refine Ew.getp (v := some (0, 0, 2)) f90_12 rfl rfl rfl ?_
    refine Ew.ld f90_15 rfl rfl rfl rfl ?_
    refine Ew.getiV (v := nI N) f90_16 rfl (so_v hN) rfl ?_
    refine Ew.ld f90_19 rfl rfl rfl rfl ?_
    refine Ew.castnO f90_20 rfl (b1 ((zlt_iff nb_N (by decide)).mp c1)) (Nat.le_of_ble_eq_true rfl) rfl ?_
    refine Ew.ld f90_21 rfl rfl rfl rfl ?_
    refine Ew.op (st' := zr (some (0, 0, 1)) :: zr (some (0, 0, 1)) :: _) f90_22 rfl rfl ?_
    refine Ew.getiV (v := nI N) f90_23 rfl (so_v hN) rfl ?_
    refine Ew.op (st' := zi (nI 1) :: _) f90_26 rfl rfl ?_
    refine Ew.addn f90_27 rfl ?_
    refine Ew.putiO f90_28 rfl rfl ?_
    refine Ew.op (st' := zi (nI 1) :: _) f90_31 rfl rfl ?_
    refine Ew.iretb f90_32 (Or.inr rfl) ?_
    exact h1 ((zlt_iff nb_N (by decide)).mp c1)
  · refine Ew.op (st' := zi (nI 0) :: _) f90_9 rfl rfl ?_
    refine Ew.iretb f90_10 (Or.inl rfl) ?_
    exact h2 (Nat.not_lt.mp fun e => c1 ((zlt_iff nb_N (by decide)).mpr e))
theorem g91_0 {d c s : Nat} {X : zM} {ρ : Nat → Nat → Int32} {l : Nat → Nat → Int64} {Q : Option zV → zM → Prop}
    (h1 : Q none (OM X 0 0 (zu ρ 1 1 (nI 0)) l)) : Ev d c s 91 0 [some (zr (some (0, 0, 1)))] [] (OM X 0 0 ρ l) Q := by
  refine Ew.ld f91_0 rfl rfl rfl rfl ?_
  refine Ew.op (st' := zi (nI 0) :: _) f91_1 rfl rfl ?_
  refine Ew.putiO f91_2 rfl rfl ?_
  refine Ew.vret f91_5 ?_
  exact h1
theorem g89_0 {d c s : Nat} {X : zM} {ρ : Nat → Nat → Int32} {l : Nat → Nat → Int64} {Q : Option zV → zM → Prop}
    (h1 : Q (some (zi (ρ 1 1))) (OM X 0 0 ρ l)) : Ev d c s 89 0 [some (zr (some (0, 0, 1)))] [] (OM X 0 0 ρ l) Q := by
  refine Ew.ld f89_0 rfl rfl rfl rfl ?_
  refine Ew.getiO f89_1 rfl rfl ?_
  refine Ew.ireti f89_4 ?_
  exact h1
/-- the scanner's place and what is open -/
def cKs (ρ : Nat → Nat → Int32) (y : kSt) : Prop := ρ 1 4 = nI y.1 ∧ ρ 1 3 = nI y.2.length ∧ ∀ i (h : i < y.2.length), ρ 3 (y.2.length - 1 - i) = nI y.2[i]
def cKf (ρ ρ' : Nat → Nat → Int32) : Prop := ∀ q i, ¬ (q = 3 ∨ (q = 1 ∧ (i = 3 ∨ i = 4))) → ρ' q i = ρ q i
theorem cKf.refl {ρ : Nat → Nat → Int32} : cKf ρ ρ := fun _ _ _ => rfl
theorem cKf.trans {ρ ρ' ρ'' : Nat → Nat → Int32} (h : cKf ρ ρ') (h' : cKf ρ' ρ'') : cKf ρ ρ'' := fun q i g => (h' q i g).trans (h q i g)
theorem cKs_pl {ρ : Nat → Nat → Int32} {q q' : Nat} {O : List Nat} (h : cKs ρ (q, O)) : cKs (zu ρ 1 4 (nI q')) (q', O) ∧ cKf ρ (zu ρ 1 4 (nI q')) := by
  refine ⟨⟨zu_e, ?_, fun i hi => ?_⟩, fun q i g => ?_⟩
  · rw [zu_i_ne (by omega)]; exact h.2.1
  · rw [zu_i_ne (by omega)]; exact h.2.2 i hi
  · rw [zu_i_ne (by omega)]
theorem cKs_push {ρ : Nat → Nat → Int32} {q x : Nat} {O : List Nat} (hx : x < 127) (h : cKs ρ (q, O)) : cKs (zu (zu (zu ρ 3 O.length (vp_nar .char (nI x))) 1 3 (nI (O.length + 1))) 1 4 (nI 0)) (0, x :: O) ∧ cKf ρ (zu (zu (zu ρ 3 O.length (vp_nar .char (nI x))) 1 3 (nI (O.length + 1))) 1 4 (nI 0)) := by
  refine ⟨⟨zu_e, ?_, fun i hi => ?_⟩, fun q i g => ?_⟩
  · rw [zu_i_ne (by omega), zu_e]; rfl
  · have hi : i < O.length + 1 := hi
    show zu (zu (zu ρ 3 O.length (vp_nar .char (nI x))) 1 3 (nI (O.length + 1))) 1 4 (nI 0) 3 (O.length + 1 - 1 - i) = _
    rw [zu_i_ne (by omega), zu_i_ne (by omega)]
    cases i with
    | zero => rw [show O.length + 1 - 1 - 0 = O.length by omega, zu_e, znar hx]; rfl
    | succ i =>
      rw [zu_i_ne (by omega), show O.length + 1 - 1 - (i + 1) = O.length - 1 - i by omega]
      exact h.2.2 i (by show i < O.length; omega)
  · rw [zu_i_ne (by omega), zu_i_ne (by omega), zu_i_ne (by omega)]
theorem cKs_pop {ρ : Nat → Nat → Int32} {q x : Nat} {O : List Nat} (h : cKs ρ (q, x :: O)) : cKs (zu ρ 1 3 (nI (O.length + 1) - nI 1)) (q, O) ∧ cKf ρ (zu ρ 1 3 (nI (O.length + 1) - nI 1)) := by
  refine ⟨⟨?_, ?_, fun i hi => ?_⟩, fun q i g => ?_⟩
  · rw [zu_i_ne (by omega)]; exact h.1
  · rw [zu_e]; exact pk_sub (a := O.length + 1) (b := 1) (by omega)
  · have hi : i < O.length := hi
    rw [zu_i_ne (by omega)]
    have := h.2.2 (i + 1) (by show i + 1 < O.length + 1; omega)
    rw [show (x :: O).length - 1 - (i + 1) = O.length - 1 - i by show O.length + 1 - 1 - (i + 1) = _; omega] at this
    exact this
  · rw [zu_i_ne (by omega)]
def kTop (x : Nat) : List Nat → Option kSt
  | [] => none
  | d :: r => if x = d then some (0, r) else none
theorem kStep_0 (O : List Nat) (x : Nat) : kStep (0, O) x = if 97 ≤ x ∧ x ≤ 102 then some (1, O) else if 50 ≤ x ∧ x ≤ 53 then some (3, O) else if x = 91 then (if O.length < 6 then some (0, 93 :: O) else none) else if x = 33 then some (0, O) else kTop x O := by
  cases O <;> rfl
theorem sp_kAcc {d c s x q : Nat} {O : List Nat} {X : zM} {ρ : Nat → Nat → Int32} {l : Nat → Nat → Int64} {Q : Option zV → zM → Prop} (hx : x < 127) (hq : q < 4) (h6 : O.length ≤ 6) (h : cKs ρ (q, O)) (hO : ∀ c, c ∈ O → c = 41 ∨ c = 93 ∨ c = 125) (kn : kStep (q, O) x = none → ∀ ρ', cKf ρ ρ' → Q (some (zi (nI 0))) (OM X 0 0 ρ' l)) (ky : ∀ y, kStep (q, O) x = some y → ∀ ρ', cKs ρ' y → cKf ρ ρ' → Q (some (zi (nI 1))) (OM X 0 0 ρ' l)) : Ev (d + 2) c s 94 0 [some (zr (some (0, 0, 1))), some (zi (nI x))] [] (OM X 0 0 ρ l) Q := by
  have hm : ρ 1 3 = nI O.length := h.2.1
  have q4 : q = 0 ∨ q = 1 ∨ q = 2 ∨ q = 3 := by omega
  rcases q4 with e | e | e | e <;> subst e
  · have st : kStep (0, O) x = if 97 ≤ x ∧ x ≤ 102 then some (1, O) else if 50 ≤ x ∧ x ≤ 53 then some (3, O) else if x = 91 then (if O.length < 6 then some (0, 93 :: O) else none) else if x = 33 then some (0, O) else kTop x O := kStep_0 O x
    have ltr : 97 ≤ x → x ≤ 102 → Q (some (zi (nI 1))) (OM X 0 0 (zu ρ 1 4 (nI 1)) l) := fun a b => ky (1, O) (by rw [st, if_pos ⟨a, b⟩]) _ (cKs_pl h).1 (cKs_pl h).2
    have fig : 50 ≤ x → x ≤ 53 → Q (some (zi (nI 1))) (OM X 0 0 (zu ρ 1 4 (nI 3)) l) := fun a b => ky (3, O) (by rw [st, if_neg (by omega), if_pos ⟨a, b⟩]) _ (cKs_pl h).1 (cKs_pl h).2
    have bang : x = 33 → Q (some (zi (nI 1))) (OM X 0 0 ρ l) := fun a => ky (0, O) (by rw [st, if_neg (by omega), if_neg (by omega), if_neg (by omega), if_pos a]) _ h cKf.refl
    have op : x = 91 → O.length < 6 → Q (some (zi (nI 1))) (OM X 0 0 (zu (zu (zu ρ 3 O.length (vp_nar .char (nI 93))) 1 3 (nI (O.length + 1))) 1 4 (nI 0)) l) := fun a b => ky (0, 93 :: O) (by rw [st, if_neg (by omega), if_neg (by omega), if_pos a, if_pos b]) _ (cKs_push (by decide) h).1 (cKs_push (by decide) h).2
    have opn : x = 91 → 6 ≤ O.length → Q (some (zi (nI 0))) (OM X 0 0 ρ l) := fun a b => kn (by rw [st, if_neg (by omega), if_neg (by omega), if_pos a, if_neg (by omega)]) _ cKf.refl
    have cl : ¬ (97 ≤ x ∧ x ≤ 102) ∧ ¬ (50 ≤ x ∧ x ≤ 53) ∧ ¬ x = 91 ∧ ¬ x = 33 → kStep (0, O) x = kTop x O := fun a => by rw [st, if_neg a.1, if_neg a.2.1, if_neg a.2.2.1, if_neg a.2.2.2]
    have c0 : ¬ (97 ≤ x ∧ x ≤ 102) ∧ ¬ (50 ≤ x ∧ x ≤ 53) ∧ ¬ x = 91 ∧ ¬ x = 33 → O.length < 1 → Q (some (zi (nI 0))) (OM X 0 0 ρ l) := fun a b => kn (by rw [cl a, show O = [] from List.eq_nil_of_length_eq_zero (by omega)]; rfl) _ cKf.refl
    have vp : 1 ≤ O.length → vp_in (nI O.length - nI 1) 6 := fun b => by rw [pk_sub b]; exact zvin (by omega) (by decide)
    have top : ∀ y r, O = y :: r → ρ 3 (nI O.length - nI 1).toNatClampNeg = nI y := by
      intro y r e
      have hl : O.length = r.length + 1 := by rw [e]; rfl
      rw [pk_sub (by omega), nI_clamp (by omega)]
      subst e
      exact h.2.2 0 (by show 0 < r.length + 1; omega)
    have cY : ¬ (97 ≤ x ∧ x ≤ 102) ∧ ¬ (50 ≤ x ∧ x ≤ 53) ∧ ¬ x = 91 ∧ ¬ x = 33 → 1 ≤ O.length → ρ 3 (nI O.length - nI 1).toNatClampNeg = nI x → Q (some (zi (nI 1))) (OM X 0 0 (zu ρ 1 3 (nI O.length - nI 1)) l) := by
      intro a b e
      rcases hO' : O with _ | ⟨y, r⟩
      · rw [hO'] at b; exact absurd b (by decide)
      · have yb := hO y (by rw [hO']; exact List.mem_cons_self ..)
        rw [top y r hO'] at e
        have e : y = x := (zeq (by omega) (by omega)).mp e
        have hh : cKs ρ (0, y :: r) := hO' ▸ h
        exact ky (0, r) (by rw [cl a, hO']; show (if x = y then _ else _) = _; rw [if_pos e.symm]) _ (cKs_pop hh).1 (cKs_pop hh).2
    have cN : ¬ (97 ≤ x ∧ x ≤ 102) ∧ ¬ (50 ≤ x ∧ x ≤ 53) ∧ ¬ x = 91 ∧ ¬ x = 33 → 1 ≤ O.length → ¬ ρ 3 (nI O.length - nI 1).toNatClampNeg = nI x → Q (some (zi (nI 0))) (OM X 0 0 ρ l) := by
      intro a b e
      rcases hO' : O with _ | ⟨y, r⟩
      · rw [hO'] at b; exact absurd b (by decide)
      · rw [top y r hO'] at e
        exact kn (by rw [cl a, hO']; show (if x = y then _ else _) = _; rw [if_neg (fun g => e (by rw [g]))]) _ cKf.refl
    exact g94_0q0 (d := d) h.1 hm (by omega) (by omega) (fun _ _ _ e => bang e) (fun q0 q1 q2 q3 q => c0 (by omega) q) (fun _ _ _ _ q => vp q) (fun q0 q1 q2 q3 q e => cY (by omega) q e) (fun q0 q1 q2 q3 q e => cN (by omega) q e) (fun _ _ _ q => q) (fun _ _ e q => op e q) (fun _ _ e q => opn e q) (fun _ _ _ _ e => bang e) (fun q0 q1 q2 q3 q4 q => c0 (by omega) q) (fun _ _ _ _ _ q => vp q) (fun q0 q1 q2 q3 q4 q e => cY (by omega) q e) (fun q0 q1 q2 q3 q4 q e => cN (by omega) q e) (fun _ _ _ _ q => q) (fun _ _ _ e q => op e q) (fun _ _ _ e q => opn e q) (fun _ q1 q2 => fig q1 q2) (fun _ _ _ _ e => bang e) (fun q0 q1 q2 q3 q4 q => c0 (by omega) q) (fun _ _ _ _ _ q => vp q) (fun q0 q1 q2 q3 q4 q e => cY (by omega) q e) (fun q0 q1 q2 q3 q4 q e => cN (by omega) q e) (fun _ _ _ _ q => q) (fun _ _ _ e q => op e q) (fun _ _ _ e q => opn e q) (fun _ _ _ _ _ e => bang e) (fun q0 q1 q2 q3 q4 q5 q => c0 (by omega) q) (fun _ _ _ _ _ _ q => vp q) (fun q0 q1 q2 q3 q4 q5 q e => cY (by omega) q e) (fun q0 q1 q2 q3 q4 q5 q e => cN (by omega) q e) (fun _ _ _ _ _ q => q) (fun _ _ _ _ e q => op e q) (fun _ _ _ _ e q => opn e q) (fun _ _ q1 q2 => fig q1 q2) (fun q1 q2 => ltr q1 q2)
  · have st : kStep (1, O) x = if x = 43 ∨ x = 45 then some (2, O) else if x = 40 ∧ O.length < 6 then some (0, 41 :: O) else none := rfl
    have sg : x = 43 ∨ x = 45 → Q (some (zi (nI 1))) (OM X 0 0 (zu ρ 1 4 (nI 2)) l) := fun a => ky (2, O) (by rw [st, if_pos a]) _ (cKs_pl h).1 (cKs_pl h).2
    exact g94_0q1 (d := d + 1) h.1 hm (by omega) (by omega) (fun e => sg (Or.inl e)) (fun a b e => kn (by rw [st, if_neg (by omega), if_neg (by omega)]) _ cKf.refl) (fun _ _ _ q => q) (fun a b e q => ky (0, 41 :: O) (by rw [st, if_neg (by omega), if_pos ⟨e, q⟩]) _ (cKs_push (by decide) h).1 (cKs_push (by decide) h).2) (fun a b e q => kn (by rw [st, if_neg (by omega), if_neg (by omega)]) _ cKf.refl) (fun _ e => sg (Or.inr e))
  · have st : kStep (2, O) x = if 49 ≤ x ∧ x ≤ 57 then some (0, O) else none := rfl
    have no : ¬ (49 ≤ x ∧ x ≤ 57) → Q (some (zi (nI 0))) (OM X 0 0 (zu ρ 1 4 (nI 0)) l) := fun a => kn (by rw [st, if_neg a]) _ (cKs_pl h).2
    exact g94_0q2 (d := d + 2) h.1 hm (by omega) (fun q => no (by omega)) (fun _ q => no (by omega)) (fun q1 q2 => ky (0, O) (by rw [st, if_pos ⟨q1, q2⟩]) _ (cKs_pl h).1 (cKs_pl h).2)
  · have st : kStep (3, O) x = if x = 123 ∧ O.length < 6 then some (0, 125 :: O) else none := rfl
    exact g94_0q3 (d := d + 1) h.1 hm (by omega) (by omega) (fun e => kn (by rw [st, if_neg (by omega)]) _ cKf.refl) (fun _ q => q) (fun e q => ky (0, 125 :: O) (by rw [st, if_pos ⟨e, q⟩]) _ (cKs_push (by decide) h).1 (cKs_push (by decide) h).2) (fun e q => kn (by rw [st, if_neg (by omega)]) _ cKf.refl)
theorem kStep_q {q q' x : Nat} {O O' : List Nat} (h : kStep (q, O) x = some (q', O')) : q' < 4 := by
  have aux : ∀ a b : kSt, some a = some b → a.1 < 4 → b.1 < 4 := fun a b e g => by cases e; exact g
  unfold kStep at h
  repeat' split at h
  all_goals first | (cases h; done) | (have := aux _ _ h (Nat.le_of_ble_eq_true rfl); exact this)
theorem cTp_kf {ρ ρ' : Nat → Nat → Int32} {T : List Nat} (h : cTp ρ T) (hf : cKf ρ ρ') : cTp ρ' T := ⟨by rw [hf _ _ (by omega)]; exact h.1, fun k hk => by rw [hf _ _ (by omega)]; exact h.2 k hk⟩
theorem sp_kFlt {d c s : Nat} {T : List Nat} {X : zM} {ρ : Nat → Nat → Int32} {l : Nat → Nat → Int64} {Q : Option zV → zM → Prop} (hT : cTp ρ T) (h60 : T.length ≤ 60) (hx : ∀ x, x ∈ T → 32 ≤ x ∧ x < 127) (k : ∀ ρ', cKf ρ ρ' → Q (some (zi (match aFlt T with | none => -4 | some p => nI p))) (OM X 0 0 ρ' l)) : Ev (d + 3) c s 92 0 [some (zr (some (0, 0, 1))), none] [] (OM X 0 0 ρ l) Q := by
  refine g92_0 ?_
  have lp : ∀ m, m ≤ T.length → ∀ q O ρ', cKs ρ' (q, O) → q < 4 → O.length ≤ 6 → (∀ c, c ∈ O → c = 41 ∨ c = 93 ∨ c = 125) → cKf ρ ρ' → kScan T 0 (0, []) = kScan (T.drop (T.length - m)) (T.length - m) (q, O) → Ev (d + 3) c s 92 12 [some (zr (some (0, 0, 1))), some (zi (nI (T.length - m)))] [] (OM X 0 0 ρ' l) Q := by
    intro m
    induction m with
    | zero =>
      intro _ q O ρ' hs hq h6 hO hf hk
      rw [show T.length - 0 = T.length from rfl, List.drop_length] at hk
      have hk : kScan T 0 (0, []) = Sum.inr (q, O) := hk
      have ef : aFlt T = if q = 0 ∧ O = [] then none else some T.length := by unfold aFlt; rw [hk]
      have hN : ρ' 1 1 = nI T.length := (cTp_kf hT hf).1
      have z0 : ρ' 1 3 = 0 ↔ O = [] := by
        rw [hs.2.1]
        constructor
        · intro e
          exact List.eq_nil_of_length_eq_zero ((zeq (by show O.length < 5000; omega) (by decide)).mp e)
        · intro e; rw [e]; rfl
      have z1 : ρ' 1 4 = 0 ↔ q = 0 := by
        rw [hs.1]
        exact zeq (by show q < 5000; omega) (by decide)
      have kk := k ρ' hf
      rw [ef] at kk
      refine g92_12 (N := T.length) hN (by omega) (by omega) (fun _ a => ?_) (fun _ a b => ?_) (fun _ a b => ?_) (fun g => by omega) (fun g => by omega) (fun g => by omega) (fun g => by omega)
      · rw [if_neg (fun e => a (z0.mpr e.2))] at kk; exact kk
      · rw [if_neg (fun e => b (z1.mpr e.1))] at kk; exact kk
      · rw [if_pos ⟨z1.mp b, z0.mp a⟩] at kk; exact kk
    | succ m ih =>
      intro hm q O ρ' hs hq h6 hO hf hk
      have hN : ρ' 1 1 = nI T.length := (cTp_kf hT hf).1
      have hp : T.length - (m + 1) < T.length := by omega
      have e1 : T.length - (m + 1) + 1 = T.length - m := by omega
      have el := (cTp_kf hT hf).2 _ hp
      have xb := hx _ (List.getElem_mem hp)
      rw [List.drop_eq_getElem_cons hp, e1] at hk
      have hk : kScan T 0 (0, []) = if T[T.length - (m + 1)] = 32 then kScan (T.drop (T.length - m)) (T.length - (m + 1) + 1) (q, O) else match kStep (q, O) T[T.length - (m + 1)] with
        | none => Sum.inl (T.length - (m + 1))
        | some y => kScan (T.drop (T.length - m)) (T.length - (m + 1) + 1) y := hk
      rw [e1] at hk
      refine g92_12 (d := d + 2) (N := T.length) hN (by omega) (by omega) (fun g => by omega) (fun g => by omega) (fun g => by omega) (fun _ => by omega) (fun _ a => ?_) (fun _ _ => by omega) (fun _ a => ?_)
      · rw [el] at a
        rw [if_pos ((zeq (by omega) (by decide)).mp a)] at hk
        rw [e1]
        exact ih (by omega) q O ρ' hs hq h6 hO hf hk
      · rw [el] at a ⊢
        rw [if_neg (fun e => a (by rw [e]))] at hk
        refine sp_kAcc (d := d) xb.2 hq h6 hs hO (fun hn ρ2 f2 => ?_) (fun y hy ρ2 s2 f2 => ?_)
        · rw [hn] at hk
          have hk : kScan T 0 (0, []) = Sum.inl (T.length - (m + 1)) := hk
          refine g92_41n (N := T.length) (cTp_kf hT (hf.trans f2)).1 ?_
          have kk := k ρ2 (hf.trans f2)
          unfold aFlt at kk
          rw [hk] at kk
          exact kk
        · rw [hy] at hk
          obtain ⟨q', O'⟩ := y
          refine g92_41y (N := T.length) (cTp_kf hT (hf.trans f2)).1 ?_
          rw [e1]
          have ok := kStep_ok hy h6 hO
          exact ih (by omega) q' O' ρ2 s2 (kStep_q hy) ok.1 ok.2 (hf.trans f2) hk
  have h0 := lp T.length (Nat.le_refl _) 0 [] (zu (zu ρ 1 3 (nI 0)) 1 4 (nI 0)) ⟨zu_e, by rw [zu_i_ne (by omega), zu_e]; rfl, fun i h => absurd h (Nat.not_lt_zero i)⟩ (by decide) (Nat.zero_le _) (fun c h => by cases h) (fun q i g => by rw [zu_i_ne (by omega), zu_i_ne (by omega)]) (by rw [Nat.sub_self]; rfl)
  rw [Nat.sub_self] at h0
  exact h0
