/-! the reference: is the tape a body? the loop -/
theorem kP.grow {T : List Nat} {p q p' q' : Nat} {O D O' D' : List Nat} (h : kP T p q O D) (h' : kP T p' q' O' D') (hl : D.length < D'.length) : p < p' := by
  refine Nat.lt_of_not_le fun hle => ?_
  have q2 : (aDense (T.take p')).length ≤ (aDense (T.take p)).length := by
    have : T.take p' = (T.take p).take p' := by rw [List.take_take, Nat.min_eq_left hle]
    rw [this]
    have sub := (List.take_sublist p' (T.take p)).filter (fun x => decide (¬ x = 32))
    exact sub.length_le
  rw [← h'.2.1, ← h.2.1] at q2
  omega
theorem g186_0 {d c s : Nat} {X : zM} {ρ : Nat → Nat → Int32} {l : Nat → Nat → Int64} {Q : Option zV → zM → Prop}
    (h1 : Ev d c s 186 17 [some (zr (some (1, 0, 0))), some (zi (nI 1)), none] [] (OM X 1 0 (zu (zu (zu ρ 0 34 (nI 0)) 0 36 (nI 0)) 0 26 (nI 0)) l) Q) : Ev d c s 186 0 [some (zr (some (1, 0, 0))), none, none] [] (OM X 1 0 ρ l) Q := by
  refine Ew.ld f186_0 rfl rfl rfl rfl ?_
  refine Ew.op (st' := zi (nI 0) :: _) f186_1 rfl rfl ?_
  refine Ew.putiO f186_2 rfl rfl ?_
  refine Ew.ld f186_5 rfl rfl rfl rfl ?_
  refine Ew.op (st' := zi (nI 0) :: _) f186_6 rfl rfl ?_
  refine Ew.putiO f186_7 rfl rfl ?_
  refine Ew.ld f186_10 rfl rfl rfl rfl ?_
  refine Ew.op (st' := zi (nI 0) :: _) f186_11 rfl rfl ?_
  refine Ew.putiO f186_12 rfl rfl ?_
  refine Ew.op (st' := zi (nI 1) :: _) f186_15 rfl rfl ?_
  refine Ew.sr (ls' := [some (zr (some (1, 0, 0))), some (zi (nI 1)), none]) f186_16 rfl rfl (Nat.le_of_ble_eq_true rfl) rfl rfl ?_
  exact h1
theorem g186_17 {d c s : Nat} {o2 : Option zV} {X : zM} {ρ : Nat → Nat → Int32} {l : Nat → Nat → Int64} {Q : Option zV → zM → Prop}
    (h1 : Ev d 0 0 180 0 [some (zr (some (1, 0, 0)))] [] (OM X 1 0 ρ l) (fun r M' => Ev (d + 1) c s 186 25 [some (zr (some (1, 0, 0))), some (zi (nI 1)), o2] (zpush r []) M' Q)) : Ev (d + 1) c s 186 17 [some (zr (some (1, 0, 0))), some (zi (nI 1)), o2] [] (OM X 1 0 ρ l) Q := by
  refine Ew.ld f186_17 rfl rfl rfl rfl ?_
  refine Ew.ifc f186_18 rfl rfl (fun h => absurd h (show ¬ (((nI 1) : Int32) = 0) by decide)) (fun _ => ?_)
  refine Ew.ld f186_21 rfl rfl rfl rfl ?_
  refine Ew.call0 (ls0 := [some (zr (some (1, 0, 0)))]) f186_22 rfl (Nat.le_of_ble_eq_true rfl) rfl rfl (Nat.le_of_ble_eq_true rfl) rfl (Nat.le_of_ble_eq_true rfl) rfl rfl ?_
  exact h1
theorem g186_17z {d c s : Nat} {o2 : Option zV} {X : zM} {ρ : Nat → Nat → Int32} {l : Nat → Nat → Int64} {Q : Option zV → zM → Prop}
    (h1 : Q (some (zi (nI 0))) (OM X 1 0 ρ l)) : Ev d c s 186 17 [some (zr (some (1, 0, 0))), some (zi (nI 0)), o2] [] (OM X 1 0 ρ l) Q := by
  refine Ew.ld f186_17 rfl rfl rfl rfl ?_
  refine Ew.ifc f186_18 rfl rfl (fun _ => ?_) (fun h => absurd (show ((nI 0) : Int32) = 0 by decide) h)
  refine Ew.ld f186_177 rfl rfl rfl rfl ?_
  refine Ew.ifc f186_178 rfl rfl (fun _ => ?_) (fun h => absurd (show ((nI 0) : Int32) = 0 by decide) h)
  refine Ew.op (st' := zi (nI 0) :: _) f186_192 rfl rfl ?_
  refine Ew.iretb f186_193 (Or.inl rfl) ?_
  exact h1
theorem g186_25 {d c s : Nat} {x o : Nat} {o2 : Option zV} {X : zM} {ρ : Nat → Nat → Int32} {l : Nat → Nat → Int64} {Q : Option zV → zM → Prop} (e1 : ρ 0 26 = nI o) (nb_x : x < 5000) (nb_o : o < 5000)
    (h1 : (x = 0) → (¬ o = 0) → Q (some (zi (nI 0))) (OM X 1 0 ρ l))
    (h2 : (x = 0) → (o = 0) → Q (some (zi (nI 1))) (OM X 1 0 ρ l))
    (h3 : (¬ x = 0) → Ev d 0 0 180 0 [some (zr (some (1, 0, 0)))] [] (OM X 1 0 ρ l) (fun r M' => Ev (d + 1) c s 186 32 [some (zr (some (1, 0, 0))), some (zi (nI 1)), o2] (zpush r []) M' Q)) : Ev (d + 1) c s 186 25 [some (zr (some (1, 0, 0))), some (zi (nI 1)), o2] [zi (nI x)] (OM X 1 0 ρ l) Q := by
  refine Ew.ifc f186_25 rfl rfl (fun c1 => ?_) (fun c1 => ?_)
  · refine Ew.ld f186_177 rfl rfl rfl rfl ?_
    refine Ew.ifc f186_178 rfl rfl (fun h => absurd h (show ¬ (((nI 1) : Int32) = 0) by decide)) (fun _ => ?_)
    refine Ew.ld f186_181 rfl rfl rfl rfl ?_
    refine Ew.getiV (v := nI o) f186_182 rfl (so_v e1) rfl ?_
    refine Ew.ifc f186_185 rfl rfl (fun c2 => ?_) (fun c2 => ?_)
    · refine Ew.op (st' := zi (nI 0) :: _) f186_192 rfl rfl ?_
      refine Ew.iretb f186_193 (Or.inl rfl) ?_
      exact h1 ((zeq nb_x (by decide)).mp c1) (fun e => c2 ((zeq nb_o (by decide)).mpr e))
    · refine Ew.op (st' := zi (nI 1) :: _) f186_188 rfl rfl ?_
      refine Ew.goto f186_189 rfl ?_
      refine Ew.iretb f186_193 (Or.inr rfl) ?_
      exact h2 ((zeq nb_x (by decide)).mp c1) ((zeq nb_o (by decide)).mp (Classical.not_not.mp c2))
  · refine Ew.ld f186_28 rfl rfl rfl rfl ?_
    refine Ew.call0 (ls0 := [some (zr (some (1, 0, 0)))]) f186_29 rfl (Nat.le_of_ble_eq_true rfl) rfl rfl (Nat.le_of_ble_eq_true rfl) rfl (Nat.le_of_ble_eq_true rfl) rfl rfl ?_
    exact h3 (fun e => c1 ((zeq nb_x (by decide)).mpr e))
theorem g186_32 {d c s : Nat} {x : Nat} {o2 : Option zV} {X : zM} {ρ : Nat → Nat → Int32} {l : Nat → Nat → Int64} {Q : Option zV → zM → Prop} (nb_x : x < 5000)
    (h1 : ((lN 97) ≤ ((nI x).toInt64) ∧ ((nI x).toInt64) ≤ (lN 102)) → Ev d 0 0 185 0 [some (zr (some (1, 0, 0)))] [] (OM X 1 0 ρ l) (fun r M' => Ev (d + 1) c s 186 51 [some (zr (some (1, 0, 0))), some (zi (nI 1)), some (zi (nI x))] (zpush r []) M' Q))
    (h2 : (¬ ((lN 97) ≤ ((nI x).toInt64) ∧ ((nI x).toInt64) ≤ (lN 102))) → (¬ x = 33) → (¬ x = 91) → ((lN 50) ≤ ((nI x).toInt64) ∧ ((nI x).toInt64) ≤ (lN 53)) → Ev d 0 0 181 0 [some (zr (some (1, 0, 0)))] [] (OM X 1 0 ρ l) (fun r M' => Ev (d + 1) c s 186 100 [some (zr (some (1, 0, 0))), some (zi (nI 1)), some (zi (nI x))] (zpush r []) M' Q))
    (h3 : (¬ ((lN 97) ≤ ((nI x).toInt64) ∧ ((nI x).toInt64) ≤ (lN 102))) → (¬ x = 33) → (¬ x = 91) → (¬ ((lN 50) ≤ ((nI x).toInt64) ∧ ((nI x).toInt64) ≤ (lN 53))) → Ev (d + 1) c s 186 125 [some (zr (some (1, 0, 0))), some (zi (nI 1)), some (zi (nI x))] [] (OM X 1 0 ρ l) Q)
    (h4 : (¬ ((lN 97) ≤ ((nI x).toInt64) ∧ ((nI x).toInt64) ≤ (lN 102))) → (¬ x = 33) → (x = 91) → Ev d 0 0 183 0 [some (zr (some (1, 0, 0)))] [] (OM X 1 0 ρ l) (fun r M' => Ev (d + 1) c s 186 78 [some (zr (some (1, 0, 0))), some (zi (nI 1)), some (zi (nI x))] (zpush r []) M' Q))
    (h5 : (¬ ((lN 97) ≤ ((nI x).toInt64) ∧ ((nI x).toInt64) ≤ (lN 102))) → (x = 33) → Ev d 0 0 181 0 [some (zr (some (1, 0, 0)))] [] (OM X 1 0 ρ l) (fun r M' => Ev (d + 1) c s 186 65 [some (zr (some (1, 0, 0))), some (zi (nI 1)), some (zi (nI x))] (zpush r []) M' Q)) : Ev (d + 1) c s 186 32 [some (zr (some (1, 0, 0))), some (zi (nI 1)), o2] [zi (nI x)] (OM X 1 0 ρ l) Q := by
  refine Ew.sr (ls' := [some (zr (some (1, 0, 0))), some (zi (nI 1)), some (zi (nI x))]) f186_32 rfl rfl (Nat.le_of_ble_eq_true rfl) rfl rfl ?_
  refine Ew.ld f186_33 rfl rfl rfl rfl ?_
  refine Ew.op (st' := zl ((nI x).toInt64) :: _) f186_34 rfl rfl ?_
  refine Ew.op (st' := zl (lN 97) :: _) f186_35 rfl rfl ?_
  refine Ew.op (st' := zl (lN 102) :: _) f186_38 rfl rfl ?_
  refine Ew.call0 (ls0 := [some (zl ((nI x).toInt64)), none, some (zl (lN 97)), none, some (zl (lN 102)), none]) f186_41 rfl (Nat.le_of_ble_eq_true rfl) rfl rfl (Nat.le_of_ble_eq_true rfl) trivial (Nat.le_of_ble_eq_true rfl) rfl rfl ?_
  refine sp_in (fun c1 => ?_) (fun c1 => ?_)
  · refine Ew.ifc f186_44 rfl rfl (fun h => absurd h (show ¬ (((nI 1) : Int32) = 0) by decide)) (fun _ => ?_)
    refine Ew.ld f186_47 rfl rfl rfl rfl ?_
    refine Ew.call0 (ls0 := [some (zr (some (1, 0, 0)))]) f186_48 rfl (Nat.le_of_ble_eq_true rfl) rfl rfl (Nat.le_of_ble_eq_true rfl) rfl (Nat.le_of_ble_eq_true rfl) rfl rfl ?_
    exact h1 c1
  · refine Ew.ifc f186_44 rfl rfl (fun _ => ?_) (fun h => absurd (show ((nI 0) : Int32) = 0 by decide) h)
    refine Ew.ld f186_55 rfl rfl rfl rfl ?_
    refine Ew.op (st' := zi (nI 33) :: _) f186_56 rfl rfl ?_
    refine Ew.icmp f186_58 rfl rfl (fun c2 => ?_) (fun c2 => ?_)
    · refine Ew.ld f186_68 rfl rfl rfl rfl ?_
      refine Ew.op (st' := zi (nI 91) :: _) f186_69 rfl rfl ?_
      refine Ew.icmp f186_71 rfl rfl (fun c3 => ?_) (fun c3 => ?_)
      · refine Ew.ld f186_82 rfl rfl rfl rfl ?_
        refine Ew.op (st' := zl ((nI x).toInt64) :: _) f186_83 rfl rfl ?_
        refine Ew.op (st' := zl (lN 50) :: _) f186_84 rfl rfl ?_
        refine Ew.op (st' := zl (lN 53) :: _) f186_87 rfl rfl ?_
        refine Ew.call0 (ls0 := [some (zl ((nI x).toInt64)), none, some (zl (lN 50)), none, some (zl (lN 53)), none]) f186_90 rfl (Nat.le_of_ble_eq_true rfl) rfl rfl (Nat.le_of_ble_eq_true rfl) trivial (Nat.le_of_ble_eq_true rfl) rfl rfl ?_
        refine sp_in (fun c4 => ?_) (fun c4 => ?_)
        · refine Ew.ifc f186_93 rfl rfl (fun h => absurd h (show ¬ (((nI 1) : Int32) = 0) by decide)) (fun _ => ?_)
          refine Ew.ld f186_96 rfl rfl rfl rfl ?_
          refine Ew.call0 (ls0 := [some (zr (some (1, 0, 0)))]) f186_97 rfl (Nat.le_of_ble_eq_true rfl) rfl rfl (Nat.le_of_ble_eq_true rfl) rfl (Nat.le_of_ble_eq_true rfl) rfl rfl ?_
          exact h2 c1 (fun e => c2 ((zeq nb_x (by decide)).mpr e)) (fun e => c3 ((zeq nb_x (by decide)).mpr e)) c4
        · refine Ew.ifc f186_93 rfl rfl (fun _ => ?_) (fun h => absurd (show ((nI 0) : Int32) = 0 by decide) h)
          exact h3 c1 (fun e => c2 ((zeq nb_x (by decide)).mpr e)) (fun e => c3 ((zeq nb_x (by decide)).mpr e)) c4
      · refine Ew.ld f186_74 rfl rfl rfl rfl ?_
        refine Ew.call0 (ls0 := [some (zr (some (1, 0, 0)))]) f186_75 rfl (Nat.le_of_ble_eq_true rfl) rfl rfl (Nat.le_of_ble_eq_true rfl) rfl (Nat.le_of_ble_eq_true rfl) rfl rfl ?_
        exact h4 c1 (fun e => c2 ((zeq nb_x (by decide)).mpr e)) ((zeq nb_x (by decide)).mp (Classical.not_not.mp c3))
    · refine Ew.ld f186_61 rfl rfl rfl rfl ?_
      refine Ew.call0 (ls0 := [some (zr (some (1, 0, 0)))]) f186_62 rfl (Nat.le_of_ble_eq_true rfl) rfl rfl (Nat.le_of_ble_eq_true rfl) rfl (Nat.le_of_ble_eq_true rfl) rfl rfl ?_
      exact h5 c1 ((zeq nb_x (by decide)).mp (Classical.not_not.mp c2))
theorem g186_51 {d c s : Nat} {x b : Nat} {X : zM} {ρ : Nat → Nat → Int32} {l : Nat → Nat → Int64} {Q : Option zV → zM → Prop}
    (h1 : Ev d c s 186 17 [some (zr (some (1, 0, 0))), some (zi (nI b)), some (zi (nI x))] [] (OM X 1 0 ρ l) Q) : Ev d c s 186 51 [some (zr (some (1, 0, 0))), some (zi (nI 1)), some (zi (nI x))] [zi (nI b)] (OM X 1 0 ρ l) Q := by
  refine Ew.sr (ls' := [some (zr (some (1, 0, 0))), some (zi (nI b)), some (zi (nI x))]) f186_51 rfl rfl (Nat.le_of_ble_eq_true rfl) rfl rfl ?_
  refine Ew.goto f186_52 rfl ?_
  refine Ew.goto f186_174 rfl ?_
  exact h1
theorem g186_65 {d c s : Nat} {x : Nat} {X : zM} {ρ : Nat → Nat → Int32} {l : Nat → Nat → Int64} {Q : Option zV → zM → Prop}
    (h1 : Ev d c s 186 17 [some (zr (some (1, 0, 0))), some (zi (nI 1)), some (zi (nI x))] [] (OM X 1 0 ρ l) Q) : Ev d c s 186 65 [some (zr (some (1, 0, 0))), some (zi (nI 1)), some (zi (nI x))] [] (OM X 1 0 ρ l) Q := by
  refine Ew.goto f186_65 rfl ?_
  refine Ew.goto f186_174 rfl ?_
  exact h1
theorem g186_78 {d c s : Nat} {x b : Nat} {X : zM} {ρ : Nat → Nat → Int32} {l : Nat → Nat → Int64} {Q : Option zV → zM → Prop}
    (h1 : Ev d c s 186 17 [some (zr (some (1, 0, 0))), some (zi (nI b)), some (zi (nI x))] [] (OM X 1 0 ρ l) Q) : Ev d c s 186 78 [some (zr (some (1, 0, 0))), some (zi (nI 1)), some (zi (nI x))] [zi (nI b)] (OM X 1 0 ρ l) Q := by
  refine Ew.sr (ls' := [some (zr (some (1, 0, 0))), some (zi (nI b)), some (zi (nI x))]) f186_78 rfl rfl (Nat.le_of_ble_eq_true rfl) rfl rfl ?_
  refine Ew.goto f186_79 rfl ?_
  refine Ew.goto f186_174 rfl ?_
  exact h1
theorem g186_100 {d c s : Nat} {x : Nat} {X : zM} {ρ : Nat → Nat → Int32} {l : Nat → Nat → Int64} {Q : Option zV → zM → Prop}
    (h1 : Ev d 0 0 180 0 [some (zr (some (1, 0, 0)))] [] (OM X 1 0 ρ l) (fun r M' => Ev (d + 1) c s 186 104 [some (zr (some (1, 0, 0))), some (zi (nI 1)), some (zi (nI x))] (zpush r []) M' Q)) : Ev (d + 1) c s 186 100 [some (zr (some (1, 0, 0))), some (zi (nI 1)), some (zi (nI x))] [] (OM X 1 0 ρ l) Q := by
  refine Ew.ld f186_100 rfl rfl rfl rfl ?_
  refine Ew.call0 (ls0 := [some (zr (some (1, 0, 0)))]) f186_101 rfl (Nat.le_of_ble_eq_true rfl) rfl rfl (Nat.le_of_ble_eq_true rfl) rfl (Nat.le_of_ble_eq_true rfl) rfl rfl ?_
  exact h1
theorem g186_104 {d c s : Nat} {x y : Nat} {X : zM} {ρ : Nat → Nat → Int32} {l : Nat → Nat → Int64} {Q : Option zV → zM → Prop} (nb_y : y < 5000)
    (h1 : (¬ y = 123) → Ev (d + 1) c s 186 17 [some (zr (some (1, 0, 0))), some (zi (nI 0)), some (zi (nI x))] [] (OM X 1 0 ρ l) Q)
    (h2 : (y = 123) → Ev d 0 0 183 0 [some (zr (some (1, 0, 0)))] [] (OM X 1 0 ρ l) (fun r M' => Ev (d + 1) c s 186 113 [some (zr (some (1, 0, 0))), some (zi (nI 1)), some (zi (nI x))] (zpush r []) M' Q)) : Ev (d + 1) c s 186 104 [some (zr (some (1, 0, 0))), some (zi (nI 1)), some (zi (nI x))] [zi (nI y)] (OM X 1 0 ρ l) Q := by
  refine Ew.op (st' := zi (nI 123) :: _) f186_104 rfl rfl ?_
  refine Ew.icmp f186_106 rfl rfl (fun c1 => ?_) (fun c1 => ?_)
  · refine Ew.op (st' := zi (nI 0) :: _) f186_120 rfl rfl ?_
    refine Ew.sr (ls' := [some (zr (some (1, 0, 0))), some (zi (nI 0)), some (zi (nI x))]) f186_121 rfl rfl (Nat.le_of_ble_eq_true rfl) rfl rfl ?_
    refine Ew.goto f186_122 rfl ?_
    refine Ew.goto f186_174 rfl ?_
    exact h1 (fun e => c1 ((zeq nb_y (by decide)).mpr e))
  · refine Ew.ld f186_109 rfl rfl rfl rfl ?_
    refine Ew.call0 (ls0 := [some (zr (some (1, 0, 0)))]) f186_110 rfl (Nat.le_of_ble_eq_true rfl) rfl rfl (Nat.le_of_ble_eq_true rfl) rfl (Nat.le_of_ble_eq_true rfl) rfl rfl ?_
    exact h2 ((zeq nb_y (by decide)).mp (Classical.not_not.mp c1))
theorem g186_113 {d c s : Nat} {x : Nat} {X : zM} {ρ : Nat → Nat → Int32} {l : Nat → Nat → Int64} {Q : Option zV → zM → Prop}
    (h1 : Ev d c s 186 17 [some (zr (some (1, 0, 0))), some (zi (nI 1)), some (zi (nI x))] [] (OM X 1 0 ρ l) Q) : Ev d c s 186 113 [some (zr (some (1, 0, 0))), some (zi (nI 1)), some (zi (nI x))] [zi (nI 1)] (OM X 1 0 ρ l) Q := by
  refine Ew.ifc f186_113 rfl rfl (fun h => absurd h (show ¬ (((nI 1) : Int32) = 0) by decide)) (fun _ => ?_)
  refine Ew.op (st' := zi (nI 1) :: _) f186_116 rfl rfl ?_
  refine Ew.goto f186_117 rfl ?_
  refine Ew.sr (ls' := [some (zr (some (1, 0, 0))), some (zi (nI 1)), some (zi (nI x))]) f186_121 rfl rfl (Nat.le_of_ble_eq_true rfl) rfl rfl ?_
  refine Ew.goto f186_122 rfl ?_
  refine Ew.goto f186_174 rfl ?_
  exact h1
theorem g186_113z {d c s : Nat} {x : Nat} {X : zM} {ρ : Nat → Nat → Int32} {l : Nat → Nat → Int64} {Q : Option zV → zM → Prop}
    (h1 : Ev d c s 186 17 [some (zr (some (1, 0, 0))), some (zi (nI 0)), some (zi (nI x))] [] (OM X 1 0 ρ l) Q) : Ev d c s 186 113 [some (zr (some (1, 0, 0))), some (zi (nI 1)), some (zi (nI x))] [zi (nI 0)] (OM X 1 0 ρ l) Q := by
  refine Ew.ifc f186_113 rfl rfl (fun _ => ?_) (fun h => absurd (show ((nI 0) : Int32) = 0 by decide) h)
  refine Ew.op (st' := zi (nI 0) :: _) f186_120 rfl rfl ?_
  refine Ew.sr (ls' := [some (zr (some (1, 0, 0))), some (zi (nI 0)), some (zi (nI x))]) f186_121 rfl rfl (Nat.le_of_ble_eq_true rfl) rfl rfl ?_
  refine Ew.goto f186_122 rfl ?_
  refine Ew.goto f186_174 rfl ?_
  exact h1
theorem g186_125 {d c s : Nat} {x o : Nat} {X : zM} {ρ : Nat → Nat → Int32} {l : Nat → Nat → Int64} {Q : Option zV → zM → Prop} (e1 : ρ 0 26 = nI o) (nb_o : o < 5000)
    (h1 : (o ≤ 0) → Ev d c s 186 17 [some (zr (some (1, 0, 0))), some (zi (nI 0)), some (zi (nI x))] [] (OM X 1 0 ρ l) Q)
    (h2 : (0 < o) → Ev d c s 186 132 [some (zr (some (1, 0, 0))), some (zi (nI 1)), some (zi (nI x))] [] (OM X 1 0 ρ l) Q) : Ev d c s 186 125 [some (zr (some (1, 0, 0))), some (zi (nI 1)), some (zi (nI x))] [] (OM X 1 0 ρ l) Q := by
  refine Ew.ld f186_125 rfl rfl rfl rfl ?_
  refine Ew.getiV (v := nI o) f186_126 rfl (so_v e1) rfl ?_
  refine Ew.ifc f186_129 rfl rfl (fun c1 => ?_) (fun c1 => ?_)
  · refine Ew.op (st' := zi (nI 0) :: _) f186_154 rfl rfl ?_
    refine Ew.sr (ls' := [some (zr (some (1, 0, 0))), some (zi (nI 0)), some (zi (nI x))]) f186_155 rfl rfl (Nat.le_of_ble_eq_true rfl) rfl rfl ?_
    refine Ew.ld f186_156 rfl rfl rfl rfl ?_
    refine Ew.ifc f186_157 rfl rfl (fun _ => ?_) (fun h => absurd (show ((nI 0) : Int32) = 0 by decide) h)
    refine Ew.goto f186_174 rfl ?_
    exact h1 ((zle_iff nb_o (by decide)).mp c1)
  · exact h2 (Nat.not_le.mp fun e => c1 ((zle_iff nb_o (by decide)).mpr e))
theorem g186_132 {d c s : Nat} {x o : Nat} {X : zM} {ρ : Nat → Nat → Int32} {l : Nat → Nat → Int64} {Q : Option zV → zM → Prop} (e1 : ρ 0 26 = nI o)
    (b1 : vp_in ((nI o) - (nI 1)) 6)
    (h1 : Ev d 0 0 184 0 [some (zi (ρ 19 (((nI o) - (nI 1)).toNatClampNeg)))] [] (OM X 1 0 ρ l) (fun r M' => Ev (d + 1) c s 186 147 [some (zr (some (1, 0, 0))), some (zi (nI 1)), some (zi (nI x))] (zpush r [zi (nI x)]) M' Q)) : Ev (d + 1) c s 186 132 [some (zr (some (1, 0, 0))), some (zi (nI 1)), some (zi (nI x))] [] (OM X 1 0 ρ l) Q := by
  refine Ew.ld f186_132 rfl rfl rfl rfl ?_
  refine Ew.ld f186_133 rfl rfl rfl rfl ?_
  refine Ew.getp (v := some (1, 0, 19)) f186_134 rfl rfl rfl ?_
  refine Ew.ld f186_137 rfl rfl rfl rfl ?_
  refine Ew.getiV (v := nI o) f186_138 rfl (so_v e1) rfl ?_
  refine Ew.op (st' := zi (nI 1) :: _) f186_141 rfl rfl ?_
  refine Ew.op (st' := zi ((nI o) - (nI 1)) :: _) f186_142 rfl rfl ?_
  refine Ew.ialdxO f186_143 rfl b1 rfl ?_
  refine Ew.call0 (ls0 := [some (zi (ρ 19 (((nI o) - (nI 1)).toNatClampNeg)))]) f186_144 rfl (Nat.le_of_ble_eq_true rfl) rfl rfl (Nat.le_of_ble_eq_true rfl) trivial (Nat.le_of_ble_eq_true rfl) rfl rfl ?_
  exact h1
theorem g186_147 {d c s : Nat} {x y : Nat} {X : zM} {ρ : Nat → Nat → Int32} {l : Nat → Nat → Int64} {Q : Option zV → zM → Prop} (nb_x : x < 5000) (nb_y : y < 5000)
    (h1 : (¬ x = y) → Ev (d + 1) c s 186 17 [some (zr (some (1, 0, 0))), some (zi (nI 0)), some (zi (nI x))] [] (OM X 1 0 ρ l) Q)
    (h2 : (x = y) → Ev d 0 0 181 0 [some (zr (some (1, 0, 0)))] [] (OM X 1 0 ρ l) (fun r M' => Ev (d + 1) c s 186 164 [some (zr (some (1, 0, 0))), some (zi (nI 1)), some (zi (nI x))] (zpush r []) M' Q)) : Ev (d + 1) c s 186 147 [some (zr (some (1, 0, 0))), some (zi (nI 1)), some (zi (nI x))] [zi (nI y), zi (nI x)] (OM X 1 0 ρ l) Q := by
  refine Ew.icmp f186_147 rfl rfl (fun c1 => ?_) (fun c1 => ?_)
  · refine Ew.op (st' := zi (nI 0) :: _) f186_154 rfl rfl ?_
    refine Ew.sr (ls' := [some (zr (some (1, 0, 0))), some (zi (nI 0)), some (zi (nI x))]) f186_155 rfl rfl (Nat.le_of_ble_eq_true rfl) rfl rfl ?_
    refine Ew.ld f186_156 rfl rfl rfl rfl ?_
    refine Ew.ifc f186_157 rfl rfl (fun _ => ?_) (fun h => absurd (show ((nI 0) : Int32) = 0 by decide) h)
    refine Ew.goto f186_174 rfl ?_
    exact h1 (fun e => c1 ((zeq nb_x nb_y).mpr e))
  · refine Ew.op (st' := zi (nI 1) :: _) f186_150 rfl rfl ?_
    refine Ew.goto f186_151 rfl ?_
    refine Ew.sr (ls' := [some (zr (some (1, 0, 0))), some (zi (nI 1)), some (zi (nI x))]) f186_155 rfl rfl (Nat.le_of_ble_eq_true rfl) rfl rfl ?_
    refine Ew.ld f186_156 rfl rfl rfl rfl ?_
    refine Ew.ifc f186_157 rfl rfl (fun h => absurd h (show ¬ (((nI 1) : Int32) = 0) by decide)) (fun _ => ?_)
    refine Ew.ld f186_160 rfl rfl rfl rfl ?_
    refine Ew.call0 (ls0 := [some (zr (some (1, 0, 0)))]) f186_161 rfl (Nat.le_of_ble_eq_true rfl) rfl rfl (Nat.le_of_ble_eq_true rfl) rfl (Nat.le_of_ble_eq_true rfl) rfl rfl ?_
    exact h2 ((zeq nb_x nb_y).mp (Classical.not_not.mp c1))
theorem g186_164 {d c s : Nat} {x o : Nat} {X : zM} {ρ : Nat → Nat → Int32} {l : Nat → Nat → Int64} {Q : Option zV → zM → Prop} (e1 : ρ 0 26 = nI o)
    (h1 : Ev d c s 186 17 [some (zr (some (1, 0, 0))), some (zi (nI 1)), some (zi (nI x))] [] (OM X 1 0 (zu ρ 0 26 ((nI o) - (nI 1))) l) Q) : Ev d c s 186 164 [some (zr (some (1, 0, 0))), some (zi (nI 1)), some (zi (nI x))] [] (OM X 1 0 ρ l) Q := by
  refine Ew.ld f186_164 rfl rfl rfl rfl ?_
  refine Ew.op (st' := zr (some (1, 0, 0)) :: zr (some (1, 0, 0)) :: _) f186_165 rfl rfl ?_
  refine Ew.getiV (v := nI o) f186_166 rfl (so_v e1) rfl ?_
  refine Ew.op (st' := zi (nI 1) :: _) f186_169 rfl rfl ?_
  refine Ew.op (st' := zi ((nI o) - (nI 1)) :: _) f186_170 rfl rfl ?_
  refine Ew.putiO f186_171 rfl rfl ?_
  refine Ew.goto f186_174 rfl ?_
  exact h1
theorem g184_0 {d c s : Nat} {x : Nat} {X : zM} {ρ : Nat → Nat → Int32} {l : Nat → Nat → Int64} {Q : Option zV → zM → Prop} (nb_x : x < 5000)
    (h1 : (¬ x = 40) → (¬ x = 91) → Q (some (zi (nI 125))) (OM X 1 0 ρ l))
    (h2 : (¬ x = 40) → (x = 91) → Q (some (zi (nI 93))) (OM X 1 0 ρ l))
    (h3 : (x = 40) → Q (some (zi (nI 41))) (OM X 1 0 ρ l)) : Ev d c s 184 0 [some (zi (nI x))] [] (OM X 1 0 ρ l) Q := by
  refine Ew.ld f184_0 rfl rfl rfl rfl ?_
  refine Ew.op (st' := zi (nI 40) :: _) f184_1 rfl rfl ?_
  refine Ew.icmp f184_3 rfl rfl (fun c1 => ?_) (fun c1 => ?_)
  · refine Ew.ld f184_11 rfl rfl rfl rfl ?_
    refine Ew.op (st' := zi (nI 91) :: _) f184_12 rfl rfl ?_
    refine Ew.icmp f184_14 rfl rfl (fun c2 => ?_) (fun c2 => ?_)
    · refine Ew.op (st' := zi (nI 125) :: _) f184_22 rfl rfl ?_
      refine Ew.ireti f184_24 ?_
      exact h1 (fun e => c1 ((zeq nb_x (by decide)).mpr e)) (fun e => c2 ((zeq nb_x (by decide)).mpr e))
    · refine Ew.op (st' := zi (nI 93) :: _) f184_17 rfl rfl ?_
      refine Ew.goto f184_19 rfl ?_
      refine Ew.ireti f184_24 ?_
      exact h2 (fun e => c1 ((zeq nb_x (by decide)).mpr e)) ((zeq nb_x (by decide)).mp (Classical.not_not.mp c2))
  · refine Ew.op (st' := zi (nI 41) :: _) f184_6 rfl rfl ?_
    refine Ew.goto f184_8 rfl ?_
    refine Ew.ireti f184_24 ?_
    exact h3 ((zeq nb_x (by decide)).mp (Classical.not_not.mp c1))
theorem sp_isBody {d c s : Nat} {T : List Nat} {X : zM} {ρ0 : Nat → Nat → Int32} {l : Nat → Nat → Int64} {Q : Option zV → zM → Prop} (h60 : T.length ≤ 60) (h32 : ∀ x, x ∈ T → 32 ≤ x ∧ x < 127) (hT : rTape ρ0 T) (k1 : aFlt T = none → ∀ ρ', kR ρ0 ρ' T.length [] (aDense T) → Q (some (zi (nI 1))) (OM X 1 0 ρ' l)) (k0 : ∀ ρ' p' O' D', kR ρ0 ρ' p' O' D' → p' ≤ T.length → kN T p' → aFlt T = some p' → Q (some (zi (nI 0))) (OM X 1 0 ρ' l)) : Ev (d + 4) c s 186 0 [some (zr (some (1, 0, 0))), none, none] [] (OM X 1 0 ρ0 l) Q := by
  have h127 : ∀ x, x ∈ T → x < 127 := fun x hx => (h32 x hx).2
  refine g186_0 ?_
  have key : ∀ j p (ρ : Nat → Nat → Int32) (O D : List Nat) (o2 : Option zV), T.length - p < j → kR ρ0 ρ p O D → kP T p 0 O D → Ev (d + 4) c s 186 17 [some (zr (some (1, 0, 0))), some (zi (nI 1)), o2] [] (OM X 1 0 ρ l) Q := by
    intro j
    induction j with
    | zero => intro p ρ O D o2 hj; omega
    | succ j ih =>
      intro p ρ O D o2 hj h hP
      have hpT := hP.2.2.1
      refine g186_17 (sp_here h60 h127 hT (T.length - p) p ρ (by omega) h (fun ρ1 p1 h1 hp1 hN1 f1 _ => ?_))
      have hP1 := f1 0 hP
      have hpp1 : p ≤ p1 ∨ p1 < p := by omega
      have hx := L127 h127 p1
      have h6 := hP1.2.2.2.1
      refine g186_25 (o := O.length) h1.2.2.1.1 (by omega) (by omega) (fun g g0 => ?_) (fun g g0 => ?_) (fun g => ?_)
      · have e : p1 = T.length := by have := (T0 h32).mp g; omega
        subst e
        refine k0 ρ1 _ _ _ h1 (Nat.le_refl _) hN1 ?_
        rw [hP1.fin.1, if_neg]
        rintro ⟨_, e⟩
        rw [e] at g0
        exact g0 rfl
      · have e : p1 = T.length := by have := (T0 h32).mp g; omega
        subst e
        have eO : O = [] := List.eq_nil_of_length_eq_zero g0
        subst eO
        have hf := hP1.fin
        rw [if_pos ⟨rfl, rfl⟩] at hf
        rw [hf.2] at h1
        exact k1 hf.1 ρ1 h1
      · have hlt : p1 < T.length := by
          refine Nat.lt_of_not_le fun hle => g ((T0 h32).mpr hle)
        refine sp_here h60 h127 hT (T.length - p1) p1 ρ1 (by omega) h1 (fun ρ2 p2 h2 hp2 hN2 f2 e2 => ?_)
        have e2 := e2 hN1
        subst e2
        have i1 := zinN (x := T.getD p2 0) (a := 97) (b := 102) (by omega) (by decide) (by decide)
        have i2 := zinN (x := T.getD p2 0) (a := 50) (b := 53) (by omega) (by decide) (by decide)
        -- the next item
        have nxt : ∀ p' O' D' ρ' o2, kR ρ0 ρ' p' O' D' → kP T p' 0 O' D' → p2 < p' → Ev (d + 4) c s 186 17 [some (zr (some (1, 0, 0))), some (zi (nI 1)), o2] [] (OM X 1 0 ρ' l) Q := by
          intro p' O' D' ρ' o2 a1 a2 a3
          refine ih p' ρ' O' D' o2 ?_ a1 a2
          have hle : p ≤ p2 := by
            rcases hpp1 with hh | hh
            · exact hh
            · exfalso
              -- here never goes back
              have l1 : D = aDense (T.take p) := hP.2.1
              have l2 : D = aDense (T.take p2) := hP1.2.1
              have e : T.take p = T.take p2 ++ (T.drop p2).take (p - p2) := by
                rw [← List.take_append_drop p2 T]
                have : p = p2 + (p - p2) := by omega
                rw [this]
                rw [List.take_add]
                simp
              have e3 : aDense ((T.drop p2).take (p - p2)) = [] := by
                rw [e, aDense_app, ← l2] at l1
                exact List.self_eq_append_right.mp l1
              have e4 : (T.drop p2).take (p - p2) = T.getD p2 0 :: (T.drop (p2 + 1)).take (p - p2 - 1) := by
                rw [drop_get hlt, show p - p2 = (p - p2 - 1) + 1 by omega, List.take_succ_cons]
                rfl
              rw [e4, show (T.getD p2 0 :: (T.drop (p2 + 1)).take (p - p2 - 1)) = [T.getD p2 0] ++ (T.drop (p2 + 1)).take (p - p2 - 1) from rfl, aDense_app, aDense_1 (hN2 hlt)] at e3
              exact absurd e3 (by simp)
          omega
        refine g186_32 (by omega) (fun e1 => ?_) (fun e1 e33 e91 e5 => ?_) (fun e1 e33 e91 e5 => ?_) (fun e1 e33 e91 => ?_) (fun e1 e33 => ?_)
        · refine sp_isVisit h60 h32 hT h2 hP1 hlt hN2 (i1.mp e1) (fun ρ3 p3 O3 D3 a1 a2 a3 => g186_51 (nxt p3 O3 D3 ρ3 _ a1 a2 a3)) (fun ρ3 p3 O3 D3 a1 a2 a3 a4 => g186_51 (g186_17z (k0 ρ3 p3 O3 D3 a1 a2 a3 a4)))
        · have e5 := i2.mp e5
          refine sp_takes h60 h127 hT h2 hlt hN2 hP1.len (fun ρ3 h3 => g186_100 ?_)
          have hP3 := hP1.take hlt (hN2 hlt) (kS_f e5)
          refine sp_here h60 h127 hT (T.length - (p2 + 1)) (p2 + 1) ρ3 (by omega) h3 (fun ρ4 p4 h4 hp4 hN4 f4 _ => ?_)
          have hP4 := f4 3 hP3
          have hx4 := L127 h127 p4
          have hgr : p2 < p4 := hP1.grow hP4 (by rw [List.length_append, List.length_singleton]; omega)
          refine g186_104 (by omega) (fun g123 => ?_) (fun g123 => ?_)
          · refine g186_17z (k0 ρ4 p4 _ _ h4 hp4 hN4 (hP4.bad hN4 (Or.inl (by decide)) (fun _ => ?_)))
            rw [kS_3, if_neg (fun e => g123 e.1)]
          · have hlt4 : p4 < T.length := by
              refine Nat.lt_of_not_le fun hle => ?_
              have := (T0 h32).mpr hle
              omega
            refine sp_isOpened h60 h127 hT h4 hlt4 hN4 hP4.len hP4.2.2.2.1 (Or.inr (Or.inr g123)) (fun h6' ρ5 h5 => g186_113 ?_) (fun h6' => g186_113z (g186_17z (k0 ρ4 p4 _ _ h4 hp4 hN4 (hP4.bad hN4 (Or.inl (by decide)) (fun _ => ?_)))))
            · have hP5 := hP4.take (q' := 0) (O' := 125 :: O) hlt4 (hN4 hlt4) (by rw [kS_3, if_pos ⟨g123, h6'⟩])
              rw [g123] at hP5 h5
              exact nxt _ _ _ ρ5 _ h5 hP5 (by omega)
            · rw [kS_3, if_neg (fun e => h6' e.2)]
        · have n1 : ¬ (97 ≤ T.getD p2 0 ∧ T.getD p2 0 ≤ 102) := fun e => e1 (i1.mpr e)
          have n2 : ¬ (50 ≤ T.getD p2 0 ∧ T.getD p2 0 ≤ 53) := fun e => e5 (i2.mpr e)
          have hs := kS_c (O := O) n1 n2 e91 e33
          cases hO : O with
          | nil =>
            subst hO
            refine g186_125 (o := 0) h2.2.2.1.1 (by decide) (fun _ => g186_17z (k0 ρ2 p2 _ _ h2 hp2 hN2 (hP1.bad hN2 (Or.inr hlt) (fun _ => hs)))) (fun g => absurd g (by decide))
          | cons cc r =>
            subst hO
            have hs : kStep (0, cc :: r) (T.getD p2 0) = if T.getD p2 0 = cc then some (0, r) else none := hs
            have hl6 : r.length + 1 ≤ 6 := h6
            refine g186_125 (o := r.length + 1) h2.2.2.1.1 (by omega) (fun g => by omega) (fun _ => ?_)
            have ev : (nI (r.length + 1) - nI 1) = nI r.length := by rw [pk_sub (by omega), Nat.add_sub_cancel]
            refine g186_132 (o := r.length + 1) h2.2.2.1.1 (by rw [ev]; exact zvin (by omega) (by decide)) ?_
            rw [ev, nI_clamp (by omega), h2.2.2.1.2.1]
            have hcc := hP1.2.2.2.2 cc List.mem_cons_self
            have hko : kOp cc < 5000 := by unfold kOp; split; decide; split <;> decide
            have fin : ∀ y, y = cc → Ev (d + 4) c s 186 147 [some (zr (some (1, 0, 0))), some (zi (nI 1)), some (zi (nI (T.getD p2 0)))] [zi (nI y), zi (nI (T.getD p2 0))] (OM X 1 0 ρ2 l) Q := by
              intro y hy
              subst hy
              refine g186_147 (by omega) (by omega) (fun g => ?_) (fun g => ?_)
              · rw [if_neg g] at hs
                exact g186_17z (k0 ρ2 p2 _ _ h2 hp2 hN2 (hP1.bad hN2 (Or.inr hlt) (fun _ => hs)))
              · rw [if_pos g] at hs
                refine sp_takes h60 h127 hT h2 hlt hN2 hP1.len (fun ρ3 h3 => g186_164 (o := r.length + 1) h3.2.2.1.1 ?_)
                rw [ev]
                exact nxt _ _ _ _ _ h3.shut (hP1.take hlt (hN2 hlt) hs) (Nat.lt_succ_self _)
            refine g184_0 hko (fun a1 a2 => fin _ ?_) (fun a1 a2 => fin _ ?_) (fun a1 => fin _ ?_)
            · rcases hcc with e | e | e
              · subst e; exact absurd rfl a1
              · subst e; exact absurd rfl a2
              · exact e.symm
            · rcases hcc with e | e | e
              · subst e; exact absurd a2 (by decide)
              · exact e.symm
              · subst e; exact absurd a2 (by decide)
            · rcases hcc with e | e | e
              · exact e.symm
              · subst e; exact absurd a1 (by decide)
              · subst e; exact absurd a1 (by decide)
        · refine sp_isOpened h60 h127 hT h2 hlt hN2 hP1.len h6 (Or.inr (Or.inl e91)) (fun h6' ρ3 h3 => g186_78 ?_) (fun h6' => g186_78 (g186_17z (k0 ρ2 p2 _ _ h2 hp2 hN2 (hP1.bad hN2 (Or.inr hlt) (fun _ => ?_)))))
          · have hP3 := hP1.take (q' := 0) (O' := 93 :: O) hlt (hN2 hlt) (by rw [e91, kS_t, if_pos h6'])
            rw [e91] at hP3 h3
            exact nxt _ _ _ ρ3 _ h3 hP3 (Nat.lt_succ_self _)
          · rw [e91, kS_t, if_neg h6']
        · refine sp_takes h60 h127 hT h2 hlt hN2 hP1.len (fun ρ3 h3 => g186_65 ?_)
          exact nxt _ _ _ ρ3 _ h3 (hP1.take hlt (hN2 hlt) (by rw [e33, kS_b])) (Nat.lt_succ_self _)
  refine key (T.length + 1) 0 _ [] [] _ (by omega) ⟨?_, ⟨?_, fun k hk => absurd hk (Nat.not_lt_zero k)⟩, ⟨zu_s _ _ _ _, trivial⟩, fun q i hq => ?_⟩ (kP0 T)
  · rw [zu_i_ne (by omega), zu_i_ne (by omega), zu_s]
  · rw [zu_i_ne (by omega), zu_s]
    rfl
  · unfold kScr at hq
    rw [zu_i_ne (by omega), zu_i_ne (by omega), zu_i_ne (by omega)]
