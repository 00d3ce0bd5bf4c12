/-! the class: a drawn turn, a drift -/
theorem g78_0 {d c s : Nat} {j : Nat} {X : zM} {ρ : Nat → Nat → Int32} {l : Nat → Nat → Int64} {Q : Option zV → zM → Prop} (hj : j < 15)
    (h1 : Ev d 0 0 81 0 [some (zr (some (2, j, 0)))] [] (OM X 2 j ρ l) (fun r M' => Ev (d + 1) c s 78 4 [some (zr (some (2, j, 0))), none, none, none, none, none] (zpush r []) M' Q)) : Ev (d + 1) c s 78 0 [some (zr (some (2, j, 0))), none, none, none, none, none] [] (OM X 2 j ρ l) Q := by
  refine Ew.ld f78_0 rfl rfl rfl rfl ?_
  refine Ew.call0 (ls0 := [some (zr (some (2, j, 0)))]) f78_1 rfl (Nat.le_of_ble_eq_true rfl) rfl rfl (Nat.le_of_ble_eq_true rfl) (by show (zsj X.2.2.2.1 2 j 0).1 = _; rw [zsj2 _ hj]; rfl) (Nat.le_of_ble_eq_true rfl) rfl rfl ?_
  exact h1
theorem g78_4 {d c s : Nat} {j x : Nat} {X : zM} {ρ : Nat → Nat → Int32} {l : Nat → Nat → Int64} {Q : Option zV → zM → Prop} (hj : j < 15)
    (h1 : Ev d 0 0 63 0 [some (zr (some (2, j, 0)))] [] (OM X 2 j ρ l) (fun r M' => Ev (d + 1) c s 78 9 [some (zr (some (2, j, 0))), some (zi (nI x)), none, none, none, none] (zpush r []) M' Q)) : Ev (d + 1) c s 78 4 [some (zr (some (2, j, 0))), none, none, none, none, none] [zi (nI x)] (OM X 2 j ρ l) Q := by
  refine Ew.sr (ls' := [some (zr (some (2, j, 0))), some (zi (nI x)), none, none, none, none]) f78_4 rfl rfl (Nat.le_of_ble_eq_true rfl) rfl rfl ?_
  refine Ew.ld f78_5 rfl rfl rfl rfl ?_
  refine Ew.call0 (ls0 := [some (zr (some (2, j, 0)))]) f78_6 rfl (Nat.le_of_ble_eq_true rfl) rfl rfl (Nat.le_of_ble_eq_true rfl) (by show (zsj X.2.2.2.1 2 j 0).1 = _; rw [zsj2 _ hj]; rfl) (Nat.le_of_ble_eq_true rfl) rfl rfl ?_
  exact h1
theorem g78_9 {d c s : Nat} {j x y : Nat} {X : zM} {ρ : Nat → Nat → Int32} {l : Nat → Nat → Int64} {Q : Option zV → zM → Prop} (hj : j < 15)
    (b1 : ∃ v, v < 64 ∧ (nI y) = nI v)
    (h1 : Ev (d + 1) c s 78 15 [some (zr (some (2, j, 0))), some (zi (nI x)), some (zi (nI y)), some (zi (rSz (nI y))), none, none] [] (OM X 2 j ρ l) Q) : Ev (d + 1) c s 78 9 [some (zr (some (2, j, 0))), some (zi (nI x)), none, none, none, none] [zi (nI y)] (OM X 2 j ρ l) Q := by
  refine Ew.sr (ls' := [some (zr (some (2, j, 0))), some (zi (nI x)), some (zi (nI y)), none, none, none]) f78_9 rfl rfl (Nat.le_of_ble_eq_true rfl) rfl rfl ?_
  refine Ew.ld f78_10 rfl rfl rfl rfl ?_
  refine Ew.call0 (ls0 := [some (zi (nI y))]) f78_11 rfl (Nat.le_of_ble_eq_true rfl) rfl rfl (Nat.le_of_ble_eq_true rfl) trivial (Nat.le_of_ble_eq_true rfl) rfl rfl ?_
  refine sp_bc b1 ?_
  show Ev (d + 1) c s 78 14 [some (zr (some (2, j, 0))), some (zi (nI x)), some (zi (nI y)), none, none, none] [zi (rSz (nI y))] (OM X 2 j ρ l) Q
  refine Ew.sr (ls' := [some (zr (some (2, j, 0))), some (zi (nI x)), some (zi (nI y)), some (zi (rSz (nI y))), none, none]) f78_14 rfl rfl (Nat.le_of_ble_eq_true rfl) rfl rfl ?_
  exact h1
theorem g78_15 {d c s : Nat} {j x y m : Nat} {X : zM} {ρ : Nat → Nat → Int32} {l : Nat → Nat → Int64} {Q : Option zV → zM → Prop} (hj : j < 15) (nb_m : m < 5000)
    (b1 : (¬ m = 0) → ¬ (nI m) = 0)
    (h1 : (¬ m = 0) → Ev d c s 78 28 [some (zr (some (2, j, 0))), some (zi (nI x)), some (zi (nI y)), some (zi (nI m)), some (zi ((nI x) - (nI x) / (nI m) * (nI m))), some (zi (nI 0))] [] (OM X 2 j ρ l) Q)
    (h2 : (m = 0) → Q none (OM X 2 j ρ l)) : Ev d c s 78 15 [some (zr (some (2, j, 0))), some (zi (nI x)), some (zi (nI y)), some (zi (nI m)), none, none] [] (OM X 2 j ρ l) Q := by
  refine Ew.ld f78_15 rfl rfl rfl rfl ?_
  refine Ew.ifc f78_16 rfl rfl (fun c1 => ?_) (fun c1 => ?_)
  · refine Ew.ld f78_20 rfl rfl rfl rfl ?_
    refine Ew.ld f78_21 rfl rfl rfl rfl ?_
    refine Ew.irem f78_22 (b1 (fun e => c1 ((zeq nb_m (by decide)).mpr e))) rfl ?_
    refine Ew.sr (ls' := [some (zr (some (2, j, 0))), some (zi (nI x)), some (zi (nI y)), some (zi (nI m)), some (zi ((nI x) - (nI x) / (nI m) * (nI m))), none]) f78_23 rfl rfl (Nat.le_of_ble_eq_true rfl) rfl rfl ?_
    refine Ew.op (st' := zi (nI 0) :: _) f78_25 rfl rfl ?_
    refine Ew.sr (ls' := [some (zr (some (2, j, 0))), some (zi (nI x)), some (zi (nI y)), some (zi (nI m)), some (zi ((nI x) - (nI x) / (nI m) * (nI m))), some (zi (nI 0))]) f78_26 rfl rfl (Nat.le_of_ble_eq_true rfl) rfl rfl ?_
    exact h1 (fun e => c1 ((zeq nb_m (by decide)).mpr e))
  · refine Ew.vret f78_19 ?_
    exact h2 ((zeq nb_m (by decide)).mp (Classical.not_not.mp c1))
theorem g78_28 {d c s : Nat} {j x y m z t : Nat} {X : zM} {ρ : Nat → Nat → Int32} {l : Nat → Nat → Int64} {Q : Option zV → zM → Prop} (hj : j < 15) (nb_t : t < 5000) (nb_z : z < 5000)
    (h1 : (4 ≤ t) → Q none (OM X 2 j ρ l))
    (h2 : (t < 4) → (cHas (nI y) (nI t)) → (¬ z = 0) → Ev (d + 1) c s 78 28 [some (zr (some (2, j, 0))), some (zi (nI x)), some (zi (nI y)), some (zi (nI m)), some (zi ((nI z) + (-1))), some (zi (nI (t + 1)))] [] (OM X 2 j ρ l) Q)
    (h3 : (t < 4) → (cHas (nI y) (nI t)) → (z = 0) → Ev d 0 0 80 0 [some (zr (some (2, j, 0))), some (zi (nI t)), none] [] (OM X 2 j ρ l) (fun r M' => Ev (d + 1) c s 78 54 [some (zr (some (2, j, 0))), some (zi (nI x)), some (zi (nI y)), some (zi (nI m)), some (zi (nI z)), some (zi (nI t))] (zpush r []) M' Q))
    (h4 : (t < 4) → (¬ (cHas (nI y) (nI t))) → Ev (d + 1) c s 78 28 [some (zr (some (2, j, 0))), some (zi (nI x)), some (zi (nI y)), some (zi (nI m)), some (zi (nI z)), some (zi (nI (t + 1)))] [] (OM X 2 j ρ l) Q) : Ev (d + 1) c s 78 28 [some (zr (some (2, j, 0))), some (zi (nI x)), some (zi (nI y)), some (zi (nI m)), some (zi (nI z)), some (zi (nI t))] [] (OM X 2 j ρ l) Q := by
  refine Ew.ld f78_28 rfl rfl rfl rfl ?_
  refine Ew.op (st' := zi (nI 4) :: _) f78_30 rfl rfl ?_
  refine Ew.icmp f78_31 rfl rfl (fun c1 => ?_) (fun c1 => ?_)
  · refine Ew.vret f78_65 ?_
    exact h1 ((zle_iff (by decide) nb_t).mp c1)
  · refine Ew.ld f78_34 rfl rfl rfl rfl ?_
    refine Ew.ld f78_35 rfl rfl rfl rfl ?_
    refine Ew.call0 (ls0 := [some (zi (nI y)), some (zi (nI t))]) f78_37 rfl (Nat.le_of_ble_eq_true rfl) rfl rfl (Nat.le_of_ble_eq_true rfl) trivial (Nat.le_of_ble_eq_true rfl) rfl rfl ?_
    refine sp_cHas (fun c2 => ?_) (fun c2 => ?_)
    · refine Ew.ifc f78_40 rfl rfl (fun h => absurd h (show ¬ (((nI 1) : Int32) = 0) by decide)) (fun _ => ?_)
      refine Ew.ld f78_43 rfl rfl rfl rfl ?_
      refine Ew.ifc f78_45 rfl rfl (fun c3 => ?_) (fun c3 => ?_)
      · refine Ew.iinc (v := (nI z) + (-1)) (ls' := [some (zr (some (2, j, 0))), some (zi (nI x)), some (zi (nI y)), some (zi (nI m)), some (zi ((nI z) + (-1))), some (zi (nI t))]) f78_56 rfl rfl rfl rfl ?_
        refine Ew.iinc (v := nI (t + 1)) (ls' := [some (zr (some (2, j, 0))), some (zi (nI x)), some (zi (nI y)), some (zi (nI m)), some (zi ((nI z) + (-1))), some (zi (nI (t + 1)))]) f78_59 rfl (nI_1 _) rfl rfl ?_
        refine Ew.goto f78_62 rfl ?_
        exact h2 (Nat.not_le.mp fun e => c1 ((zle_iff (by decide) nb_t).mpr e)) c2 (fun e => c3 ((zeq nb_z (by decide)).mpr e))
      · refine Ew.ld f78_48 rfl rfl rfl rfl ?_
        refine Ew.ld f78_49 rfl rfl rfl rfl ?_
        refine Ew.call0 (ls0 := [some (zr (some (2, j, 0))), some (zi (nI t)), none]) f78_51 rfl (Nat.le_of_ble_eq_true rfl) rfl rfl (Nat.le_of_ble_eq_true rfl) (by show (zsj X.2.2.2.1 2 j 0).1 = _; rw [zsj2 _ hj]; rfl) (Nat.le_of_ble_eq_true rfl) rfl rfl ?_
        exact h3 (Nat.not_le.mp fun e => c1 ((zle_iff (by decide) nb_t).mpr e)) c2 ((zeq nb_z (by decide)).mp (Classical.not_not.mp c3))
    · refine Ew.ifc f78_40 rfl rfl (fun _ => ?_) (fun h => absurd (show ((nI 0) : Int32) = 0 by decide) h)
      refine Ew.iinc (v := nI (t + 1)) (ls' := [some (zr (some (2, j, 0))), some (zi (nI x)), some (zi (nI y)), some (zi (nI m)), some (zi (nI z)), some (zi (nI (t + 1)))]) f78_59 rfl (nI_1 _) rfl rfl ?_
      refine Ew.goto f78_62 rfl ?_
      exact h4 (Nat.not_le.mp fun e => c1 ((zle_iff (by decide) nb_t).mpr e)) c2
theorem g78_54 {d c s : Nat} {j x y m z t : Nat} {r : Int32} {X : zM} {ρ : Nat → Nat → Int32} {l : Nat → Nat → Int64} {Q : Option zV → zM → Prop} (hj : j < 15)
    (h1 : Q none (OM X 2 j ρ l)) : Ev d c s 78 54 [some (zr (some (2, j, 0))), some (zi (nI x)), some (zi (nI y)), some (zi (nI m)), some (zi (nI z)), some (zi (nI t))] [zi r] (OM X 2 j ρ l) Q := by
  refine Ew.op f78_54 rfl rfl ?_
  refine Ew.vret f78_55 ?_
  exact h1
theorem g79_0 {d c s : Nat} {j : Nat} {X : zM} {ρ : Nat → Nat → Int32} {l : Nat → Nat → Int64} {Q : Option zV → zM → Prop} (hj : j < 15)
    (h1 : Ev d 0 0 81 0 [some (zr (some (2, j, 0)))] [] (OM X 2 j ρ l) (fun r M' => Ev (d + 1) c s 79 4 [some (zr (some (2, j, 0))), none, none, none] (zpush r []) M' Q)) : Ev (d + 1) c s 79 0 [some (zr (some (2, j, 0))), none, none, none] [] (OM X 2 j ρ l) Q := by
  refine Ew.ld f79_0 rfl rfl rfl rfl ?_
  refine Ew.call0 (ls0 := [some (zr (some (2, j, 0)))]) f79_1 rfl (Nat.le_of_ble_eq_true rfl) rfl rfl (Nat.le_of_ble_eq_true rfl) (by show (zsj X.2.2.2.1 2 j 0).1 = _; rw [zsj2 _ hj]; rfl) (Nat.le_of_ble_eq_true rfl) rfl rfl ?_
  exact h1
theorem g79_4 {d c s : Nat} {j x : Nat} {X : zM} {ρ : Nat → Nat → Int32} {l : Nat → Nat → Int64} {Q : Option zV → zM → Prop} (hj : j < 15)
    (h1 : Ev d c s 79 15 [some (zr (some (2, j, 0))), some (zi (nI x)), some (zi ((nI x) - (nI x) / (nI 8) * (nI 8))), some (zi ((nI x) / (nI 8)))] [] (OM X 2 j ρ l) Q) : Ev d c s 79 4 [some (zr (some (2, j, 0))), none, none, none] [zi (nI x)] (OM X 2 j ρ l) Q := by
  refine Ew.sr (ls' := [some (zr (some (2, j, 0))), some (zi (nI x)), none, none]) f79_4 rfl rfl (Nat.le_of_ble_eq_true rfl) rfl rfl ?_
  refine Ew.ld f79_5 rfl rfl rfl rfl ?_
  refine Ew.op (st' := zi (nI 8) :: _) f79_6 rfl rfl ?_
  refine Ew.irem f79_8 (by decide) rfl ?_
  refine Ew.sr (ls' := [some (zr (some (2, j, 0))), some (zi (nI x)), some (zi ((nI x) - (nI x) / (nI 8) * (nI 8))), none]) f79_9 rfl rfl (Nat.le_of_ble_eq_true rfl) rfl rfl ?_
  refine Ew.ld f79_10 rfl rfl rfl rfl ?_
  refine Ew.op (st' := zi (nI 8) :: _) f79_11 rfl rfl ?_
  refine Ew.idiv f79_13 (by decide) rfl ?_
  refine Ew.sr (ls' := [some (zr (some (2, j, 0))), some (zi (nI x)), some (zi ((nI x) - (nI x) / (nI 8) * (nI 8))), some (zi ((nI x) / (nI 8)))]) f79_14 rfl rfl (Nat.le_of_ble_eq_true rfl) rfl rfl ?_
  exact h1
theorem g79_15 {d c s : Nat} {j x y z : Nat} {X : zM} {ρ : Nat → Nat → Int32} {l : Nat → Nat → Int64} {Q : Option zV → zM → Prop} (hj : j < 15) (nb_y : y < 5000)
    (h1 : (¬ y = 6) → (¬ y = 7) → Ev d 0 0 58 0 [some (zr (some (2, j, 0))), some (zi ((nI z) - (nI z) / (nI 4) * (nI 4)))] [] (OM X 2 j ρ l) (fun r M' => Ev (d + 1) c s 79 59 [some (zr (some (2, j, 0))), some (zi (nI x)), some (zi (nI y)), some (zi (nI z))] (zpush r []) M' Q))
    (h2 : (¬ y = 6) → (y = 7) → Q none (OM X 2 j (zu ρ 0 3 ((nI z) - (nI z) / (nI 5) * (nI 5))) l))
    (h3 : (y = 6) → Ev d 0 0 61 0 [some (zr (some (2, j, 0)))] [] (OM X 2 j ρ l) (fun r M' => Ev (d + 1) c s 79 25 [some (zr (some (2, j, 0))), some (zi (nI x)), some (zi (nI y)), some (zi (nI z))] (zpush r []) M' Q)) : Ev (d + 1) c s 79 15 [some (zr (some (2, j, 0))), some (zi (nI x)), some (zi (nI y)), some (zi (nI z))] [] (OM X 2 j ρ l) Q := by
  refine Ew.ld f79_15 rfl rfl rfl rfl ?_
  refine Ew.op (st' := zi (nI 6) :: _) f79_16 rfl rfl ?_
  refine Ew.icmp f79_18 rfl rfl (fun c1 => ?_) (fun c1 => ?_)
  · refine Ew.ld f79_36 rfl rfl rfl rfl ?_
    refine Ew.op (st' := zi (nI 7) :: _) f79_37 rfl rfl ?_
    refine Ew.icmp f79_39 rfl rfl (fun c2 => ?_) (fun c2 => ?_)
    · refine Ew.ld f79_52 rfl rfl rfl rfl ?_
      refine Ew.ld f79_53 rfl rfl rfl rfl ?_
      refine Ew.op (st' := zi (nI 4) :: _) f79_54 rfl rfl ?_
      refine Ew.irem f79_55 (by decide) rfl ?_
      refine Ew.call0 (ls0 := [some (zr (some (2, j, 0))), some (zi ((nI z) - (nI z) / (nI 4) * (nI 4)))]) f79_56 rfl (Nat.le_of_ble_eq_true rfl) rfl rfl (Nat.le_of_ble_eq_true rfl) (by show (zsj X.2.2.2.1 2 j 0).1 = _; rw [zsj2 _ hj]; rfl) (Nat.le_of_ble_eq_true rfl) rfl rfl ?_
      exact h1 (fun e => c1 ((zeq nb_y (by decide)).mpr e)) (fun e => c2 ((zeq nb_y (by decide)).mpr e))
    · refine Ew.ld f79_42 rfl rfl rfl rfl ?_
      refine Ew.ld f79_43 rfl rfl rfl rfl ?_
      refine Ew.op (st' := zi (nI 5) :: _) f79_44 rfl rfl ?_
      refine Ew.irem f79_45 (by decide) rfl ?_
      refine Ew.putiO f79_46 (by rw [zsj2 _ hj]; rfl) rfl ?_
      refine Ew.goto f79_49 rfl ?_
      refine Ew.vret f79_70 ?_
      exact h2 (fun e => c1 ((zeq nb_y (by decide)).mpr e)) ((zeq nb_y (by decide)).mp (Classical.not_not.mp c2))
  · refine Ew.ld f79_21 rfl rfl rfl rfl ?_
    refine Ew.call0 (ls0 := [some (zr (some (2, j, 0)))]) f79_22 rfl (Nat.le_of_ble_eq_true rfl) rfl rfl (Nat.le_of_ble_eq_true rfl) (by show (zsj X.2.2.2.1 2 j 0).1 = _; rw [zsj2 _ hj]; rfl) (Nat.le_of_ble_eq_true rfl) rfl rfl ?_
    exact h3 ((zeq nb_y (by decide)).mp (Classical.not_not.mp c1))
theorem g79_25 {d c s : Nat} {j x y z : Nat} {X : zM} {ρ : Nat → Nat → Int32} {l : Nat → Nat → Int64} {Q : Option zV → zM → Prop} (hj : j < 15)
    (h1 : Ev d 0 0 77 0 [some (zr (some (2, j, 0))), none, none] [] (OM X 2 j ρ l) (fun r M' => Ev (d + 1) c s 79 32 [some (zr (some (2, j, 0))), some (zi (nI x)), some (zi (nI y)), some (zi (nI z))] (zpush r []) M' Q)) : Ev (d + 1) c s 79 25 [some (zr (some (2, j, 0))), some (zi (nI x)), some (zi (nI y)), some (zi (nI z))] [zi (nI 0)] (OM X 2 j ρ l) Q := by
  refine Ew.ifc f79_25 rfl rfl (fun h => absurd h (show ¬ (¬ ((nI 0) : Int32) = 0) by decide)) (fun _ => ?_)
  refine Ew.ld f79_28 rfl rfl rfl rfl ?_
  refine Ew.call0 (ls0 := [some (zr (some (2, j, 0))), none, none]) f79_29 rfl (Nat.le_of_ble_eq_true rfl) rfl rfl (Nat.le_of_ble_eq_true rfl) (by show (zsj X.2.2.2.1 2 j 0).1 = _; rw [zsj2 _ hj]; rfl) (Nat.le_of_ble_eq_true rfl) rfl rfl ?_
  exact h1
theorem g79_25b {d c s : Nat} {j x y z : Nat} {X : zM} {ρ : Nat → Nat → Int32} {l : Nat → Nat → Int64} {Q : Option zV → zM → Prop} (hj : j < 15)
    (h1 : Q none (OM X 2 j ρ l)) : Ev d c s 79 25 [some (zr (some (2, j, 0))), some (zi (nI x)), some (zi (nI y)), some (zi (nI z))] [zi (nI 1)] (OM X 2 j ρ l) Q := by
  refine Ew.ifc f79_25 rfl rfl (fun _ => ?_) (fun h => absurd (show ¬ ((nI 1) : Int32) = 0 by decide) h)
  refine Ew.vret f79_70 ?_
  exact h1
theorem g79_32 {d c s : Nat} {j x y z : Nat} {r : Int32} {X : zM} {ρ : Nat → Nat → Int32} {l : Nat → Nat → Int64} {Q : Option zV → zM → Prop} (hj : j < 15)
    (h1 : Q none (OM X 2 j ρ l)) : Ev d c s 79 32 [some (zr (some (2, j, 0))), some (zi (nI x)), some (zi (nI y)), some (zi (nI z))] [zi r] (OM X 2 j ρ l) Q := by
  refine Ew.op f79_32 rfl rfl ?_
  refine Ew.goto f79_33 rfl ?_
  refine Ew.vret f79_70 ?_
  exact h1
theorem g79_59 {d c s : Nat} {j x y z : Nat} {X : zM} {ρ : Nat → Nat → Int32} {l : Nat → Nat → Int64} {Q : Option zV → zM → Prop} (hj : j < 15)
    (h1 : Ev d 0 0 80 0 [some (zr (some (2, j, 0))), some (zi ((nI z) - (nI z) / (nI 4) * (nI 4))), none] [] (OM X 2 j ρ l) (fun r M' => Ev (d + 1) c s 79 69 [some (zr (some (2, j, 0))), some (zi (nI x)), some (zi (nI y)), some (zi (nI z))] (zpush r []) M' Q)) : Ev (d + 1) c s 79 59 [some (zr (some (2, j, 0))), some (zi (nI x)), some (zi (nI y)), some (zi (nI z))] [zi (nI 0)] (OM X 2 j ρ l) Q := by
  refine Ew.ifc f79_59 rfl rfl (fun h => absurd h (show ¬ (¬ ((nI 0) : Int32) = 0) by decide)) (fun _ => ?_)
  refine Ew.ld f79_62 rfl rfl rfl rfl ?_
  refine Ew.ld f79_63 rfl rfl rfl rfl ?_
  refine Ew.op (st' := zi (nI 4) :: _) f79_64 rfl rfl ?_
  refine Ew.irem f79_65 (by decide) rfl ?_
  refine Ew.call0 (ls0 := [some (zr (some (2, j, 0))), some (zi ((nI z) - (nI z) / (nI 4) * (nI 4))), none]) f79_66 rfl (Nat.le_of_ble_eq_true rfl) rfl rfl (Nat.le_of_ble_eq_true rfl) (by show (zsj X.2.2.2.1 2 j 0).1 = _; rw [zsj2 _ hj]; rfl) (Nat.le_of_ble_eq_true rfl) rfl rfl ?_
  exact h1
theorem g79_59b {d c s : Nat} {j x y z : Nat} {X : zM} {ρ : Nat → Nat → Int32} {l : Nat → Nat → Int64} {Q : Option zV → zM → Prop} (hj : j < 15)
    (h1 : Q none (OM X 2 j ρ l)) : Ev d c s 79 59 [some (zr (some (2, j, 0))), some (zi (nI x)), some (zi (nI y)), some (zi (nI z))] [zi (nI 1)] (OM X 2 j ρ l) Q := by
  refine Ew.ifc f79_59 rfl rfl (fun _ => ?_) (fun h => absurd (show ¬ ((nI 1) : Int32) = 0 by decide) h)
  refine Ew.vret f79_70 ?_
  exact h1
theorem g79_69 {d c s : Nat} {j x y z : Nat} {r : Int32} {X : zM} {ρ : Nat → Nat → Int32} {l : Nat → Nat → Int64} {Q : Option zV → zM → Prop} (hj : j < 15)
    (h1 : Q none (OM X 2 j ρ l)) : Ev d c s 79 69 [some (zr (some (2, j, 0))), some (zi (nI x)), some (zi (nI y)), some (zi (nI z))] [zi r] (OM X 2 j ρ l) Q := by
  refine Ew.op f79_69 rfl rfl ?_
  refine Ew.vret f79_70 ?_
  exact h1
theorem zdec {y : Nat} (h : 1 ≤ y) : nI y + -1 = nI (y - 1) := by
  rw [← pk_sub h, Int32.sub_eq_add_neg]
  exact congrArg (nI y + ·) (show (-1 : Int32) = -(nI 1) by decide)
theorem cAg.drw {w : Nat → Int32} (h : cAg w) : cAg (rDrwW w) := ⟨by rw [rDrwW_at _ (by omega)]; exact h.1, fun t ht => by rw [rDrwW_at _ (by omega)]; exact h.2 t ht⟩
theorem aLf_drw (w : Nat → Int32) : aLf (rDrwW w) = aLf w := by
  unfold aLf
  simp only [rLeftL, show ∀ i, zw zO (rDrwW w) 1 i = rDrwW w i from fun _ => rfl, show ∀ i, zw zO w 1 i = w i from fun _ => rfl]
  rw [rDrwW_at _ (by omega), rDrwW_at _ (by omega), rDrwW_at _ (by omega), rDrwW_at _ (by omega)]
section
variable {d c s j bb : Nat} {τ ρ : Nat → Nat → Int32} {w : Nat → Int32} {X : zM} {l : Nat → Nat → Int64} {Q : Option zV → zM → Prop}
theorem sp_cDrawn (hj : j < 15) (hP : cPs X j bb τ) (h : cTI τ ρ w) (hu : cUq τ w) (hR : rRw τ w) (ha : cAg w) (hl : ¬ aLf w = 0) (k : ∀ ρ', cTI τ ρ' (aGo1 τ w) → cUq τ (aGo1 τ w) → Q none (OM X 2 j ρ' l)) : Ev (d + 5) c s 78 0 [some (zr (some (2, j, 0))), none, none, none, none, none] [] (OM X 2 j ρ l) Q := by
  obtain ⟨h4, _⟩ := aGoT_ok hl
  unfold aGo1 at k
  have hx := rX_lt w
  refine g78_0 hj (sp_cDraw hj h hu (fun ρ1 h1 u1 => ?_))
  refine g78_4 hj ?_
  refine sp_cLeft hj h1 (cSt_of hR.drw) ?_
  rw [aLf_drw]
  obtain ⟨_, hlt, _⟩ := aLf_ok zO w
  have hs := rSz_ok _ hlt
  refine g78_9 hj ⟨aLf w, by omega, rfl⟩ ?_
  have hs2 := hs.2 hl
  refine g78_15 (m := rSzL 7 (nI (aLf w))) hj (by omega) (fun _ => nI_ne0 hs2 (by omega)) (fun _ => ?_) (fun q => by omega)
  have ex : nI (rX w) - nI (rX w) / nI (rSzL 7 (nI (aLf w))) * nI (rSzL 7 (nI (aLf w))) = nI (rX w % rSzL 7 (nI (aLf w))) := pk_rem (by omega) hs2 (by omega)
  rw [ex]
  have key : ∀ m, m ≤ 4 → ∀ y, y < 5000 → rNthL (aLf w) m y (4 - m) < 4 → rNthL (aLf w) m y (4 - m) = aGoT w → Ev (d + 5) c s 78 28 [some (zr (some (2, j, 0))), some (zi (nI (rX w))), some (zi (nI (aLf w))), some (zi (nI (rSzL 7 (nI (aLf w))))), some (zi (nI y)), some (zi (nI (4 - m)))] [] (OM X 2 j ρ1 l) Q := by
    intro m
    induction m with
    | zero => intro _ y _ h _; exact absurd h (Nat.lt_irrefl 4)
    | succ m ih =>
      intro hm y hy hlt4 he
      have hb := cHas_bit (v := aLf w) (k := 4 - (m + 1)) (by omega) (by omega)
      unfold rNthL at hlt4 he
      rw [show 4 - (m + 1) + 1 = 4 - m by omega] at hlt4 he
      by_cases ht : (aLf w).testBit (4 - (m + 1)) = true
      · rw [if_pos ht] at hlt4 he
        by_cases h0 : y = 0
        · subst h0
          rw [if_pos rfl] at hlt4 he
          refine g78_28 hj (by omega) (by omega) (fun q => by omega) (fun _ _ q => absurd rfl q) (fun _ _ _ => ?_) (fun _ q => absurd (hb.mpr ht) q)
          rw [he]
          refine sp_cTurn hj h4 hP h1 u1 hR.drw ha.drw (fun ρ' a b => ?_)
          exact g78_54 hj (k ρ' a b)
        · rw [if_neg h0] at hlt4 he
          refine g78_28 hj (by omega) (by omega) (fun q => by omega) (fun _ _ _ => ?_) (fun _ _ q => absurd q h0) (fun _ q => absurd (hb.mpr ht) q)
          rw [zdec (by omega), show 4 - (m + 1) + 1 = 4 - m by omega]
          exact ih (by omega) (y - 1) (by omega) hlt4 he
      · rw [if_neg ht] at hlt4 he
        refine g78_28 hj (by omega) (by omega) (fun q => by omega) (fun _ q => absurd (hb.mp q) ht) (fun _ q => absurd (hb.mp q) ht) (fun _ _ => ?_)
        rw [show 4 - (m + 1) + 1 = 4 - m by omega]
        exact ih (by omega) y hy hlt4 he
  exact key 4 (Nat.le_refl 4) _ (by have := Nat.mod_lt (rX w) hs2; omega) h4 rfl
theorem sp_cDrift (hj : j < 15) (hP : cPs X j bb τ) (h : cTI τ ρ w) (hu : cUq τ w) (hR : rRw τ w) (hS : cSd τ w) (ha : cAg w) (k : ∀ ρ', cTI τ ρ' (aDr1 τ w) → cUq τ (aDr1 τ w) → Q none (OM X 2 j ρ' l)) : Ev (d + 5) c s 79 0 [some (zr (some (2, j, 0))), none, none, none] [] (OM X 2 j ρ l) Q := by
  have hx := rX_lt w
  unfold aDr1 at k
  have ht : rX w / 8 % 4 < 4 := Nat.mod_lt _ (by decide)
  have hS' : cSd τ (rDrwW w) := by
    intro t ht
    rw [rDrwW_at _ (by omega), rDrwW_at _ (by omega), rD_s (w := w) (rDrwW_at _ (by omega))]
    exact hS t ht
  refine g79_0 hj (sp_cDraw hj h hu (fun ρ1 h1 u1 => ?_))
  refine g79_4 hj ?_
  rw [pk_rem (by omega) (by decide) (by decide), pk_div (by omega) (by decide) (by decide)]
  have e4 : nI (rX w / 8) - nI (rX w / 8) / nI 4 * nI 4 = nI (rX w / 8 % 4) := pk_rem (by omega) (by decide) (by decide)
  have e5 : nI (rX w / 8) - nI (rX w / 8) / nI 5 * nI 5 = nI (rX w / 8 % 5) := pk_rem (by omega) (by decide) (by decide)
  refine g79_15 (y := rX w % 8) hj (by omega) (fun q6 q7 => ?_) (fun q6 q7 => ?_) (fun q6 => ?_)
  · rw [if_neg q6, if_neg q7] at k
    rw [e4]
    refine sp_cOver hj ht h1 (cSt_of hR.drw) (fun q => ?_) (fun q => ?_)
    · rw [if_pos q] at k
      exact g79_59b hj (k _ h1 u1)
    · rw [if_neg q] at k
      refine g79_59 hj ?_
      rw [e4]
      refine sp_cTurn hj ht hP h1 u1 hR.drw ha.drw (fun ρ' a b => ?_)
      exact g79_69 hj (k ρ' a b)
  · rw [if_neg q6, if_pos q7] at k
    rw [e5]
    obtain ⟨f0, f1, f2, f3⟩ := h1.1
    have r := cTI_fld (ρ' := zu ρ1 0 3 (nI (rX w / 8 % 5))) (w' := zup (rDrwW w) 1 (nI (rX w / 8 % 5))) h1 u1 ⟨?_, ?_, ?_, ?_⟩ (fun q i hq => zu_i_ne (by omega)) (fun i hi => by rw [zup_n _ _ (by omega)])
    · exact k _ r.1 r.2
    · rw [zu_i_ne (by omega), zup_n _ _ (by omega)]; exact f0
    · rw [zu_e, zup_s]
    · rw [zu_i_ne (by omega), zup_n _ _ (by omega)]; exact f2
    · rw [zu_i_ne (by omega), zup_n _ _ (by omega)]; exact f3
  · rw [if_pos q6] at k
    unfold rLaysW at k
    refine sp_cUnt hj h1 (cSt_of hR.drw) (fun q => ?_) (fun q => ?_)
    · rw [if_pos q] at k
      exact g79_25b hj (k _ h1 u1)
    · rw [if_neg q] at k
      refine g79_25 hj ?_
      refine sp_cLay hj hP h1 u1 hR.drw hS' (fun ρ' a b => ?_)
      exact g79_32 hj (k ρ' a b)
end
