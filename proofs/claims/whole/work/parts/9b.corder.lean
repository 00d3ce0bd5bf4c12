/-! the class: which gates are ahead of which -/
theorem g246_0b {d c s : Nat} {v : Int32} {X : zM} {ρ : Nat → Nat → Int32} {l : Nat → Nat → Int64} {Q : Option zV → zM → Prop}
    (h1 : Ev d c s 246 5 [some (zr (some (0, 0, 13))), some (zi v), some (zi (nI 0)), some (zi (nI 6))] [] (OM X 0 0 ρ l) Q) : Ev d c s 246 0 [some (zr (some (0, 0, 13))), some (zi v), none, none] [] (OM X 0 0 ρ l) Q := by
  refine Ew.op (st' := zi (nI 0) :: _) f246_0 rfl rfl ?_
  refine Ew.sr (ls' := [some (zr (some (0, 0, 13))), some (zi v), some (zi (nI 0)), none]) f246_1 rfl rfl (Nat.le_of_ble_eq_true rfl) rfl rfl ?_
  refine Ew.ld f246_2 rfl rfl rfl rfl ?_
  refine Ew.alen (n := 6) f246_3 (Nat.le_of_ble_eq_true rfl) rfl rfl ?_
  refine Ew.sr (ls' := [some (zr (some (0, 0, 13))), some (zi v), some (zi (nI 0)), some (zi (nI 6))]) f246_4 rfl rfl (Nat.le_of_ble_eq_true rfl) rfl rfl ?_
  exact h1
theorem g246_5b {d c s : Nat} {v : Int32} {k : Nat} {X : zM} {ρ : Nat → Nat → Int32} {l : Nat → Nat → Int64} {Q : Option zV → zM → Prop} (nb_k : k < 5000)
    (h1 : (6 ≤ k) → Q none (OM X 0 0 ρ l))
    (b1 : (k < 6) → k < 6)
    (h2 : (k < 6) → Ev d c s 246 5 [some (zr (some (0, 0, 13))), some (zi v), some (zi (nI (k + 1))), some (zi (nI 6))] [] (OM X 0 0 (zu ρ 13 k v) l) Q) : Ev d c s 246 5 [some (zr (some (0, 0, 13))), some (zi v), some (zi (nI k)), some (zi (nI 6))] [] (OM X 0 0 ρ l) Q := by
  refine Ew.ld f246_5 rfl rfl rfl rfl ?_
  refine Ew.ld f246_6 rfl rfl rfl rfl ?_
  refine Ew.icmp f246_7 rfl rfl (fun c1 => ?_) (fun c1 => ?_)
  · refine Ew.vret f246_20 ?_
    exact h1 ((zle_iff (by decide) nb_k).mp c1)
  · refine Ew.ld f246_10 rfl rfl rfl rfl ?_
    refine Ew.ld f246_11 rfl rfl rfl rfl ?_
    refine Ew.ld f246_12 rfl rfl rfl rfl ?_
    refine Ew.iastnO f246_13 (by decide) rfl (b1 (Nat.not_le.mp fun e => c1 ((zle_iff (by decide) nb_k).mpr e))) (Nat.le_of_ble_eq_true rfl) rfl ?_
    refine Ew.iinc (v := nI (k + 1)) (ls' := [some (zr (some (0, 0, 13))), some (zi v), some (zi (nI (k + 1))), some (zi (nI 6))]) f246_14 rfl (nI_1 _) rfl rfl ?_
    refine Ew.goto f246_17 rfl ?_
    exact h2 (Nat.not_le.mp fun e => c1 ((zle_iff (by decide) nb_k).mpr e))
theorem g10_0 {d c s : Nat} {n bb : Nat} {T : tT} {X : zM} {ρ : Nat → Nat → Int32} {l : Nat → Nat → Int64} {Q : Option zV → zM → Prop} (hc : cTr X.1 X.2.2.1 X.2.2.2.1 bb n T) 
    (h1 : Ev d c s 10 2 [some (zr (some (0, 0, 12))), some (zr (some (3, n, 0))), some (zi (nI 0)), none, none, none] [] (OM X 0 0 ρ l) Q) : Ev d c s 10 0 [some (zr (some (0, 0, 12))), some (zr (some (3, n, 0))), none, none, none, none] [] (OM X 0 0 ρ l) Q := by
  refine Ew.op (st' := zi (nI 0) :: _) f10_0 rfl rfl ?_
  refine Ew.sr (ls' := [some (zr (some (0, 0, 12))), some (zr (some (3, n, 0))), some (zi (nI 0)), none, none, none]) f10_1 rfl rfl (Nat.le_of_ble_eq_true rfl) rfl rfl ?_
  exact h1
theorem g10_2 {d c s : Nat} {n bb k : Nat} {o3 o4 o5 : Option zV} {T : tT} {X : zM} {ρ : Nat → Nat → Int32} {l : Nat → Nat → Int64} {Q : Option zV → zM → Prop} (hc : cTr X.1 X.2.2.1 X.2.2.2.1 bb n T) 
    (b1 : cTr X.1 X.2.2.1 X.2.2.2.1 bb n T)
    (h1 : ((nI T.n) ≤ (nI k)) → Q none (OM X 0 0 ρ l))
    (b2 : ((nI k) < (nI T.n)) → cTr X.1 X.2.2.1 X.2.2.2.1 bb n T)
    (b3 : ((nI k) < (nI T.n)) → k < 5000)
    (b4 : ((nI k) < (nI T.n)) → cTr X.1 X.2.2.1 X.2.2.2.1 bb n T)
    (b5 : ((nI k) < (nI T.n)) → k < 5000)
    (h2 : ((nI k) < (nI T.n)) → ((tEn T k) = ((-4))) → Ev (d + 3) c s 10 2 [some (zr (some (0, 0, 12))), some (zr (some (3, n, 0))), some (zi (nI (k + 1))), some (zi (tEn T k)), some (zi (tIs T k)), o5] [] (OM X 0 0 ρ l) Q)
    (h3 : ((nI k) < (nI T.n)) → (¬ (tEn T k) = ((-4))) → (cHas (tIs T k) (tEn T k)) → Ev (d + 3) c s 10 2 [some (zr (some (0, 0, 12))), some (zr (some (3, n, 0))), some (zi (nI (k + 1))), some (zi (tEn T k)), some (zi (tIs T k)), o5] [] (OM X 0 0 ρ l) Q)
    (h4 : ((nI k) < (nI T.n)) → (¬ (tEn T k) = ((-4))) → (¬ (cHas (tIs T k) (tEn T k))) → Ev (d + 3) c s 10 41 [some (zr (some (0, 0, 12))), some (zr (some (3, n, 0))), some (zi (nI k)), some (zi (tEn T k)), some (zi (tIs T k)), some (zi (nI 0))] [] (OM X 0 0 ρ l) Q) : Ev (d + 3) c s 10 2 [some (zr (some (0, 0, 12))), some (zr (some (3, n, 0))), some (zi (nI k)), o3, o4, o5] [] (OM X 0 0 ρ l) Q := by
  refine Ew.ld f10_2 rfl rfl rfl rfl ?_
  refine Ew.ld f10_3 rfl rfl rfl rfl ?_
  refine Ew.call0 (ls0 := [some (zr (some (3, n, 0)))]) f10_4 rfl (Nat.le_of_ble_eq_true rfl) rfl rfl (Nat.le_of_ble_eq_true rfl) (by show (X.2.2.2.1 3 n 0).1 = _; rw [hc.sh]) (Nat.le_of_ble_eq_true rfl) rfl rfl ?_
  refine sp_tLen b1 ?_
  show Ev (d + 3) c s 10 7 [some (zr (some (0, 0, 12))), some (zr (some (3, n, 0))), some (zi (nI k)), o3, o4, o5] [zi (nI T.n), zi (nI k)] (OM X 0 0 ρ l) Q
  refine Ew.icmp f10_7 rfl rfl (fun c1 => ?_) (fun c1 => ?_)
  · refine Ew.vret f10_84 ?_
    exact h1 c1
  · refine Ew.ld f10_10 rfl rfl rfl rfl ?_
    refine Ew.ld f10_11 rfl rfl rfl rfl ?_
    refine Ew.call0 (ls0 := [some (zr (some (3, n, 0))), some (zi (nI k))]) f10_12 rfl (Nat.le_of_ble_eq_true rfl) rfl rfl (Nat.le_of_ble_eq_true rfl) (by show (X.2.2.2.1 3 n 0).1 = _; rw [hc.sh]) (Nat.le_of_ble_eq_true rfl) rfl rfl ?_
    refine sp_tEn (b2 (Int32.not_le.mp c1)) (b3 (Int32.not_le.mp c1)) ?_
    show Ev (d + 3) c s 10 15 [some (zr (some (0, 0, 12))), some (zr (some (3, n, 0))), some (zi (nI k)), o3, o4, o5] [zi (tEn T k)] (OM X 0 0 ρ l) Q
    refine Ew.sr (ls' := [some (zr (some (0, 0, 12))), some (zr (some (3, n, 0))), some (zi (nI k)), some (zi (tEn T k)), o4, o5]) f10_15 rfl rfl (Nat.le_of_ble_eq_true rfl) rfl rfl ?_
    refine Ew.ld f10_16 rfl rfl rfl rfl ?_
    refine Ew.ld f10_17 rfl rfl rfl rfl ?_
    refine Ew.call0 (ls0 := [some (zr (some (3, n, 0))), some (zi (nI k))]) f10_18 rfl (Nat.le_of_ble_eq_true rfl) rfl rfl (Nat.le_of_ble_eq_true rfl) (by show (X.2.2.2.1 3 n 0).1 = _; rw [hc.sh]) (Nat.le_of_ble_eq_true rfl) rfl rfl ?_
    refine sp_tIs (b4 (Int32.not_le.mp c1)) (b5 (Int32.not_le.mp c1)) ?_
    show Ev (d + 3) c s 10 21 [some (zr (some (0, 0, 12))), some (zr (some (3, n, 0))), some (zi (nI k)), some (zi (tEn T k)), o4, o5] [zi (tIs T k)] (OM X 0 0 ρ l) Q
    refine Ew.sr (ls' := [some (zr (some (0, 0, 12))), some (zr (some (3, n, 0))), some (zi (nI k)), some (zi (tEn T k)), some (zi (tIs T k)), o5]) f10_21 rfl rfl (Nat.le_of_ble_eq_true rfl) rfl rfl ?_
    refine Ew.ld f10_23 rfl rfl rfl rfl ?_
    refine Ew.op (st' := zi ((-4)) :: _) f10_24 rfl rfl ?_
    refine Ew.icmp f10_26 rfl rfl (fun c2 => ?_) (fun c2 => ?_)
    · refine Ew.iinc (v := nI (k + 1)) (ls' := [some (zr (some (0, 0, 12))), some (zr (some (3, n, 0))), some (zi (nI (k + 1))), some (zi (tEn T k)), some (zi (tIs T k)), o5]) f10_78 rfl (nI_1 _) rfl rfl ?_
      refine Ew.goto f10_81 rfl ?_
      exact h2 (Int32.not_le.mp c1) c2
    · refine Ew.ld f10_29 rfl rfl rfl rfl ?_
      refine Ew.ld f10_31 rfl rfl rfl rfl ?_
      refine Ew.call0 (ls0 := [some (zi (tIs T k)), some (zi (tEn T k))]) f10_32 rfl (Nat.le_of_ble_eq_true rfl) rfl rfl (Nat.le_of_ble_eq_true rfl) trivial (Nat.le_of_ble_eq_true rfl) rfl rfl ?_
      refine sp_cHas (fun c3 => ?_) (fun c3 => ?_)
      · refine Ew.ifc f10_35 rfl rfl (fun _ => ?_) (fun h => absurd (show ¬ ((nI 1) : Int32) = 0 by decide) h)
        refine Ew.iinc (v := nI (k + 1)) (ls' := [some (zr (some (0, 0, 12))), some (zr (some (3, n, 0))), some (zi (nI (k + 1))), some (zi (tEn T k)), some (zi (tIs T k)), o5]) f10_78 rfl (nI_1 _) rfl rfl ?_
        refine Ew.goto f10_81 rfl ?_
        exact h3 (Int32.not_le.mp c1) c2 c3
      · refine Ew.ifc f10_35 rfl rfl (fun h => absurd h (show ¬ (¬ ((nI 0) : Int32) = 0) by decide)) (fun _ => ?_)
        refine Ew.op (st' := zi (nI 0) :: _) f10_38 rfl rfl ?_
        refine Ew.sr (ls' := [some (zr (some (0, 0, 12))), some (zr (some (3, n, 0))), some (zi (nI k)), some (zi (tEn T k)), some (zi (tIs T k)), some (zi (nI 0))]) f10_39 rfl rfl (Nat.le_of_ble_eq_true rfl) rfl rfl ?_
        exact h4 (Int32.not_le.mp c1) c2 c3
theorem g10_41 {d c s : Nat} {n bb k g : Nat} {x y : Int32} {T : tT} {X : zM} {ρ : Nat → Nat → Int32} {l : Nat → Nat → Int64} {Q : Option zV → zM → Prop} (hc : cTr X.1 X.2.2.1 X.2.2.2.1 bb n T)  (nb_g : g < 5000)
    (h1 : (6 ≤ g) → Ev (d + 1) c s 10 2 [some (zr (some (0, 0, 12))), some (zr (some (3, n, 0))), some (zi (nI (k + 1))), some (zi x), some (zi y), some (zi (nI g))] [] (OM X 0 0 ρ l) Q)
    (b1 : (g < 6) → (cHas y (nI g)) → g < 6)
    (b2 : (g < 6) → (cHas y (nI g)) → g < 6)
    (h2 : (g < 6) → (cHas y (nI g)) → Ev (d + 1) c s 10 41 [some (zr (some (0, 0, 12))), some (zr (some (3, n, 0))), some (zi (nI k)), some (zi x), some (zi y), some (zi (nI (g + 1)))] [] (OM X 0 0 (zu ρ 13 g ((ρ 13 g) ||| ((nI 1) <<< (x &&& 31)))) l) Q)
    (h3 : (g < 6) → (¬ (cHas y (nI g))) → Ev (d + 1) c s 10 41 [some (zr (some (0, 0, 12))), some (zr (some (3, n, 0))), some (zi (nI k)), some (zi x), some (zi y), some (zi (nI (g + 1)))] [] (OM X 0 0 ρ l) Q) : Ev (d + 1) c s 10 41 [some (zr (some (0, 0, 12))), some (zr (some (3, n, 0))), some (zi (nI k)), some (zi x), some (zi y), some (zi (nI g))] [] (OM X 0 0 ρ l) Q := by
  refine Ew.ld f10_41 rfl rfl rfl rfl ?_
  refine Ew.op (st' := zi (nI 6) :: _) f10_43 rfl rfl ?_
  refine Ew.icmp f10_45 rfl rfl (fun c1 => ?_) (fun c1 => ?_)
  · refine Ew.iinc (v := nI (k + 1)) (ls' := [some (zr (some (0, 0, 12))), some (zr (some (3, n, 0))), some (zi (nI (k + 1))), some (zi x), some (zi y), some (zi (nI g))]) f10_78 rfl (nI_1 _) rfl rfl ?_
    refine Ew.goto f10_81 rfl ?_
    exact h1 ((zle_iff (by decide) nb_g).mp c1)
  · refine Ew.ld f10_48 rfl rfl rfl rfl ?_
    refine Ew.ld f10_50 rfl rfl rfl rfl ?_
    refine Ew.call0 (ls0 := [some (zi y), some (zi (nI g))]) f10_52 rfl (Nat.le_of_ble_eq_true rfl) rfl rfl (Nat.le_of_ble_eq_true rfl) trivial (Nat.le_of_ble_eq_true rfl) rfl rfl ?_
    refine sp_cHas (fun c2 => ?_) (fun c2 => ?_)
    · refine Ew.ifc f10_55 rfl rfl (fun h => absurd h (show ¬ (((nI 1) : Int32) = 0) by decide)) (fun _ => ?_)
      refine Ew.ld f10_58 rfl rfl rfl rfl ?_
      refine Ew.getp (v := some (0, 0, 13)) f10_59 rfl rfl rfl ?_
      refine Ew.ld f10_62 rfl rfl rfl rfl ?_
      refine Ew.op (st' := zi (nI g) :: zr (some (0, 0, 13)) :: zi (nI g) :: zr (some (0, 0, 13)) :: _) f10_64 rfl rfl ?_
      refine Ew.ialdnO f10_65 rfl (b1 (Nat.not_le.mp fun e => c1 ((zle_iff (by decide) nb_g).mpr e)) c2) (Nat.le_of_ble_eq_true rfl) rfl ?_
      refine Ew.ld f10_66 rfl rfl rfl rfl ?_
      refine Ew.call0 (ls0 := [some (zi x)]) f10_67 rfl (Nat.le_of_ble_eq_true rfl) rfl rfl (Nat.le_of_ble_eq_true rfl) trivial (Nat.le_of_ble_eq_true rfl) rfl rfl ?_
      refine Ew.op (st' := zi (nI 1) :: _) f146_0 rfl rfl ?_
      refine Ew.ld f146_1 rfl rfl rfl rfl ?_
      refine Ew.op (st' := zi ((nI 1) <<< (x &&& 31)) :: _) f146_2 rfl rfl ?_
      refine Ew.ireti f146_3 ?_
      show Ev (d + 1) c s 10 70 [some (zr (some (0, 0, 12))), some (zr (some (3, n, 0))), some (zi (nI k)), some (zi x), some (zi y), some (zi (nI g))] [zi ((nI 1) <<< (x &&& 31)), zi (ρ 13 g), zi (nI g), zr (some (0, 0, 13))] (OM X 0 0 ρ l) Q
      refine Ew.op (st' := zi ((ρ 13 g) ||| ((nI 1) <<< (x &&& 31))) :: _) f10_70 rfl rfl ?_
      refine Ew.iastnO f10_71 (by decide) rfl (b2 (Nat.not_le.mp fun e => c1 ((zle_iff (by decide) nb_g).mpr e)) c2) (Nat.le_of_ble_eq_true rfl) rfl ?_
      refine Ew.iinc (v := nI (g + 1)) (ls' := [some (zr (some (0, 0, 12))), some (zr (some (3, n, 0))), some (zi (nI k)), some (zi x), some (zi y), some (zi (nI (g + 1)))]) f10_72 rfl (nI_1 _) rfl rfl ?_
      refine Ew.goto f10_75 rfl ?_
      exact h2 (Nat.not_le.mp fun e => c1 ((zle_iff (by decide) nb_g).mpr e)) c2
    · refine Ew.ifc f10_55 rfl rfl (fun _ => ?_) (fun h => absurd (show ((nI 0) : Int32) = 0 by decide) h)
      refine Ew.iinc (v := nI (g + 1)) (ls' := [some (zr (some (0, 0, 12))), some (zr (some (3, n, 0))), some (zi (nI k)), some (zi x), some (zi y), some (zi (nI (g + 1)))]) f10_72 rfl (nI_1 _) rfl rfl ?_
      refine Ew.goto f10_75 rfl ?_
      exact h3 (Nat.not_le.mp fun e => c1 ((zle_iff (by decide) nb_g).mpr e)) c2
theorem g7_0 {d c s : Nat} {X : zM} {ρ : Nat → Nat → Int32} {l : Nat → Nat → Int64} {Q : Option zV → zM → Prop}
    (h1 : Ev d 0 0 246 0 [some (zr (some (0, 0, 13))), some (zi (nI 0)), none, none] [] (OM X 0 0 ρ l) (fun r M' => Ev (d + 1) c s 7 8 [some (zr (some (0, 0, 12))), some (zr (some (2, 0, 0))), none] (zpush r []) M' Q)) : Ev (d + 1) c s 7 0 [some (zr (some (0, 0, 12))), some (zr (some (2, 0, 0))), none] [] (OM X 0 0 ρ l) Q := by
  refine Ew.ld f7_0 rfl rfl rfl rfl ?_
  refine Ew.getp (v := some (0, 0, 13)) f7_1 rfl rfl rfl ?_
  refine Ew.op (st' := zi (nI 0) :: _) f7_4 rfl rfl ?_
  refine Ew.call0 (ls0 := [some (zr (some (0, 0, 13))), some (zi (nI 0)), none, none]) f7_5 rfl (Nat.le_of_ble_eq_true rfl) rfl rfl (Nat.le_of_ble_eq_true rfl) trivial (Nat.le_of_ble_eq_true rfl) rfl rfl ?_
  exact h1
theorem g7_8 {d c s : Nat} {X : zM} {ρ : Nat → Nat → Int32} {l : Nat → Nat → Int64} {Q : Option zV → zM → Prop}
    (h1 : Ev d c s 7 10 [some (zr (some (0, 0, 12))), some (zr (some (2, 0, 0))), some (zi (nI 0))] [] (OM X 0 0 ρ l) Q) : Ev d c s 7 8 [some (zr (some (0, 0, 12))), some (zr (some (2, 0, 0))), none] [] (OM X 0 0 ρ l) Q := by
  refine Ew.op (st' := zi (nI 0) :: _) f7_8 rfl rfl ?_
  refine Ew.sr (ls' := [some (zr (some (0, 0, 12))), some (zr (some (2, 0, 0))), some (zi (nI 0))]) f7_9 rfl rfl (Nat.le_of_ble_eq_true rfl) rfl rfl ?_
  exact h1
theorem g7_10 {d c s : Nat} {t n bb : Nat} {T : tT} {X : zM} {ρ : Nat → Nat → Int32} {l : Nat → Nat → Int64} {Q : Option zV → zM → Prop} (pt : X.2.2.1 2 0 2 t = some (3, n, 0)) (hc : cTr X.1 X.2.2.1 X.2.2.2.1 bb n T)  (nb_t : t < 5000)
    (h1 : (4 ≤ t) → Q none (OM X 0 0 ρ l))
    (b1 : (t < 4) → t < 4)
    (h2 : (t < 4) → Ev d 0 0 10 0 [some (zr (some (0, 0, 12))), some (zr (some (3, n, 0))), none, none, none, none] [] (OM X 0 0 ρ l) (fun r M' => Ev (d + 1) c s 7 24 [some (zr (some (0, 0, 12))), some (zr (some (2, 0, 0))), some (zi (nI t))] (zpush r []) M' Q)) : Ev (d + 1) c s 7 10 [some (zr (some (0, 0, 12))), some (zr (some (2, 0, 0))), some (zi (nI t))] [] (OM X 0 0 ρ l) Q := by
  refine Ew.ld f7_10 rfl rfl rfl rfl ?_
  refine Ew.op (st' := zi (nI 4) :: _) f7_11 rfl rfl ?_
  refine Ew.icmp f7_12 rfl rfl (fun c1 => ?_) (fun c1 => ?_)
  · refine Ew.vret f7_30 ?_
    exact h1 ((zle_iff (by decide) nb_t).mp c1)
  · refine Ew.ld f7_15 rfl rfl rfl rfl ?_
    refine Ew.ld f7_16 rfl rfl rfl rfl ?_
    refine Ew.ld f7_17 rfl rfl rfl rfl ?_
    refine Ew.call0 (ls0 := [some (zr (some (2, 0, 0))), some (zi (nI t))]) f7_18 rfl (Nat.le_of_ble_eq_true rfl) rfl rfl (Nat.le_of_ble_eq_true rfl) rfl (Nat.le_of_ble_eq_true rfl) rfl rfl ?_
    refine Ew.ld f54_0 rfl rfl rfl rfl ?_
    refine Ew.getp (v := some (2, 0, 2)) f54_1 rfl rfl rfl ?_
    refine Ew.ld f54_4 rfl rfl rfl rfl ?_
    refine Ew.aaldn (v := some (3, n, 0)) f54_5 (Nat.le_of_ble_eq_true rfl) (b1 (Nat.not_le.mp fun e => c1 ((zle_iff (by decide) nb_t).mpr e))) (Nat.le_of_ble_eq_true rfl) rfl (show zpj X.2.2.1 2 0 2 t = _ from pt) ?_
    refine Ew.aret f54_6 ?_
    show Ev (d + 1) c s 7 21 [some (zr (some (0, 0, 12))), some (zr (some (2, 0, 0))), some (zi (nI t))] [zr (some (3, n, 0)), zr (some (0, 0, 12))] (OM X 0 0 ρ l) Q
    refine Ew.call0 (ls0 := [some (zr (some (0, 0, 12))), some (zr (some (3, n, 0))), none, none, none, none]) f7_21 rfl (Nat.le_of_ble_eq_true rfl) rfl rfl (Nat.le_of_ble_eq_true rfl) rfl (Nat.le_of_ble_eq_true rfl) rfl rfl ?_
    exact h2 (Nat.not_le.mp fun e => c1 ((zle_iff (by decide) nb_t).mpr e))
theorem g7_10e {d c s : Nat} {X : zM} {ρ : Nat → Nat → Int32} {l : Nat → Nat → Int64} {Q : Option zV → zM → Prop}
    (h1 : Q none (OM X 0 0 ρ l)) : Ev d c s 7 10 [some (zr (some (0, 0, 12))), some (zr (some (2, 0, 0))), some (zi (nI 4))] [] (OM X 0 0 ρ l) Q := by
  refine Ew.ld f7_10 rfl rfl rfl rfl ?_
  refine Ew.op (st' := zi (nI 4) :: _) f7_11 rfl rfl ?_
  refine Ew.icmp f7_12 rfl rfl (fun _ => ?_) (fun h => absurd (show (nI 4) ≤ ((nI 4) : Int32) by decide) h)
  refine Ew.vret f7_30 ?_
  exact h1
theorem g7_24 {d c s : Nat} {t : Nat} {X : zM} {ρ : Nat → Nat → Int32} {l : Nat → Nat → Int64} {Q : Option zV → zM → Prop}
    (h1 : Ev d c s 7 10 [some (zr (some (0, 0, 12))), some (zr (some (2, 0, 0))), some (zi (nI (t + 1)))] [] (OM X 0 0 ρ l) Q) : Ev d c s 7 24 [some (zr (some (0, 0, 12))), some (zr (some (2, 0, 0))), some (zi (nI t))] [] (OM X 0 0 ρ l) Q := by
  refine Ew.iinc (v := nI (t + 1)) (ls' := [some (zr (some (0, 0, 12))), some (zr (some (2, 0, 0))), some (zi (nI (t + 1)))]) f7_24 rfl (nI_1 _) rfl rfl ?_
  refine Ew.goto f7_27 rfl ?_
  exact h1
theorem g12_0 {d c s : Nat} {x : Int32} {X : zM} {ρ : Nat → Nat → Int32} {l : Nat → Nat → Int64} {Q : Option zV → zM → Prop}
    (h1 : Ev d c s 12 4 [some (zr (some (0, 0, 12))), some (zi x), some (zi (nI 0)), some (zi (nI 0))] [] (OM X 0 0 ρ l) Q) : Ev d c s 12 0 [some (zr (some (0, 0, 12))), some (zi x), none, none] [] (OM X 0 0 ρ l) Q := by
  refine Ew.op (st' := zi (nI 0) :: _) f12_0 rfl rfl ?_
  refine Ew.sr (ls' := [some (zr (some (0, 0, 12))), some (zi x), some (zi (nI 0)), none]) f12_1 rfl rfl (Nat.le_of_ble_eq_true rfl) rfl rfl ?_
  refine Ew.op (st' := zi (nI 0) :: _) f12_2 rfl rfl ?_
  refine Ew.sr (ls' := [some (zr (some (0, 0, 12))), some (zi x), some (zi (nI 0)), some (zi (nI 0))]) f12_3 rfl rfl (Nat.le_of_ble_eq_true rfl) rfl rfl ?_
  exact h1
theorem g12_4 {d c s : Nat} {x y : Int32} {g : Nat} {X : zM} {ρ : Nat → Nat → Int32} {l : Nat → Nat → Int64} {Q : Option zV → zM → Prop} (nb_g : g < 5000)
    (h1 : (6 ≤ g) → Q (some (zi y)) (OM X 0 0 ρ l))
    (b1 : (g < 6) → (cHas x (nI g)) → g < 6)
    (h2 : (g < 6) → (cHas x (nI g)) → Ev (d + 1) c s 12 4 [some (zr (some (0, 0, 12))), some (zi x), some (zi (y ||| (ρ 13 g))), some (zi (nI (g + 1)))] [] (OM X 0 0 ρ l) Q)
    (h3 : (g < 6) → (¬ (cHas x (nI g))) → Ev (d + 1) c s 12 4 [some (zr (some (0, 0, 12))), some (zi x), some (zi y), some (zi (nI (g + 1)))] [] (OM X 0 0 ρ l) Q) : Ev (d + 1) c s 12 4 [some (zr (some (0, 0, 12))), some (zi x), some (zi y), some (zi (nI g))] [] (OM X 0 0 ρ l) Q := by
  refine Ew.ld f12_4 rfl rfl rfl rfl ?_
  refine Ew.op (st' := zi (nI 6) :: _) f12_5 rfl rfl ?_
  refine Ew.icmp f12_7 rfl rfl (fun c1 => ?_) (fun c1 => ?_)
  · refine Ew.ld f12_33 rfl rfl rfl rfl ?_
    refine Ew.ireti f12_34 ?_
    exact h1 ((zle_iff (by decide) nb_g).mp c1)
  · refine Ew.ld f12_10 rfl rfl rfl rfl ?_
    refine Ew.ld f12_11 rfl rfl rfl rfl ?_
    refine Ew.call0 (ls0 := [some (zi x), some (zi (nI g))]) f12_12 rfl (Nat.le_of_ble_eq_true rfl) rfl rfl (Nat.le_of_ble_eq_true rfl) trivial (Nat.le_of_ble_eq_true rfl) rfl rfl ?_
    refine sp_cHas (fun c2 => ?_) (fun c2 => ?_)
    · refine Ew.ifc f12_15 rfl rfl (fun h => absurd h (show ¬ (((nI 1) : Int32) = 0) by decide)) (fun _ => ?_)
      refine Ew.ld f12_18 rfl rfl rfl rfl ?_
      refine Ew.ld f12_19 rfl rfl rfl rfl ?_
      refine Ew.getp (v := some (0, 0, 13)) f12_20 rfl rfl rfl ?_
      refine Ew.ld f12_23 rfl rfl rfl rfl ?_
      refine Ew.ialdnO f12_24 rfl (b1 (Nat.not_le.mp fun e => c1 ((zle_iff (by decide) nb_g).mpr e)) c2) (Nat.le_of_ble_eq_true rfl) rfl ?_
      refine Ew.op (st' := zi (y ||| (ρ 13 g)) :: _) f12_25 rfl rfl ?_
      refine Ew.sr (ls' := [some (zr (some (0, 0, 12))), some (zi x), some (zi (y ||| (ρ 13 g))), some (zi (nI g))]) f12_26 rfl rfl (Nat.le_of_ble_eq_true rfl) rfl rfl ?_
      refine Ew.iinc (v := nI (g + 1)) (ls' := [some (zr (some (0, 0, 12))), some (zi x), some (zi (y ||| (ρ 13 g))), some (zi (nI (g + 1)))]) f12_27 rfl (nI_1 _) rfl rfl ?_
      refine Ew.goto f12_30 rfl ?_
      exact h2 (Nat.not_le.mp fun e => c1 ((zle_iff (by decide) nb_g).mpr e)) c2
    · refine Ew.ifc f12_15 rfl rfl (fun _ => ?_) (fun h => absurd (show ((nI 0) : Int32) = 0 by decide) h)
      refine Ew.iinc (v := nI (g + 1)) (ls' := [some (zr (some (0, 0, 12))), some (zi x), some (zi y), some (zi (nI (g + 1)))]) f12_27 rfl (nI_1 _) rfl rfl ?_
      refine Ew.goto f12_30 rfl ?_
      exact h3 (Nat.not_le.mp fun e => c1 ((zle_iff (by decide) nb_g).mpr e)) c2
theorem g11_0 {d c s : Nat} {g : Nat} {X : zM} {ρ : Nat → Nat → Int32} {l : Nat → Nat → Int64} {Q : Option zV → zM → Prop}
    (h1 : Ev (d + 1) c s 11 7 [some (zr (some (0, 0, 12))), some (zi (nI g)), some (zi ((nI 1) <<< ((nI g) &&& 31))), some (zi (nI 1))] [] (OM X 0 0 ρ l) Q) : Ev (d + 1) c s 11 0 [some (zr (some (0, 0, 12))), some (zi (nI g)), none, none] [] (OM X 0 0 ρ l) Q := by
  refine Ew.ld f11_0 rfl rfl rfl rfl ?_
  refine Ew.call0 (ls0 := [some (zi (nI g))]) f11_1 rfl (Nat.le_of_ble_eq_true rfl) rfl rfl (Nat.le_of_ble_eq_true rfl) trivial (Nat.le_of_ble_eq_true rfl) rfl rfl ?_
  refine Ew.op (st' := zi (nI 1) :: _) f146_0 rfl rfl ?_
  refine Ew.ld f146_1 rfl rfl rfl rfl ?_
  refine Ew.op (st' := zi ((nI 1) <<< ((nI g) &&& 31)) :: _) f146_2 rfl rfl ?_
  refine Ew.ireti f146_3 ?_
  show Ev (d + 1) c s 11 4 [some (zr (some (0, 0, 12))), some (zi (nI g)), none, none] [zi ((nI 1) <<< ((nI g) &&& 31))] (OM X 0 0 ρ l) Q
  refine Ew.sr (ls' := [some (zr (some (0, 0, 12))), some (zi (nI g)), some (zi ((nI 1) <<< ((nI g) &&& 31))), none]) f11_4 rfl rfl (Nat.le_of_ble_eq_true rfl) rfl rfl ?_
  refine Ew.op (st' := zi (nI 1) :: _) f11_5 rfl rfl ?_
  refine Ew.sr (ls' := [some (zr (some (0, 0, 12))), some (zi (nI g)), some (zi ((nI 1) <<< ((nI g) &&& 31))), some (zi (nI 1))]) f11_6 rfl rfl (Nat.le_of_ble_eq_true rfl) rfl rfl ?_
  exact h1
theorem g11_7 {d c s : Nat} {x : Int32} {g k : Nat} {X : zM} {ρ : Nat → Nat → Int32} {l : Nat → Nat → Int64} {Q : Option zV → zM → Prop} (nb_k : k < 5000)
    (h1 : (6 < k) → Q (some (zi ((-4)))) (OM X 0 0 ρ l))
    (h2 : (k ≤ 6) → Ev d 0 0 12 0 [some (zr (some (0, 0, 12))), some (zi x), none, none] [] (OM X 0 0 ρ l) (fun r M' => Ev (d + 1) c s 11 18 [some (zr (some (0, 0, 12))), some (zi (nI g)), some (zi x), some (zi (nI k))] (zpush r []) M' Q)) : Ev (d + 1) c s 11 7 [some (zr (some (0, 0, 12))), some (zi (nI g)), some (zi x), some (zi (nI k))] [] (OM X 0 0 ρ l) Q := by
  refine Ew.ld f11_7 rfl rfl rfl rfl ?_
  refine Ew.op (st' := zi (nI 6) :: _) f11_8 rfl rfl ?_
  refine Ew.icmp f11_10 rfl rfl (fun c1 => ?_) (fun c1 => ?_)
  · refine Ew.op (st' := zi ((-4)) :: _) f11_35 rfl rfl ?_
    refine Ew.ireti f11_37 ?_
    exact h1 ((zlt_iff (by decide) nb_k).mp c1)
  · refine Ew.ld f11_13 rfl rfl rfl rfl ?_
    refine Ew.ld f11_14 rfl rfl rfl rfl ?_
    refine Ew.call0 (ls0 := [some (zr (some (0, 0, 12))), some (zi x), none, none]) f11_15 rfl (Nat.le_of_ble_eq_true rfl) rfl rfl (Nat.le_of_ble_eq_true rfl) rfl (Nat.le_of_ble_eq_true rfl) rfl rfl ?_
    exact h2 (Nat.not_lt.mp fun e => c1 ((zlt_iff (by decide) nb_k).mpr e))
theorem g11_18 {d c s : Nat} {x y : Int32} {g k : Nat} {X : zM} {ρ : Nat → Nat → Int32} {l : Nat → Nat → Int64} {Q : Option zV → zM → Prop}
    (h1 : (cHas y (nI g)) → Q (some (zi (nI k))) (OM X 0 0 ρ l))
    (h2 : (¬ (cHas y (nI g))) → Ev (d + 1) c s 11 7 [some (zr (some (0, 0, 12))), some (zi (nI g)), some (zi y), some (zi (nI (k + 1)))] [] (OM X 0 0 ρ l) Q) : Ev (d + 1) c s 11 18 [some (zr (some (0, 0, 12))), some (zi (nI g)), some (zi x), some (zi (nI k))] [zi y] (OM X 0 0 ρ l) Q := by
  refine Ew.sr (ls' := [some (zr (some (0, 0, 12))), some (zi (nI g)), some (zi y), some (zi (nI k))]) f11_18 rfl rfl (Nat.le_of_ble_eq_true rfl) rfl rfl ?_
  refine Ew.ld f11_19 rfl rfl rfl rfl ?_
  refine Ew.ld f11_20 rfl rfl rfl rfl ?_
  refine Ew.call0 (ls0 := [some (zi y), some (zi (nI g))]) f11_21 rfl (Nat.le_of_ble_eq_true rfl) rfl rfl (Nat.le_of_ble_eq_true rfl) trivial (Nat.le_of_ble_eq_true rfl) rfl rfl ?_
  refine sp_cHas (fun c1 => ?_) (fun c1 => ?_)
  · refine Ew.ifc f11_24 rfl rfl (fun h => absurd h (show ¬ (((nI 1) : Int32) = 0) by decide)) (fun _ => ?_)
    refine Ew.ld f11_27 rfl rfl rfl rfl ?_
    refine Ew.ireti f11_28 ?_
    exact h1 c1
  · refine Ew.ifc f11_24 rfl rfl (fun _ => ?_) (fun h => absurd (show ((nI 0) : Int32) = 0 by decide) h)
    refine Ew.iinc (v := nI (k + 1)) (ls' := [some (zr (some (0, 0, 12))), some (zi (nI g)), some (zi y), some (zi (nI (k + 1)))]) f11_29 rfl (nI_1 _) rfl rfl ?_
    refine Ew.goto f11_32 rfl ?_
    exact h2 c1
theorem g9_0 {d c s : Nat} {w : Int32} {X : zM} {ρ : Nat → Nat → Int32} {l : Nat → Nat → Int64} {Q : Option zV → zM → Prop}
    (h1 : Ev d c s 9 8 [some (zr (some (0, 0, 12))), some (zi w), some (zi ((-4))), some (zi (nI 0)), some (zi (nI 0)), none] [] (OM X 0 0 ρ l) Q) : Ev d c s 9 0 [some (zr (some (0, 0, 12))), some (zi w), none, none, none, none] [] (OM X 0 0 ρ l) Q := by
  refine Ew.op (st' := zi ((-4)) :: _) f9_0 rfl rfl ?_
  refine Ew.sr (ls' := [some (zr (some (0, 0, 12))), some (zi w), some (zi ((-4))), none, none, none]) f9_2 rfl rfl (Nat.le_of_ble_eq_true rfl) rfl rfl ?_
  refine Ew.op (st' := zi (nI 0) :: _) f9_3 rfl rfl ?_
  refine Ew.sr (ls' := [some (zr (some (0, 0, 12))), some (zi w), some (zi ((-4))), some (zi (nI 0)), none, none]) f9_4 rfl rfl (Nat.le_of_ble_eq_true rfl) rfl rfl ?_
  refine Ew.op (st' := zi (nI 0) :: _) f9_5 rfl rfl ?_
  refine Ew.sr (ls' := [some (zr (some (0, 0, 12))), some (zi w), some (zi ((-4))), some (zi (nI 0)), some (zi (nI 0)), none]) f9_6 rfl rfl (Nat.le_of_ble_eq_true rfl) rfl rfl ?_
  exact h1
theorem g9_8 {d c s : Nat} {w x y : Int32} {g : Nat} {o5 : Option zV} {X : zM} {ρ : Nat → Nat → Int32} {l : Nat → Nat → Int64} {Q : Option zV → zM → Prop} (nb_g : g < 5000)
    (h1 : (6 ≤ g) → (¬ w = 0) → (¬ w = (nI 1)) → Q (some (zi y)) (OM X 0 0 ρ l))
    (h2 : (6 ≤ g) → (¬ w = 0) → (w = (nI 1)) → Q (some (zi x)) (OM X 0 0 ρ l))
    (h3 : (6 ≤ g) → (w = 0) → (y = 0) → Q (some (zi (nI 0))) (OM X 0 0 ρ l))
    (h4 : (6 ≤ g) → (w = 0) → (¬ y = 0) → Q (some (zi (nI 1))) (OM X 0 0 ρ l))
    (h5 : (g < 6) → Ev d 0 0 11 0 [some (zr (some (0, 0, 12))), some (zi (nI g)), none, none] [] (OM X 0 0 ρ l) (fun r M' => Ev (d + 1) c s 9 21 [some (zr (some (0, 0, 12))), some (zi w), some (zi x), some (zi y), some (zi (nI g)), o5] (zpush r []) M' Q)) : Ev (d + 1) c s 9 8 [some (zr (some (0, 0, 12))), some (zi w), some (zi x), some (zi y), some (zi (nI g)), o5] [] (OM X 0 0 ρ l) Q := by
  refine Ew.ld f9_8 rfl rfl rfl rfl ?_
  refine Ew.op (st' := zi (nI 6) :: _) f9_10 rfl rfl ?_
  refine Ew.icmp f9_12 rfl rfl (fun c1 => ?_) (fun c1 => ?_)
  · refine Ew.ld f9_62 rfl rfl rfl rfl ?_
    refine Ew.ifc f9_63 rfl rfl (fun c2 => ?_) (fun c2 => ?_)
    · refine Ew.ld f9_76 rfl rfl rfl rfl ?_
      refine Ew.op (st' := zi (nI 1) :: _) f9_77 rfl rfl ?_
      refine Ew.icmp f9_78 rfl rfl (fun c3 => ?_) (fun c3 => ?_)
      · refine Ew.ld f9_85 rfl rfl rfl rfl ?_
        refine Ew.ireti f9_86 ?_
        exact h1 ((zle_iff (by decide) nb_g).mp c1) c2 c3
      · refine Ew.ld f9_81 rfl rfl rfl rfl ?_
        refine Ew.goto f9_82 rfl ?_
        refine Ew.ireti f9_86 ?_
        exact h2 ((zle_iff (by decide) nb_g).mp c1) c2 (Classical.not_not.mp c3)
    · refine Ew.ld f9_66 rfl rfl rfl rfl ?_
      refine Ew.ifc f9_67 rfl rfl (fun c4 => ?_) (fun c4 => ?_)
      · refine Ew.op (st' := zi (nI 0) :: _) f9_74 rfl rfl ?_
        refine Ew.ireti f9_75 ?_
        exact h3 ((zle_iff (by decide) nb_g).mp c1) (Classical.not_not.mp c2) c4
      · refine Ew.op (st' := zi (nI 1) :: _) f9_70 rfl rfl ?_
        refine Ew.goto f9_71 rfl ?_
        refine Ew.ireti f9_75 ?_
        exact h4 ((zle_iff (by decide) nb_g).mp c1) (Classical.not_not.mp c2) c4
  · refine Ew.ld f9_15 rfl rfl rfl rfl ?_
    refine Ew.ld f9_16 rfl rfl rfl rfl ?_
    refine Ew.call0 (ls0 := [some (zr (some (0, 0, 12))), some (zi (nI g)), none, none]) f9_18 rfl (Nat.le_of_ble_eq_true rfl) rfl rfl (Nat.le_of_ble_eq_true rfl) rfl (Nat.le_of_ble_eq_true rfl) rfl rfl ?_
    exact h5 (Nat.not_le.mp fun e => c1 ((zle_iff (by decide) nb_g).mpr e))
theorem g9_21 {d c s : Nat} {w x y u : Int32} {g : Nat} {o5 : Option zV} {X : zM} {ρ : Nat → Nat → Int32} {l : Nat → Nat → Int64} {Q : Option zV → zM → Prop}
    (h1 : (u = ((-4))) → Ev (d + 1) c s 9 8 [some (zr (some (0, 0, 12))), some (zi w), some (zi x), some (zi y), some (zi (nI (g + 1))), some (zi u)] [] (OM X 0 0 ρ l) Q)
    (h2 : (¬ u = ((-4))) → (¬ x = ((-4))) → Ev (d + 1) c s 9 8 [some (zr (some (0, 0, 12))), some (zi w), some (zi ((if u < x then u else x))), some (zi (y ||| ((nI 1) <<< ((nI g) &&& 31)))), some (zi (nI (g + 1))), some (zi u)] [] (OM X 0 0 ρ l) Q)
    (h3 : (¬ u = ((-4))) → (x = ((-4))) → Ev (d + 1) c s 9 8 [some (zr (some (0, 0, 12))), some (zi w), some (zi u), some (zi (y ||| ((nI 1) <<< ((nI g) &&& 31)))), some (zi (nI (g + 1))), some (zi u)] [] (OM X 0 0 ρ l) Q) : Ev (d + 1) c s 9 21 [some (zr (some (0, 0, 12))), some (zi w), some (zi x), some (zi y), some (zi (nI g)), o5] [zi u] (OM X 0 0 ρ l) Q := by
  refine Ew.sr (ls' := [some (zr (some (0, 0, 12))), some (zi w), some (zi x), some (zi y), some (zi (nI g)), some (zi u)]) f9_21 rfl rfl (Nat.le_of_ble_eq_true rfl) rfl rfl ?_
  refine Ew.ld f9_23 rfl rfl rfl rfl ?_
  refine Ew.op (st' := zi ((-4)) :: _) f9_25 rfl rfl ?_
  refine Ew.icmp f9_27 rfl rfl (fun c1 => ?_) (fun c1 => ?_)
  · refine Ew.iinc (v := nI (g + 1)) (ls' := [some (zr (some (0, 0, 12))), some (zi w), some (zi x), some (zi y), some (zi (nI (g + 1))), some (zi u)]) f9_56 rfl (nI_1 _) rfl rfl ?_
    refine Ew.goto f9_59 rfl ?_
    exact h1 c1
  · refine Ew.ld f9_30 rfl rfl rfl rfl ?_
    refine Ew.ld f9_31 rfl rfl rfl rfl ?_
    refine Ew.call0 (ls0 := [some (zi (nI g))]) f9_33 rfl (Nat.le_of_ble_eq_true rfl) rfl rfl (Nat.le_of_ble_eq_true rfl) trivial (Nat.le_of_ble_eq_true rfl) rfl rfl ?_
    refine Ew.op (st' := zi (nI 1) :: _) f146_0 rfl rfl ?_
    refine Ew.ld f146_1 rfl rfl rfl rfl ?_
    refine Ew.op (st' := zi ((nI 1) <<< ((nI g) &&& 31)) :: _) f146_2 rfl rfl ?_
    refine Ew.ireti f146_3 ?_
    show Ev (d + 1) c s 9 36 [some (zr (some (0, 0, 12))), some (zi w), some (zi x), some (zi y), some (zi (nI g)), some (zi u)] [zi ((nI 1) <<< ((nI g) &&& 31)), zi y] (OM X 0 0 ρ l) Q
    refine Ew.op (st' := zi (y ||| ((nI 1) <<< ((nI g) &&& 31))) :: _) f9_36 rfl rfl ?_
    refine Ew.sr (ls' := [some (zr (some (0, 0, 12))), some (zi w), some (zi x), some (zi (y ||| ((nI 1) <<< ((nI g) &&& 31)))), some (zi (nI g)), some (zi u)]) f9_37 rfl rfl (Nat.le_of_ble_eq_true rfl) rfl rfl ?_
    refine Ew.ld f9_38 rfl rfl rfl rfl ?_
    refine Ew.op (st' := zi ((-4)) :: _) f9_39 rfl rfl ?_
    refine Ew.icmp f9_41 rfl rfl (fun c2 => ?_) (fun c2 => ?_)
    · refine Ew.ld f9_49 rfl rfl rfl rfl ?_
      refine Ew.ld f9_50 rfl rfl rfl rfl ?_
      refine Ew.nat (st' := zi ((if u < x then u else x)) :: _) f9_52 rfl (fun k h => ⟨Nat.le_of_ble_eq_true rfl, h⟩) rfl ?_
      refine Ew.sr (ls' := [some (zr (some (0, 0, 12))), some (zi w), some (zi ((if u < x then u else x))), some (zi (y ||| ((nI 1) <<< ((nI g) &&& 31)))), some (zi (nI g)), some (zi u)]) f9_55 rfl rfl (Nat.le_of_ble_eq_true rfl) rfl rfl ?_
      refine Ew.iinc (v := nI (g + 1)) (ls' := [some (zr (some (0, 0, 12))), some (zi w), some (zi ((if u < x then u else x))), some (zi (y ||| ((nI 1) <<< ((nI g) &&& 31)))), some (zi (nI (g + 1))), some (zi u)]) f9_56 rfl (nI_1 _) rfl rfl ?_
      refine Ew.goto f9_59 rfl ?_
      exact h2 c1 c2
    · refine Ew.ld f9_44 rfl rfl rfl rfl ?_
      refine Ew.goto f9_46 rfl ?_
      refine Ew.sr (ls' := [some (zr (some (0, 0, 12))), some (zi w), some (zi u), some (zi (y ||| ((nI 1) <<< ((nI g) &&& 31)))), some (zi (nI g)), some (zi u)]) f9_55 rfl rfl (Nat.le_of_ble_eq_true rfl) rfl rfl ?_
      refine Ew.iinc (v := nI (g + 1)) (ls' := [some (zr (some (0, 0, 12))), some (zi w), some (zi u), some (zi (y ||| ((nI 1) <<< ((nI g) &&& 31)))), some (zi (nI (g + 1))), some (zi u)]) f9_56 rfl (nI_1 _) rfl rfl ?_
      refine Ew.goto f9_59 rfl ?_
      exact h3 c1 (Classical.not_not.mp c2)
theorem g8_0 {d c s : Nat} {a b : Nat} {X : zM} {ρ : Nat → Nat → Int32} {l : Nat → Nat → Int64} {Q : Option zV → zM → Prop}
    (b1 : a < 6)
    (h1 : (cHas (ρ 13 a) (nI b)) → Q (some (zi (nI 1))) (OM X 0 0 ρ l))
    (h2 : (¬ (cHas (ρ 13 a) (nI b))) → Q (some (zi (nI 0))) (OM X 0 0 ρ l)) : Ev (d + 1) c s 8 0 [some (zr (some (0, 0, 12))), some (zi (nI a)), some (zi (nI b))] [] (OM X 0 0 ρ l) Q := by
  refine Ew.ld f8_0 rfl rfl rfl rfl ?_
  refine Ew.getp (v := some (0, 0, 13)) f8_1 rfl rfl rfl ?_
  refine Ew.ld f8_4 rfl rfl rfl rfl ?_
  refine Ew.ialdnO f8_5 rfl b1 (Nat.le_of_ble_eq_true rfl) rfl ?_
  refine Ew.ld f8_6 rfl rfl rfl rfl ?_
  refine Ew.call0 (ls0 := [some (zi (ρ 13 a)), some (zi (nI b))]) f8_7 rfl (Nat.le_of_ble_eq_true rfl) rfl rfl (Nat.le_of_ble_eq_true rfl) trivial (Nat.le_of_ble_eq_true rfl) rfl rfl ?_
  refine sp_cHas (fun c1 => ?_) (fun c1 => ?_)
  · refine Ew.iretb f8_10 (Or.inr rfl) ?_
    exact h1 c1
  · refine Ew.iretb f8_10 (Or.inl rfl) ?_
    exact h2 c1
theorem sp_cFillB {d c s : Nat} {v : Int32} {X : zM} {ρ : Nat → Nat → Int32} {l : Nat → Nat → Int64} {Q : Option zV → zM → Prop} (k : ∀ ρ', (∀ g, g < 6 → ρ' 13 g = v) → (∀ q i, ¬ q = 13 → ρ' q i = ρ q i) → Q none (OM X 0 0 ρ' l)) : Ev d c s 246 0 [some (zr (some (0, 0, 13))), some (zi v), none, none] [] (OM X 0 0 ρ l) Q := by
  refine g246_0b ?_
  have lp : ∀ m, m ≤ 6 → ∀ ρ', (∀ g, g < 6 - m → ρ' 13 g = v) → (∀ q i, ¬ q = 13 → ρ' q i = ρ q i) → Ev d c s 246 5 [some (zr (some (0, 0, 13))), some (zi v), some (zi (nI (6 - m))), some (zi (nI 6))] [] (OM X 0 0 ρ' l) Q := by
    intro m
    induction m with
    | zero => exact fun _ ρ' h1 h2 => g246_5b (by omega) (fun _ => k ρ' h1 h2) (fun q => q) (fun q => absurd q (by omega))
    | succ m ih =>
      intro hm ρ' h1 h2
      refine g246_5b (by omega) (fun q => by omega) (fun q => q) (fun q => ?_)
      rw [show 6 - (m + 1) + 1 = 6 - m by omega]
      refine ih (by omega) _ (fun g hg => ?_) (fun q i hq => ?_)
      · by_cases e : g = 6 - (m + 1)
        · subst e; exact zu_e
        · rw [zu_i_ne (by omega)]; exact h1 g (by omega)
      · rw [zu_i_ne (by omega)]; exact h2 q i hq
  exact lp 6 (Nat.le_refl _) ρ (fun g hg => absurd hg (by omega)) (fun _ _ _ => rfl)
theorem or6 : ∀ b0 b1 b2 b3 b4 b5 : Bool, ∀ g, g < 6 → (cHas ((((((nI 0 ||| (if b0 = true then nI 1 <<< (nI 0 &&& 31) else nI 0)) ||| (if b1 = true then nI 1 <<< (nI 1 &&& 31) else nI 0)) ||| (if b2 = true then nI 1 <<< (nI 2 &&& 31) else nI 0)) ||| (if b3 = true then nI 1 <<< (nI 3 &&& 31) else nI 0)) ||| (if b4 = true then nI 1 <<< (nI 4 &&& 31) else nI 0)) ||| (if b5 = true then nI 1 <<< (nI 5 &&& 31) else nI 0)) (nI g) ↔ [b0, b1, b2, b3, b4, b5].getD g false = true) := by decide
theorem tSet_has {T : tT} {k g : Nat} (hg : g < 6) : cHas (tSet T k) (nI g) ↔ 0 < tIns T.2 k (nI g) := by
  have e : tSet T k = (((((nI 0 ||| (if decide (0 < tIns T.2 k (nI 0)) = true then nI 1 <<< (nI 0 &&& 31) else nI 0)) ||| (if decide (0 < tIns T.2 k (nI 1)) = true then nI 1 <<< (nI 1 &&& 31) else nI 0)) ||| (if decide (0 < tIns T.2 k (nI 2)) = true then nI 1 <<< (nI 2 &&& 31) else nI 0)) ||| (if decide (0 < tIns T.2 k (nI 3)) = true then nI 1 <<< (nI 3 &&& 31) else nI 0)) ||| (if decide (0 < tIns T.2 k (nI 4)) = true then nI 1 <<< (nI 4 &&& 31) else nI 0)) ||| (if decide (0 < tIns T.2 k (nI 5)) = true then nI 1 <<< (nI 5 &&& 31) else nI 0) := by
    simp only [decide_eq_true_eq]
    rfl
  rw [e, or6 _ _ _ _ _ _ g hg]
  have g6 : g = 0 ∨ g = 1 ∨ g = 2 ∨ g = 3 ∨ g = 4 ∨ g = 5 := by omega
  rcases g6 with e | e | e | e | e | e <;> subst e <;> exact decide_eq_true_iff
/-- what is ahead so far -/
def cAi (ρ : Nat → Nat → Int32) (D : Nat → Nat → Prop) : Prop := ∀ a, a < 6 → ∃ v, v < 64 ∧ ρ 13 a = nI v ∧ ∀ b, b < 6 → (v.testBit b = true ↔ D a b)
def cAh (T : tT) (a b k : Nat) : Prop := T.kind k = 0 ∧ T.gate k = nI b ∧ 0 < tIns T.2 k (nI a) ∧ ¬ 0 < tIns T.2 k (nI b)
def cNo13 (ρ ρ' : Nat → Nat → Int32) : Prop := ∀ q i, ¬ q = 13 → ρ' q i = ρ q i
theorem or_bit6 : ∀ G, G < 6 → ∀ v, v < 64 → (nI v ||| (nI 1 <<< (nI G &&& 31)) = nI (v ||| 2 ^ G) ∧ v ||| 2 ^ G < 64) := by decide
theorem sp_cRdT {d c s n bb : Nat} {T : tT} {D : Nat → Nat → Prop} {X : zM} {ρ : Nat → Nat → Int32} {l : Nat → Nat → Int64} {Q : Option zV → zM → Prop} (hc : cTr X.1 X.2.2.1 X.2.2.2.1 bb n T) (hT : tOk T) (h : cAi ρ D) (kk : ∀ ρ', cNo13 ρ ρ' → cAi ρ' (fun a b => D a b ∨ ∃ k, k < T.n ∧ cAh T a b k) → Q none (OM X 0 0 ρ' l)) : Ev (d + 3) c s 10 0 [some (zr (some (0, 0, 12))), some (zr (some (3, n, 0))), none, none, none, none] [] (OM X 0 0 ρ l) Q := by
  have h30 := hT.1
  refine g10_0 hc ?_
  have lp : ∀ m, m ≤ T.n → ∀ ρ' o3 o4 o5, cNo13 ρ ρ' → cAi ρ' (fun a b => D a b ∨ ∃ k, k < T.n - m ∧ cAh T a b k) → Ev (d + 3) c s 10 2 [some (zr (some (0, 0, 12))), some (zr (some (3, n, 0))), some (zi (nI (T.n - m))), o3, o4, o5] [] (OM X 0 0 ρ' l) Q := by
    intro m
    induction m with
    | zero =>
      intro _ ρ' o3 o4 o5 h1 h2
      have no : ¬ nI (T.n - 0) < nI T.n := fun e => by have := (zlt_iff (by omega) (by omega)).mp e; omega
      exact g10_2 hc hc (fun _ => kk ρ' h1 h2) (fun q => absurd q no) (fun q => absurd q no) (fun q => absurd q no) (fun q => absurd q no) (fun q => absurd q no) (fun q => absurd q no) (fun q => absurd q no)
    | succ m ih =>
      intro hm ρ' o3 o4 o5 h1 h2
      have hk : T.n - (m + 1) < T.n := by omega
      have e1 : T.n - (m + 1) + 1 = T.n - m := by omega
      obtain ⟨kd, G, hkd, hG, ek, eg, _⟩ := hT.2.1 _ hk
      have eI : tIs T (T.n - (m + 1)) = tSet T (T.n - (m + 1)) := by unfold tIs; rw [if_pos (by omega)]
      have eE : tEn T (T.n - (m + 1)) = if T.kind (T.n - (m + 1)) = 0 then T.gate (T.n - (m + 1)) else -4 := by unfold tEn; rw [if_pos hk]
      have mono : ∀ ρ2, (∀ a b, a < 6 → b < 6 → ¬ cAh T a b (T.n - (m + 1))) → cAi ρ2 (fun a b => D a b ∨ ∃ k, k < T.n - (m + 1) ∧ cAh T a b k) → cAi ρ2 (fun a b => D a b ∨ ∃ k, k < T.n - m ∧ cAh T a b k) := by
        intro ρ2 hno hai a ha
        obtain ⟨v, hv, ev, hb⟩ := hai a ha
        refine ⟨v, hv, ev, fun b hb6 => (hb b hb6).trans ⟨fun g => ?_, fun g => ?_⟩⟩
        · rcases g with g | ⟨k, g1, g2⟩
          · exact Or.inl g
          · exact Or.inr ⟨k, by omega, g2⟩
        · rcases g with g | ⟨k, g1, g2⟩
          · exact Or.inl g
          · by_cases e : k = T.n - (m + 1)
            · subst e; exact absurd g2 (hno a b ha hb6)
            · exact Or.inr ⟨k, by omega, g2⟩
      have ltk : nI (T.n - (m + 1)) < nI T.n := (zlt_iff (by omega) (by omega)).mpr hk
      refine g10_2 (d := d) hc hc (fun q => absurd ltk (Int32.not_lt.mpr q)) (fun _ => hc) (fun _ => by omega) (fun _ => hc) (fun _ => by omega) (fun _ q => ?_) (fun _ q1 q2 => ?_) (fun _ q1 q2 => ?_)
      · rw [e1]
        refine ih (by omega) ρ' _ _ _ h1 (mono ρ' (fun a b ha hb g => ?_) h2)
        rw [eE, if_pos g.1, g.2.1] at q
        have := nI_pos (n := b) (by omega)
        rw [q] at this
        exact this (by decide)
      · rw [e1]
        refine ih (by omega) ρ' _ _ _ h1 (mono ρ' (fun a b ha hb g => ?_) h2)
        rw [eE, if_pos g.1, g.2.1, eI] at q2
        exact g.2.2.2 ((tSet_has hb).mp q2)
      · rw [eI, eE] at q2 ⊢
        rw [eE] at q1
        by_cases k0 : T.kind (T.n - (m + 1)) = 0
        · rw [if_pos k0, eg] at q2 ⊢
          have nb : ¬ 0 < tIns T.2 (T.n - (m + 1)) (nI G) := fun e => q2 ((tSet_has hG).mpr e)
          have ah : ∀ a b, a < 6 → b < 6 → (cAh T a b (T.n - (m + 1)) ↔ (b = G ∧ 0 < tIns T.2 (T.n - (m + 1)) (nI a))) := by
            intro a b ha hb
            constructor
            · intro g
              have : G = b := (zeq (by omega) (by omega)).mp (eg.symm.trans g.2.1)
              exact ⟨this.symm, g.2.2.1⟩
            · intro g
              obtain ⟨g1, g2⟩ := g
              subst g1
              exact ⟨k0, eg, g2, nb⟩
          -- the gates inside
          have lq : ∀ u, u ≤ 6 → ∀ ρ2, cNo13 ρ ρ2 → (∀ a, a < 6 → ∃ v, v < 64 ∧ ρ2 13 a = nI v ∧ ∀ b, b < 6 → (v.testBit b = true ↔ ((D a b ∨ ∃ k, k < T.n - (m + 1) ∧ cAh T a b k) ∨ (a < 6 - u ∧ cAh T a b (T.n - (m + 1)))))) → Ev (d + 3) c s 10 41 [some (zr (some (0, 0, 12))), some (zr (some (3, n, 0))), some (zi (nI (T.n - (m + 1)))), some (zi (nI G)), some (zi (tSet T (T.n - (m + 1)))), some (zi (nI (6 - u)))] [] (OM X 0 0 ρ2 l) Q := by
            intro u
            induction u with
            | zero =>
              intro _ ρ2 n2 h3
              refine g10_41 (d := d + 2) hc (by omega) (fun _ => ?_) (fun g => by omega) (fun g => by omega) (fun g => by omega) (fun g => by omega)
              rw [e1]
              refine ih (by omega) ρ2 _ _ _ n2 (fun a ha => ?_)
              obtain ⟨v, hv, ev, hb⟩ := h3 a ha
              refine ⟨v, hv, ev, fun b hb6 => (hb b hb6).trans ⟨fun g => ?_, fun g => ?_⟩⟩
              · rcases g with (g | ⟨k, g1, g2⟩) | ⟨_, g2⟩
                · exact Or.inl g
                · exact Or.inr ⟨k, by omega, g2⟩
                · exact Or.inr ⟨_, by omega, g2⟩
              · rcases g with g | ⟨k, g1, g2⟩
                · exact Or.inl (Or.inl g)
                · by_cases e : k = T.n - (m + 1)
                  · subst e; exact Or.inr ⟨by omega, g2⟩
                  · exact Or.inl (Or.inr ⟨k, by omega, g2⟩)
            | succ u iu =>
              intro hu ρ2 n2 h3
              have ea : 6 - (u + 1) + 1 = 6 - u := by omega
              refine g10_41 (d := d + 2) hc (by omega) (fun g => by omega) (fun _ _ => by omega) (fun _ _ => by omega) (fun _ q => ?_) (fun _ q => ?_)
              · rw [ea]
                have q := (tSet_has (by omega)).mp q
                obtain ⟨v, hv, ev, hb⟩ := h3 (6 - (u + 1)) (by omega)
                have ob := or_bit6 G hG v hv
                rw [ev, ob.1]
                refine iu (by omega) _ (fun q i hq => by rw [zu_i_ne (by omega)]; exact n2 q i hq) (fun a ha => ?_)
                by_cases e : a = 6 - (u + 1)
                · subst e
                  refine ⟨v ||| 2 ^ G, ob.2, zu_e, fun b hb6 => ?_⟩
                  rw [Nat.testBit_or, Bool.or_eq_true, hb b hb6, Nat.testBit_two_pow, decide_eq_true_eq]
                  constructor
                  · intro g
                    rcases g with (g | g) | g
                    · exact Or.inl g
                    · omega
                    · exact Or.inr ⟨by omega, (ah _ b (by omega) hb6).mpr ⟨g.symm, q⟩⟩
                  · intro g
                    rcases g with g | ⟨_, g⟩
                    · exact Or.inl (Or.inl g)
                    · exact Or.inr ((ah _ b (by omega) hb6).mp g).1.symm
                · obtain ⟨v2, hv2, ev2, hb2⟩ := h3 a ha
                  refine ⟨v2, hv2, by rw [zu_i_ne (by omega)]; exact ev2, fun b hb6 => (hb2 b hb6).trans ⟨fun g => ?_, fun g => ?_⟩⟩
                  · rcases g with g | ⟨g1, g2⟩
                    · exact Or.inl g
                    · exact Or.inr ⟨by omega, g2⟩
                  · rcases g with g | ⟨g1, g2⟩
                    · exact Or.inl g
                    · exact Or.inr ⟨by omega, g2⟩
              · rw [ea]
                have q : ¬ 0 < tIns T.2 (T.n - (m + 1)) (nI (6 - (u + 1))) := fun e => q ((tSet_has (by omega)).mpr e)
                refine iu (by omega) ρ2 n2 (fun a ha => ?_)
                obtain ⟨v2, hv2, ev2, hb2⟩ := h3 a ha
                refine ⟨v2, hv2, ev2, fun b hb6 => (hb2 b hb6).trans ⟨fun g => ?_, fun g => ?_⟩⟩
                · rcases g with g | ⟨g1, g2⟩
                  · exact Or.inl g
                  · exact Or.inr ⟨by omega, g2⟩
                · rcases g with g | ⟨g1, g2⟩
                  · exact Or.inl g
                  · by_cases e : a = 6 - (u + 1)
                    · subst e; exact absurd ((ah _ b (by omega) hb6).mp g2).2 q
                    · exact Or.inr ⟨by omega, g2⟩
          have h0 := lq 6 (Nat.le_refl _) ρ' h1 (fun a ha => by
            obtain ⟨v, hv, ev, hb⟩ := h2 a ha
            exact ⟨v, hv, ev, fun b hb6 => (hb b hb6).trans ⟨fun g => Or.inl g, fun g => by rcases g with g | ⟨g, _⟩; exact g; omega⟩⟩)
          exact h0
        · rw [if_neg k0] at q1
          exact absurd rfl q1
  have h0 := lp T.n (Nat.le_refl _) ρ none none none (fun _ _ _ => rfl) (by
    rw [Nat.sub_self]
    intro a ha
    obtain ⟨v, hv, ev, hb⟩ := h a ha
    exact ⟨v, hv, ev, fun b hb6 => (hb b hb6).trans ⟨fun g => Or.inl g, fun g => by rcases g with g | ⟨k, g, _⟩; exact g; omega⟩⟩)
  rw [Nat.sub_self] at h0
  exact h0
/-- the class's order tells which gates are ahead -/
def cOr (ρ : Nat → Nat → Int32) (B : Nat → Nat) : Prop := ∀ a, a < 6 → B a < 64 ∧ ρ 13 a = nI (B a)
theorem rBeN_bit (τ : Nat → Nat → Int32) (a : Nat) : ∀ n b, b < n → ((rBeN τ a n).testBit b = true ↔ rAh τ a b) := by
  intro n
  induction n with
  | zero => intro b hb; exact absurd hb (Nat.not_lt_zero b)
  | succ n ih =>
    intro b hb
    have hlt := rBeN_lt τ a n
    unfold rBeN
    by_cases h : rAh τ a n
    · have e2 := Nat.two_pow_add_eq_or_of_lt hlt 1
      rw [Nat.mul_one] at e2
      rw [if_pos h, Nat.add_comm, e2]
      rw [Nat.testBit_or, Bool.or_eq_true, Nat.testBit_two_pow, decide_eq_true_eq]
      by_cases e : b = n
      · subst e; exact ⟨fun _ => h, fun _ => Or.inl rfl⟩
      · rw [ih b (by omega)]
        exact ⟨fun g => by rcases g with g | g; exact absurd g.symm e; exact g, fun g => Or.inr g⟩
    · rw [if_neg h, Nat.add_zero]
      by_cases e : b = n
      · subst e
        rw [Nat.testBit_lt_two_pow hlt]
        exact ⟨fun g => (by cases g), fun g => absurd g h⟩
      · exact ih b (by omega)
theorem bit6_eq {u v : Nat} (hu : u < 64) (hv : v < 64) (h : ∀ b, b < 6 → (u.testBit b = true ↔ v.testBit b = true)) : u = v := by
  apply Nat.eq_of_testBit_eq
  intro b
  by_cases hb : b < 6
  · have := h b hb
    cases h1 : u.testBit b <;> cases h2 : v.testBit b <;> simp_all
  · have e : ∀ x, x < 64 → x.testBit b = false := fun x hx => Nat.testBit_lt_two_pow (Nat.lt_of_lt_of_le hx (show 2 ^ 6 ≤ 2 ^ b from Nat.pow_le_pow_right (by decide) (by omega)))
    rw [e u hu, e v hv]
theorem zTrR_ah {τ : Nat → Nat → Int32} {t : Nat} {T : tT} (hz : zTrR τ t T) (hT : tOk T) (a b : Nat) (hb : b < 6) (ha : a < 6) (k : Nat) : (k < T.n ∧ cAh T a b k) ↔ (k < rM τ t ∧ rAhC τ a b t k) := by
  have eM : rM τ t = T.n := by unfold rM; rw [hz.1]; exact nI_clamp (by have := hT.1; omega)
  rw [eM]
  refine and_congr_right (fun hk => ?_)
  have hr := hz.2.1 k hk
  have i1 := rIns_t hz (nI a) k (by omega)
  have i2 := rIns_t hz (nI b) k (by omega)
  obtain ⟨m, hm, em⟩ := hT.2.2.2 k (by omega) b hb
  have h30 := hT.1
  unfold cAh rAhC
  rw [hr.1, hr.2.1, i1, i2]
  refine and_congr_right (fun _ => and_congr_right (fun _ => and_congr_right (fun _ => ?_)))
  rw [em]
  constructor
  · intro g
    have : m = 0 := by
      rcases Nat.eq_zero_or_pos m with e | e
      · exact e
      · exact absurd ((zlt_iff (a := 0) (by decide) (by omega)).mpr e) g
    rw [this]; rfl
  · intro g e
    rw [g] at e
    exact absurd e (by decide)
theorem sp_cRd {d c s bb : Nat} {τ : Nat → Nat → Int32} {X : zM} {ρ : Nat → Nat → Int32} {l : Nat → Nat → Int64} {Q : Option zV → zM → Prop} (hP : cPs X 0 bb τ) (hO : cOk τ) (k : ∀ ρ', cNo13 ρ ρ' → cOr ρ' (fun a => rBeN τ a 6) → Q none (OM X 0 0 ρ' l)) : Ev (d + 4) c s 7 0 [some (zr (some (0, 0, 12))), some (zr (some (2, 0, 0))), none] [] (OM X 0 0 ρ l) Q := by
  refine g7_0 (sp_cFillB (fun ρ1 f1 f2 => g7_8 ?_))
  have lp : ∀ m, m ≤ 4 → ∀ ρ', cNo13 ρ ρ' → cAi ρ' (fun a b => ∃ t, t < 4 - m ∧ ∃ k, k < rM τ t ∧ rAhC τ a b t k) → Ev (d + 4) c s 7 10 [some (zr (some (0, 0, 12))), some (zr (some (2, 0, 0))), some (zi (nI (4 - m)))] [] (OM X 0 0 ρ' l) Q := by
    intro m
    induction m with
    | zero =>
      intro _ ρ' n1 h1
      refine g7_10e (k ρ' n1 (fun a ha => ⟨rBeN_lt τ a 6, ?_⟩))
      obtain ⟨v, hv, ev, hb⟩ := h1 a ha
      rw [ev]
      congr 1
      refine bit6_eq hv (rBeN_lt τ a 6) (fun b hb6 => ?_)
      rw [hb b hb6, rBeN_bit τ a 6 b hb6]
      constructor
      · intro g
        refine ⟨fun e => ?_, g⟩
        obtain ⟨t, _, k, _, _, _, g3, g4⟩ := g
        rw [e, g4] at g3
        exact absurd g3 (by decide)
      · exact fun g => g.2
    | succ m ih =>
      intro hm ρ' n1 h1
      obtain ⟨n, T, p1, p2, p3, p4⟩ := hP (4 - (m + 1)) (by omega)
      have e1 : 4 - (m + 1) + 1 = 4 - m := by omega
      refine g7_10 (d := d + 3) p1 p2 (by omega) (fun g => by omega) (fun g => g) (fun _ => sp_cRdT (d := d) p2 p4 h1 (fun ρ2 n2 h2 => ?_))
      refine g7_24 ?_
      rw [e1]
      refine ih (by omega) ρ2 (fun q i hq => (n2 q i hq).trans (n1 q i hq)) (fun a ha => ?_)
      obtain ⟨v, hv, ev, hb⟩ := h2 a ha
      refine ⟨v, hv, ev, fun b hb6 => (hb b hb6).trans ?_⟩
      have tr := zTrR_ah p3 p4 a b hb6 ha
      constructor
      · intro g
        rcases g with ⟨t, g1, g2⟩ | ⟨k, g1, g2⟩
        · exact ⟨t, by omega, g2⟩
        · have u := (tr k).mp ⟨g1, g2⟩
          exact ⟨4 - (m + 1), by omega, k, u.1, u.2⟩
      · intro ⟨t, g1, k, g2, g3⟩
        by_cases e : t = 4 - (m + 1)
        · subst e
          obtain ⟨u1, u2⟩ := (tr k).mpr ⟨g2, g3⟩
          exact Or.inr ⟨k, u1, u2⟩
        · exact Or.inl ⟨t, by omega, k, g2, g3⟩
  have z0 : cAi ρ1 (fun a b => ∃ t, t < 0 ∧ ∃ k, k < rM τ t ∧ rAhC τ a b t k) := fun a ha => ⟨0, by decide, f1 a ha, fun b _ => by rw [Nat.zero_testBit]; exact ⟨fun g => (by cases g), fun ⟨t, g, _⟩ => absurd g (Nat.not_lt_zero t)⟩⟩
  exact lp 4 (Nat.le_refl _) ρ1 f2 z0
