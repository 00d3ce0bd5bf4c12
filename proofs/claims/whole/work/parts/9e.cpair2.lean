/-! the class: all ways of two tasks, to the end; the odds -/
theorem g245_0a {d c s : Nat} {v : Int64} {X : zM} {ρ : Nat → Nat → Int32} {l : Nat → Nat → Int64} {Q : Option zV → zM → Prop}
    (h1 : Ev d c s 245 6 [some (zr (some (0, 0, 15))), some (zl v), none, some (zi (nI 0)), some (zi (nI 31))] [] (OM X 0 0 ρ l) Q) : Ev d c s 245 0 [some (zr (some (0, 0, 15))), some (zl v), none, none, none] [] (OM X 0 0 ρ l) Q := by
  refine Ew.op (st' := zi (nI 0) :: _) f245_0 rfl rfl ?_
  refine Ew.sr (ls' := [some (zr (some (0, 0, 15))), some (zl v), none, some (zi (nI 0)), none]) f245_1 rfl rfl (Nat.le_of_ble_eq_true rfl) rfl rfl ?_
  refine Ew.ld f245_2 rfl rfl rfl rfl ?_
  refine Ew.alen (n := 31) f245_3 (Nat.le_of_ble_eq_true rfl) rfl rfl ?_
  refine Ew.sr (ls' := [some (zr (some (0, 0, 15))), some (zl v), none, some (zi (nI 0)), some (zi (nI 31))]) f245_4 rfl rfl (Nat.le_of_ble_eq_true rfl) rfl rfl ?_
  exact h1
theorem g245_6a {d c s : Nat} {v : Int64} {k : Nat} {X : zM} {ρ : Nat → Nat → Int32} {l : Nat → Nat → Int64} {Q : Option zV → zM → Prop} (nb_k : k < 5000)
    (h1 : (31 ≤ k) → Q none (OM X 0 0 ρ l))
    (b1 : (k < 31) → k < 31)
    (h2 : (k < 31) → Ev d c s 245 6 [some (zr (some (0, 0, 15))), some (zl v), none, some (zi (nI (k + 1))), some (zi (nI 31))] [] (OM X 0 0 ρ (zu l 15 k v)) Q) : Ev d c s 245 6 [some (zr (some (0, 0, 15))), some (zl v), none, some (zi (nI k)), some (zi (nI 31))] [] (OM X 0 0 ρ l) Q := by
  refine Ew.ld f245_6 rfl rfl rfl rfl ?_
  refine Ew.ld f245_7 rfl rfl rfl rfl ?_
  refine Ew.icmp f245_9 rfl rfl (fun c1 => ?_) (fun c1 => ?_)
  · refine Ew.vret f245_22 ?_
    exact h1 ((zle_iff (by decide) nb_k).mp c1)
  · refine Ew.ld f245_12 rfl rfl rfl rfl ?_
    refine Ew.ld f245_13 rfl rfl rfl rfl ?_
    refine Ew.ld f245_14 rfl rfl rfl rfl ?_
    refine Ew.lastnO f245_15 rfl (b1 (Nat.not_le.mp fun e => c1 ((zle_iff (by decide) nb_k).mpr e))) (Nat.le_of_ble_eq_true rfl) rfl ?_
    refine Ew.iinc (v := nI (k + 1)) (ls' := [some (zr (some (0, 0, 15))), some (zl v), none, some (zi (nI (k + 1))), some (zi (nI 31))]) f245_16 rfl (nI_1 _) rfl rfl ?_
    refine Ew.goto f245_19 rfl ?_
    exact h2 (Nat.not_le.mp fun e => c1 ((zle_iff (by decide) nb_k).mpr e))
theorem g245_0b {d c s : Nat} {v : Int64} {X : zM} {ρ : Nat → Nat → Int32} {l : Nat → Nat → Int64} {Q : Option zV → zM → Prop}
    (h1 : Ev d c s 245 6 [some (zr (some (0, 0, 16))), some (zl v), none, some (zi (nI 0)), some (zi (nI 31))] [] (OM X 0 0 ρ l) Q) : Ev d c s 245 0 [some (zr (some (0, 0, 16))), some (zl v), none, none, none] [] (OM X 0 0 ρ l) Q := by
  refine Ew.op (st' := zi (nI 0) :: _) f245_0 rfl rfl ?_
  refine Ew.sr (ls' := [some (zr (some (0, 0, 16))), some (zl v), none, some (zi (nI 0)), none]) f245_1 rfl rfl (Nat.le_of_ble_eq_true rfl) rfl rfl ?_
  refine Ew.ld f245_2 rfl rfl rfl rfl ?_
  refine Ew.alen (n := 31) f245_3 (Nat.le_of_ble_eq_true rfl) rfl rfl ?_
  refine Ew.sr (ls' := [some (zr (some (0, 0, 16))), some (zl v), none, some (zi (nI 0)), some (zi (nI 31))]) f245_4 rfl rfl (Nat.le_of_ble_eq_true rfl) rfl rfl ?_
  exact h1
theorem g245_6b {d c s : Nat} {v : Int64} {k : Nat} {X : zM} {ρ : Nat → Nat → Int32} {l : Nat → Nat → Int64} {Q : Option zV → zM → Prop} (nb_k : k < 5000)
    (h1 : (31 ≤ k) → Q none (OM X 0 0 ρ l))
    (b1 : (k < 31) → k < 31)
    (h2 : (k < 31) → Ev d c s 245 6 [some (zr (some (0, 0, 16))), some (zl v), none, some (zi (nI (k + 1))), some (zi (nI 31))] [] (OM X 0 0 ρ (zu l 16 k v)) Q) : Ev d c s 245 6 [some (zr (some (0, 0, 16))), some (zl v), none, some (zi (nI k)), some (zi (nI 31))] [] (OM X 0 0 ρ l) Q := by
  refine Ew.ld f245_6 rfl rfl rfl rfl ?_
  refine Ew.ld f245_7 rfl rfl rfl rfl ?_
  refine Ew.icmp f245_9 rfl rfl (fun c1 => ?_) (fun c1 => ?_)
  · refine Ew.vret f245_22 ?_
    exact h1 ((zle_iff (by decide) nb_k).mp c1)
  · refine Ew.ld f245_12 rfl rfl rfl rfl ?_
    refine Ew.ld f245_13 rfl rfl rfl rfl ?_
    refine Ew.ld f245_14 rfl rfl rfl rfl ?_
    refine Ew.lastnO f245_15 rfl (b1 (Nat.not_le.mp fun e => c1 ((zle_iff (by decide) nb_k).mpr e))) (Nat.le_of_ble_eq_true rfl) rfl ?_
    refine Ew.iinc (v := nI (k + 1)) (ls' := [some (zr (some (0, 0, 16))), some (zl v), none, some (zi (nI (k + 1))), some (zi (nI 31))]) f245_16 rfl (nI_1 _) rfl rfl ?_
    refine Ew.goto f245_19 rfl ?_
    exact h2 (Nat.not_le.mp fun e => c1 ((zle_iff (by decide) nb_k).mpr e))
theorem g19_0 {d c s : Nat} {n1 n2 : Nat}  {X : zM} {ρ : Nat → Nat → Int32} {l : Nat → Nat → Int64} {Q : Option zV → zM → Prop} (s1 : X.2.2.2.1 3 n1 0 = (9, 0)) (s2 : X.2.2.2.1 3 n2 0 = (9, 0)) 
    (h1 : Ev d 0 0 245 0 [some (zr (some (0, 0, 15))), some (zl (lN 0)), none, none, none] [] (OM (XP (XP X 0 0 14 6 (some (3, n1, 0))) 0 0 14 7 (some (3, n2, 0))) 0 0 (zu ρ 14 5 ((-4))) (zu (zu (zu l 14 2 (lN 0)) 14 3 (lN 0)) 14 4 (lN 0))) (fun r M' => Ev (d + 1) c s 19 39 [some (zr (some (0, 0, 14))), some (zr (some (3, n1, 0))), some (zr (some (3, n2, 0))), none, none] (zpush r []) M' Q)) : Ev (d + 1) c s 19 0 [some (zr (some (0, 0, 14))), some (zr (some (3, n1, 0))), some (zr (some (3, n2, 0))), none, none] [] (OM X 0 0 ρ l) Q := by
  refine Ew.ld f19_0 rfl rfl rfl rfl ?_
  refine Ew.ld f19_1 rfl rfl rfl rfl ?_
  refine Ew.putp f19_2 rfl rfl ?_
  rw [zpj_up (r := 0) (j := 0) (q := 14) (n := 6) (fun _ => rfl)]
  show Ev (d + 1) c s 19 5 [some (zr (some (0, 0, 14))), some (zr (some (3, n1, 0))), some (zr (some (3, n2, 0))), none, none] [] (OM (XP X 0 0 14 6 (some (3, n1, 0))) 0 0 ρ l) Q
  refine Ew.ld f19_5 rfl rfl rfl rfl ?_
  refine Ew.ld f19_6 rfl rfl rfl rfl ?_
  refine Ew.putp f19_7 rfl rfl ?_
  rw [zpj_up (r := 0) (j := 0) (q := 14) (n := 7) (fun _ => rfl)]
  show Ev (d + 1) c s 19 10 [some (zr (some (0, 0, 14))), some (zr (some (3, n1, 0))), some (zr (some (3, n2, 0))), none, none] [] (OM (XP (XP X 0 0 14 6 (some (3, n1, 0))) 0 0 14 7 (some (3, n2, 0))) 0 0 ρ l) Q
  refine Ew.ld f19_10 rfl rfl rfl rfl ?_
  refine Ew.op (st' := zl (lN 0) :: _) f19_11 rfl rfl ?_
  refine Ew.putlO f19_12 rfl rfl ?_
  refine Ew.ld f19_15 rfl rfl rfl rfl ?_
  refine Ew.op (st' := zl (lN 0) :: _) f19_16 rfl rfl ?_
  refine Ew.putlO f19_17 rfl rfl ?_
  refine Ew.ld f19_20 rfl rfl rfl rfl ?_
  refine Ew.op (st' := zl (lN 0) :: _) f19_21 rfl rfl ?_
  refine Ew.putlO f19_22 rfl rfl ?_
  refine Ew.ld f19_25 rfl rfl rfl rfl ?_
  refine Ew.op (st' := zi ((-4)) :: _) f19_26 rfl rfl ?_
  refine Ew.putiO f19_28 rfl rfl ?_
  refine Ew.ld f19_31 rfl rfl rfl rfl ?_
  refine Ew.getp (v := some (0, 0, 15)) f19_32 rfl rfl rfl ?_
  refine Ew.op (st' := zl (lN 0) :: _) f19_35 rfl rfl ?_
  refine Ew.call0 (ls0 := [some (zr (some (0, 0, 15))), some (zl (lN 0)), none, none, none]) f19_36 rfl (Nat.le_of_ble_eq_true rfl) rfl rfl (Nat.le_of_ble_eq_true rfl) trivial (Nat.le_of_ble_eq_true rfl) rfl rfl ?_
  exact h1
theorem g19_39 {d c s : Nat} {n1 n2 : Nat}  {X : zM} {ρ : Nat → Nat → Int32} {l : Nat → Nat → Int64} {Q : Option zV → zM → Prop} (s1 : X.2.2.2.1 3 n1 0 = (9, 0)) (s2 : X.2.2.2.1 3 n2 0 = (9, 0)) 
    (h1 : Ev d 0 0 245 0 [some (zr (some (0, 0, 16))), some (zl (lN 0)), none, none, none] [] (OM X 0 0 ρ l) (fun r M' => Ev (d + 1) c s 19 47 [some (zr (some (0, 0, 14))), some (zr (some (3, n1, 0))), some (zr (some (3, n2, 0))), none, none] (zpush r []) M' Q)) : Ev (d + 1) c s 19 39 [some (zr (some (0, 0, 14))), some (zr (some (3, n1, 0))), some (zr (some (3, n2, 0))), none, none] [] (OM X 0 0 ρ l) Q := by
  refine Ew.ld f19_39 rfl rfl rfl rfl ?_
  refine Ew.getp (v := some (0, 0, 16)) f19_40 rfl rfl rfl ?_
  refine Ew.op (st' := zl (lN 0) :: _) f19_43 rfl rfl ?_
  refine Ew.call0 (ls0 := [some (zr (some (0, 0, 16))), some (zl (lN 0)), none, none, none]) f19_44 rfl (Nat.le_of_ble_eq_true rfl) rfl rfl (Nat.le_of_ble_eq_true rfl) trivial (Nat.le_of_ble_eq_true rfl) rfl rfl ?_
  exact h1
theorem g19_47 {d c s : Nat} {n1 n2 : Nat}  {X : zM} {ρ : Nat → Nat → Int32} {l : Nat → Nat → Int64} {Q : Option zV → zM → Prop} (s1 : X.2.2.2.1 3 n1 0 = (9, 0)) (s2 : X.2.2.2.1 3 n2 0 = (9, 0)) 
    (h1 : Ev d c s 19 65 [some (zr (some (0, 0, 14))), some (zr (some (3, n1, 0))), some (zr (some (3, n2, 0))), some (zi (nI 0)), none] [] (OM X 0 0 ρ (zu (zu l 15 0 (lN 1)) 16 0 ((1152921504606846976)))) Q) : Ev d c s 19 47 [some (zr (some (0, 0, 14))), some (zr (some (3, n1, 0))), some (zr (some (3, n2, 0))), none, none] [] (OM X 0 0 ρ l) Q := by
  refine Ew.ld f19_47 rfl rfl rfl rfl ?_
  refine Ew.getp (v := some (0, 0, 15)) f19_48 rfl rfl rfl ?_
  refine Ew.op (st' := zi (nI 0) :: _) f19_51 rfl rfl ?_
  refine Ew.op (st' := zl (lN 1) :: _) f19_52 rfl rfl ?_
  refine Ew.lastnO f19_53 rfl (show 0 < 31 by decide) (Nat.le_of_ble_eq_true rfl) rfl ?_
  refine Ew.ld f19_54 rfl rfl rfl rfl ?_
  refine Ew.getp (v := some (0, 0, 16)) f19_55 rfl rfl rfl ?_
  refine Ew.op (st' := zi (nI 0) :: _) f19_58 rfl rfl ?_
  refine Ew.op (st' := zl ((1152921504606846976)) :: _) f19_59 rfl rfl ?_
  refine Ew.lastnO f19_62 rfl (show 0 < 31 by decide) (Nat.le_of_ble_eq_true rfl) rfl ?_
  refine Ew.op (st' := zi (nI 0) :: _) f19_63 rfl rfl ?_
  refine Ew.sr (ls' := [some (zr (some (0, 0, 14))), some (zr (some (3, n1, 0))), some (zr (some (3, n2, 0))), some (zi (nI 0)), none]) f19_64 rfl rfl (Nat.le_of_ble_eq_true rfl) rfl rfl ?_
  exact h1
theorem g19_65 {d c s : Nat} {n1 n2 bb : Nat} {T1 T2 : tT} {p : Nat} {o4 : Option zV}  {X : zM} {ρ : Nat → Nat → Int32} {l : Nat → Nat → Int64} {Q : Option zV → zM → Prop} (e1 : cTr X.1 X.2.2.1 X.2.2.2.1 bb n1 T1) (e2 : cTr X.1 X.2.2.1 X.2.2.2.1 bb n2 T2) (p1 : X.2.2.1 0 0 14 6 = some (3, n1, 0)) (p2 : X.2.2.1 0 0 14 7 = some (3, n2, 0)) 
    (b1 : cTr X.1 X.2.2.1 X.2.2.2.1 bb n1 T1)
    (h1 : ((nI T1.n) < (nI p)) → Q none (OM X 0 0 ρ l))
    (h2 : ((nI p) ≤ (nI T1.n)) → Ev (d + 1) c s 19 76 [some (zr (some (0, 0, 14))), some (zr (some (3, n1, 0))), some (zr (some (3, n2, 0))), some (zi (nI p)), some (zi (nI 0))] [] (OM X 0 0 ρ l) Q) : Ev (d + 1) c s 19 65 [some (zr (some (0, 0, 14))), some (zr (some (3, n1, 0))), some (zr (some (3, n2, 0))), some (zi (nI p)), o4] [] (OM X 0 0 ρ l) Q := by
  refine Ew.ld f19_65 rfl rfl rfl rfl ?_
  refine Ew.ld f19_66 rfl rfl rfl rfl ?_
  refine Ew.call0 (ls0 := [some (zr (some (3, n1, 0)))]) f19_67 rfl (Nat.le_of_ble_eq_true rfl) rfl rfl (Nat.le_of_ble_eq_true rfl) (by show (X.2.2.2.1 3 n1 0).1 = _; rw [e1.sh]) (Nat.le_of_ble_eq_true rfl) rfl rfl ?_
  refine sp_tLen b1 ?_
  show Ev (d + 1) c s 19 70 [some (zr (some (0, 0, 14))), some (zr (some (3, n1, 0))), some (zr (some (3, n2, 0))), some (zi (nI p)), o4] [zi (nI T1.n), zi (nI p)] (OM X 0 0 ρ l) Q
  refine Ew.icmp f19_70 rfl rfl (fun c1 => ?_) (fun c1 => ?_)
  · refine Ew.vret f19_116 ?_
    exact h1 c1
  · refine Ew.op (st' := zi (nI 0) :: _) f19_73 rfl rfl ?_
    refine Ew.sr (ls' := [some (zr (some (0, 0, 14))), some (zr (some (3, n1, 0))), some (zr (some (3, n2, 0))), some (zi (nI p)), some (zi (nI 0))]) f19_74 rfl rfl (Nat.le_of_ble_eq_true rfl) rfl rfl ?_
    exact h2 (Int32.not_lt.mp c1)
theorem g19_76 {d c s : Nat} {n1 n2 bb : Nat} {T1 T2 : tT} {p q : Nat} {X : zM} {ρ : Nat → Nat → Int32} {l : Nat → Nat → Int64} {Q : Option zV → zM → Prop} (e1 : cTr X.1 X.2.2.1 X.2.2.2.1 bb n1 T1) (e2 : cTr X.1 X.2.2.1 X.2.2.2.1 bb n2 T2) (p1 : X.2.2.1 0 0 14 6 = some (3, n1, 0)) (p2 : X.2.2.1 0 0 14 7 = some (3, n2, 0)) 
    (b1 : cTr X.1 X.2.2.1 X.2.2.2.1 bb n2 T2)
    (h1 : ((nI T2.n) < (nI q)) → Ev (d + 1) c s 19 65 [some (zr (some (0, 0, 14))), some (zr (some (3, n1, 0))), some (zr (some (3, n2, 0))), some (zi (nI (p + 1))), some (zi (nI q))] [] (OM X 0 0 ρ l) Q)
    (b2 : ((nI q) ≤ (nI T2.n)) → q < 31)
    (h2 : ((nI q) ≤ (nI T2.n)) → ((lg_cmp (l 15 q) (lN 0)) = 0) → Ev (d + 1) c s 19 76 [some (zr (some (0, 0, 14))), some (zr (some (3, n1, 0))), some (zr (some (3, n2, 0))), some (zi (nI p)), some (zi (nI (q + 1)))] [] (OM X 0 0 ρ l) Q)
    (h3 : ((nI q) ≤ (nI T2.n)) → (¬ (lg_cmp (l 15 q) (lN 0)) = 0) → Ev d 0 0 20 0 [some (zr (some (0, 0, 14))), some (zi (nI p)), some (zi (nI q)), none, none, none, none, none, none, none, none] [] (OM X 0 0 ρ l) (fun r M' => Ev (d + 1) c s 19 104 [some (zr (some (0, 0, 14))), some (zr (some (3, n1, 0))), some (zr (some (3, n2, 0))), some (zi (nI p)), some (zi (nI q))] (zpush r []) M' Q)) : Ev (d + 1) c s 19 76 [some (zr (some (0, 0, 14))), some (zr (some (3, n1, 0))), some (zr (some (3, n2, 0))), some (zi (nI p)), some (zi (nI q))] [] (OM X 0 0 ρ l) Q := by
  refine Ew.ld f19_76 rfl rfl rfl rfl ?_
  refine Ew.ld f19_78 rfl rfl rfl rfl ?_
  refine Ew.call0 (ls0 := [some (zr (some (3, n2, 0)))]) f19_79 rfl (Nat.le_of_ble_eq_true rfl) rfl rfl (Nat.le_of_ble_eq_true rfl) (by show (X.2.2.2.1 3 n2 0).1 = _; rw [e2.sh]) (Nat.le_of_ble_eq_true rfl) rfl rfl ?_
  refine sp_tLen b1 ?_
  show Ev (d + 1) c s 19 82 [some (zr (some (0, 0, 14))), some (zr (some (3, n1, 0))), some (zr (some (3, n2, 0))), some (zi (nI p)), some (zi (nI q))] [zi (nI T2.n), zi (nI q)] (OM X 0 0 ρ l) Q
  refine Ew.icmp f19_82 rfl rfl (fun c1 => ?_) (fun c1 => ?_)
  · refine Ew.iinc (v := nI (p + 1)) (ls' := [some (zr (some (0, 0, 14))), some (zr (some (3, n1, 0))), some (zr (some (3, n2, 0))), some (zi (nI (p + 1))), some (zi (nI q))]) f19_110 rfl (nI_1 _) rfl rfl ?_
    refine Ew.goto f19_113 rfl ?_
    exact h1 c1
  · refine Ew.ld f19_85 rfl rfl rfl rfl ?_
    refine Ew.getp (v := some (0, 0, 15)) f19_86 rfl rfl rfl ?_
    refine Ew.ld f19_89 rfl rfl rfl rfl ?_
    refine Ew.laldnO f19_91 rfl (b2 (Int32.not_lt.mp c1)) (Nat.le_of_ble_eq_true rfl) rfl ?_
    refine Ew.op (st' := zl (lN 0) :: _) f19_92 rfl rfl ?_
    refine Ew.op (st' := zi (lg_cmp (l 15 q) (lN 0)) :: _) f19_93 rfl rfl ?_
    refine Ew.ifc f19_94 rfl rfl (fun c2 => ?_) (fun c2 => ?_)
    · refine Ew.iinc (v := nI (q + 1)) (ls' := [some (zr (some (0, 0, 14))), some (zr (some (3, n1, 0))), some (zr (some (3, n2, 0))), some (zi (nI p)), some (zi (nI (q + 1)))]) f19_104 rfl (nI_1 _) rfl rfl ?_
      refine Ew.goto f19_107 rfl ?_
      exact h2 (Int32.not_lt.mp c1) c2
    · refine Ew.ld f19_97 rfl rfl rfl rfl ?_
      refine Ew.ld f19_98 rfl rfl rfl rfl ?_
      refine Ew.ld f19_99 rfl rfl rfl rfl ?_
      refine Ew.call0 (ls0 := [some (zr (some (0, 0, 14))), some (zi (nI p)), some (zi (nI q)), none, none, none, none, none, none, none, none]) f19_101 rfl (Nat.le_of_ble_eq_true rfl) rfl rfl (Nat.le_of_ble_eq_true rfl) rfl (Nat.le_of_ble_eq_true rfl) rfl rfl ?_
      exact h3 (Int32.not_lt.mp c1) c2
theorem g19_104 {d c s : Nat} {n1 n2 p q : Nat} {X : zM} {ρ : Nat → Nat → Int32} {l : Nat → Nat → Int64} {Q : Option zV → zM → Prop} (s1 : X.2.2.2.1 3 n1 0 = (9, 0)) (s2 : X.2.2.2.1 3 n2 0 = (9, 0)) 
    (h1 : Ev d c s 19 76 [some (zr (some (0, 0, 14))), some (zr (some (3, n1, 0))), some (zr (some (3, n2, 0))), some (zi (nI p)), some (zi (nI (q + 1)))] [] (OM X 0 0 ρ l) Q) : Ev d c s 19 104 [some (zr (some (0, 0, 14))), some (zr (some (3, n1, 0))), some (zr (some (3, n2, 0))), some (zi (nI p)), some (zi (nI q))] [] (OM X 0 0 ρ l) Q := by
  refine Ew.iinc (v := nI (q + 1)) (ls' := [some (zr (some (0, 0, 14))), some (zr (some (3, n1, 0))), some (zr (some (3, n2, 0))), some (zi (nI p)), some (zi (nI (q + 1)))]) f19_104 rfl (nI_1 _) rfl rfl ?_
  refine Ew.goto f19_107 rfl ?_
  exact h1
theorem g22_0 {d c s : Nat} {X : zM} {ρ : Nat → Nat → Int32} {l : Nat → Nat → Int64} {Q : Option zV → zM → Prop}
    (h1 : Ev d c s 22 2 [some (zr (some (0, 0, 14))), some (zi (nI 0))] [] (OM X 0 0 ρ l) Q) : Ev d c s 22 0 [some (zr (some (0, 0, 14))), none] [] (OM X 0 0 ρ l) Q := by
  refine Ew.op (st' := zi (nI 0) :: _) f22_0 rfl rfl ?_
  refine Ew.sr (ls' := [some (zr (some (0, 0, 14))), some (zi (nI 0))]) f22_1 rfl rfl (Nat.le_of_ble_eq_true rfl) rfl rfl ?_
  exact h1
theorem g22_2 {d c s : Nat} {k : Nat} {X : zM} {ρ : Nat → Nat → Int32} {l : Nat → Nat → Int64} {Q : Option zV → zM → Prop} (nb_k : k < 5000)
    (h1 : (60 ≤ k) → Q (some (zi (nI k))) (OM X 0 0 ρ l))
    (h2 : (k < 60) → (¬ (lg_cmp (((l 14 4) >>> ((nI k).toInt64 &&& 63)) - ((l 14 4) >>> ((nI k).toInt64 &&& 63)) / (lN 2) * (lN 2)) (lN 0)) = 0) → Q (some (zi (nI k))) (OM X 0 0 ρ l))
    (h3 : (k < 60) → ((lg_cmp (((l 14 4) >>> ((nI k).toInt64 &&& 63)) - ((l 14 4) >>> ((nI k).toInt64 &&& 63)) / (lN 2) * (lN 2)) (lN 0)) = 0) → Ev d c s 22 2 [some (zr (some (0, 0, 14))), some (zi (nI (k + 1)))] [] (OM X 0 0 ρ l) Q) : Ev d c s 22 2 [some (zr (some (0, 0, 14))), some (zi (nI k))] [] (OM X 0 0 ρ l) Q := by
  refine Ew.ld f22_2 rfl rfl rfl rfl ?_
  refine Ew.op (st' := zi (nI 60) :: _) f22_3 rfl rfl ?_
  refine Ew.icmp f22_5 rfl rfl (fun c1 => ?_) (fun c1 => ?_)
  · refine Ew.ld f22_29 rfl rfl rfl rfl ?_
    refine Ew.ireti f22_30 ?_
    exact h1 ((zle_iff (by decide) nb_k).mp c1)
  · refine Ew.ld f22_8 rfl rfl rfl rfl ?_
    refine Ew.getlO f22_9 rfl rfl ?_
    refine Ew.ld f22_12 rfl rfl rfl rfl ?_
    refine Ew.op (st' := zl ((l 14 4) >>> ((nI k).toInt64 &&& 63)) :: _) f22_13 rfl rfl ?_
    refine Ew.op (st' := zl (lN 2) :: _) f22_14 rfl rfl ?_
    refine Ew.lrem f22_17 (by decide) rfl ?_
    refine Ew.op (st' := zl (lN 0) :: _) f22_18 rfl rfl ?_
    refine Ew.op (st' := zi (lg_cmp (((l 14 4) >>> ((nI k).toInt64 &&& 63)) - ((l 14 4) >>> ((nI k).toInt64 &&& 63)) / (lN 2) * (lN 2)) (lN 0)) :: _) f22_19 rfl rfl ?_
    refine Ew.ifc f22_20 rfl rfl (fun c2 => ?_) (fun c2 => ?_)
    · refine Ew.ld f22_29 rfl rfl rfl rfl ?_
      refine Ew.ireti f22_30 ?_
      exact h2 (Nat.not_le.mp fun e => c1 ((zle_iff (by decide) nb_k).mpr e)) c2
    · refine Ew.iinc (v := nI (k + 1)) (ls' := [some (zr (some (0, 0, 14))), some (zi (nI (k + 1)))]) f22_23 rfl (nI_1 _) rfl rfl ?_
      refine Ew.goto f22_26 rfl ?_
      exact h3 (Nat.not_le.mp fun e => c1 ((zle_iff (by decide) nb_k).mpr e)) (Classical.not_not.mp c2)
theorem g17_0 {d c s : Nat} {X : zM} {ρ : Nat → Nat → Int32} {l : Nat → Nat → Int64} {Q : Option zV → zM → Prop}
    (h1 : Ev d 0 0 22 0 [some (zr (some (0, 0, 14))), none] [] (OM X 0 0 ρ l) (fun r M' => Ev (d + 1) c s 17 8 [some (zr (some (0, 0, 14)))] (zpush r [zl (l 14 4)]) M' Q)) : Ev (d + 1) c s 17 0 [some (zr (some (0, 0, 14)))] [] (OM X 0 0 ρ l) Q := by
  refine Ew.ld f17_0 rfl rfl rfl rfl ?_
  refine Ew.getlO f17_1 rfl rfl ?_
  refine Ew.ld f17_4 rfl rfl rfl rfl ?_
  refine Ew.call0 (ls0 := [some (zr (some (0, 0, 14))), none]) f17_5 rfl (Nat.le_of_ble_eq_true rfl) rfl rfl (Nat.le_of_ble_eq_true rfl) rfl (Nat.le_of_ble_eq_true rfl) rfl rfl ?_
  exact h1
theorem g17_8 {d c s : Nat} {k : Nat} {u : Int64} {X : zM} {ρ : Nat → Nat → Int32} {l : Nat → Nat → Int64} {Q : Option zV → zM → Prop}
    (h1 : Q (some (zl (u >>> ((nI k).toInt64 &&& 63)))) (OM X 0 0 ρ l)) : Ev d c s 17 8 [some (zr (some (0, 0, 14)))] [zi (nI k), zl u] (OM X 0 0 ρ l) Q := by
  refine Ew.op (st' := zl (u >>> ((nI k).toInt64 &&& 63)) :: _) f17_8 rfl rfl ?_
  refine Ew.lret f17_9 ?_
  exact h1
theorem g18_0 {d c s : Nat} {X : zM} {ρ : Nat → Nat → Int32} {l : Nat → Nat → Int64} {Q : Option zV → zM → Prop}
    (h1 : Ev d 0 0 22 0 [some (zr (some (0, 0, 14))), none] [] (OM X 0 0 ρ l) (fun r M' => Ev (d + 1) c s 18 7 [some (zr (some (0, 0, 14)))] (zpush r [zl ((1152921504606846976))]) M' Q)) : Ev (d + 1) c s 18 0 [some (zr (some (0, 0, 14)))] [] (OM X 0 0 ρ l) Q := by
  refine Ew.op (st' := zl ((1152921504606846976)) :: _) f18_0 rfl rfl ?_
  refine Ew.ld f18_3 rfl rfl rfl rfl ?_
  refine Ew.call0 (ls0 := [some (zr (some (0, 0, 14))), none]) f18_4 rfl (Nat.le_of_ble_eq_true rfl) rfl rfl (Nat.le_of_ble_eq_true rfl) rfl (Nat.le_of_ble_eq_true rfl) rfl rfl ?_
  exact h1
theorem g18_7 {d c s : Nat} {k : Nat} {u : Int64} {X : zM} {ρ : Nat → Nat → Int32} {l : Nat → Nat → Int64} {Q : Option zV → zM → Prop}
    (h1 : Q (some (zl (u >>> ((nI k).toInt64 &&& 63)))) (OM X 0 0 ρ l)) : Ev d c s 18 7 [some (zr (some (0, 0, 14)))] [zi (nI k), zl u] (OM X 0 0 ρ l) Q := by
  refine Ew.op (st' := zl (u >>> ((nI k).toInt64 &&& 63)) :: _) f18_7 rfl rfl ?_
  refine Ew.lret f18_8 ?_
  exact h1
section
variable {d c s : Nat} {v : Int64} {X : zM} {ρ : Nat → Nat → Int32} {l : Nat → Nat → Int64} {Q : Option zV → zM → Prop}
theorem sp_cFlA (k : ∀ l', (∀ g, g ≤ 30 → l' 15 g = v) → (∀ q i, ¬ q = 15 → l' q i = l q i) → Q none (OM X 0 0 ρ l')) : Ev d c s 245 0 [some (zr (some (0, 0, 15))), some (zl v), none, none, none] [] (OM X 0 0 ρ l) Q := by
  refine g245_0a ?_
  have lp : ∀ m, m ≤ 31 → ∀ l', (∀ g, g < 31 - m → l' 15 g = v) → (∀ q i, ¬ q = 15 → l' q i = l q i) → Ev d c s 245 6 [some (zr (some (0, 0, 15))), some (zl v), none, some (zi (nI (31 - m))), some (zi (nI 31))] [] (OM X 0 0 ρ l') Q := by
    intro m
    induction m with
    | zero => exact fun _ l' h1 h2 => g245_6a (by omega) (fun _ => k l' (fun g hg => h1 g (by omega)) h2) (fun q => q) (fun q => absurd q (by omega))
    | succ m ih =>
      intro hm l' h1 h2
      refine g245_6a (by omega) (fun q => by omega) (fun q => q) (fun q => ?_)
      rw [show 31 - (m + 1) + 1 = 31 - m by omega]
      refine ih (by omega) _ (fun g hg => ?_) (fun q i hq => ?_)
      · by_cases e : g = 31 - (m + 1)
        · subst e; exact zu_s _ _ _ _
        · rw [zu_i_ne (by omega)]; exact h1 g (by omega)
      · rw [zu_i_ne (by omega)]; exact h2 q i hq
  exact lp 31 (Nat.le_refl _) l (fun g hg => absurd hg (by omega)) (fun _ _ _ => rfl)
theorem sp_cFlB (k : ∀ l', (∀ g, g ≤ 30 → l' 16 g = v) → (∀ q i, ¬ q = 16 → l' q i = l q i) → Q none (OM X 0 0 ρ l')) : Ev d c s 245 0 [some (zr (some (0, 0, 16))), some (zl v), none, none, none] [] (OM X 0 0 ρ l) Q := by
  refine g245_0b ?_
  have lp : ∀ m, m ≤ 31 → ∀ l', (∀ g, g < 31 - m → l' 16 g = v) → (∀ q i, ¬ q = 16 → l' q i = l q i) → Ev d c s 245 6 [some (zr (some (0, 0, 16))), some (zl v), none, some (zi (nI (31 - m))), some (zi (nI 31))] [] (OM X 0 0 ρ l') Q := by
    intro m
    induction m with
    | zero => exact fun _ l' h1 h2 => g245_6b (by omega) (fun _ => k l' (fun g hg => h1 g (by omega)) h2) (fun q => q) (fun q => absurd q (by omega))
    | succ m ih =>
      intro hm l' h1 h2
      refine g245_6b (by omega) (fun q => by omega) (fun q => q) (fun q => ?_)
      rw [show 31 - (m + 1) + 1 = 31 - m by omega]
      refine ih (by omega) _ (fun g hg => ?_) (fun q i hq => ?_)
      · by_cases e : g = 31 - (m + 1)
        · subst e; exact zu_s _ _ _ _
        · rw [zu_i_ne (by omega)]; exact h1 g (by omega)
      · rw [zu_i_ne (by omega)]; exact h2 q i hq
  exact lp 31 (Nat.le_refl _) l (fun g hg => absurd hg (by omega)) (fun _ _ _ => rfl)
end
theorem cTr_XP0 {X : zM} {bb n j q i : Nat} {T : tT} {v : Option zR} (h : cTr X.1 X.2.2.1 X.2.2.2.1 bb n T) : cTr (XP X 0 j q i v).1 (XP X 0 j q i v).2.2.1 (XP X 0 j q i v).2.2.2.1 bb n T := by
  have e : ∀ a b c, zup4 X.2.2.1 0 j q i v 3 a b c = X.2.2.1 3 a b c := fun a b c => zu4n _ _ (by omega)
  obtain ⟨h1, n1, n2, n3, n4, h2, h3, ⟨a1, a2, a3, a4⟩, h5⟩ := h
  exact ⟨h1, n1, n2, n3, n4, h2, h3, ⟨(e _ _ _).trans a1, (e _ _ _).trans a2, (e _ _ _).trans a3, (e _ _ _).trans a4⟩, h5⟩
theorem cGs0 {ρ : Nat → Nat → Int32} {l : Nat → Nat → Int64} (h1 : ∀ c, c ≤ 30 → l 15 c = lN 0) (h2 : ∀ c, c ≤ 30 → l 16 c = lN 0) (h3 : l 14 2 = lN 0 ∧ l 14 3 = lN 0 ∧ l 14 4 = lN 0) (h4 : ρ 14 5 = -4) : cGs ρ (zu (zu l 15 0 (lN 1)) 16 0 1152921504606846976) gS0 := by
  refine ⟨fun c hc => ?_, ?_, ?_, ?_, h4⟩
  · rw [zu_i_ne (by omega)]
    show _ = lN (zup (fun _ => 0) 0 1 c) ∧ _ = lN (zup (fun _ => 0) 0 (2 ^ 60) c)
    by_cases e : c = 0
    · subst e; rw [zu_s, zu_s, zup_s, zup_s]; exact ⟨rfl, by decide⟩
    · rw [zu_i_ne (by omega), zu_i_ne (by omega), zu_i_ne (by omega), zup_nn e, zup_nn e]; exact ⟨h1 c hc, h2 c hc⟩
  · rw [zu_i_ne (by omega), zu_i_ne (by omega)]; exact h3.1
  · rw [zu_i_ne (by omega), zu_i_ne (by omega)]; exact h3.2.1
  · rw [zu_i_ne (by omega), zu_i_ne (by omega)]; exact h3.2.2
theorem gRow_ns {C1 C2 : Nat → Nat → Bool} {n m p : Nat} {s : gS} (hp : p ≤ 30) (h : gNs s.2.2.2.2.2) : ∀ q, q ≤ 31 → gNs (gRow C1 C2 n m p q s).2.2.2.2.2 := by
  intro q
  induction q with
  | zero => exact fun _ => h
  | succ q ih => exact fun hq => gPl_ns hp (by omega) (ih (by omega))
theorem gAll_ns {C1 C2 : Nat → Nat → Bool} {n m : Nat} (hm : m ≤ 30) : ∀ p, p ≤ 31 → gNs (gAll C1 C2 n m p gS0).2.2.2.2.2 := by
  intro p
  induction p with
  | zero => exact fun _ => Or.inl rfl
  | succ p ih => exact fun hp => gRow_ns (by omega) (ih (by omega)) _ (by omega)
theorem sp_cWays {d c s n1 n2 bb : Nat} {T1 T2 : tT} {C1 C2 : Nat → Nat → Bool} {X : zM} {ρ : Nat → Nat → Int32} {l : Nat → Nat → Int64} {Q : Option zV → zM → Prop} (e1 : cTr X.1 X.2.2.1 X.2.2.2.1 bb n1 T1) (e2 : cTr X.1 X.2.2.1 X.2.2.2.1 bb n2 T2) (hC1 : ∀ p q, p ≤ T1.n → q ≤ T2.n → (C1 p q = true ↔ tCan T1 p (tIs T2 q))) (hC2 : ∀ p q, p ≤ T1.n → q ≤ T2.n → (C2 p q = true ↔ tCan T2 q (tIs T1 p))) (hb1 : ∀ p q, C1 p q = true → p < T1.n) (hb2 : ∀ p q, C2 p q = true → q < T2.n) (k : ∀ ρ' l', cGf ρ ρ' l l' → cGs ρ' l' (gFin C1 C2 T1.n T2.n) → Q none (OM (XP (XP X 0 0 14 6 (some (3, n1, 0))) 0 0 14 7 (some (3, n2, 0))) 0 0 ρ' l')) : Ev (d + 5) c s 19 0 [some (zr (some (0, 0, 14))), some (zr (some (3, n1, 0))), some (zr (some (3, n2, 0))), none, none] [] (OM X 0 0 ρ l) Q := by
  have t1 := e1.1
  have t2 := e2.1
  have w1 := cTr_XP0 (j := 0) (q := 14) (i := 7) (v := some (3, n2, 0)) (cTr_XP0 (j := 0) (q := 14) (i := 6) (v := some (3, n1, 0)) e1)
  have w2 := cTr_XP0 (j := 0) (q := 14) (i := 7) (v := some (3, n2, 0)) (cTr_XP0 (j := 0) (q := 14) (i := 6) (v := some (3, n1, 0)) e2)
  have q1 : (XP (XP X 0 0 14 6 (some (3, n1, 0))) 0 0 14 7 (some (3, n2, 0))).2.2.1 0 0 14 6 = some (3, n1, 0) := by
    show zup4 (zup4 X.2.2.1 0 0 14 6 (some (3, n1, 0))) 0 0 14 7 (some (3, n2, 0)) 0 0 14 6 = _
    rw [zu4n _ _ (by omega), zu4s]
  have q2 : (XP (XP X 0 0 14 6 (some (3, n1, 0))) 0 0 14 7 (some (3, n2, 0))).2.2.1 0 0 14 7 = some (3, n2, 0) := by
    show zup4 (zup4 X.2.2.1 0 0 14 6 (some (3, n1, 0))) 0 0 14 7 (some (3, n2, 0)) 0 0 14 7 = _
    exact zu4s _ _ _ _ _ _
  refine g19_0 (d := d + 4) e1.sh e2.sh ?_
  generalize XP (XP X 0 0 14 6 (some (3, n1, 0))) 0 0 14 7 (some (3, n2, 0)) = Y at *
  refine sp_cFlA (fun l1 a1 a2 => g19_39 (d := d + 4) w1.sh w2.sh (sp_cFlB (fun l2 b1 b2 => g19_47 w1.sh w2.sh ?_)))
  have l15 : ∀ c, c ≤ 30 → l2 15 c = lN 0 := fun c hc => by rw [b2 _ _ (by omega)]; exact a1 c hc
  have l14 : l2 14 2 = lN 0 ∧ l2 14 3 = lN 0 ∧ l2 14 4 = lN 0 := by
    rw [b2 _ _ (by omega), b2 _ _ (by omega), b2 _ _ (by omega), a2 _ _ (by omega), a2 _ _ (by omega), a2 _ _ (by omega)]
    refine ⟨?_, ?_, zu_s _ _ _ _⟩
    · rw [zu_i_ne (by omega), zu_i_ne (by omega), zu_s]
    · rw [zu_i_ne (by omega), zu_s]
  have g0 : cGs (zu ρ 14 5 (-4)) (zu (zu l2 15 0 (lN 1)) 16 0 1152921504606846976) gS0 := cGs0 l15 b1 l14 zu_e
  have f0 : cGf ρ (zu ρ 14 5 (-4)) l (zu (zu l2 15 0 (lN 1)) 16 0 1152921504606846976) := ⟨fun q i g => by rw [zu_i_ne (by omega)], fun q i g => by rw [zu_i_ne (by omega), zu_i_ne (by omega), b2 _ _ (by omega), a2 _ _ (by omega), zu_i_ne (by omega), zu_i_ne (by omega), zu_i_ne (by omega)]⟩
  have aI := gAll_inv (C1 := C1) (C2 := C2) t1 t2 hb1 hb2
  have main : ∀ r p (ρ1 : Nat → Nat → Int32) (l1 : Nat → Nat → Int64) (o4 : Option zV), p + r = T1.n + 1 → cGf ρ ρ1 l l1 → cGs ρ1 l1 (gAll C1 C2 T1.n T2.n p gS0) → Ev (d + 5) c s 19 65 [some (zr (some (0, 0, 14))), some (zr (some (3, n1, 0))), some (zr (some (3, n2, 0))), some (zi (nI p)), o4] [] (OM Y 0 0 ρ1 l1) Q := by
    intro r
    induction r with
    | zero =>
      intro p ρ1 l1 o4 hp hf hs
      have hp : p = T1.n + 1 := by omega
      subst hp
      exact g19_65 (d := d + 4) w1 w2 q1 q2 w1 (fun _ => k ρ1 l1 hf hs) (fun g => by have := (zle_iff (by omega) (by omega)).mp g; omega)
    | succ r ih =>
      intro p ρ1 l1 o4 hp hf hs
      refine g19_65 (d := d + 4) w1 w2 q1 q2 w1 (fun g => by have := (zlt_iff (by omega) (by omega)).mp g; omega) (fun _ => ?_)
      have rI := gRow_inv (C1 := C1) (C2 := C2) (n := T1.n) (p := p) (by omega) t1 t2 (hb1 p) (hb2 p) (aI p (by omega))
      have rN := gRow_ns (C1 := C1) (C2 := C2) (n := T1.n) (m := T2.n) (p := p) (by omega) (gAll_ns (C1 := C1) (C2 := C2) (n := T1.n) t2 p (by omega))
      have inner : ∀ t q (ρ2 : Nat → Nat → Int32) (l2 : Nat → Nat → Int64), q + t = T2.n + 1 → cGf ρ ρ2 l l2 → cGs ρ2 l2 (gRow C1 C2 T1.n T2.n p q (gAll C1 C2 T1.n T2.n p gS0)) → Ev (d + 5) c s 19 76 [some (zr (some (0, 0, 14))), some (zr (some (3, n1, 0))), some (zr (some (3, n2, 0))), some (zi (nI p)), some (zi (nI q))] [] (OM Y 0 0 ρ2 l2) Q := by
        intro t
        induction t with
        | zero =>
          intro q ρ2 l2 hq hf2 hs2
          have hq : q = T2.n + 1 := by omega
          subst hq
          refine g19_76 (d := d + 4) w1 w2 q1 q2 w2 (fun _ => ih (p + 1) ρ2 l2 _ (by omega) hf2 hs2) (fun g => ?_) (fun g => ?_) (fun g => ?_)
          · have := (zle_iff (by omega) (by omega)).mp g; omega
          · have := (zle_iff (by omega) (by omega)).mp g; omega
          · have := (zle_iff (by omega) (by omega)).mp g; omega
        | succ t iht =>
          intro q ρ2 l2 hq hf2 hs2
          have hIq := rI q (by omega)
          have hNq := rN q (by omega)
          have iht' := iht (q + 1)
          unfold gRow at iht'
          generalize gRow C1 C2 T1.n T2.n p q (gAll C1 C2 T1.n T2.n p gS0) = S at hs2 hIq hNq iht'
          have hle := hIq.le (c := q) (by omega)
          have cell := (hs2.1 q (by omega)).1
          have cmp := zcmpE (a := S.1 q) (b := 0) (by omega) (by decide)
          refine g19_76 (d := d + 4) w1 w2 q1 q2 w2 (fun g => by have := (zlt_iff (by omega) (by omega)).mp g; omega) (fun _ => by omega) (fun _ g => ?_) (fun _ g => ?_)
          · rw [cell] at g
            refine iht' ρ2 l2 (by omega) hf2 ?_
            unfold gPl
            rw [if_pos (cmp.mp g)]
            exact hs2
          · rw [cell] at g
            refine sp_cGo (d := d) w1 w2 q1 q2 (by omega) (by omega) hIq (fun e => g (cmp.mpr e)) hNq hs2 (C1 p q) (C2 p q) (hC1 p q (by omega) (by omega)) (hC2 p q (by omega) (by omega)) (fun ρ3 l3 f3 s3 => ?_)
            exact g19_104 w1.sh w2.sh (iht' ρ3 l3 (by omega) (hf2.trans f3) s3)
      exact inner (T2.n + 1) 0 ρ1 l1 (by omega) hf hs
  exact main (T1.n + 1) 0 _ _ none (by omega) f0 g0
theorem lN_shr {n k : Nat} (h : n < 2 ^ 63) (hk : k ≤ 60) : lN n >>> ((nI k).toInt64 &&& 63) = lN (n / 2 ^ k) := by
  have hs : ∀ k, k ≤ 60 → ((((nI k).toInt64 &&& 63).toBitVec).smod 64).toNat = k := by decide
  apply Int64.toInt_inj.mp
  have h2 : n / 2 ^ k ≤ n := Nat.div_le_self _ _
  have e : (lN n >>> ((nI k).toInt64 &&& 63)).toInt = (lN n).toInt >>> k := by
    show ((lN n).toBitVec.sshiftRight ((((nI k).toInt64 &&& 63).toBitVec).smod 64).toNat).toInt = _
    rw [hs k hk, BitVec.toInt_sshiftRight]
    rfl
  rw [e, pk_lT h, pk_lT (by omega), Int.shiftRight_eq_div_pow]
  rfl
theorem sp_cHal {d c s x : Nat} {X : zM} {ρ : Nat → Nat → Int32} {l : Nat → Nat → Int64} {Q : Option zV → zM → Prop} (hx : x < 2 ^ 63) (h : l 14 4 = lN x) (k : ∀ j, j ≤ 60 → gRd 60 x = (x / 2 ^ j, 2 ^ (60 - j)) → Q (some (zi (nI j))) (OM X 0 0 ρ l)) : Ev d c s 22 0 [some (zr (some (0, 0, 14))), none] [] (OM X 0 0 ρ l) Q := by
  refine g22_0 ?_
  have lp : ∀ m, m ≤ 60 → gRd 60 x = gRd m (x / 2 ^ (60 - m)) → Ev d c s 22 2 [some (zr (some (0, 0, 14))), some (zi (nI (60 - m)))] [] (OM X 0 0 ρ l) Q := by
    intro m
    induction m with
    | zero => exact fun _ e => g22_2 (by omega) (fun _ => k 60 (Nat.le_refl _) e) (fun g => by omega) (fun g => by omega)
    | succ m ih =>
      intro hm e
      have h2 : x / 2 ^ (60 - (m + 1)) ≤ x := Nat.div_le_self _ _
      have er : (lN x >>> ((nI (60 - (m + 1))).toInt64 &&& 63)) - (lN x >>> ((nI (60 - (m + 1))).toInt64 &&& 63)) / lN 2 * lN 2 = lN (x / 2 ^ (60 - (m + 1)) % 2) := by
        rw [lN_shr hx (by omega), pk_lDiv (by omega) (by decide) (by decide), lN_mul, lN_sub (by omega)]
        congr 1
        omega
      have cmp := zcmpE (a := x / 2 ^ (60 - (m + 1)) % 2) (b := 0) (by omega) (by decide)
      have eu : gRd (m + 1) (x / 2 ^ (60 - (m + 1))) = if x / 2 ^ (60 - (m + 1)) % 2 = 0 then gRd m (x / 2 ^ (60 - (m + 1)) / 2) else (x / 2 ^ (60 - (m + 1)), 2 ^ (m + 1)) := rfl
      refine g22_2 (by omega) (fun g => by omega) (fun _ g => ?_) (fun _ g => ?_)
      · rw [h, er] at g
        rw [eu, if_neg (fun q => g (cmp.mpr q))] at e
        exact k _ (by omega) (by rw [e, show 60 - (60 - (m + 1)) = m + 1 by omega])
      · rw [h, er] at g
        rw [eu, if_pos (cmp.mp g)] at e
        rw [show 60 - (m + 1) + 1 = 60 - m by omega]
        refine ih (by omega) ?_
        rw [e, Nat.div_div_eq_div_mul, ← Nat.pow_succ, show (60 - (m + 1)).succ = 60 - m by omega]
  exact lp 60 (Nat.le_refl _) (by rw [Nat.sub_self, Nat.pow_zero, Nat.div_one])
theorem sp_cAbv {d c s x : Nat} {X : zM} {ρ : Nat → Nat → Int32} {l : Nat → Nat → Int64} {Q : Option zV → zM → Prop} (hx : x < 2 ^ 63) (h : l 14 4 = lN x) (k : Q (some (zl (lN (gRd 60 x).1))) (OM X 0 0 ρ l)) : Ev (d + 1) c s 17 0 [some (zr (some (0, 0, 14)))] [] (OM X 0 0 ρ l) Q := by
  refine g17_0 (sp_cHal hx h (fun j hj e => g17_8 ?_))
  rw [h, lN_shr hx hj]
  rw [e] at k
  exact k
theorem sp_cBlw {d c s x : Nat} {X : zM} {ρ : Nat → Nat → Int32} {l : Nat → Nat → Int64} {Q : Option zV → zM → Prop} (hx : x < 2 ^ 63) (h : l 14 4 = lN x) (k : Q (some (zl (lN (gRd 60 x).2))) (OM X 0 0 ρ l)) : Ev (d + 1) c s 18 0 [some (zr (some (0, 0, 14)))] [] (OM X 0 0 ρ l) Q := by
  refine g18_0 (sp_cHal hx h (fun j hj e => g18_7 ?_))
  rw [show (1152921504606846976 : Int64) = lN (2 ^ 60) by decide, lN_shr (by decide) hj, Nat.pow_div hj (by decide)]
  rw [e] at k
  exact k
/-- who can go on, as both sides tell it -/
theorem gC_can {τ : Nat → Nat → Int32} {i j p q : Nat} {T1 T2 : tT} (z1 : zTrR τ i T1) (z2 : zTrR τ j T2) (o1 : tOk T1) (o2 : tOk T2) (hq : q ≤ T2.n) : gC τ i j p q = true ↔ tCan T1 p (tIs T2 q) := by
  have h30 := o1.1
  have h31 := o2.1
  have eM : rM τ i = T1.n := by unfold rM; rw [z1.1]; exact nI_clamp (by omega)
  have eS : rSet τ j q = tIs T2 q := by
    unfold tIs
    rw [if_pos hq]
    have key : ∀ n, rSetL τ j q n = tSetL T2 q n := by
      intro n
      induction n with
      | zero => rfl
      | succ n ih => unfold rSetL tSetL; rw [ih, rIns_t z2 (nI n) q hq]
    exact key 6
  unfold gC tCan
  rw [decide_eq_true_eq, eM, eS]
  refine and_congr_right (fun hp => ?_)
  have hr := z1.2.1 p hp
  obtain ⟨kd, G, hkd, hG, ek, eg, _⟩ := o1.2.1 p hp
  obtain ⟨v, hv, ev⟩ := rSetL_nat τ j q 6 (Nat.le_refl _)
  have ev : tIs T2 q = nI v := eS.symm.trans ev
  have eE : tEn T1 p = if T1.kind p = 0 then T1.gate p else -4 := by unfold tEn; rw [if_pos hp]
  unfold rShut
  rw [hr.1, hr.2.1, eE, ev, eg]
  by_cases k0 : T1.kind p = 0
  · rw [if_pos k0]
    have n4 : ¬ nI G = -4 := fun e => by
      have := nI_pos (n := G) (by omega)
      rw [e] at this
      exact this (by decide)
    have a := cHas_bit (v := v) hG hv
    have b := zhas6 (v := v) hG hv
    constructor
    · intro g
      exact Or.inr (fun e => g ⟨k0, b.mpr (a.mp e)⟩)
    · intro g e
      rcases g with g | g
      · exact n4 g
      · exact g (a.mpr (b.mp e.2))
  · rw [if_neg k0]
    exact ⟨fun _ => Or.inl rfl, fun _ e => k0 e.1⟩
