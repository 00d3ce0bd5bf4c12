/-! the class is made -/
theorem k111_0 {d c s : Nat} {I : zI} {L : zL} {P : zP} {S : zS} {Q : Option zV → zM → Prop} (s0 : S 0 0 0 = (10, 0)) 
    (h1 : Ev d 2 66 88 0 [some (zr (some (0, 0, 1)))] [] (zup3 I 0 0 1 (fun _ => 0), zup3 L 0 0 1 (fun _ => 0), zup3 P 0 0 1 (fun _ => none), zup3 S 0 0 1 (8, 0), 2) (fun r M' => Ev (d + 1) c s 111 12 [some (zr (some (0, 0, 0))), none, none, none] (zpush r [zr (some (0, 0, 1)), zr (some (0, 0, 0))]) M' Q)) : Ev (d + 1) (c + 3) (s + 71) 111 0 [some (zr (some (0, 0, 0))), none, none, none] [] (I, L, P, S, 1) Q := by
  refine Ew.ld f111_0 rfl rfl rfl rfl ?_
  refine Ew.nat (st' := []) f111_1 rfl (fun k h => ⟨Nat.le_of_ble_eq_true rfl, h⟩) rfl ?_
  refine Ew.ld f111_4 rfl rfl rfl rfl ?_
  refine Ew.newR (c := c + 2) (s := s + 66) f111_5 rfl rfl ?_
  refine Ew.op (st' := zr (some (0, 0, 1)) :: zr (some (0, 0, 1)) :: _) f111_8 rfl rfl ?_
  refine Ew.callB (c := c) (s := s) (ls0 := [some (zr (some (0, 0, 1)))]) f111_9 rfl (Nat.le_of_ble_eq_true rfl) rfl rfl (Nat.le_of_ble_eq_true rfl) trivial (Nat.le_of_ble_eq_true rfl) rfl rfl ?_
  exact h1
theorem k111_12 {d c s : Nat} {I : zI} {L : zL} {P : zP} {S : zS} {Q : Option zV → zM → Prop} (s0 : S 0 0 0 = (10, 0)) 
    (h1 : Ev d 8 158 23 0 [some (zr (some (0, 0, 4)))] [] (zup3 I 0 0 4 (fun _ => 0), zup3 L 0 0 4 (fun _ => 0), zup3 (zup4 P 0 0 0 0 (some (0, 0, 1))) 0 0 4 (fun _ => none), zup3 S 0 0 4 (4, 0), 5) (fun r M' => Ev (d + 1) c s 111 23 [some (zr (some (0, 0, 0))), none, none, none] (zpush r [zr (some (0, 0, 4)), zr (some (0, 0, 0))]) M' Q)) : Ev (d + 1) (c + 9) (s + 176) 111 12 [some (zr (some (0, 0, 0))), none, none, none] [zr (some (0, 0, 1)), zr (some (0, 0, 0))] (I, L, P, S, 4) Q := by
  refine Ew.putp f111_12 (by simp [zup3_if, zup4_if, s0]) rfl ?_
  refine Ew.ld f111_15 rfl rfl rfl rfl ?_
  refine Ew.newR (c := c + 8) (s := s + 158) f111_16 rfl rfl ?_
  refine Ew.op (st' := zr (some (0, 0, 4)) :: zr (some (0, 0, 4)) :: _) f111_19 rfl rfl ?_
  refine Ew.callB (c := c) (s := s) (ls0 := [some (zr (some (0, 0, 4)))]) f111_20 rfl (Nat.le_of_ble_eq_true rfl) rfl rfl (Nat.le_of_ble_eq_true rfl) trivial (Nat.le_of_ble_eq_true rfl) rfl rfl ?_
  exact h1
theorem k111_23 {d c s : Nat} {I : zI} {L : zL} {P : zP} {S : zS} {Q : Option zV → zM → Prop} (s0 : S 0 0 0 = (10, 0)) 
    (h1 : Ev (d + 1) 4 124 98 0 [some (zr (some (3, 4, 0))), some (zr (some (0, 0, 4)))] [] (zup3 (zup3 (zup3 I 3 2 0 (fun _ => 0)) 3 3 0 (fun _ => 0)) 3 4 0 (fun _ => 0), zup3 (zup3 (zup3 L 3 2 0 (fun _ => 0)) 3 3 0 (fun _ => 0)) 3 4 0 (fun _ => 0), zup3 (zup4 (zup3 (zup3 (zup4 P 0 0 0 1 (some (0, 0, 4))) 3 2 0 (fun _ => none)) 3 3 0 (fun _ => none)) 3 2 0 0 (some (3, 3, 0))) 3 4 0 (fun _ => none), zup3 (zup3 (zup3 S 3 2 0 (5, 0)) 3 3 0 (22, 0)) 3 4 0 (9, 0), 16) (fun r M' => Ev (d + 2) c s 111 48 [some (zr (some (0, 0, 0))), some (zr (some (3, 2, 0))), none, none] (zpush r [zr (some (3, 4, 0))]) M' Q)) : Ev (d + 2) (c + 7) (s + 135) 111 23 [some (zr (some (0, 0, 0))), none, none, none] [zr (some (0, 0, 4)), zr (some (0, 0, 0))] (I, L, P, S, 13) Q := by
  refine Ew.putp f111_23 (by simp [zup3_if, zup4_if, s0]) rfl ?_
  refine Ew.newR (c := c + 6) (s := s + 134) f111_26 rfl rfl ?_
  refine Ew.op (st' := zr (some (3, 2, 0)) :: zr (some (3, 2, 0)) :: _) f111_29 rfl rfl ?_
  refine Ew.op (st' := zi (nI 0) :: _) f111_30 rfl rfl ?_
  refine Ew.newaR (tag := 22) (n := 0) (c := c + 5) (s := s + 134) f111_31 rfl (by decide) rfl rfl ?_
  refine Ew.call0 (ls0 := [some (zr (some (3, 2, 0))), some (zr (some (3, 3, 0)))]) f111_33 rfl (Nat.le_of_ble_eq_true rfl) rfl rfl (Nat.le_of_ble_eq_true rfl) trivial (Nat.le_of_ble_eq_true rfl) rfl rfl ?_
  refine Ew.ld f36_0 rfl rfl rfl rfl ?_
  refine Ew.nat (st' := []) f36_1 rfl (fun k h => ⟨Nat.le_of_ble_eq_true rfl, h⟩) rfl ?_
  refine Ew.ld f36_4 rfl rfl rfl rfl ?_
  refine Ew.ld f36_5 rfl rfl rfl rfl ?_
  refine Ew.putp f36_6 (by simp [zup3_if, zup4_if, s0]) rfl ?_
  refine Ew.vret f36_9 ?_
  show Ev (d + 2) (c + 5) (s + 134) 111 36 [some (zr (some (0, 0, 0))), none, none, none] [zr (some (3, 2, 0))] (zup3 (zup3 I 3 2 0 (fun _ => 0)) 3 3 0 (fun _ => 0), zup3 (zup3 L 3 2 0 (fun _ => 0)) 3 3 0 (fun _ => 0), zup4 (zup3 (zup3 (zup4 P 0 0 0 1 (some (0, 0, 4))) 3 2 0 (fun _ => none)) 3 3 0 (fun _ => none)) 3 2 0 0 (some (3, 3, 0)), zup3 (zup3 S 3 2 0 (5, 0)) 3 3 0 (22, 0), 15) Q
  refine Ew.sr (ls' := [some (zr (some (0, 0, 0))), some (zr (some (3, 2, 0))), none, none]) f111_36 rfl rfl (Nat.le_of_ble_eq_true rfl) rfl rfl ?_
  refine Ew.newR (c := c + 4) (s := s + 124) f111_37 rfl rfl ?_
  refine Ew.op (st' := zr (some (3, 4, 0)) :: zr (some (3, 4, 0)) :: _) f111_40 rfl rfl ?_
  refine Ew.ld f111_41 rfl rfl rfl rfl ?_
  refine Ew.getp (v := some (0, 0, 4)) f111_42 (by simp [zup3_if, zup4_if, s0]) (by simp [zup3_if, zup4_if, s0]) rfl ?_
  refine Ew.callB (c := c) (s := s) (ls0 := [some (zr (some (3, 4, 0))), some (zr (some (0, 0, 4)))]) f111_45 rfl (Nat.le_of_ble_eq_true rfl) rfl rfl (Nat.le_of_ble_eq_true rfl) trivial (Nat.le_of_ble_eq_true rfl) rfl rfl ?_
  exact h1
theorem k111_48 {d c s : Nat} {I : zI} {L : zL} {P : zP} {S : zS} {Q : Option zV → zM → Prop} (s0 : S 0 0 0 = (10, 0)) (sn : S 3 4 0 = (9, 0)) 
    (h1 : Ev d 10 46 51 0 [some (zr (some (2, 0, 0))), some (zr (some (3, 2, 0))), some (zr (some (3, 4, 0))), none] [] (zup3 (zup3 I 0 0 11 (fun _ => 0)) 2 0 0 (fun _ => 0), zup3 (zup3 L 0 0 11 (fun _ => 0)) 2 0 0 (fun _ => 0), zup3 (zup4 (zup4 (zup4 (zup4 (zup4 (zup3 P 0 0 11 (fun _ => none)) 0 0 0 2 (some (0, 0, 11))) 0 0 11 0 (some (3, 4, 0))) 0 0 11 1 (some (3, 4, 0))) 0 0 11 2 (some (3, 4, 0))) 0 0 11 3 (some (3, 4, 0))) 2 0 0 (fun _ => none), zup3 (zup3 S 0 0 11 (24, 4)) 2 0 0 (7, 0), 22) (fun r M' => Ev (d + 1) c s 111 87 [some (zr (some (0, 0, 0))), some (zr (some (3, 2, 0))), some (zr (some (3, 4, 0))), some (zi (nI 4))] (zpush r [zr (some (2, 0, 0)), zr (some (0, 0, 0))]) M' Q)) : Ev (d + 1) (c + 12) (s + 64) 111 48 [some (zr (some (0, 0, 0))), some (zr (some (3, 2, 0))), none, none] [zr (some (3, 4, 0))] (I, L, P, S, 20) Q := by
  refine Ew.sr (ls' := [some (zr (some (0, 0, 0))), some (zr (some (3, 2, 0))), some (zr (some (3, 4, 0))), none]) f111_48 rfl rfl (Nat.le_of_ble_eq_true rfl) rfl rfl ?_
  refine Ew.ld f111_49 rfl rfl rfl rfl ?_
  refine Ew.op (st' := zi (nI 4) :: _) f111_50 rfl rfl ?_
  refine Ew.anewaR (n := 4) (c := c + 11) (s := s + 60) f111_51 rfl (by decide) rfl ?_
  refine Ew.putp f111_54 (by simp [zup3_if, zup4_if, s0, sn]) rfl ?_
  refine Ew.op (st' := zi (nI 0) :: _) f111_57 rfl rfl ?_
  refine Ew.sr (ls' := [some (zr (some (0, 0, 0))), some (zr (some (3, 2, 0))), some (zr (some (3, 4, 0))), some (zi (nI 0))]) f111_58 rfl rfl (Nat.le_of_ble_eq_true rfl) rfl rfl ?_
  refine Ew.ld f111_59 rfl rfl rfl rfl ?_
  refine Ew.op (st' := zi (nI 4) :: _) f111_60 rfl rfl ?_
  refine Ew.icmp f111_61 rfl rfl (fun h => absurd h (show ¬ ((nI 4) ≤ ((nI 0) : Int32)) by decide)) (fun _ => ?_)
  refine Ew.ld f111_64 rfl rfl rfl rfl ?_
  refine Ew.getp (v := some (0, 0, 11)) f111_65 (by simp [zup3_if, zup4_if, s0, sn]) (by simp [zup3_if, zup4_if, s0, sn]) rfl ?_
  refine Ew.ld f111_68 rfl rfl rfl rfl ?_
  refine Ew.ld f111_69 rfl rfl rfl rfl ?_
  refine Ew.aastn f111_70 (by simp [zup3_if, zup4_if, s0, sn, zel]) (by simp [zup3_if, zup4_if, s0, sn, zel]) (by simp [zup3_if, zup4_if, s0, sn]) (by simp [zup3_if, zup4_if, s0, sn]) rfl ?_
  refine Ew.iinc (v := nI 1) (ls' := [some (zr (some (0, 0, 0))), some (zr (some (3, 2, 0))), some (zr (some (3, 4, 0))), some (zi (nI 1))]) f111_71 rfl rfl rfl rfl ?_
  refine Ew.goto f111_74 rfl ?_
  refine Ew.ld f111_59 rfl rfl rfl rfl ?_
  refine Ew.op (st' := zi (nI 4) :: _) f111_60 rfl rfl ?_
  refine Ew.icmp f111_61 rfl rfl (fun h => absurd h (show ¬ ((nI 4) ≤ ((nI 1) : Int32)) by decide)) (fun _ => ?_)
  refine Ew.ld f111_64 rfl rfl rfl rfl ?_
  refine Ew.getp (v := some (0, 0, 11)) f111_65 (by simp [zup3_if, zup4_if, s0, sn]) (by simp [zup3_if, zup4_if, s0, sn]) rfl ?_
  refine Ew.ld f111_68 rfl rfl rfl rfl ?_
  refine Ew.ld f111_69 rfl rfl rfl rfl ?_
  refine Ew.aastn f111_70 (by simp [zup3_if, zup4_if, s0, sn, zel]) (by simp [zup3_if, zup4_if, s0, sn, zel]) (by simp [zup3_if, zup4_if, s0, sn]) (by simp [zup3_if, zup4_if, s0, sn]) rfl ?_
  refine Ew.iinc (v := nI 2) (ls' := [some (zr (some (0, 0, 0))), some (zr (some (3, 2, 0))), some (zr (some (3, 4, 0))), some (zi (nI 2))]) f111_71 rfl rfl rfl rfl ?_
  refine Ew.goto f111_74 rfl ?_
  refine Ew.ld f111_59 rfl rfl rfl rfl ?_
  refine Ew.op (st' := zi (nI 4) :: _) f111_60 rfl rfl ?_
  refine Ew.icmp f111_61 rfl rfl (fun h => absurd h (show ¬ ((nI 4) ≤ ((nI 2) : Int32)) by decide)) (fun _ => ?_)
  refine Ew.ld f111_64 rfl rfl rfl rfl ?_
  refine Ew.getp (v := some (0, 0, 11)) f111_65 (by simp [zup3_if, zup4_if, s0, sn]) (by simp [zup3_if, zup4_if, s0, sn]) rfl ?_
  refine Ew.ld f111_68 rfl rfl rfl rfl ?_
  refine Ew.ld f111_69 rfl rfl rfl rfl ?_
  refine Ew.aastn f111_70 (by simp [zup3_if, zup4_if, s0, sn, zel]) (by simp [zup3_if, zup4_if, s0, sn, zel]) (by simp [zup3_if, zup4_if, s0, sn]) (by simp [zup3_if, zup4_if, s0, sn]) rfl ?_
  refine Ew.iinc (v := nI 3) (ls' := [some (zr (some (0, 0, 0))), some (zr (some (3, 2, 0))), some (zr (some (3, 4, 0))), some (zi (nI 3))]) f111_71 rfl rfl rfl rfl ?_
  refine Ew.goto f111_74 rfl ?_
  refine Ew.ld f111_59 rfl rfl rfl rfl ?_
  refine Ew.op (st' := zi (nI 4) :: _) f111_60 rfl rfl ?_
  refine Ew.icmp f111_61 rfl rfl (fun h => absurd h (show ¬ ((nI 4) ≤ ((nI 3) : Int32)) by decide)) (fun _ => ?_)
  refine Ew.ld f111_64 rfl rfl rfl rfl ?_
  refine Ew.getp (v := some (0, 0, 11)) f111_65 (by simp [zup3_if, zup4_if, s0, sn]) (by simp [zup3_if, zup4_if, s0, sn]) rfl ?_
  refine Ew.ld f111_68 rfl rfl rfl rfl ?_
  refine Ew.ld f111_69 rfl rfl rfl rfl ?_
  refine Ew.aastn f111_70 (by simp [zup3_if, zup4_if, s0, sn, zel]) (by simp [zup3_if, zup4_if, s0, sn, zel]) (by simp [zup3_if, zup4_if, s0, sn]) (by simp [zup3_if, zup4_if, s0, sn]) rfl ?_
  refine Ew.iinc (v := nI 4) (ls' := [some (zr (some (0, 0, 0))), some (zr (some (3, 2, 0))), some (zr (some (3, 4, 0))), some (zi (nI 4))]) f111_71 rfl rfl rfl rfl ?_
  refine Ew.goto f111_74 rfl ?_
  refine Ew.ld f111_59 rfl rfl rfl rfl ?_
  refine Ew.op (st' := zi (nI 4) :: _) f111_60 rfl rfl ?_
  refine Ew.icmp f111_61 rfl rfl (fun _ => ?_) (fun h => absurd (show (nI 4) ≤ ((nI 4) : Int32) by decide) h)
  refine Ew.ld f111_77 rfl rfl rfl rfl ?_
  refine Ew.newR (c := c + 10) (s := s + 46) f111_78 rfl rfl ?_
  refine Ew.op (st' := zr (some (2, 0, 0)) :: zr (some (2, 0, 0)) :: _) f111_81 rfl rfl ?_
  refine Ew.ld f111_82 rfl rfl rfl rfl ?_
  refine Ew.ld f111_83 rfl rfl rfl rfl ?_
  refine Ew.callB (c := c) (s := s) (ls0 := [some (zr (some (2, 0, 0))), some (zr (some (3, 2, 0))), some (zr (some (3, 4, 0))), none]) f111_84 rfl (Nat.le_of_ble_eq_true rfl) rfl rfl (Nat.le_of_ble_eq_true rfl) trivial (Nat.le_of_ble_eq_true rfl) rfl rfl ?_
  exact h1
theorem k111_87 {d c s : Nat} {I : zI} {L : zL} {P : zP} {S : zS} {Q : Option zV → zM → Prop} (s0 : S 0 0 0 = (10, 0)) 
    (h1 : Ev d 10 46 51 0 [some (zr (some (2, 1, 0))), some (zr (some (3, 2, 0))), some (zr (some (3, 4, 0))), none] [] (zup3 I 2 1 0 (fun _ => 0), zup3 L 2 1 0 (fun _ => 0), zup3 (zup4 P 0 0 0 3 (some (2, 0, 0))) 2 1 0 (fun _ => none), zup3 S 2 1 0 (7, 0), 33) (fun r M' => Ev (d + 1) c s 111 100 [some (zr (some (0, 0, 0))), some (zr (some (3, 2, 0))), some (zr (some (3, 4, 0))), some (zi (nI 4))] (zpush r [zr (some (2, 1, 0)), zr (some (0, 0, 0))]) M' Q)) : Ev (d + 1) (c + 11) (s + 60) 111 87 [some (zr (some (0, 0, 0))), some (zr (some (3, 2, 0))), some (zr (some (3, 4, 0))), some (zi (nI 4))] [zr (some (2, 0, 0)), zr (some (0, 0, 0))] (I, L, P, S, 32) Q := by
  refine Ew.putp f111_87 (by simp [zup3_if, zup4_if, s0]) rfl ?_
  refine Ew.ld f111_90 rfl rfl rfl rfl ?_
  refine Ew.newR (c := c + 10) (s := s + 46) f111_91 rfl rfl ?_
  refine Ew.op (st' := zr (some (2, 1, 0)) :: zr (some (2, 1, 0)) :: _) f111_94 rfl rfl ?_
  refine Ew.ld f111_95 rfl rfl rfl rfl ?_
  refine Ew.ld f111_96 rfl rfl rfl rfl ?_
  refine Ew.callB (c := c) (s := s) (ls0 := [some (zr (some (2, 1, 0))), some (zr (some (3, 2, 0))), some (zr (some (3, 4, 0))), none]) f111_97 rfl (Nat.le_of_ble_eq_true rfl) rfl rfl (Nat.le_of_ble_eq_true rfl) trivial (Nat.le_of_ble_eq_true rfl) rfl rfl ?_
  exact h1
theorem k111_100 {d c s : Nat} {I : zI} {L : zL} {P : zP} {S : zS} {Q : Option zV → zM → Prop} (s0 : S 0 0 0 = (10, 0)) 
    (h1 : Ev d 67 366 0 0 [some (zr (some (4, 0, 0))), some (zr (some (3, 2, 0))), some (zr (some (3, 4, 0))), none] [] (zup3 I 4 0 0 (fun _ => 0), zup3 L 4 0 0 (fun _ => 0), zup3 (zup4 P 0 0 0 4 (some (2, 1, 0))) 4 0 0 (fun _ => none), zup3 S 4 0 0 (1, 0), 44) (fun r M' => Ev (d + 1) c s 111 113 [some (zr (some (0, 0, 0))), some (zr (some (3, 2, 0))), some (zr (some (3, 4, 0))), some (zi (nI 4))] (zpush r [zr (some (4, 0, 0)), zr (some (0, 0, 0))]) M' Q)) : Ev (d + 1) (c + 68) (s + 368) 111 100 [some (zr (some (0, 0, 0))), some (zr (some (3, 2, 0))), some (zr (some (3, 4, 0))), some (zi (nI 4))] [zr (some (2, 1, 0)), zr (some (0, 0, 0))] (I, L, P, S, 43) Q := by
  refine Ew.putp f111_100 (by simp [zup3_if, zup4_if, s0]) rfl ?_
  refine Ew.ld f111_103 rfl rfl rfl rfl ?_
  refine Ew.newR (c := c + 67) (s := s + 366) f111_104 rfl rfl ?_
  refine Ew.op (st' := zr (some (4, 0, 0)) :: zr (some (4, 0, 0)) :: _) f111_107 rfl rfl ?_
  refine Ew.ld f111_108 rfl rfl rfl rfl ?_
  refine Ew.ld f111_109 rfl rfl rfl rfl ?_
  refine Ew.callB (c := c) (s := s) (ls0 := [some (zr (some (4, 0, 0))), some (zr (some (3, 2, 0))), some (zr (some (3, 4, 0))), none]) f111_110 rfl (Nat.le_of_ble_eq_true rfl) rfl rfl (Nat.le_of_ble_eq_true rfl) trivial (Nat.le_of_ble_eq_true rfl) rfl rfl ?_
  exact h1
theorem k111_113 {d c s : Nat} {I : zI} {L : zL} {P : zP} {S : zS} {Q : Option zV → zM → Prop} (s0 : S 0 0 0 = (10, 0)) 
    (h1 : Ev d 10 46 51 0 [some (zr (some (2, 8, 0))), some (zr (some (3, 2, 0))), some (zr (some (3, 4, 0))), none] [] (zup3 I 2 8 0 (fun _ => 0), zup3 L 2 8 0 (fun _ => 0), zup3 (zup4 P 0 0 0 5 (some (4, 0, 0))) 2 8 0 (fun _ => none), zup3 S 2 8 0 (7, 0), 112) (fun r M' => Ev (d + 1) c s 111 126 [some (zr (some (0, 0, 0))), some (zr (some (3, 2, 0))), some (zr (some (3, 4, 0))), some (zi (nI 4))] (zpush r [zr (some (2, 8, 0)), zr (some (0, 0, 0))]) M' Q)) : Ev (d + 1) (c + 11) (s + 60) 111 113 [some (zr (some (0, 0, 0))), some (zr (some (3, 2, 0))), some (zr (some (3, 4, 0))), some (zi (nI 4))] [zr (some (4, 0, 0)), zr (some (0, 0, 0))] (I, L, P, S, 111) Q := by
  refine Ew.putp f111_113 (by simp [zup3_if, zup4_if, s0]) rfl ?_
  refine Ew.ld f111_116 rfl rfl rfl rfl ?_
  refine Ew.newR (c := c + 10) (s := s + 46) f111_117 rfl rfl ?_
  refine Ew.op (st' := zr (some (2, 8, 0)) :: zr (some (2, 8, 0)) :: _) f111_120 rfl rfl ?_
  refine Ew.ld f111_121 rfl rfl rfl rfl ?_
  refine Ew.ld f111_122 rfl rfl rfl rfl ?_
  refine Ew.callB (c := c) (s := s) (ls0 := [some (zr (some (2, 8, 0))), some (zr (some (3, 2, 0))), some (zr (some (3, 4, 0))), none]) f111_123 rfl (Nat.le_of_ble_eq_true rfl) rfl rfl (Nat.le_of_ble_eq_true rfl) trivial (Nat.le_of_ble_eq_true rfl) rfl rfl ?_
  exact h1
theorem k111_126 {d c s : Nat} {I : zI} {L : zL} {P : zP} {S : zS} {Q : Option zV → zM → Prop} (s0 : S 0 0 0 = (10, 0)) 
    (h1 : Ev d 67 366 0 0 [some (zr (some (4, 1, 0))), some (zr (some (3, 2, 0))), some (zr (some (3, 4, 0))), none] [] (zup3 I 4 1 0 (fun _ => 0), zup3 L 4 1 0 (fun _ => 0), zup3 (zup4 P 0 0 0 6 (some (2, 8, 0))) 4 1 0 (fun _ => none), zup3 S 4 1 0 (1, 0), 123) (fun r M' => Ev (d + 1) c s 111 139 [some (zr (some (0, 0, 0))), some (zr (some (3, 2, 0))), some (zr (some (3, 4, 0))), some (zi (nI 4))] (zpush r [zr (some (4, 1, 0)), zr (some (0, 0, 0))]) M' Q)) : Ev (d + 1) (c + 68) (s + 368) 111 126 [some (zr (some (0, 0, 0))), some (zr (some (3, 2, 0))), some (zr (some (3, 4, 0))), some (zi (nI 4))] [zr (some (2, 8, 0)), zr (some (0, 0, 0))] (I, L, P, S, 122) Q := by
  refine Ew.putp f111_126 (by simp [zup3_if, zup4_if, s0]) rfl ?_
  refine Ew.ld f111_129 rfl rfl rfl rfl ?_
  refine Ew.newR (c := c + 67) (s := s + 366) f111_130 rfl rfl ?_
  refine Ew.op (st' := zr (some (4, 1, 0)) :: zr (some (4, 1, 0)) :: _) f111_133 rfl rfl ?_
  refine Ew.ld f111_134 rfl rfl rfl rfl ?_
  refine Ew.ld f111_135 rfl rfl rfl rfl ?_
  refine Ew.callB (c := c) (s := s) (ls0 := [some (zr (some (4, 1, 0))), some (zr (some (3, 2, 0))), some (zr (some (3, 4, 0))), none]) f111_136 rfl (Nat.le_of_ble_eq_true rfl) rfl rfl (Nat.le_of_ble_eq_true rfl) trivial (Nat.le_of_ble_eq_true rfl) rfl rfl ?_
  exact h1
theorem k111_139 {d c s : Nat} {I : zI} {L : zL} {P : zP} {S : zS} {Q : Option zV → zM → Prop} (s0 : S 0 0 0 = (10, 0)) 
    (h1 : Ev d 1 6 6 0 [some (zr (some (0, 0, 12)))] [] (zup3 (zup4 I 0 0 0 8 (nI 0)) 0 0 12 (fun _ => 0), zup3 L 0 0 12 (fun _ => 0), zup3 (zup4 P 0 0 0 7 (some (4, 1, 0))) 0 0 12 (fun _ => none), zup3 S 0 0 12 (2, 0), 191) (fun r M' => Ev (d + 1) c s 111 155 [some (zr (some (0, 0, 0))), some (zr (some (3, 2, 0))), some (zr (some (3, 4, 0))), some (zi (nI 4))] (zpush r [zr (some (0, 0, 12)), zr (some (0, 0, 0))]) M' Q)) : Ev (d + 1) (c + 2) (s + 7) 111 139 [some (zr (some (0, 0, 0))), some (zr (some (3, 2, 0))), some (zr (some (3, 4, 0))), some (zi (nI 4))] [zr (some (4, 1, 0)), zr (some (0, 0, 0))] (I, L, P, S, 190) Q := by
  refine Ew.putp f111_139 (by simp [zup3_if, zup4_if, s0]) rfl ?_
  refine Ew.ld f111_142 rfl rfl rfl rfl ?_
  refine Ew.op (st' := zi (nI 0) :: _) f111_143 rfl rfl ?_
  refine Ew.putb f111_144 (by simp [zup3_if, zup4_if, s0]) (Or.inl rfl) rfl ?_
  refine Ew.ld f111_147 rfl rfl rfl rfl ?_
  refine Ew.newR (c := c + 1) (s := s + 6) f111_148 rfl rfl ?_
  refine Ew.op (st' := zr (some (0, 0, 12)) :: zr (some (0, 0, 12)) :: _) f111_151 rfl rfl ?_
  refine Ew.callB (c := c) (s := s) (ls0 := [some (zr (some (0, 0, 12)))]) f111_152 rfl (Nat.le_of_ble_eq_true rfl) rfl rfl (Nat.le_of_ble_eq_true rfl) trivial (Nat.le_of_ble_eq_true rfl) rfl rfl ?_
  exact h1
theorem k111_155 {d c s : Nat} {I : zI} {L : zL} {P : zP} {S : zS} {Q : Option zV → zM → Prop} (s0 : S 0 0 0 = (10, 0)) 
    (h1 : Ev d 2 62 13 0 [some (zr (some (0, 0, 14))), some (zr (some (3, 4, 0)))] [] (zup3 I 0 0 14 (fun _ => 0), zup3 L 0 0 14 (fun _ => 0), zup3 (zup4 P 0 0 0 9 (some (0, 0, 12))) 0 0 14 (fun _ => none), zup3 S 0 0 14 (3, 0), 193) (fun r M' => Ev (d + 1) c s 111 167 [some (zr (some (0, 0, 0))), some (zr (some (3, 2, 0))), some (zr (some (3, 4, 0))), some (zi (nI 4))] (zpush r [zr (some (0, 0, 14)), zr (some (0, 0, 0))]) M' Q)) : Ev (d + 1) (c + 3) (s + 70) 111 155 [some (zr (some (0, 0, 0))), some (zr (some (3, 2, 0))), some (zr (some (3, 4, 0))), some (zi (nI 4))] [zr (some (0, 0, 12)), zr (some (0, 0, 0))] (I, L, P, S, 192) Q := by
  refine Ew.putp f111_155 (by simp [zup3_if, zup4_if, s0]) rfl ?_
  refine Ew.ld f111_158 rfl rfl rfl rfl ?_
  refine Ew.newR (c := c + 2) (s := s + 62) f111_159 rfl rfl ?_
  refine Ew.op (st' := zr (some (0, 0, 14)) :: zr (some (0, 0, 14)) :: _) f111_162 rfl rfl ?_
  refine Ew.ld f111_163 rfl rfl rfl rfl ?_
  refine Ew.callB (c := c) (s := s) (ls0 := [some (zr (some (0, 0, 14))), some (zr (some (3, 4, 0)))]) f111_164 rfl (Nat.le_of_ble_eq_true rfl) rfl rfl (Nat.le_of_ble_eq_true rfl) trivial (Nat.le_of_ble_eq_true rfl) rfl rfl ?_
  exact h1
theorem k111_167 {d c s : Nat} {I : zI} {L : zL} {P : zP} {S : zS} {Q : Option zV → zM → Prop} (s0 : S 0 0 0 = (10, 0)) 
    (h1 : Ev d 1 24 40 0 [some (zr (some (5, 0, 0)))] [] (zup3 (zup3 I 0 0 17 (fun _ => 0)) 5 0 0 (fun _ => 0), zup3 (zup3 L 0 0 17 (fun _ => 0)) 5 0 0 (fun _ => 0), zup3 (zup4 (zup3 (zup4 P 0 0 0 10 (some (0, 0, 14))) 0 0 17 (fun _ => none)) 0 0 0 11 (some (0, 0, 17))) 5 0 0 (fun _ => none), zup3 (zup3 S 0 0 17 (26, 4)) 5 0 0 (6, 0), 197) (fun r M' => Ev (d + 1) c s 111 197 [some (zr (some (0, 0, 0))), some (zr (some (3, 2, 0))), some (zr (some (3, 4, 0))), some (zi (nI 0))] (zpush r [zr (some (5, 0, 0)), zi (nI 0), zr (some (0, 0, 17))]) M' Q)) : Ev (d + 1) (c + 3) (s + 31) 111 167 [some (zr (some (0, 0, 0))), some (zr (some (3, 2, 0))), some (zr (some (3, 4, 0))), some (zi (nI 4))] [zr (some (0, 0, 14)), zr (some (0, 0, 0))] (I, L, P, S, 195) Q := by
  refine Ew.putp f111_167 (by simp [zup3_if, zup4_if, s0]) rfl ?_
  refine Ew.ld f111_170 rfl rfl rfl rfl ?_
  refine Ew.op (st' := zi (nI 4) :: _) f111_171 rfl rfl ?_
  refine Ew.anewaR (n := 4) (c := c + 2) (s := s + 27) f111_172 rfl (by decide) rfl ?_
  refine Ew.putp f111_175 (by simp [zup3_if, zup4_if, s0]) rfl ?_
  refine Ew.op (st' := zi (nI 0) :: _) f111_178 rfl rfl ?_
  refine Ew.sr (ls' := [some (zr (some (0, 0, 0))), some (zr (some (3, 2, 0))), some (zr (some (3, 4, 0))), some (zi (nI 0))]) f111_179 rfl rfl (Nat.le_of_ble_eq_true rfl) rfl rfl ?_
  refine Ew.ld f111_180 rfl rfl rfl rfl ?_
  refine Ew.op (st' := zi (nI 4) :: _) f111_181 rfl rfl ?_
  refine Ew.icmp f111_182 rfl rfl (fun h => absurd h (show ¬ ((nI 4) ≤ ((nI 0) : Int32)) by decide)) (fun _ => ?_)
  refine Ew.ld f111_185 rfl rfl rfl rfl ?_
  refine Ew.getp (v := some (0, 0, 17)) f111_186 (by simp [zup3_if, zup4_if, s0]) (by simp [zup3_if, zup4_if, s0]) rfl ?_
  refine Ew.ld f111_189 rfl rfl rfl rfl ?_
  refine Ew.newR (c := c + 1) (s := s + 24) f111_190 rfl rfl ?_
  refine Ew.op (st' := zr (some (5, 0, 0)) :: zr (some (5, 0, 0)) :: _) f111_193 rfl rfl ?_
  refine Ew.callB (c := c) (s := s) (ls0 := [some (zr (some (5, 0, 0)))]) f111_194 rfl (Nat.le_of_ble_eq_true rfl) rfl rfl (Nat.le_of_ble_eq_true rfl) trivial (Nat.le_of_ble_eq_true rfl) rfl rfl ?_
  exact h1
theorem k111_197 {d c s : Nat} {I : zI} {L : zL} {P : zP} {S : zS} {Q : Option zV → zM → Prop} (s0 : S 0 0 0 = (10, 0)) (s17 : S 0 0 17 = (26, 4)) (s5 : S 5 0 0 = (6, 0)) (p11 : P 0 0 0 11 = some (0, 0, 17)) 
    (h1 : Ev d 1 24 40 0 [some (zr (some (5, 1, 0)))] [] (zup3 I 5 1 0 (fun _ => 0), zup3 L 5 1 0 (fun _ => 0), zup3 (zup4 P 0 0 17 0 (some (5, 0, 0))) 5 1 0 (fun _ => none), zup3 S 5 1 0 (6, 0), 199) (fun r M' => Ev (d + 1) c s 111 197 [some (zr (some (0, 0, 0))), some (zr (some (3, 2, 0))), some (zr (some (3, 4, 0))), some (zi (nI 1))] (zpush r [zr (some (5, 1, 0)), zi (nI 1), zr (some (0, 0, 17))]) M' Q)) : Ev (d + 1) (c + 2) (s + 27) 111 197 [some (zr (some (0, 0, 0))), some (zr (some (3, 2, 0))), some (zr (some (3, 4, 0))), some (zi (nI 0))] [zr (some (5, 0, 0)), zi (nI 0), zr (some (0, 0, 17))] (I, L, P, S, 198) Q := by
  refine Ew.aastn f111_197 (by simp [zup3_if, zup4_if, s0, s17, s5, p11, zel]) (by simp [zup3_if, zup4_if, s0, s17, s5, p11, zel]) (by simp [zup3_if, zup4_if, s0, s17, s5, p11]) (by simp [zup3_if, zup4_if, s0, s17, s5, p11]) rfl ?_
  refine Ew.iinc (v := nI 1) (ls' := [some (zr (some (0, 0, 0))), some (zr (some (3, 2, 0))), some (zr (some (3, 4, 0))), some (zi (nI 1))]) f111_198 rfl rfl rfl rfl ?_
  refine Ew.goto f111_201 rfl ?_
  refine Ew.ld f111_180 rfl rfl rfl rfl ?_
  refine Ew.op (st' := zi (nI 4) :: _) f111_181 rfl rfl ?_
  refine Ew.icmp f111_182 rfl rfl (fun h => absurd h (show ¬ ((nI 4) ≤ ((nI 1) : Int32)) by decide)) (fun _ => ?_)
  refine Ew.ld f111_185 rfl rfl rfl rfl ?_
  refine Ew.getp (v := some (0, 0, 17)) f111_186 (by simp [zup3_if, zup4_if, s0, s17, s5, p11]) (by simp [zup3_if, zup4_if, s0, s17, s5, p11]) rfl ?_
  refine Ew.ld f111_189 rfl rfl rfl rfl ?_
  refine Ew.newR (c := c + 1) (s := s + 24) f111_190 rfl rfl ?_
  refine Ew.op (st' := zr (some (5, 1, 0)) :: zr (some (5, 1, 0)) :: _) f111_193 rfl rfl ?_
  refine Ew.callB (c := c) (s := s) (ls0 := [some (zr (some (5, 1, 0)))]) f111_194 rfl (Nat.le_of_ble_eq_true rfl) rfl rfl (Nat.le_of_ble_eq_true rfl) trivial (Nat.le_of_ble_eq_true rfl) rfl rfl ?_
  exact h1
theorem k111_1971 {d c s : Nat} {I : zI} {L : zL} {P : zP} {S : zS} {Q : Option zV → zM → Prop} (s0 : S 0 0 0 = (10, 0)) (s17 : S 0 0 17 = (26, 4)) (s5 : S 5 1 0 = (6, 0)) (p11 : P 0 0 0 11 = some (0, 0, 17)) 
    (h1 : Ev d 1 24 40 0 [some (zr (some (5, 2, 0)))] [] (zup3 I 5 2 0 (fun _ => 0), zup3 L 5 2 0 (fun _ => 0), zup3 (zup4 P 0 0 17 1 (some (5, 1, 0))) 5 2 0 (fun _ => none), zup3 S 5 2 0 (6, 0), 201) (fun r M' => Ev (d + 1) c s 111 197 [some (zr (some (0, 0, 0))), some (zr (some (3, 2, 0))), some (zr (some (3, 4, 0))), some (zi (nI 2))] (zpush r [zr (some (5, 2, 0)), zi (nI 2), zr (some (0, 0, 17))]) M' Q)) : Ev (d + 1) (c + 2) (s + 27) 111 197 [some (zr (some (0, 0, 0))), some (zr (some (3, 2, 0))), some (zr (some (3, 4, 0))), some (zi (nI 1))] [zr (some (5, 1, 0)), zi (nI 1), zr (some (0, 0, 17))] (I, L, P, S, 200) Q := by
  refine Ew.aastn f111_197 (by simp [zup3_if, zup4_if, s0, s17, s5, p11, zel]) (by simp [zup3_if, zup4_if, s0, s17, s5, p11, zel]) (by simp [zup3_if, zup4_if, s0, s17, s5, p11]) (by simp [zup3_if, zup4_if, s0, s17, s5, p11]) rfl ?_
  refine Ew.iinc (v := nI 2) (ls' := [some (zr (some (0, 0, 0))), some (zr (some (3, 2, 0))), some (zr (some (3, 4, 0))), some (zi (nI 2))]) f111_198 rfl rfl rfl rfl ?_
  refine Ew.goto f111_201 rfl ?_
  refine Ew.ld f111_180 rfl rfl rfl rfl ?_
  refine Ew.op (st' := zi (nI 4) :: _) f111_181 rfl rfl ?_
  refine Ew.icmp f111_182 rfl rfl (fun h => absurd h (show ¬ ((nI 4) ≤ ((nI 2) : Int32)) by decide)) (fun _ => ?_)
  refine Ew.ld f111_185 rfl rfl rfl rfl ?_
  refine Ew.getp (v := some (0, 0, 17)) f111_186 (by simp [zup3_if, zup4_if, s0, s17, s5, p11]) (by simp [zup3_if, zup4_if, s0, s17, s5, p11]) rfl ?_
  refine Ew.ld f111_189 rfl rfl rfl rfl ?_
  refine Ew.newR (c := c + 1) (s := s + 24) f111_190 rfl rfl ?_
  refine Ew.op (st' := zr (some (5, 2, 0)) :: zr (some (5, 2, 0)) :: _) f111_193 rfl rfl ?_
  refine Ew.callB (c := c) (s := s) (ls0 := [some (zr (some (5, 2, 0)))]) f111_194 rfl (Nat.le_of_ble_eq_true rfl) rfl rfl (Nat.le_of_ble_eq_true rfl) trivial (Nat.le_of_ble_eq_true rfl) rfl rfl ?_
  exact h1
theorem k111_1972 {d c s : Nat} {I : zI} {L : zL} {P : zP} {S : zS} {Q : Option zV → zM → Prop} (s0 : S 0 0 0 = (10, 0)) (s17 : S 0 0 17 = (26, 4)) (s5 : S 5 2 0 = (6, 0)) (p11 : P 0 0 0 11 = some (0, 0, 17)) 
    (h1 : Ev d 1 24 40 0 [some (zr (some (5, 3, 0)))] [] (zup3 I 5 3 0 (fun _ => 0), zup3 L 5 3 0 (fun _ => 0), zup3 (zup4 P 0 0 17 2 (some (5, 2, 0))) 5 3 0 (fun _ => none), zup3 S 5 3 0 (6, 0), 203) (fun r M' => Ev (d + 1) c s 111 197 [some (zr (some (0, 0, 0))), some (zr (some (3, 2, 0))), some (zr (some (3, 4, 0))), some (zi (nI 3))] (zpush r [zr (some (5, 3, 0)), zi (nI 3), zr (some (0, 0, 17))]) M' Q)) : Ev (d + 1) (c + 2) (s + 27) 111 197 [some (zr (some (0, 0, 0))), some (zr (some (3, 2, 0))), some (zr (some (3, 4, 0))), some (zi (nI 2))] [zr (some (5, 2, 0)), zi (nI 2), zr (some (0, 0, 17))] (I, L, P, S, 202) Q := by
  refine Ew.aastn f111_197 (by simp [zup3_if, zup4_if, s0, s17, s5, p11, zel]) (by simp [zup3_if, zup4_if, s0, s17, s5, p11, zel]) (by simp [zup3_if, zup4_if, s0, s17, s5, p11]) (by simp [zup3_if, zup4_if, s0, s17, s5, p11]) rfl ?_
  refine Ew.iinc (v := nI 3) (ls' := [some (zr (some (0, 0, 0))), some (zr (some (3, 2, 0))), some (zr (some (3, 4, 0))), some (zi (nI 3))]) f111_198 rfl rfl rfl rfl ?_
  refine Ew.goto f111_201 rfl ?_
  refine Ew.ld f111_180 rfl rfl rfl rfl ?_
  refine Ew.op (st' := zi (nI 4) :: _) f111_181 rfl rfl ?_
  refine Ew.icmp f111_182 rfl rfl (fun h => absurd h (show ¬ ((nI 4) ≤ ((nI 3) : Int32)) by decide)) (fun _ => ?_)
  refine Ew.ld f111_185 rfl rfl rfl rfl ?_
  refine Ew.getp (v := some (0, 0, 17)) f111_186 (by simp [zup3_if, zup4_if, s0, s17, s5, p11]) (by simp [zup3_if, zup4_if, s0, s17, s5, p11]) rfl ?_
  refine Ew.ld f111_189 rfl rfl rfl rfl ?_
  refine Ew.newR (c := c + 1) (s := s + 24) f111_190 rfl rfl ?_
  refine Ew.op (st' := zr (some (5, 3, 0)) :: zr (some (5, 3, 0)) :: _) f111_193 rfl rfl ?_
  refine Ew.callB (c := c) (s := s) (ls0 := [some (zr (some (5, 3, 0)))]) f111_194 rfl (Nat.le_of_ble_eq_true rfl) rfl rfl (Nat.le_of_ble_eq_true rfl) trivial (Nat.le_of_ble_eq_true rfl) rfl rfl ?_
  exact h1
theorem k111_1973 {d c s : Nat} {I : zI} {L : zL} {P : zP} {S : zS} {Q : Option zV → zM → Prop} (s0 : S 0 0 0 = (10, 0)) (s17 : S 0 0 17 = (26, 4)) (s5 : S 5 3 0 = (6, 0)) (p11 : P 0 0 0 11 = some (0, 0, 17)) 
    (h1 : Q none (I, L, zup4 P 0 0 17 3 (some (5, 3, 0)), S, 204)) : Ev d c s 111 197 [some (zr (some (0, 0, 0))), some (zr (some (3, 2, 0))), some (zr (some (3, 4, 0))), some (zi (nI 3))] [zr (some (5, 3, 0)), zi (nI 3), zr (some (0, 0, 17))] (I, L, P, S, 204) Q := by
  refine Ew.aastn f111_197 (by simp [zup3_if, zup4_if, s0, s17, s5, p11, zel]) (by simp [zup3_if, zup4_if, s0, s17, s5, p11, zel]) (by simp [zup3_if, zup4_if, s0, s17, s5, p11]) (by simp [zup3_if, zup4_if, s0, s17, s5, p11]) rfl ?_
  refine Ew.iinc (v := nI 4) (ls' := [some (zr (some (0, 0, 0))), some (zr (some (3, 2, 0))), some (zr (some (3, 4, 0))), some (zi (nI 4))]) f111_198 rfl rfl rfl rfl ?_
  refine Ew.goto f111_201 rfl ?_
  refine Ew.ld f111_180 rfl rfl rfl rfl ?_
  refine Ew.op (st' := zi (nI 4) :: _) f111_181 rfl rfl ?_
  refine Ew.icmp f111_182 rfl rfl (fun _ => ?_) (fun h => absurd (show (nI 4) ≤ ((nI 4) : Int32) by decide) h)
  refine Ew.vret f111_204 ?_
  exact h1
/-- how far the class is: cells below `top`, `m` of its own fields, `e` of the sheets -/
def Xs (top m e : Nat) (I0 : zI) (L0 : zL) (P0 : zP) (S0 : zS) (I : zI) (L : zL) (P : zP) (S : zS) : Prop := fAB 0 top I0 L0 P0 S0 I L P S ∧ (∀ n, 1 ≤ n → n < top → ¬ n = 195 → Ec I L P S (zal n)) ∧ (I 0 0 0 = (fun _ => 0) ∧ L 0 0 0 = (fun _ => 0) ∧ P 0 0 0 = (fun i => if i < m then EP 0 0 0 i else none) ∧ S 0 0 0 = (10, 0)) ∧ (195 < top → I 0 0 17 = (fun _ => 0) ∧ L 0 0 17 = (fun _ => 0) ∧ P 0 0 17 = (fun i => if i < e then some (5, i, 0) else none) ∧ S 0 0 17 = (26, 4))
section
variable {d c s top : Nat} {Q : Option zV → zM → Prop} {I I1 I0 : zI} {L L1 L0 : zL} {P P1 P0 : zP} {S S1 S0 : zS} {r j q m e b : Nat} {x : Nat × Nat}
theorem zal_ne {n k : Nat} {r j q : Nat} (hk : zal k = (r, j, q)) (h : ¬ n = k) : ¬ ((zal n).1 = r ∧ (zal n).2.1 = j ∧ (zal n).2.2 = q) := fun g => h (zal_inj (by rw [hk, ← g.1, ← g.2.1, ← g.2.2]))
theorem Xs.put (h : Xs top m e I0 L0 P0 S0 I L P S) (ht : 0 < top) {v : Option zR} (hv : EP 0 0 0 m = v) : Xs top (m + 1) e I0 L0 P0 S0 I L (zup4 P 0 0 0 m v) S := by
  obtain ⟨h1, h2, h3, h4⟩ := h
  refine ⟨fun r j q g => ?_, fun n g1 g2 g3 => ?_, ⟨h3.1, h3.2.1, ?_, h3.2.2.2⟩, fun g => ⟨(h4 g).1, (h4 g).2.1, ?_, (h4 g).2.2.2⟩⟩
  · have n0 := zne (g 0 (by omega) (by omega)) (rfl : zal 0 = (0, 0, 0))
    have := h1 r j q g
    unfold mEq at this ⊢
    rw [zu4r _ _ (by omega)]
    exact this
  · have := h2 n g1 g2 g3
    have n0 := zal_ne (n := n) (rfl : zal 0 = (0, 0, 0)) (by omega)
    refine ⟨this.1, this.2.1, ?_, this.2.2.2⟩
    rw [zu4r _ _ n0]
    exact this.2.2.1
  · funext i
    by_cases g : i = m
    · subst g; rw [zu4s, if_pos (by omega), hv]
    · rw [zu4n _ _ (by omega), h3.2.2.1]
      by_cases g2 : i < m
      · simp only [if_pos g2, if_pos (show i < m + 1 by omega)]
      · simp only [if_neg g2, if_neg (show ¬ i < m + 1 by omega)]
  · rw [zu4r _ _ (by omega)]
    exact (h4 g).2.2.1
theorem Xs.ext (h : Xs top m e I0 L0 P0 S0 I L P S) (ht : 0 < top) (hb : top ≤ b) (hx : b ≤ 195 ∨ 195 < top) (hf : fAB top b I L P S I1 L1 P1 S1) (he : ∀ n, top ≤ n → n < b → Ec I1 L1 P1 S1 (zal n)) : Xs b m e I0 L0 P0 S0 I1 L1 P1 S1 := by
  obtain ⟨h1, h2, h3, h4⟩ := h
  refine ⟨h1.trans hf (by omega) hb, fun n g1 g2 g3 => ?_, ?_, fun g => ?_⟩
  · by_cases g : n < top
    · exact (h2 n g1 g g3).fr (hf.cell g rfl)
    · exact he n (by omega) g2
  · have := hf.cell (n := 0) ht (rfl : zal 0 = (0, 0, 0))
    exact ⟨this.1.trans h3.1, this.2.1.trans h3.2.1, this.2.2.1.trans h3.2.2.1, this.2.2.2.trans h3.2.2.2⟩
  · have := hf.cell (n := 195) (by omega) (rfl : zal 195 = (0, 0, 17))
    have h4 := h4 (by omega)
    exact ⟨this.1.trans h4.1, this.2.1.trans h4.2.1, this.2.2.1.trans h4.2.2.1, this.2.2.2.trans h4.2.2.2⟩
/-- a new cell and what its constructor leaves -/
theorem Xs.mk (h : Xs top m e I0 L0 P0 S0 I L P S) (ht : 0 < top) (hb : top < b) (hx : b ≤ 195 ∨ 195 < top) (ha : zal top = (r, j, q)) (hf : fAB top b (zup3 I r j q (fun _ => 0)) (zup3 L r j q (fun _ => 0)) (zup3 P r j q (fun _ => none)) (zup3 S r j q x) I1 L1 P1 S1) (he : ∀ n, top ≤ n → n < b → Ec I1 L1 P1 S1 (zal n)) : Xs b m e I0 L0 P0 S0 I1 L1 P1 S1 := by
  refine h.ext ht (by omega) hx (fun r' j' q' g => ?_) he
  have n0 := zne (g top (Nat.le_refl _) hb) ha
  have := hf r' j' q' g
  unfold mEq at this ⊢
  rw [zup3_o _ _ (by omega), zup3_o _ _ (by omega), zup3_o _ _ (by omega), zup3_o _ _ (by omega)] at this
  exact this
/-- the script and its empty text -/
theorem Xs.scr (h : Xs 13 m e I0 L0 P0 S0 I L P S) : Xs 15 m e I0 L0 P0 S0 (zup3 (zup3 I 3 2 0 (fun _ => 0)) 3 3 0 (fun _ => 0)) (zup3 (zup3 L 3 2 0 (fun _ => 0)) 3 3 0 (fun _ => 0)) (zup4 (zup3 (zup3 P 3 2 0 (fun _ => none)) 3 3 0 (fun _ => none)) 3 2 0 0 (some (3, 3, 0))) (zup3 (zup3 S 3 2 0 (5, 0)) 3 3 0 (22, 0)) := by
  refine h.ext (by omega) (by omega) (Or.inl (by omega)) (fun r j q g => ?_) (fun n g1 g2 => ?_)
  · have n0 := zne (g 13 (by omega) (by omega)) (rfl : zal 13 = (3, 2, 0))
    have n1 := zne (g 14 (by omega) (by omega)) (rfl : zal 14 = (3, 3, 0))
    refine ⟨?_, ?_, ?_, ?_⟩
    · repeat (first | rw [zup3_o _ _ (by omega)] | rw [zu4r _ _ (by omega)])
    · repeat (first | rw [zup3_o _ _ (by omega)] | rw [zu4r _ _ (by omega)])
    · repeat (first | rw [zup3_o _ _ (by omega)] | rw [zu4r _ _ (by omega)])
    · repeat (first | rw [zup3_o _ _ (by omega)] | rw [zu4r _ _ (by omega)])
  · have hn : n = 13 ∨ n = 14 := by omega
    rcases hn with e | e <;> subst e
    · rw [show zal 13 = (3, 2, 0) from rfl]
      exact ⟨funext fun i => by simp [zup3_if, zup4_if, EI], funext fun i => by simp [zup3_if, zup4_if], funext fun i => by simp [zup3_if, zup4_if, EP], by simp [zup3_if, ES]⟩
    · rw [show zal 14 = (3, 3, 0) from rfl]
      exact ⟨funext fun i => by simp [zup3_if, zup4_if, EI], funext fun i => by simp [zup3_if, zup4_if], funext fun i => by simp [zup3_if, zup4_if, EP], by simp [zup3_if, ES]⟩
/-- four fresh traces -/
theorem Xs.fresh (h : Xs 20 2 e I0 L0 P0 S0 I L P S) : Xs 21 3 e I0 L0 P0 S0 (zup3 I 0 0 11 (fun _ => 0)) (zup3 L 0 0 11 (fun _ => 0)) (zup4 (zup4 (zup4 (zup4 (zup4 (zup3 P 0 0 11 (fun _ => none)) 0 0 0 2 (some (0, 0, 11))) 0 0 11 0 (some (3, 4, 0))) 0 0 11 1 (some (3, 4, 0))) 0 0 11 2 (some (3, 4, 0))) 0 0 11 3 (some (3, 4, 0))) (zup3 S 0 0 11 (24, 4)) := by
  have h' := h.put (v := some (0, 0, 11)) (by omega) rfl
  refine h'.ext (b := 21) (by omega) (by omega) (Or.inl (by omega)) (fun r j q g => ?_) (fun n g1 g2 => ?_)
  · have n0 := zne (g 20 (by omega) (by omega)) (rfl : zal 20 = (0, 0, 11))
    refine ⟨?_, ?_, ?_, ?_⟩
    · repeat (first | rw [zup3_o _ _ (by omega)] | rw [zu4r _ _ (by omega)])
    · repeat (first | rw [zup3_o _ _ (by omega)] | rw [zu4r _ _ (by omega)])
    · funext i
      simp only [zup3_if, zup4_if]
      rw [if_neg (by omega), if_neg (by omega), if_neg (by omega), if_neg (by omega), if_neg n0]
    · repeat (first | rw [zup3_o _ _ (by omega)] | rw [zu4r _ _ (by omega)])
  · have hn : n = 20 := by omega
    subst hn
    rw [show zal 20 = (0, 0, 11) from rfl]
    refine ⟨funext fun i => by simp [zup3_if, zup4_if, EI], funext fun i => by simp [zup3_if, zup4_if], funext fun i => ?_, by simp [zup3_if, ES, zsj, zs0]⟩
    simp [zup3_if, zup4_if, EP]
    repeat' split
    all_goals first | rfl | omega | simp_all
/-- the array of the sheets -/
theorem Xs.shs (h : Xs 195 11 e I0 L0 P0 S0 I L P S) : Xs 196 12 0 I0 L0 P0 S0 (zup3 I 0 0 17 (fun _ => 0)) (zup3 L 0 0 17 (fun _ => 0)) (zup4 (zup3 P 0 0 17 (fun _ => none)) 0 0 0 11 (some (0, 0, 17))) (zup3 S 0 0 17 (26, 4)) := by
  obtain ⟨h1, h2, h3, h4⟩ := h
  refine ⟨fun r j q g => ?_, fun n g1 g2 g3 => ?_, ⟨?_, ?_, ?_, ?_⟩, fun _ => ⟨?_, ?_, ?_, ?_⟩⟩
  · have n0 := zne (g 0 (by omega) (by omega)) (rfl : zal 0 = (0, 0, 0))
    have n1 := zne (g 195 (by omega) (by omega)) (rfl : zal 195 = (0, 0, 17))
    have := h1 r j q (fun n a b => g n a (by omega))
    unfold mEq at this ⊢
    rw [zu4r _ _ n0, zup3_o _ _ n1, zup3_o _ _ n1, zup3_o _ _ n1, zup3_o _ _ n1]
    exact this
  · have := h2 n g1 (by omega) g3
    have n0 := zal_ne (n := n) (rfl : zal 0 = (0, 0, 0)) (by omega)
    have n1 := zal_ne (n := n) (rfl : zal 195 = (0, 0, 17)) g3
    unfold Ec at this ⊢
    rw [zu4r _ _ n0, zup3_o _ _ n1, zup3_o _ _ n1, zup3_o _ _ n1, zup3_o _ _ n1]
    exact this
  · rw [zup3_o _ _ (by omega)]; exact h3.1
  · rw [zup3_o _ _ (by omega)]; exact h3.2.1
  · funext i
    by_cases g : i = 11
    · subst g; rw [zu4s]; rfl
    · rw [zu4n _ _ (by omega), zup3_o _ _ (by omega), h3.2.2.1]
      by_cases g2 : i < 11
      · simp only [if_pos g2, if_pos (show i < 12 by omega)]
      · simp only [if_neg g2, if_neg (show ¬ i < 12 by omega)]
  · rw [zup3_o _ _ (by omega)]; exact h3.2.2.2
  · exact zup3_s _ _ _ _ _
  · exact zup3_s _ _ _ _ _
  · rw [zu4r _ _ (by omega), zup3_s]; rfl
  · exact zup3_s _ _ _ _ _
theorem Xs.el (h : Xs top m e I0 L0 P0 S0 I L P S) (ht : 195 < top) : Xs top m (e + 1) I0 L0 P0 S0 I L (zup4 P 0 0 17 e (some (5, e, 0))) S := by
  obtain ⟨h1, h2, h3, h4⟩ := h
  refine ⟨fun r j q g => ?_, fun n g1 g2 g3 => ?_, ⟨h3.1, h3.2.1, ?_, h3.2.2.2⟩, fun g => ⟨(h4 g).1, (h4 g).2.1, ?_, (h4 g).2.2.2⟩⟩
  · have n0 := zne (g 195 (by omega) (by omega)) (rfl : zal 195 = (0, 0, 17))
    have := h1 r j q g
    unfold mEq at this ⊢
    rw [zu4r _ _ (by omega)]
    exact this
  · have := h2 n g1 g2 g3
    have n0 := zal_ne (n := n) (rfl : zal 195 = (0, 0, 17)) g3
    refine ⟨this.1, this.2.1, ?_, this.2.2.2⟩
    rw [zu4r _ _ n0]
    exact this.2.2.1
  · rw [zu4r _ _ (by omega)]
    exact h3.2.2.1
  · funext i
    by_cases g5 : i = e
    · subst g5; rw [zu4s, if_pos (by omega)]
    · rw [zu4n _ _ (by omega), (h4 g).2.2.1]
      by_cases g2 : i < e
      · simp only [if_pos g2, if_pos (show i < e + 1 by omega)]
      · simp only [if_neg g2, if_neg (show ¬ i < e + 1 by omega)]
theorem Xs.sh (h : Xs top m e I0 L0 P0 S0 I L P S) {n : Nat} (h1 : 1 ≤ n) (h2 : n < top) (h3 : ¬ n = 195) {r j q : Nat} (e1 : zal n = (r, j, q)) : S r j q = ES r j q := by
  have := (h.2.1 n h1 h2 h3).2.2.2
  rw [e1] at this
  exact this
theorem Xs.i8 (h : Xs top m e I0 L0 P0 S0 I L P S) : Xs top m e I0 L0 P0 S0 (zup4 I 0 0 0 8 (nI 0)) L P S := by
  have e : zup4 I 0 0 0 8 (nI 0) = I := by
    funext r j q i
    rw [zup4_if]
    split
    · rename_i g
      rw [g.1, g.2.1, g.2.2.1, h.2.2.1.1]; rfl
    · rfl
  rw [e]
  exact h
theorem Xs.skip (h : Xs top m e I0 L0 P0 S0 I L P S) (hm : EP 0 0 0 m = none) : Xs top (m + 1) e I0 L0 P0 S0 I L P S := by
  refine ⟨h.1, h.2.1, ⟨h.2.2.1.1, h.2.2.1.2.1, ?_, h.2.2.1.2.2.2⟩, h.2.2.2⟩
  rw [h.2.2.1.2.2.1]
  funext i
  by_cases g : i = m
  · subst g; simp only [if_neg (Nat.lt_irrefl i), if_pos (Nat.lt_succ_self i), hm]
  · by_cases g2 : i < m
    · simp only [if_pos g2, if_pos (show i < m + 1 by omega)]
    · simp only [if_neg g2, if_neg (show ¬ i < m + 1 by omega)]
theorem cn_Class (hf : cFresh I L P S 0 0 0 (10, 0)) (k : ∀ I' L' P' S', Xs 204 12 4 I L P S I' L' P' S' → Q none (I', L', P', S', 204)) : Ev (d + 3) (c + 203) (s + 1491) 111 0 [some (zr (some (0, 0, 0))), none, none, none] [] (I, L, P, S, 1) Q := by
  have x0 : Xs 1 0 0 I L P S I L P S := ⟨fun r j q _ => ⟨rfl, rfl, rfl, rfl⟩, fun n h1 h2 => by omega, ⟨hf.1, hf.2.1, by rw [hf.2.2.1]; rfl, hf.2.2.2⟩, fun h => by omega⟩
  refine k111_0 (d := d + 2) (c := c + 200) (s := s + 1420) x0.2.2.1.2.2.2 ?_
  refine cn_Tape (d := d + 1) (c := 0) (s := 0) cFresh_new (fun I1 L1 P1 S1 f e => ?_)
  have x1 := x0.mk (by omega) (by omega) (Or.inl (by omega)) (rfl : zal 1 = (0, 0, 1)) f e
  refine k111_12 (d := d + 2) (c := c + 191) (s := s + 1244) x1.2.2.1.2.2.2 ?_
  have x2 := x1.put (v := some (0, 0, 1)) (by omega) (rfl : EP 0 0 0 0 = _)
  refine cn_Play (d := d) (c := 0) (s := 0) cFresh_new (fun I2 L2 P2 S2 f e => ?_)
  have x3 := x2.mk (by omega) (by omega) (Or.inl (by omega)) (rfl : zal 4 = (0, 0, 4)) f e
  refine k111_23 (d := d + 1) (c := c + 184) (s := s + 1109) x3.2.2.1.2.2.2 ?_
  have x4 := x3.put (v := some (0, 0, 4)) (by omega) (rfl : EP 0 0 0 1 = _)
  have x5 := x4.scr
  refine cn_Trc (d := d) (c := 0) (s := 0) cFresh_new (fun n a b => (x5.2.1 n (by omega) (by omega) (by omega)).fr ((fAB_new (a := 15) rfl).cell (n := n) (by omega) rfl)) (fun I3 L3 P3 S3 f e => ?_)
  have x6 := x5.mk (by omega) (by omega) (Or.inl (by omega)) (rfl : zal 15 = (3, 4, 0)) f e
  refine k111_48 (d := d + 2) (c := c + 172) (s := s + 1045) x6.2.2.1.2.2.2 (x6.sh (n := 15) (by omega) (by omega) (by omega) rfl) ?_
  have x7 := x6.fresh
  refine cn_Tab (d := d + 1) (c := 0) (s := 0) (a := 21) (by decide) (by decide) cFresh_new (by rw [zup3_o _ _ (by decide)]; exact x7.sh (n := 13) (by omega) (by omega) (by omega) rfl) (by rw [zup3_o _ _ (by decide)]; exact x7.sh (n := 15) (by omega) (by omega) (by omega) rfl) (fun I4 L4 P4 S4 f e => ?_)
  have x8 := x7.mk (by omega) (by omega) (Or.inl (by omega)) (rfl : zal 21 = (2, 0, 0)) f e
  refine k111_87 (d := d + 2) (c := c + 161) (s := s + 985) x8.2.2.1.2.2.2 ?_
  have x9 := x8.put (v := some (2, 0, 0)) (by omega) (rfl : EP 0 0 0 3 = _)
  refine cn_Tab (d := d + 1) (c := 0) (s := 0) (a := 32) (by decide) (by decide) cFresh_new (by rw [zup3_o _ _ (by decide)]; exact x9.sh (n := 13) (by omega) (by omega) (by omega) rfl) (by rw [zup3_o _ _ (by decide)]; exact x9.sh (n := 15) (by omega) (by omega) (by omega) rfl) (fun I5 L5 P5 S5 f e => ?_)
  have x10 := x9.mk (by omega) (by omega) (Or.inl (by omega)) (rfl : zal 32 = (2, 1, 0)) f e
  refine k111_100 (d := d + 2) (c := c + 93) (s := s + 617) x10.2.2.1.2.2.2 ?_
  have x11 := x10.put (v := some (2, 1, 0)) (by omega) (rfl : EP 0 0 0 4 = _)
  refine cn_Hist (d := d) (c := 0) (s := 0) (a := 43) (base := 2) (by decide) rfl rfl rfl (by decide) (by decide) cFresh_new (by rw [zup3_o _ _ (by decide)]; exact x11.sh (n := 13) (by omega) (by omega) (by omega) rfl) (by rw [zup3_o _ _ (by decide)]; exact x11.sh (n := 15) (by omega) (by omega) (by omega) rfl) (fun I6 L6 P6 S6 f e => ?_)
  have x12 := x11.mk (by omega) (by omega) (Or.inl (by omega)) (rfl : zal 43 = (4, 0, 0)) f e
  refine k111_113 (d := d + 2) (c := c + 82) (s := s + 557) x12.2.2.1.2.2.2 ?_
  have x13 := x12.put (v := some (4, 0, 0)) (by omega) (rfl : EP 0 0 0 5 = _)
  refine cn_Tab (d := d + 1) (c := 0) (s := 0) (a := 111) (by decide) (by decide) cFresh_new (by rw [zup3_o _ _ (by decide)]; exact x13.sh (n := 13) (by omega) (by omega) (by omega) rfl) (by rw [zup3_o _ _ (by decide)]; exact x13.sh (n := 15) (by omega) (by omega) (by omega) rfl) (fun I7 L7 P7 S7 f e => ?_)
  have x14 := x13.mk (by omega) (by omega) (Or.inl (by omega)) (rfl : zal 111 = (2, 8, 0)) f e
  refine k111_126 (d := d + 2) (c := c + 14) (s := s + 189) x14.2.2.1.2.2.2 ?_
  have x15 := x14.put (v := some (2, 8, 0)) (by omega) (rfl : EP 0 0 0 6 = _)
  refine cn_Hist (d := d) (c := 0) (s := 0) (a := 122) (base := 9) (by decide) rfl rfl rfl (by decide) (by decide) cFresh_new (by rw [zup3_o _ _ (by decide)]; exact x15.sh (n := 13) (by omega) (by omega) (by omega) rfl) (by rw [zup3_o _ _ (by decide)]; exact x15.sh (n := 15) (by omega) (by omega) (by omega) rfl) (fun I8 L8 P8 S8 f e => ?_)
  have x16 := x15.mk (by omega) (by omega) (Or.inl (by omega)) (rfl : zal 122 = (4, 1, 0)) f e
  refine k111_139 (d := d + 2) (c := c + 12) (s := s + 182) x16.2.2.1.2.2.2 ?_
  have x17 := x16.put (v := some (4, 1, 0)) (by omega) (rfl : EP 0 0 0 7 = _)
  have x18 := x17.i8.skip rfl
  refine cn_Ord (d := d + 1) (c := 0) (s := 0) cFresh_new (fun I9 L9 P9 S9 f e => ?_)
  have x19 := x18.mk (by omega) (by omega) (Or.inl (by omega)) (rfl : zal 190 = (0, 0, 12)) f e
  refine k111_155 (d := d + 2) (c := c + 9) (s := s + 112) x19.2.2.1.2.2.2 ?_
  have x20 := x19.put (v := some (0, 0, 12)) (by omega) (rfl : EP 0 0 0 9 = _)
  refine cn_Pair (d := d + 1) (c := 0) (s := 0) cFresh_new (fun I10 L10 P10 S10 f e => ?_)
  have x21 := x20.mk (by omega) (by omega) (Or.inl (by omega)) (rfl : zal 192 = (0, 0, 14)) f e
  refine k111_167 (d := d + 2) (c := c + 6) (s := s + 81) x21.2.2.1.2.2.2 ?_
  have x22 := x21.put (v := some (0, 0, 14)) (by omega) (rfl : EP 0 0 0 10 = _)
  have x23 := x22.shs
  refine cn_She (d := d + 1) (c := 0) (s := 0) (a := 196) (by decide) rfl rfl cFresh_new (fun I11 L11 P11 S11 f e => ?_)
  have x24 := x23.mk (by omega) (by omega) (Or.inr (by omega)) (rfl : zal 196 = (5, 0, 0)) f e
  refine k111_197 (d := d + 2) (c := c + 4) (s := s + 54) x24.2.2.1.2.2.2 (x24.2.2.2 (by omega)).2.2.2 (x24.sh (n := 196) (by omega) (by omega) (by omega) rfl) (by rw [x24.2.2.1.2.2.1]; rfl) ?_
  have x25 := x24.el (by omega)
  refine cn_She (d := d + 1) (c := 0) (s := 0) (a := 198) (by decide) rfl rfl cFresh_new (fun I12 L12 P12 S12 f e => ?_)
  have x26 := x25.mk (by omega) (by omega) (Or.inr (by omega)) (rfl : zal 198 = (5, 1, 0)) f e
  refine k111_1971 (d := d + 2) (c := c + 2) (s := s + 27) x26.2.2.1.2.2.2 (x26.2.2.2 (by omega)).2.2.2 (x26.sh (n := 198) (by omega) (by omega) (by omega) rfl) (by rw [x26.2.2.1.2.2.1]; rfl) ?_
  have x27 := x26.el (by omega)
  refine cn_She (d := d + 1) (c := 0) (s := 0) (a := 200) (by decide) rfl rfl cFresh_new (fun I13 L13 P13 S13 f e => ?_)
  have x28 := x27.mk (by omega) (by omega) (Or.inr (by omega)) (rfl : zal 200 = (5, 2, 0)) f e
  refine k111_1972 (d := d + 2) (c := c) (s := s) x28.2.2.1.2.2.2 (x28.2.2.2 (by omega)).2.2.2 (x28.sh (n := 200) (by omega) (by omega) (by omega) rfl) (by rw [x28.2.2.1.2.2.1]; rfl) ?_
  have x29 := x28.el (by omega)
  refine cn_She (d := d + 1) (c := 0) (s := 0) (a := 202) (by decide) rfl rfl cFresh_new (fun I14 L14 P14 S14 f e => ?_)
  have x30 := x29.mk (by omega) (by omega) (Or.inr (by omega)) (rfl : zal 202 = (5, 3, 0)) f e
  refine k111_1973 x30.2.2.1.2.2.2 (x30.2.2.2 (by omega)).2.2.2 (x30.sh (n := 202) (by omega) (by omega) (by omega) rfl) (by rw [x30.2.2.1.2.2.1]; rfl) ?_
  have x31 := x30.el (by omega)
  exact k _ _ _ _ x31
end
