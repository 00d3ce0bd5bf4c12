/-! the other things are made -/
theorem zne {n r j q r0 j0 q0 : Nat} (g : ¬ zal n = (r, j, q)) (e : zal n = (r0, j0, q0)) : ¬ (r = r0 ∧ j = j0 ∧ q = q0) := fun h => g (by rw [e, h.1, h.2.1, h.2.2])
theorem k88_0 {d c s : Nat} {I : zI} {L : zL} {P : zP} {S : zS} {Q : Option zV → zM → Prop} (s0 : S 0 0 1 = (8, 0)) 
    (h1 : Q none (zup4 (zup4 (zup3 (zup4 (zup3 I 0 0 2 (fun _ => 0)) 0 0 1 1 (nI 0)) 0 0 3 (fun _ => 0)) 0 0 1 3 (nI 0)) 0 0 1 4 (nI 0), zup3 (zup3 L 0 0 2 (fun _ => 0)) 0 0 3 (fun _ => 0), zup4 (zup3 (zup4 (zup3 P 0 0 2 (fun _ => none)) 0 0 1 0 (some (0, 0, 2))) 0 0 3 (fun _ => none)) 0 0 1 2 (some (0, 0, 3)), zup3 (zup3 S 0 0 2 (22, 60)) 0 0 3 (22, 6), 4)) : Ev (d + 1) (c + 2) (s + 66) 88 0 [some (zr (some (0, 0, 1)))] [] (I, L, P, S, 2) Q := by
  refine Ew.ld f88_0 rfl rfl rfl rfl ?_
  refine Ew.nat (st' := []) f88_1 rfl (fun k h => ⟨Nat.le_of_ble_eq_true rfl, h⟩) rfl ?_
  refine Ew.ld f88_4 rfl rfl rfl rfl ?_
  refine Ew.op (st' := zi (nI 60) :: _) f88_5 rfl rfl ?_
  refine Ew.newaR (tag := 22) (n := 60) (c := c + 1) (s := s + 6) f88_7 rfl (by decide) rfl rfl ?_
  refine Ew.putp f88_9 (by simp [zup3_if, zup4_if, s0]) rfl ?_
  refine Ew.ld f88_12 rfl rfl rfl rfl ?_
  refine Ew.op (st' := zi (nI 0) :: _) f88_13 rfl rfl ?_
  refine Ew.puti f88_14 (by simp [zup3_if, zup4_if, s0]) rfl ?_
  refine Ew.ld f88_17 rfl rfl rfl rfl ?_
  refine Ew.op (st' := zi (nI 6) :: _) f88_18 rfl rfl ?_
  refine Ew.newaR (tag := 22) (n := 6) (c := c) (s := s) f88_20 rfl (by decide) rfl rfl ?_
  refine Ew.putp f88_22 (by simp [zup3_if, zup4_if, s0]) rfl ?_
  refine Ew.ld f88_25 rfl rfl rfl rfl ?_
  refine Ew.op (st' := zi (nI 0) :: _) f88_26 rfl rfl ?_
  refine Ew.puti f88_27 (by simp [zup3_if, zup4_if, s0]) rfl ?_
  refine Ew.ld f88_30 rfl rfl rfl rfl ?_
  refine Ew.op (st' := zi (nI 0) :: _) f88_31 rfl rfl ?_
  refine Ew.puti f88_32 (by simp [zup3_if, zup4_if, s0]) rfl ?_
  refine Ew.vret f88_35 ?_
  exact h1
theorem k23_0 {d c s : Nat} {I : zI} {L : zL} {P : zP} {S : zS} {Q : Option zV → zM → Prop} (s0 : S 0 0 4 = (4, 0)) 
    (h1 : Q none (zup4 (zup4 (zup4 (zup4 (zup4 (zup3 (zup4 (zup4 (zup4 (zup3 (zup4 (zup4 (zup3 (zup3 (zup3 (zup3 (zup4 (zup3 (zup3 I 3 0 0 (fun _ => 0)) 3 1 0 (fun _ => 0)) 0 0 4 1 (nI 0)) 0 0 5 (fun _ => 0)) 0 0 6 (fun _ => 0)) 0 0 7 (fun _ => 0)) 0 0 8 (fun _ => 0)) 0 0 4 6 (nI 0)) 0 0 4 7 (nI 0)) 0 0 9 (fun _ => 0)) 0 0 4 9 (nI 0)) 0 0 4 10 (nI 0)) 0 0 4 11 (nI 0)) 0 0 10 (fun _ => 0)) 0 0 4 13 (nI 0)) 0 0 4 14 (nI 0)) 0 0 4 15 ((-4))) 0 0 4 16 (nI 0)) 0 0 4 17 (nI 0), zup3 (zup3 (zup3 (zup3 (zup3 (zup3 (zup3 (zup3 L 3 0 0 (fun _ => 0)) 3 1 0 (fun _ => 0)) 0 0 5 (fun _ => 0)) 0 0 6 (fun _ => 0)) 0 0 7 (fun _ => 0)) 0 0 8 (fun _ => 0)) 0 0 9 (fun _ => 0)) 0 0 10 (fun _ => 0), zup4 (zup3 (zup4 (zup3 (zup4 (zup3 (zup4 (zup3 (zup4 (zup3 (zup4 (zup3 (zup4 (zup4 (zup3 (zup3 P 3 0 0 (fun _ => none)) 3 1 0 (fun _ => none)) 3 0 0 0 (some (3, 1, 0))) 0 0 4 0 (some (3, 0, 0))) 0 0 5 (fun _ => none)) 0 0 4 2 (some (0, 0, 5))) 0 0 6 (fun _ => none)) 0 0 4 3 (some (0, 0, 6))) 0 0 7 (fun _ => none)) 0 0 4 4 (some (0, 0, 7))) 0 0 8 (fun _ => none)) 0 0 4 5 (some (0, 0, 8))) 0 0 9 (fun _ => none)) 0 0 4 8 (some (0, 0, 9))) 0 0 10 (fun _ => none)) 0 0 4 12 (some (0, 0, 10)), zup3 (zup3 (zup3 (zup3 (zup3 (zup3 (zup3 (zup3 S 3 0 0 (5, 0)) 3 1 0 (22, 0)) 0 0 5 (20, 30)) 0 0 6 (20, 30)) 0 0 7 (20, 30)) 0 0 8 (20, 31)) 0 0 9 (20, 6)) 0 0 10 (20, 30), 13)) : Ev (d + 2) (c + 8) (s + 158) 23 0 [some (zr (some (0, 0, 4)))] [] (I, L, P, S, 5) Q := by
  refine Ew.ld f23_0 rfl rfl rfl rfl ?_
  refine Ew.nat (st' := []) f23_1 rfl (fun k h => ⟨Nat.le_of_ble_eq_true rfl, h⟩) rfl ?_
  refine Ew.ld f23_4 rfl rfl rfl rfl ?_
  refine Ew.newR (c := c + 7) (s := s + 157) f23_5 rfl rfl ?_
  refine Ew.op (st' := zr (some (3, 0, 0)) :: zr (some (3, 0, 0)) :: _) f23_8 rfl rfl ?_
  refine Ew.op (st' := zi (nI 0) :: _) f23_9 rfl rfl ?_
  refine Ew.newaR (tag := 22) (n := 0) (c := c + 6) (s := s + 157) f23_10 rfl (by decide) rfl rfl ?_
  refine Ew.call0 (ls0 := [some (zr (some (3, 0, 0))), some (zr (some (3, 1, 0)))]) f23_12 rfl (Nat.le_of_ble_eq_true rfl) rfl rfl (Nat.le_of_ble_eq_true rfl) trivial (Nat.le_of_ble_eq_true rfl) rfl rfl ?_
  refine Ew.ld f36_0 rfl rfl rfl rfl ?_
  refine Ew.nat (st' := []) f36_1 rfl (fun k h => ⟨Nat.le_of_ble_eq_true rfl, h⟩) rfl ?_
  refine Ew.ld f36_4 rfl rfl rfl rfl ?_
  refine Ew.ld f36_5 rfl rfl rfl rfl ?_
  refine Ew.putp f36_6 (by simp [zup3_if, zup4_if, s0]) rfl ?_
  refine Ew.vret f36_9 ?_
  show Ev (d + 2) (c + 6) (s + 157) 23 15 [some (zr (some (0, 0, 4)))] [zr (some (3, 0, 0)), zr (some (0, 0, 4))] (zup3 (zup3 I 3 0 0 (fun _ => 0)) 3 1 0 (fun _ => 0), zup3 (zup3 L 3 0 0 (fun _ => 0)) 3 1 0 (fun _ => 0), zup4 (zup3 (zup3 P 3 0 0 (fun _ => none)) 3 1 0 (fun _ => none)) 3 0 0 0 (some (3, 1, 0)), zup3 (zup3 S 3 0 0 (5, 0)) 3 1 0 (22, 0), 7) Q
  refine Ew.putp f23_15 (by simp [zup3_if, zup4_if, s0]) rfl ?_
  refine Ew.ld f23_18 rfl rfl rfl rfl ?_
  refine Ew.op (st' := zi (nI 0) :: _) f23_19 rfl rfl ?_
  refine Ew.puti f23_20 (by simp [zup3_if, zup4_if, s0]) rfl ?_
  refine Ew.ld f23_23 rfl rfl rfl rfl ?_
  refine Ew.op (st' := zi (nI 30) :: _) f23_24 rfl rfl ?_
  refine Ew.newaR (tag := 20) (n := 30) (c := c + 5) (s := s + 127) f23_26 rfl (by decide) rfl rfl ?_
  refine Ew.putp f23_28 (by simp [zup3_if, zup4_if, s0]) rfl ?_
  refine Ew.ld f23_31 rfl rfl rfl rfl ?_
  refine Ew.op (st' := zi (nI 30) :: _) f23_32 rfl rfl ?_
  refine Ew.newaR (tag := 20) (n := 30) (c := c + 4) (s := s + 97) f23_34 rfl (by decide) rfl rfl ?_
  refine Ew.putp f23_36 (by simp [zup3_if, zup4_if, s0]) rfl ?_
  refine Ew.ld f23_39 rfl rfl rfl rfl ?_
  refine Ew.op (st' := zi (nI 30) :: _) f23_40 rfl rfl ?_
  refine Ew.newaR (tag := 20) (n := 30) (c := c + 3) (s := s + 67) f23_42 rfl (by decide) rfl rfl ?_
  refine Ew.putp f23_44 (by simp [zup3_if, zup4_if, s0]) rfl ?_
  refine Ew.ld f23_47 rfl rfl rfl rfl ?_
  refine Ew.op (st' := zi (nI 31) :: _) f23_48 rfl rfl ?_
  refine Ew.newaR (tag := 20) (n := 31) (c := c + 2) (s := s + 36) f23_50 rfl (by decide) rfl rfl ?_
  refine Ew.putp f23_52 (by simp [zup3_if, zup4_if, s0]) rfl ?_
  refine Ew.ld f23_55 rfl rfl rfl rfl ?_
  refine Ew.op (st' := zi (nI 0) :: _) f23_56 rfl rfl ?_
  refine Ew.puti f23_57 (by simp [zup3_if, zup4_if, s0]) rfl ?_
  refine Ew.ld f23_60 rfl rfl rfl rfl ?_
  refine Ew.op (st' := zi (nI 0) :: _) f23_61 rfl rfl ?_
  refine Ew.putb f23_62 (by simp [zup3_if, zup4_if, s0]) (Or.inl rfl) rfl ?_
  refine Ew.ld f23_65 rfl rfl rfl rfl ?_
  refine Ew.op (st' := zi (nI 6) :: _) f23_66 rfl rfl ?_
  refine Ew.newaR (tag := 20) (n := 6) (c := c + 1) (s := s + 30) f23_68 rfl (by decide) rfl rfl ?_
  refine Ew.putp f23_70 (by simp [zup3_if, zup4_if, s0]) rfl ?_
  refine Ew.ld f23_73 rfl rfl rfl rfl ?_
  refine Ew.op (st' := zi (nI 0) :: _) f23_74 rfl rfl ?_
  refine Ew.puti f23_75 (by simp [zup3_if, zup4_if, s0]) rfl ?_
  refine Ew.ld f23_78 rfl rfl rfl rfl ?_
  refine Ew.op (st' := zi (nI 0) :: _) f23_79 rfl rfl ?_
  refine Ew.puti f23_80 (by simp [zup3_if, zup4_if, s0]) rfl ?_
  refine Ew.ld f23_83 rfl rfl rfl rfl ?_
  refine Ew.op (st' := zi (nI 0) :: _) f23_84 rfl rfl ?_
  refine Ew.puti f23_85 (by simp [zup3_if, zup4_if, s0]) rfl ?_
  refine Ew.ld f23_88 rfl rfl rfl rfl ?_
  refine Ew.op (st' := zi (nI 30) :: _) f23_89 rfl rfl ?_
  refine Ew.newaR (tag := 20) (n := 30) (c := c) (s := s) f23_91 rfl (by decide) rfl rfl ?_
  refine Ew.putp f23_93 (by simp [zup3_if, zup4_if, s0]) rfl ?_
  refine Ew.ld f23_96 rfl rfl rfl rfl ?_
  refine Ew.op (st' := zi (nI 0) :: _) f23_97 rfl rfl ?_
  refine Ew.puti f23_98 (by simp [zup3_if, zup4_if, s0]) rfl ?_
  refine Ew.ld f23_101 rfl rfl rfl rfl ?_
  refine Ew.op (st' := zi (nI 0) :: _) f23_102 rfl rfl ?_
  refine Ew.puti f23_103 (by simp [zup3_if, zup4_if, s0]) rfl ?_
  refine Ew.ld f23_106 rfl rfl rfl rfl ?_
  refine Ew.op (st' := zi ((-4)) :: _) f23_107 rfl rfl ?_
  refine Ew.puti f23_109 (by simp [zup3_if, zup4_if, s0]) rfl ?_
  refine Ew.ld f23_112 rfl rfl rfl rfl ?_
  refine Ew.op (st' := zi (nI 0) :: _) f23_113 rfl rfl ?_
  refine Ew.puti f23_114 (by simp [zup3_if, zup4_if, s0]) rfl ?_
  refine Ew.ld f23_117 rfl rfl rfl rfl ?_
  refine Ew.op (st' := zi (nI 0) :: _) f23_118 rfl rfl ?_
  refine Ew.puti f23_119 (by simp [zup3_if, zup4_if, s0]) rfl ?_
  refine Ew.vret f23_122 ?_
  exact h1
theorem k6_0 {d c s : Nat} {I : zI} {L : zL} {P : zP} {S : zS} {Q : Option zV → zM → Prop} (s0 : S 0 0 12 = (2, 0)) 
    (h1 : Q none (zup3 I 0 0 13 (fun _ => 0), zup3 L 0 0 13 (fun _ => 0), zup4 (zup3 P 0 0 13 (fun _ => none)) 0 0 12 0 (some (0, 0, 13)), zup3 S 0 0 13 (20, 6), 192)) : Ev (d + 1) (c + 1) (s + 6) 6 0 [some (zr (some (0, 0, 12)))] [] (I, L, P, S, 191) Q := by
  refine Ew.ld f6_0 rfl rfl rfl rfl ?_
  refine Ew.nat (st' := []) f6_1 rfl (fun k h => ⟨Nat.le_of_ble_eq_true rfl, h⟩) rfl ?_
  refine Ew.ld f6_4 rfl rfl rfl rfl ?_
  refine Ew.op (st' := zi (nI 6) :: _) f6_5 rfl rfl ?_
  refine Ew.newaR (tag := 20) (n := 6) (c := c) (s := s) f6_7 rfl (by decide) rfl rfl ?_
  refine Ew.putp f6_9 (by simp [zup3_if, zup4_if, s0]) rfl ?_
  refine Ew.vret f6_12 ?_
  exact h1
theorem k13_0 {d c s : Nat} {I : zI} {L : zL} {P : zP} {S : zS} {Q : Option zV → zM → Prop} (s0 : S 0 0 14 = (3, 0)) 
    (h1 : Q none (zup4 (zup3 (zup3 I 0 0 15 (fun _ => 0)) 0 0 16 (fun _ => 0)) 0 0 14 5 ((-4)), zup4 (zup4 (zup4 (zup3 (zup3 L 0 0 15 (fun _ => 0)) 0 0 16 (fun _ => 0)) 0 0 14 2 (lN 0)) 0 0 14 3 (lN 0)) 0 0 14 4 (lN 0), zup4 (zup4 (zup4 (zup3 (zup4 (zup3 P 0 0 15 (fun _ => none)) 0 0 14 0 (some (0, 0, 15))) 0 0 16 (fun _ => none)) 0 0 14 1 (some (0, 0, 16))) 0 0 14 6 (some (3, 4, 0))) 0 0 14 7 (some (3, 4, 0)), zup3 (zup3 S 0 0 15 (21, 31)) 0 0 16 (21, 31), 195)) : Ev (d + 1) (c + 2) (s + 62) 13 0 [some (zr (some (0, 0, 14))), some (zr (some (3, 4, 0)))] [] (I, L, P, S, 193) Q := by
  refine Ew.ld f13_0 rfl rfl rfl rfl ?_
  refine Ew.nat (st' := []) f13_1 rfl (fun k h => ⟨Nat.le_of_ble_eq_true rfl, h⟩) rfl ?_
  refine Ew.ld f13_4 rfl rfl rfl rfl ?_
  refine Ew.op (st' := zi (nI 31) :: _) f13_5 rfl rfl ?_
  refine Ew.newaR (tag := 21) (n := 31) (c := c + 1) (s := s + 31) f13_7 rfl (by decide) rfl rfl ?_
  refine Ew.putp f13_9 (by simp [zup3_if, zup4_if, s0]) rfl ?_
  refine Ew.ld f13_12 rfl rfl rfl rfl ?_
  refine Ew.op (st' := zi (nI 31) :: _) f13_13 rfl rfl ?_
  refine Ew.newaR (tag := 21) (n := 31) (c := c) (s := s) f13_15 rfl (by decide) rfl rfl ?_
  refine Ew.putp f13_17 (by simp [zup3_if, zup4_if, s0]) rfl ?_
  refine Ew.ld f13_20 rfl rfl rfl rfl ?_
  refine Ew.op (st' := zl (lN 0) :: _) f13_21 rfl rfl ?_
  refine Ew.putl f13_22 (by simp [zup3_if, zup4_if, s0]) rfl ?_
  refine Ew.ld f13_25 rfl rfl rfl rfl ?_
  refine Ew.op (st' := zl (lN 0) :: _) f13_26 rfl rfl ?_
  refine Ew.putl f13_27 (by simp [zup3_if, zup4_if, s0]) rfl ?_
  refine Ew.ld f13_30 rfl rfl rfl rfl ?_
  refine Ew.op (st' := zl (lN 0) :: _) f13_31 rfl rfl ?_
  refine Ew.putl f13_32 (by simp [zup3_if, zup4_if, s0]) rfl ?_
  refine Ew.ld f13_35 rfl rfl rfl rfl ?_
  refine Ew.op (st' := zi ((-4)) :: _) f13_36 rfl rfl ?_
  refine Ew.puti f13_38 (by simp [zup3_if, zup4_if, s0]) rfl ?_
  refine Ew.ld f13_41 rfl rfl rfl rfl ?_
  refine Ew.ld f13_42 rfl rfl rfl rfl ?_
  refine Ew.putp f13_43 (by simp [zup3_if, zup4_if, s0]) rfl ?_
  refine Ew.ld f13_46 rfl rfl rfl rfl ?_
  refine Ew.ld f13_47 rfl rfl rfl rfl ?_
  refine Ew.putp f13_48 (by simp [zup3_if, zup4_if, s0]) rfl ?_
  refine Ew.vret f13_51 ?_
  exact h1
theorem k40_0 {d c s : Nat} {j : Nat} {I : zI} {L : zL} {P : zP} {S : zS} {T : Nat} {Q : Option zV → zM → Prop} (hal : ∀ k, k < 1 → zal (T + k) = (5, j, 1)) (s0 : S 5 j 0 = (6, 0)) 
    (h1 : Q none (zup3 (zup4 (zup4 I 5 j 0 0 ((-1))) 5 j 0 1 (nI 0)) 5 j 1 (fun _ => 0), zup3 L 5 j 1 (fun _ => 0), zup4 (zup3 P 5 j 1 (fun _ => none)) 5 j 0 2 (some (5, j, 1)), zup3 S 5 j 1 (21, 24), T + 1)) : Ev (d + 1) (c + 1) (s + 24) 40 0 [some (zr (some (5, j, 0)))] [] (I, L, P, S, T) Q := by
  refine Ew.ld f40_0 rfl rfl rfl rfl ?_
  refine Ew.nat (st' := []) f40_1 rfl (fun k h => ⟨Nat.le_of_ble_eq_true rfl, h⟩) rfl ?_
  refine Ew.ld f40_4 rfl rfl rfl rfl ?_
  refine Ew.op (st' := zi ((-1)) :: _) f40_5 rfl rfl ?_
  refine Ew.puti f40_6 (by simp [zup3_if, zup4_if, s0]) rfl ?_
  refine Ew.ld f40_9 rfl rfl rfl rfl ?_
  refine Ew.op (st' := zi (nI 0) :: _) f40_10 rfl rfl ?_
  refine Ew.puti f40_11 (by simp [zup3_if, zup4_if, s0]) rfl ?_
  refine Ew.ld f40_14 rfl rfl rfl rfl ?_
  refine Ew.op (st' := zi (nI 24) :: _) f40_15 rfl rfl ?_
  refine Ew.newaR (tag := 21) (n := 24) (c := c) (s := s) f40_17 (hal 0 (by decide)) (by decide) rfl rfl ?_
  refine Ew.putp f40_19 (by simp [zup3_if, zup4_if, s0]) rfl ?_
  refine Ew.vret f40_22 ?_
  exact h1
theorem k0_0 {d c s : Nat} {j : Nat} {I : zI} {L : zL} {P : zP} {S : zS} {T : Nat} {Q : Option zV → zM → Prop} (hal : ∀ k, k < 1 → zal (T + k) = (4, j, 1)) (s0 : S 4 j 0 = (1, 0)) 
    (h1 : Ev (d + 1) c s 0 20 [some (zr (some (4, j, 0))), some (zr (some (3, 2, 0))), some (zr (some (3, 4, 0))), some (zi (nI 0))] [] (zup4 (zup3 I 4 j 1 (fun _ => 0)) 4 j 0 1 (nI 0), zup3 L 4 j 1 (fun _ => 0), zup4 (zup3 P 4 j 1 (fun _ => none)) 4 j 0 0 (some (4, j, 1)), zup3 S 4 j 1 (25, 6), T + 1) Q) : Ev (d + 1) (c + 1) (s + 6) 0 0 [some (zr (some (4, j, 0))), some (zr (some (3, 2, 0))), some (zr (some (3, 4, 0))), none] [] (I, L, P, S, T) Q := by
  refine Ew.ld f0_0 rfl rfl rfl rfl ?_
  refine Ew.nat (st' := []) f0_1 rfl (fun k h => ⟨Nat.le_of_ble_eq_true rfl, h⟩) rfl ?_
  refine Ew.ld f0_4 rfl rfl rfl rfl ?_
  refine Ew.op (st' := zi (nI 6) :: _) f0_5 rfl rfl ?_
  refine Ew.anewaR (n := 6) (c := c) (s := s) f0_7 (hal 0 (by decide)) (by decide) rfl ?_
  refine Ew.putp f0_10 (by simp [zup3_if, zup4_if, s0]) rfl ?_
  refine Ew.ld f0_13 rfl rfl rfl rfl ?_
  refine Ew.op (st' := zi (nI 0) :: _) f0_14 rfl rfl ?_
  refine Ew.puti f0_15 (by simp [zup3_if, zup4_if, s0]) rfl ?_
  refine Ew.op (st' := zi (nI 0) :: _) f0_18 rfl rfl ?_
  refine Ew.sr (ls' := [some (zr (some (4, j, 0))), some (zr (some (3, 2, 0))), some (zr (some (3, 4, 0))), some (zi (nI 0))]) f0_19 rfl rfl (Nat.le_of_ble_eq_true rfl) rfl rfl ?_
  exact h1
section
variable {d c s top : Nat} {Q : Option zV → zM → Prop} {I : zI} {L : zL} {P : zP} {S : zS} {r j q : Nat}
theorem cn_Tape (hf : cFresh I L P S 0 0 1 (8, 0)) (k : ∀ I' L' P' S', fAB 1 4 I L P S I' L' P' S' → (∀ n, 1 ≤ n → n < 4 → Ec I' L' P' S' (zal n)) → Q none (I', L', P', S', 4)) : Ev (d + 1) (c + 2) (s + 66) 88 0 [some (zr (some (0, 0, 1)))] [] (I, L, P, S, 2) Q := by
  obtain ⟨f1, f2, f3, f4⟩ := hf
  refine k88_0 f4 (k _ _ _ _ (fun r j q g => ?_) (fun n h1 h2 => ?_))
  · have n0 := zne (g 1 (by decide) (by decide)) (rfl : zal 1 = (0, 0, 1))
    have n1 := zne (g 2 (by decide) (by decide)) (rfl : zal 2 = (0, 0, 2))
    have n2 := zne (g 3 (by decide) (by decide)) (rfl : zal 3 = (0, 0, 3))
    refine ⟨?_, ?_, ?_, ?_⟩
    · repeat (first | rw [zup3_o _ _ (by omega)] | rw [zu4r _ _ (by omega)])
    · repeat (first | rw [zup3_o _ _ (by omega)] | rw [zu4r _ _ (by omega)])
    · repeat (first | rw [zup3_o _ _ (by omega)] | rw [zu4r _ _ (by omega)])
    · repeat (first | rw [zup3_o _ _ (by omega)] | rw [zu4r _ _ (by omega)])
  · have hn : n = 1 ∨ n = 2 ∨ n = 3 := by omega
    rcases hn with e | e | e <;> subst e
    · rw [show zal 1 = (0, 0, 1) from rfl]
      refine ⟨funext fun i => ?_, funext fun i => ?_, funext fun i => ?_, ?_⟩
      · simp [zup3_if, zup4_if, EI, f1]
        repeat' split
        all_goals first | rfl | omega | (intro _; rfl) | simp_all
      · simp [zup3_if, f2, zup4_if]
      · simp [zup3_if, zup4_if, EP, f3]
        simp only [zpj]
        by_cases e0 : i = 0
        · subst e0; rfl
        by_cases e2 : i = 2
        · subst e2; rfl
        simp only [e0, e2, if_false]
      · simp [zup3_if, ES, zsj, zs0, f4]
    · rw [show zal 2 = (0, 0, 2) from rfl]
      refine ⟨funext fun i => ?_, funext fun i => ?_, funext fun i => ?_, ?_⟩
      · simp [zup3_if, zup4_if, EI]
      · simp [zup3_if, zup4_if]
      · simp [zup3_if, zup4_if, EP]
        rfl
      · simp [zup3_if, ES, zsj, zs0]
    · rw [show zal 3 = (0, 0, 3) from rfl]
      refine ⟨funext fun i => ?_, funext fun i => ?_, funext fun i => ?_, ?_⟩
      · simp [zup3_if, zup4_if, EI]
      · simp [zup3_if, zup4_if]
      · simp [zup3_if, zup4_if, EP]
        rfl
      · simp [zup3_if, ES, zsj, zs0]
theorem cn_Play (hf : cFresh I L P S 0 0 4 (4, 0)) (k : ∀ I' L' P' S', fAB 4 13 I L P S I' L' P' S' → (∀ n, 4 ≤ n → n < 13 → Ec I' L' P' S' (zal n)) → Q none (I', L', P', S', 13)) : Ev (d + 2) (c + 8) (s + 158) 23 0 [some (zr (some (0, 0, 4)))] [] (I, L, P, S, 5) Q := by
  obtain ⟨f1, f2, f3, f4⟩ := hf
  refine k23_0 f4 (k _ _ _ _ (fun r j q g => ?_) (fun n h1 h2 => ?_))
  · have n0 := zne (g 4 (by decide) (by decide)) (rfl : zal 4 = (0, 0, 4))
    have n1 := zne (g 5 (by decide) (by decide)) (rfl : zal 5 = (3, 0, 0))
    have n2 := zne (g 6 (by decide) (by decide)) (rfl : zal 6 = (3, 1, 0))
    have n3 := zne (g 7 (by decide) (by decide)) (rfl : zal 7 = (0, 0, 5))
    have n4 := zne (g 8 (by decide) (by decide)) (rfl : zal 8 = (0, 0, 6))
    have n5 := zne (g 9 (by decide) (by decide)) (rfl : zal 9 = (0, 0, 7))
    have n6 := zne (g 10 (by decide) (by decide)) (rfl : zal 10 = (0, 0, 8))
    have n7 := zne (g 11 (by decide) (by decide)) (rfl : zal 11 = (0, 0, 9))
    have n8 := zne (g 12 (by decide) (by decide)) (rfl : zal 12 = (0, 0, 10))
    refine ⟨?_, ?_, ?_, ?_⟩
    · repeat (first | rw [zup3_o _ _ (by omega)] | rw [zu4r _ _ (by omega)])
    · repeat (first | rw [zup3_o _ _ (by omega)] | rw [zu4r _ _ (by omega)])
    · repeat (first | rw [zup3_o _ _ (by omega)] | rw [zu4r _ _ (by omega)])
    · repeat (first | rw [zup3_o _ _ (by omega)] | rw [zu4r _ _ (by omega)])
  · have hn : n = 4 ∨ n = 5 ∨ n = 6 ∨ n = 7 ∨ n = 8 ∨ n = 9 ∨ n = 10 ∨ n = 11 ∨ n = 12 := by omega
    rcases hn with e | e | e | e | e | e | e | e | e <;> subst e
    · rw [show zal 4 = (0, 0, 4) from rfl]
      refine ⟨funext fun i => ?_, funext fun i => ?_, funext fun i => ?_, ?_⟩
      · simp [zup3_if, zup4_if, EI, f1]
        repeat' split
        all_goals first | rfl | omega | (intro _; rfl) | simp_all
      · simp [zup3_if, f2, zup4_if]
      · simp [zup3_if, zup4_if, EP, f3]
        simp only [zpj]
        by_cases e0 : i = 0
        · subst e0; rfl
        by_cases e2 : i = 2
        · subst e2; rfl
        by_cases e3 : i = 3
        · subst e3; rfl
        by_cases e4 : i = 4
        · subst e4; rfl
        by_cases e5 : i = 5
        · subst e5; rfl
        by_cases e8 : i = 8
        · subst e8; rfl
        by_cases e12 : i = 12
        · subst e12; rfl
        simp only [e0, e2, e3, e4, e5, e8, e12, if_false]
      · simp [zup3_if, ES, zsj, zs0, f4]
    · rw [show zal 5 = (3, 0, 0) from rfl]
      refine ⟨funext fun i => ?_, funext fun i => ?_, funext fun i => ?_, ?_⟩
      · simp [zup3_if, zup4_if, EI]
      · simp [zup3_if, zup4_if]
      · simp [zup3_if, zup4_if, EP]
      · simp [zup3_if, ES, zsj, zs0]
    · rw [show zal 6 = (3, 1, 0) from rfl]
      refine ⟨funext fun i => ?_, funext fun i => ?_, funext fun i => ?_, ?_⟩
      · simp [zup3_if, zup4_if, EI]
      · simp [zup3_if, zup4_if]
      · simp [zup3_if, zup4_if, EP]
      · simp [zup3_if, ES, zsj, zs0]
    · rw [show zal 7 = (0, 0, 5) from rfl]
      refine ⟨funext fun i => ?_, funext fun i => ?_, funext fun i => ?_, ?_⟩
      · simp [zup3_if, zup4_if, EI]
      · simp [zup3_if, zup4_if]
      · simp [zup3_if, zup4_if, EP]
        rfl
      · simp [zup3_if, ES, zsj, zs0]
    · rw [show zal 8 = (0, 0, 6) from rfl]
      refine ⟨funext fun i => ?_, funext fun i => ?_, funext fun i => ?_, ?_⟩
      · simp [zup3_if, zup4_if, EI]
      · simp [zup3_if, zup4_if]
      · simp [zup3_if, zup4_if, EP]
        rfl
      · simp [zup3_if, ES, zsj, zs0]
    · rw [show zal 9 = (0, 0, 7) from rfl]
      refine ⟨funext fun i => ?_, funext fun i => ?_, funext fun i => ?_, ?_⟩
      · simp [zup3_if, zup4_if, EI]
      · simp [zup3_if, zup4_if]
      · simp [zup3_if, zup4_if, EP]
        rfl
      · simp [zup3_if, ES, zsj, zs0]
    · rw [show zal 10 = (0, 0, 8) from rfl]
      refine ⟨funext fun i => ?_, funext fun i => ?_, funext fun i => ?_, ?_⟩
      · simp [zup3_if, zup4_if, EI]
      · simp [zup3_if, zup4_if]
      · simp [zup3_if, zup4_if, EP]
        rfl
      · simp [zup3_if, ES, zsj, zs0]
    · rw [show zal 11 = (0, 0, 9) from rfl]
      refine ⟨funext fun i => ?_, funext fun i => ?_, funext fun i => ?_, ?_⟩
      · simp [zup3_if, zup4_if, EI]
      · simp [zup3_if, zup4_if]
      · simp [zup3_if, zup4_if, EP]
        rfl
      · simp [zup3_if, ES, zsj, zs0]
    · rw [show zal 12 = (0, 0, 10) from rfl]
      refine ⟨funext fun i => ?_, funext fun i => ?_, funext fun i => ?_, ?_⟩
      · simp [zup3_if, zup4_if, EI]
      · simp [zup3_if, zup4_if]
      · simp [zup3_if, zup4_if, EP]
        rfl
      · simp [zup3_if, ES, zsj, zs0]
theorem cn_Ord (hf : cFresh I L P S 0 0 12 (2, 0)) (k : ∀ I' L' P' S', fAB 190 192 I L P S I' L' P' S' → (∀ n, 190 ≤ n → n < 192 → Ec I' L' P' S' (zal n)) → Q none (I', L', P', S', 192)) : Ev (d + 1) (c + 1) (s + 6) 6 0 [some (zr (some (0, 0, 12)))] [] (I, L, P, S, 191) Q := by
  obtain ⟨f1, f2, f3, f4⟩ := hf
  refine k6_0 f4 (k _ _ _ _ (fun r j q g => ?_) (fun n h1 h2 => ?_))
  · have n0 := zne (g 190 (by decide) (by decide)) (rfl : zal 190 = (0, 0, 12))
    have n1 := zne (g 191 (by decide) (by decide)) (rfl : zal 191 = (0, 0, 13))
    refine ⟨?_, ?_, ?_, ?_⟩
    · repeat (first | rw [zup3_o _ _ (by omega)] | rw [zu4r _ _ (by omega)])
    · repeat (first | rw [zup3_o _ _ (by omega)] | rw [zu4r _ _ (by omega)])
    · repeat (first | rw [zup3_o _ _ (by omega)] | rw [zu4r _ _ (by omega)])
    · repeat (first | rw [zup3_o _ _ (by omega)] | rw [zu4r _ _ (by omega)])
  · have hn : n = 190 ∨ n = 191 := by omega
    rcases hn with e | e <;> subst e
    · rw [show zal 190 = (0, 0, 12) from rfl]
      refine ⟨funext fun i => ?_, funext fun i => ?_, funext fun i => ?_, ?_⟩
      · simp [zup3_if, zup4_if, EI, f1]
      · simp [zup3_if, f2, zup4_if]
      · simp [zup3_if, zup4_if, EP, f3]
        simp only [zpj]
        by_cases e0 : i = 0
        · subst e0; rfl
        simp only [e0, if_false]
      · simp [zup3_if, ES, zsj, zs0, f4]
    · rw [show zal 191 = (0, 0, 13) from rfl]
      refine ⟨funext fun i => ?_, funext fun i => ?_, funext fun i => ?_, ?_⟩
      · simp [zup3_if, zup4_if, EI]
      · simp [zup3_if, zup4_if]
      · simp [zup3_if, zup4_if, EP]
        rfl
      · simp [zup3_if, ES, zsj, zs0]
theorem cn_Pair (hf : cFresh I L P S 0 0 14 (3, 0)) (k : ∀ I' L' P' S', fAB 192 195 I L P S I' L' P' S' → (∀ n, 192 ≤ n → n < 195 → Ec I' L' P' S' (zal n)) → Q none (I', L', P', S', 195)) : Ev (d + 1) (c + 2) (s + 62) 13 0 [some (zr (some (0, 0, 14))), some (zr (some (3, 4, 0)))] [] (I, L, P, S, 193) Q := by
  obtain ⟨f1, f2, f3, f4⟩ := hf
  refine k13_0 f4 (k _ _ _ _ (fun r j q g => ?_) (fun n h1 h2 => ?_))
  · have n0 := zne (g 192 (by decide) (by decide)) (rfl : zal 192 = (0, 0, 14))
    have n1 := zne (g 193 (by decide) (by decide)) (rfl : zal 193 = (0, 0, 15))
    have n2 := zne (g 194 (by decide) (by decide)) (rfl : zal 194 = (0, 0, 16))
    refine ⟨?_, ?_, ?_, ?_⟩
    · repeat (first | rw [zup3_o _ _ (by omega)] | rw [zu4r _ _ (by omega)])
    · repeat (first | rw [zup3_o _ _ (by omega)] | rw [zu4r _ _ (by omega)])
    · repeat (first | rw [zup3_o _ _ (by omega)] | rw [zu4r _ _ (by omega)])
    · repeat (first | rw [zup3_o _ _ (by omega)] | rw [zu4r _ _ (by omega)])
  · have hn : n = 192 ∨ n = 193 ∨ n = 194 := by omega
    rcases hn with e | e | e <;> subst e
    · rw [show zal 192 = (0, 0, 14) from rfl]
      refine ⟨funext fun i => ?_, funext fun i => ?_, funext fun i => ?_, ?_⟩
      · simp [zup3_if, zup4_if, EI, f1]
      · simp [zup3_if, f2, zup4_if, show lN 0 = 0 from rfl]
      · simp [zup3_if, zup4_if, EP, f3]
        simp only [zpj]
        by_cases e0 : i = 0
        · subst e0; rfl
        by_cases e1 : i = 1
        · subst e1; rfl
        by_cases e6 : i = 6
        · subst e6; rfl
        by_cases e7 : i = 7
        · subst e7; rfl
        simp only [e0, e1, e6, e7, if_false]
        try simp
      · simp [zup3_if, ES, zsj, zs0, f4]
    · rw [show zal 193 = (0, 0, 15) from rfl]
      refine ⟨funext fun i => ?_, funext fun i => ?_, funext fun i => ?_, ?_⟩
      · simp [zup3_if, zup4_if, EI]
      · simp [zup3_if, zup4_if]
      · simp [zup3_if, zup4_if, EP]
        rfl
      · simp [zup3_if, ES, zsj, zs0]
    · rw [show zal 194 = (0, 0, 16) from rfl]
      refine ⟨funext fun i => ?_, funext fun i => ?_, funext fun i => ?_, ?_⟩
      · simp [zup3_if, zup4_if, EI]
      · simp [zup3_if, zup4_if]
      · simp [zup3_if, zup4_if, EP]
        rfl
      · simp [zup3_if, ES, zsj, zs0]
theorem cn_She {a : Nat} (hj : j < 4) (ha : zal a = (5, j, 0)) (ha1 : zal (a + 1) = (5, j, 1)) (hf : cFresh I L P S 5 j 0 (6, 0)) (k : ∀ I' L' P' S', fAB a (a + 2) I L P S I' L' P' S' → (∀ n, a ≤ n → n < a + 2 → Ec I' L' P' S' (zal n)) → Q none (I', L', P', S', a + 2)) : Ev (d + 1) (c + 1) (s + 24) 40 0 [some (zr (some (5, j, 0)))] [] (I, L, P, S, a + 1) Q := by
  obtain ⟨f1, f2, f3, f4⟩ := hf
  refine k40_0 (T := a + 1) (fun k hk => by rw [show a + 1 + k = a + 1 by omega]; exact ha1) f4 (k _ _ _ _ (fun r j' q g => ?_) (fun n h1 h2 => ?_))
  · have n0 := zne (g a (by omega) (by omega)) ha
    have n1 := zne (g (a + 1) (by omega) (by omega)) ha1
    refine ⟨?_, ?_, ?_, ?_⟩
    · repeat (first | rw [zup3_o _ _ (by omega)] | rw [zu4r _ _ (by omega)])
    · repeat (first | rw [zup3_o _ _ (by omega)] | rw [zu4r _ _ (by omega)])
    · repeat (first | rw [zup3_o _ _ (by omega)] | rw [zu4r _ _ (by omega)])
    · repeat (first | rw [zup3_o _ _ (by omega)] | rw [zu4r _ _ (by omega)])
  · have hn : n = a ∨ n = a + 1 := by omega
    rcases hn with e | e <;> subst e
    · rw [ha]
      refine ⟨funext fun i => ?_, funext fun i => ?_, funext fun i => ?_, ?_⟩
      · simp [zup3_if, zup4_if, EI, f1]
        repeat' split
        all_goals first | rfl | omega | (intro _; rfl) | simp_all
      · simp [zup3_if, f2, zup4_if]
      · simp [zup3_if, zup4_if, EP, f3]
        simp only [zpj]
        by_cases e2 : i = 2
        · subst e2; rfl
        simp only [e2, if_false]
      · show _ = zsj (fun _ _ _ => (0, 0)) 5 j 0
        rw [zsj5 _ hj]
        simp [zup3_if, f4, zs5]
    · rw [ha1]
      refine ⟨funext fun i => ?_, funext fun i => ?_, funext fun i => ?_, ?_⟩
      · simp [zup3_if, zup4_if, EI]
      · simp [zup3_if, zup4_if]
      · simp [zup3_if, zup4_if, EP]
        rfl
      · show _ = zsj (fun _ _ _ => (0, 0)) 5 j 1
        rw [zsj5 _ hj]
        simp [zup3_if, zs5]
end
