/-! the reference is made: its arrays -/
theorem k150_0 {d c s : Nat} {I : zI} {L : zL} {P : zP} {S : zS} {Q : Option zV → zM → Prop} (s0 : S 1 0 0 = (11, 0)) 
    (h1 : Ev (d + 1) c s 150 13 [some (zr (some (1, 0, 0))), none] [] (zup3 I 1 0 1 (fun _ => 0), zup3 L 1 0 1 (fun _ => 0), zup4 (zup3 P 1 0 1 (fun _ => none)) 1 0 0 0 (some (1, 0, 1)), zup3 S 1 0 1 (20, 270), 206) Q) : Ev (d + 1) (c + 1) (s + 270) 150 0 [some (zr (some (1, 0, 0))), none] [] (I, L, P, S, 205) Q := by
  refine Ew.ld f150_0 rfl rfl rfl rfl ?_
  refine Ew.nat (st' := []) f150_1 rfl (fun k h => ⟨Nat.le_of_ble_eq_true rfl, h⟩) rfl ?_
  refine Ew.ld f150_4 rfl rfl rfl rfl ?_
  refine Ew.op (st' := zi (nI 270) :: _) f150_5 rfl rfl ?_
  refine Ew.newaR (tag := 20) (n := 270) (c := c) (s := s) f150_8 rfl (by decide) rfl rfl ?_
  refine Ew.putp f150_10 (by simp [zup3_if, zup4_if, s0]) rfl ?_
  exact h1
theorem k150_13 {d c s : Nat} {I : zI} {L : zL} {P : zP} {S : zS} {Q : Option zV → zM → Prop} (s0 : S 1 0 0 = (11, 0)) 
    (h1 : Ev d c s 150 22 [some (zr (some (1, 0, 0))), none] [] (zup3 I 1 0 2 (fun _ => 0), zup3 L 1 0 2 (fun _ => 0), zup4 (zup3 P 1 0 2 (fun _ => none)) 1 0 0 1 (some (1, 0, 2)), zup3 S 1 0 2 (20, 1620), 207) Q) : Ev d (c + 1) (s + 1620) 150 13 [some (zr (some (1, 0, 0))), none] [] (I, L, P, S, 206) Q := by
  refine Ew.ld f150_13 rfl rfl rfl rfl ?_
  refine Ew.op (st' := zi (nI 1620) :: _) f150_14 rfl rfl ?_
  refine Ew.newaR (tag := 20) (n := 1620) (c := c) (s := s) f150_17 rfl (by decide) rfl rfl ?_
  refine Ew.putp f150_19 (by simp [zup3_if, zup4_if, s0]) rfl ?_
  exact h1
theorem k150_22 {d c s : Nat} {I : zI} {L : zL} {P : zP} {S : zS} {Q : Option zV → zM → Prop} (s0 : S 1 0 0 = (11, 0)) 
    (h1 : Ev d c s 150 31 [some (zr (some (1, 0, 0))), none] [] (zup3 I 1 0 3 (fun _ => 0), zup3 L 1 0 3 (fun _ => 0), zup4 (zup3 P 1 0 3 (fun _ => none)) 1 0 0 3 (some (1, 0, 3)), zup3 S 1 0 3 (20, 270), 208) Q) : Ev d (c + 1) (s + 270) 150 22 [some (zr (some (1, 0, 0))), none] [] (I, L, P, S, 207) Q := by
  refine Ew.ld f150_22 rfl rfl rfl rfl ?_
  refine Ew.op (st' := zi (nI 270) :: _) f150_23 rfl rfl ?_
  refine Ew.newaR (tag := 20) (n := 270) (c := c) (s := s) f150_26 rfl (by decide) rfl rfl ?_
  refine Ew.putp f150_28 (by simp [zup3_if, zup4_if, s0]) rfl ?_
  exact h1
theorem k150_31 {d c s : Nat} {I : zI} {L : zL} {P : zP} {S : zS} {Q : Option zV → zM → Prop} (s0 : S 1 0 0 = (11, 0)) 
    (h1 : Ev d c s 150 45 [some (zr (some (1, 0, 0))), none] [] (zup4 (zup3 I 1 0 4 (fun _ => 0)) 1 0 0 5 ((-1)), zup3 L 1 0 4 (fun _ => 0), zup4 (zup3 P 1 0 4 (fun _ => none)) 1 0 0 4 (some (1, 0, 4)), zup3 S 1 0 4 (20, 1620), 209) Q) : Ev d (c + 1) (s + 1620) 150 31 [some (zr (some (1, 0, 0))), none] [] (I, L, P, S, 208) Q := by
  refine Ew.ld f150_31 rfl rfl rfl rfl ?_
  refine Ew.op (st' := zi (nI 1620) :: _) f150_32 rfl rfl ?_
  refine Ew.newaR (tag := 20) (n := 1620) (c := c) (s := s) f150_35 rfl (by decide) rfl rfl ?_
  refine Ew.putp f150_37 (by simp [zup3_if, zup4_if, s0]) rfl ?_
  refine Ew.ld f150_40 rfl rfl rfl rfl ?_
  refine Ew.op (st' := zi ((-1)) :: _) f150_41 rfl rfl ?_
  refine Ew.puti f150_42 (by simp [zup3_if, zup4_if, s0]) rfl ?_
  exact h1
theorem k150_45 {d c s : Nat} {I : zI} {L : zL} {P : zP} {S : zS} {Q : Option zV → zM → Prop} (s0 : S 1 0 0 = (11, 0)) 
    (h1 : Ev d c s 150 53 [some (zr (some (1, 0, 0))), none] [] (zup3 I 1 0 5 (fun _ => 0), zup3 L 1 0 5 (fun _ => 0), zup4 (zup3 P 1 0 5 (fun _ => none)) 1 0 0 6 (some (1, 0, 5)), zup3 S 1 0 5 (20, 60), 210) Q) : Ev d (c + 1) (s + 60) 150 45 [some (zr (some (1, 0, 0))), none] [] (I, L, P, S, 209) Q := by
  refine Ew.ld f150_45 rfl rfl rfl rfl ?_
  refine Ew.op (st' := zi (nI 60) :: _) f150_46 rfl rfl ?_
  refine Ew.newaR (tag := 20) (n := 60) (c := c) (s := s) f150_48 rfl (by decide) rfl rfl ?_
  refine Ew.putp f150_50 (by simp [zup3_if, zup4_if, s0]) rfl ?_
  exact h1
theorem k150_53 {d c s : Nat} {I : zI} {L : zL} {P : zP} {S : zS} {Q : Option zV → zM → Prop} (s0 : S 1 0 0 = (11, 0)) 
    (h1 : Ev d c s 150 60 [some (zr (some (1, 0, 0))), none] [] (zup3 I 1 0 6 (fun _ => 0), zup3 L 1 0 6 (fun _ => 0), zup4 (zup3 P 1 0 6 (fun _ => none)) 1 0 0 8 (some (1, 0, 6)), zup3 S 1 0 6 (20, 4), 211) Q) : Ev d (c + 1) (s + 4) 150 53 [some (zr (some (1, 0, 0))), none] [] (I, L, P, S, 210) Q := by
  refine Ew.ld f150_53 rfl rfl rfl rfl ?_
  refine Ew.op (st' := zi (nI 4) :: _) f150_54 rfl rfl ?_
  refine Ew.newaR (tag := 20) (n := 4) (c := c) (s := s) f150_55 rfl (by decide) rfl rfl ?_
  refine Ew.putp f150_57 (by simp [zup3_if, zup4_if, s0]) rfl ?_
  exact h1
theorem k150_60 {d c s : Nat} {I : zI} {L : zL} {P : zP} {S : zS} {Q : Option zV → zM → Prop} (s0 : S 1 0 0 = (11, 0)) 
    (h1 : Ev d c s 150 67 [some (zr (some (1, 0, 0))), none] [] (zup3 I 1 0 7 (fun _ => 0), zup3 L 1 0 7 (fun _ => 0), zup4 (zup3 P 1 0 7 (fun _ => none)) 1 0 0 9 (some (1, 0, 7)), zup3 S 1 0 7 (20, 4), 212) Q) : Ev d (c + 1) (s + 4) 150 60 [some (zr (some (1, 0, 0))), none] [] (I, L, P, S, 211) Q := by
  refine Ew.ld f150_60 rfl rfl rfl rfl ?_
  refine Ew.op (st' := zi (nI 4) :: _) f150_61 rfl rfl ?_
  refine Ew.newaR (tag := 20) (n := 4) (c := c) (s := s) f150_62 rfl (by decide) rfl rfl ?_
  refine Ew.putp f150_64 (by simp [zup3_if, zup4_if, s0]) rfl ?_
  exact h1
theorem k150_67 {d c s : Nat} {I : zI} {L : zL} {P : zP} {S : zS} {Q : Option zV → zM → Prop} (s0 : S 1 0 0 = (11, 0)) 
    (h1 : Ev d c s 150 75 [some (zr (some (1, 0, 0))), none] [] (zup3 I 1 0 8 (fun _ => 0), zup3 L 1 0 8 (fun _ => 0), zup4 (zup3 P 1 0 8 (fun _ => none)) 1 0 0 10 (some (1, 0, 8)), zup3 S 1 0 8 (21, 96), 213) Q) : Ev d (c + 1) (s + 96) 150 67 [some (zr (some (1, 0, 0))), none] [] (I, L, P, S, 212) Q := by
  refine Ew.ld f150_67 rfl rfl rfl rfl ?_
  refine Ew.op (st' := zi (nI 96) :: _) f150_68 rfl rfl ?_
  refine Ew.newaR (tag := 21) (n := 96) (c := c) (s := s) f150_70 rfl (by decide) rfl rfl ?_
  refine Ew.putp f150_72 (by simp [zup3_if, zup4_if, s0]) rfl ?_
  exact h1
theorem k150_75 {d c s : Nat} {I : zI} {L : zL} {P : zP} {S : zS} {Q : Option zV → zM → Prop} (s0 : S 1 0 0 = (11, 0)) 
    (h1 : Ev d c s 150 83 [some (zr (some (1, 0, 0))), none] [] (zup3 I 1 0 9 (fun _ => 0), zup3 L 1 0 9 (fun _ => 0), zup4 (zup3 P 1 0 9 (fun _ => none)) 1 0 0 11 (some (1, 0, 9)), zup3 S 1 0 9 (21, 24), 214) Q) : Ev d (c + 1) (s + 24) 150 75 [some (zr (some (1, 0, 0))), none] [] (I, L, P, S, 213) Q := by
  refine Ew.ld f150_75 rfl rfl rfl rfl ?_
  refine Ew.op (st' := zi (nI 24) :: _) f150_76 rfl rfl ?_
  refine Ew.newaR (tag := 21) (n := 24) (c := c) (s := s) f150_78 rfl (by decide) rfl rfl ?_
  refine Ew.putp f150_80 (by simp [zup3_if, zup4_if, s0]) rfl ?_
  exact h1
theorem k150_83 {d c s : Nat} {I : zI} {L : zL} {P : zP} {S : zS} {Q : Option zV → zM → Prop} (s0 : S 1 0 0 = (11, 0)) 
    (h1 : Ev d c s 150 91 [some (zr (some (1, 0, 0))), none] [] (zup3 I 1 0 10 (fun _ => 0), zup3 L 1 0 10 (fun _ => 0), zup4 (zup3 P 1 0 10 (fun _ => none)) 1 0 0 12 (some (1, 0, 10)), zup3 S 1 0 10 (20, 120), 215) Q) : Ev d (c + 1) (s + 120) 150 83 [some (zr (some (1, 0, 0))), none] [] (I, L, P, S, 214) Q := by
  refine Ew.ld f150_83 rfl rfl rfl rfl ?_
  refine Ew.op (st' := zi (nI 120) :: _) f150_84 rfl rfl ?_
  refine Ew.newaR (tag := 20) (n := 120) (c := c) (s := s) f150_86 rfl (by decide) rfl rfl ?_
  refine Ew.putp f150_88 (by simp [zup3_if, zup4_if, s0]) rfl ?_
  exact h1
theorem k150_91 {d c s : Nat} {I : zI} {L : zL} {P : zP} {S : zS} {Q : Option zV → zM → Prop} (s0 : S 1 0 0 = (11, 0)) 
    (h1 : Ev d c s 150 99 [some (zr (some (1, 0, 0))), none] [] (zup3 I 1 0 11 (fun _ => 0), zup3 L 1 0 11 (fun _ => 0), zup4 (zup3 P 1 0 11 (fun _ => none)) 1 0 0 13 (some (1, 0, 11)), zup3 S 1 0 11 (20, 120), 216) Q) : Ev d (c + 1) (s + 120) 150 91 [some (zr (some (1, 0, 0))), none] [] (I, L, P, S, 215) Q := by
  refine Ew.ld f150_91 rfl rfl rfl rfl ?_
  refine Ew.op (st' := zi (nI 120) :: _) f150_92 rfl rfl ?_
  refine Ew.newaR (tag := 20) (n := 120) (c := c) (s := s) f150_94 rfl (by decide) rfl rfl ?_
  refine Ew.putp f150_96 (by simp [zup3_if, zup4_if, s0]) rfl ?_
  exact h1
theorem k150_99 {d c s : Nat} {I : zI} {L : zL} {P : zP} {S : zS} {Q : Option zV → zM → Prop} (s0 : S 1 0 0 = (11, 0)) 
    (h1 : Ev d c s 150 107 [some (zr (some (1, 0, 0))), none] [] (zup3 I 1 0 12 (fun _ => 0), zup3 L 1 0 12 (fun _ => 0), zup4 (zup3 P 1 0 12 (fun _ => none)) 1 0 0 14 (some (1, 0, 12)), zup3 S 1 0 12 (20, 120), 217) Q) : Ev d (c + 1) (s + 120) 150 99 [some (zr (some (1, 0, 0))), none] [] (I, L, P, S, 216) Q := by
  refine Ew.ld f150_99 rfl rfl rfl rfl ?_
  refine Ew.op (st' := zi (nI 120) :: _) f150_100 rfl rfl ?_
  refine Ew.newaR (tag := 20) (n := 120) (c := c) (s := s) f150_102 rfl (by decide) rfl rfl ?_
  refine Ew.putp f150_104 (by simp [zup3_if, zup4_if, s0]) rfl ?_
  exact h1
theorem k150_107 {d c s : Nat} {I : zI} {L : zL} {P : zP} {S : zS} {Q : Option zV → zM → Prop} (s0 : S 1 0 0 = (11, 0)) 
    (h1 : Ev d c s 150 114 [some (zr (some (1, 0, 0))), none] [] (zup3 I 1 0 13 (fun _ => 0), zup3 L 1 0 13 (fun _ => 0), zup4 (zup3 P 1 0 13 (fun _ => none)) 1 0 0 15 (some (1, 0, 13)), zup3 S 1 0 13 (20, 4), 218) Q) : Ev d (c + 1) (s + 4) 150 107 [some (zr (some (1, 0, 0))), none] [] (I, L, P, S, 217) Q := by
  refine Ew.ld f150_107 rfl rfl rfl rfl ?_
  refine Ew.op (st' := zi (nI 4) :: _) f150_108 rfl rfl ?_
  refine Ew.newaR (tag := 20) (n := 4) (c := c) (s := s) f150_109 rfl (by decide) rfl rfl ?_
  refine Ew.putp f150_111 (by simp [zup3_if, zup4_if, s0]) rfl ?_
  exact h1
theorem k150_114 {d c s : Nat} {I : zI} {L : zL} {P : zP} {S : zS} {Q : Option zV → zM → Prop} (s0 : S 1 0 0 = (11, 0)) 
    (h1 : Ev d c s 150 121 [some (zr (some (1, 0, 0))), none] [] (zup3 I 1 0 14 (fun _ => 0), zup3 L 1 0 14 (fun _ => 0), zup4 (zup3 P 1 0 14 (fun _ => none)) 1 0 0 16 (some (1, 0, 14)), zup3 S 1 0 14 (20, 4), 219) Q) : Ev d (c + 1) (s + 4) 150 114 [some (zr (some (1, 0, 0))), none] [] (I, L, P, S, 218) Q := by
  refine Ew.ld f150_114 rfl rfl rfl rfl ?_
  refine Ew.op (st' := zi (nI 4) :: _) f150_115 rfl rfl ?_
  refine Ew.newaR (tag := 20) (n := 4) (c := c) (s := s) f150_116 rfl (by decide) rfl rfl ?_
  refine Ew.putp f150_118 (by simp [zup3_if, zup4_if, s0]) rfl ?_
  exact h1
theorem k150_121 {d c s : Nat} {I : zI} {L : zL} {P : zP} {S : zS} {Q : Option zV → zM → Prop} (s0 : S 1 0 0 = (11, 0)) 
    (h1 : Ev d c s 150 128 [some (zr (some (1, 0, 0))), none] [] (zup3 I 1 0 15 (fun _ => 0), zup3 L 1 0 15 (fun _ => 0), zup4 (zup3 P 1 0 15 (fun _ => none)) 1 0 0 17 (some (1, 0, 15)), zup3 S 1 0 15 (20, 4), 220) Q) : Ev d (c + 1) (s + 4) 150 121 [some (zr (some (1, 0, 0))), none] [] (I, L, P, S, 219) Q := by
  refine Ew.ld f150_121 rfl rfl rfl rfl ?_
  refine Ew.op (st' := zi (nI 4) :: _) f150_122 rfl rfl ?_
  refine Ew.newaR (tag := 20) (n := 4) (c := c) (s := s) f150_123 rfl (by decide) rfl rfl ?_
  refine Ew.putp f150_125 (by simp [zup3_if, zup4_if, s0]) rfl ?_
  exact h1
theorem k150_128 {d c s : Nat} {I : zI} {L : zL} {P : zP} {S : zS} {Q : Option zV → zM → Prop} (s0 : S 1 0 0 = (11, 0)) 
    (h1 : Ev d c s 150 135 [some (zr (some (1, 0, 0))), none] [] (zup3 I 1 0 16 (fun _ => 0), zup3 L 1 0 16 (fun _ => 0), zup4 (zup3 P 1 0 16 (fun _ => none)) 1 0 0 18 (some (1, 0, 16)), zup3 S 1 0 16 (20, 4), 221) Q) : Ev d (c + 1) (s + 4) 150 128 [some (zr (some (1, 0, 0))), none] [] (I, L, P, S, 220) Q := by
  refine Ew.ld f150_128 rfl rfl rfl rfl ?_
  refine Ew.op (st' := zi (nI 4) :: _) f150_129 rfl rfl ?_
  refine Ew.newaR (tag := 20) (n := 4) (c := c) (s := s) f150_130 rfl (by decide) rfl rfl ?_
  refine Ew.putp f150_132 (by simp [zup3_if, zup4_if, s0]) rfl ?_
  exact h1
theorem k150_135 {d c s : Nat} {I : zI} {L : zL} {P : zP} {S : zS} {Q : Option zV → zM → Prop} (s0 : S 1 0 0 = (11, 0)) 
    (h1 : Ev d c s 150 142 [some (zr (some (1, 0, 0))), none] [] (zup3 I 1 0 17 (fun _ => 0), zup3 L 1 0 17 (fun _ => 0), zup4 (zup3 P 1 0 17 (fun _ => none)) 1 0 0 19 (some (1, 0, 17)), zup3 S 1 0 17 (20, 4), 222) Q) : Ev d (c + 1) (s + 4) 150 135 [some (zr (some (1, 0, 0))), none] [] (I, L, P, S, 221) Q := by
  refine Ew.ld f150_135 rfl rfl rfl rfl ?_
  refine Ew.op (st' := zi (nI 4) :: _) f150_136 rfl rfl ?_
  refine Ew.newaR (tag := 20) (n := 4) (c := c) (s := s) f150_137 rfl (by decide) rfl rfl ?_
  refine Ew.putp f150_139 (by simp [zup3_if, zup4_if, s0]) rfl ?_
  exact h1
theorem k150_142 {d c s : Nat} {I : zI} {L : zL} {P : zP} {S : zS} {Q : Option zV → zM → Prop} (s0 : S 1 0 0 = (11, 0)) 
    (h1 : Ev d c s 150 149 [some (zr (some (1, 0, 0))), none] [] (zup3 I 1 0 18 (fun _ => 0), zup3 L 1 0 18 (fun _ => 0), zup4 (zup3 P 1 0 18 (fun _ => none)) 1 0 0 20 (some (1, 0, 18)), zup3 S 1 0 18 (20, 4), 223) Q) : Ev d (c + 1) (s + 4) 150 142 [some (zr (some (1, 0, 0))), none] [] (I, L, P, S, 222) Q := by
  refine Ew.ld f150_142 rfl rfl rfl rfl ?_
  refine Ew.op (st' := zi (nI 4) :: _) f150_143 rfl rfl ?_
  refine Ew.newaR (tag := 20) (n := 4) (c := c) (s := s) f150_144 rfl (by decide) rfl rfl ?_
  refine Ew.putp f150_146 (by simp [zup3_if, zup4_if, s0]) rfl ?_
  exact h1
theorem k150_149 {d c s : Nat} {I : zI} {L : zL} {P : zP} {S : zS} {Q : Option zV → zM → Prop} (s0 : S 1 0 0 = (11, 0)) 
    (h1 : Ev d c s 150 157 [some (zr (some (1, 0, 0))), none] [] (zup3 I 1 0 19 (fun _ => 0), zup3 L 1 0 19 (fun _ => 0), zup4 (zup3 P 1 0 19 (fun _ => none)) 1 0 0 22 (some (1, 0, 19)), zup3 S 1 0 19 (20, 6), 224) Q) : Ev d (c + 1) (s + 6) 150 149 [some (zr (some (1, 0, 0))), none] [] (I, L, P, S, 223) Q := by
  refine Ew.ld f150_149 rfl rfl rfl rfl ?_
  refine Ew.op (st' := zi (nI 6) :: _) f150_150 rfl rfl ?_
  refine Ew.newaR (tag := 20) (n := 6) (c := c) (s := s) f150_152 rfl (by decide) rfl rfl ?_
  refine Ew.putp f150_154 (by simp [zup3_if, zup4_if, s0]) rfl ?_
  exact h1
theorem k150_157 {d c s : Nat} {I : zI} {L : zL} {P : zP} {S : zS} {Q : Option zV → zM → Prop} (s0 : S 1 0 0 = (11, 0)) 
    (h1 : Ev d c s 150 165 [some (zr (some (1, 0, 0))), none] [] (zup3 I 1 0 20 (fun _ => 0), zup3 L 1 0 20 (fun _ => 0), zup4 (zup3 P 1 0 20 (fun _ => none)) 1 0 0 23 (some (1, 0, 20)), zup3 S 1 0 20 (20, 6), 225) Q) : Ev d (c + 1) (s + 6) 150 157 [some (zr (some (1, 0, 0))), none] [] (I, L, P, S, 224) Q := by
  refine Ew.ld f150_157 rfl rfl rfl rfl ?_
  refine Ew.op (st' := zi (nI 6) :: _) f150_158 rfl rfl ?_
  refine Ew.newaR (tag := 20) (n := 6) (c := c) (s := s) f150_160 rfl (by decide) rfl rfl ?_
  refine Ew.putp f150_162 (by simp [zup3_if, zup4_if, s0]) rfl ?_
  exact h1
theorem k150_165 {d c s : Nat} {I : zI} {L : zL} {P : zP} {S : zS} {Q : Option zV → zM → Prop} (s0 : S 1 0 0 = (11, 0)) 
    (h1 : Ev d c s 150 173 [some (zr (some (1, 0, 0))), none] [] (zup3 I 1 0 21 (fun _ => 0), zup3 L 1 0 21 (fun _ => 0), zup4 (zup3 P 1 0 21 (fun _ => none)) 1 0 0 24 (some (1, 0, 21)), zup3 S 1 0 21 (20, 6), 226) Q) : Ev d (c + 1) (s + 6) 150 165 [some (zr (some (1, 0, 0))), none] [] (I, L, P, S, 225) Q := by
  refine Ew.ld f150_165 rfl rfl rfl rfl ?_
  refine Ew.op (st' := zi (nI 6) :: _) f150_166 rfl rfl ?_
  refine Ew.newaR (tag := 20) (n := 6) (c := c) (s := s) f150_168 rfl (by decide) rfl rfl ?_
  refine Ew.putp f150_170 (by simp [zup3_if, zup4_if, s0]) rfl ?_
  exact h1
theorem k150_173 {d c s : Nat} {I : zI} {L : zL} {P : zP} {S : zS} {Q : Option zV → zM → Prop} (s0 : S 1 0 0 = (11, 0)) 
    (h1 : Ev d c s 150 181 [some (zr (some (1, 0, 0))), none] [] (zup3 I 1 0 22 (fun _ => 0), zup3 L 1 0 22 (fun _ => 0), zup4 (zup3 P 1 0 22 (fun _ => none)) 1 0 0 25 (some (1, 0, 22)), zup3 S 1 0 22 (20, 6), 227) Q) : Ev d (c + 1) (s + 6) 150 173 [some (zr (some (1, 0, 0))), none] [] (I, L, P, S, 226) Q := by
  refine Ew.ld f150_173 rfl rfl rfl rfl ?_
  refine Ew.op (st' := zi (nI 6) :: _) f150_174 rfl rfl ?_
  refine Ew.newaR (tag := 20) (n := 6) (c := c) (s := s) f150_176 rfl (by decide) rfl rfl ?_
  refine Ew.putp f150_178 (by simp [zup3_if, zup4_if, s0]) rfl ?_
  exact h1
theorem k150_181 {d c s : Nat} {I : zI} {L : zL} {P : zP} {S : zS} {Q : Option zV → zM → Prop} (s0 : S 1 0 0 = (11, 0)) 
    (h1 : Ev d c s 150 189 [some (zr (some (1, 0, 0))), none] [] (zup3 I 1 0 23 (fun _ => 0), zup3 L 1 0 23 (fun _ => 0), zup4 (zup3 P 1 0 23 (fun _ => none)) 1 0 0 27 (some (1, 0, 23)), zup3 S 1 0 23 (20, 31), 228) Q) : Ev d (c + 1) (s + 31) 150 181 [some (zr (some (1, 0, 0))), none] [] (I, L, P, S, 227) Q := by
  refine Ew.ld f150_181 rfl rfl rfl rfl ?_
  refine Ew.op (st' := zi (nI 31) :: _) f150_182 rfl rfl ?_
  refine Ew.newaR (tag := 20) (n := 31) (c := c) (s := s) f150_184 rfl (by decide) rfl rfl ?_
  refine Ew.putp f150_186 (by simp [zup3_if, zup4_if, s0]) rfl ?_
  exact h1
theorem k150_189 {d c s : Nat} {I : zI} {L : zL} {P : zP} {S : zS} {Q : Option zV → zM → Prop} (s0 : S 1 0 0 = (11, 0)) 
    (h1 : Ev d c s 150 197 [some (zr (some (1, 0, 0))), none] [] (zup3 I 1 0 24 (fun _ => 0), zup3 L 1 0 24 (fun _ => 0), zup4 (zup3 P 1 0 24 (fun _ => none)) 1 0 0 28 (some (1, 0, 24)), zup3 S 1 0 24 (20, 31), 229) Q) : Ev d (c + 1) (s + 31) 150 189 [some (zr (some (1, 0, 0))), none] [] (I, L, P, S, 228) Q := by
  refine Ew.ld f150_189 rfl rfl rfl rfl ?_
  refine Ew.op (st' := zi (nI 31) :: _) f150_190 rfl rfl ?_
  refine Ew.newaR (tag := 20) (n := 31) (c := c) (s := s) f150_192 rfl (by decide) rfl rfl ?_
  refine Ew.putp f150_194 (by simp [zup3_if, zup4_if, s0]) rfl ?_
  exact h1
theorem k150_197 {d c s : Nat} {I : zI} {L : zL} {P : zP} {S : zS} {Q : Option zV → zM → Prop} (s0 : S 1 0 0 = (11, 0)) 
    (h1 : Ev d c s 150 205 [some (zr (some (1, 0, 0))), none] [] (zup3 I 1 0 25 (fun _ => 0), zup3 L 1 0 25 (fun _ => 0), zup4 (zup3 P 1 0 25 (fun _ => none)) 1 0 0 30 (some (1, 0, 25)), zup3 S 1 0 25 (20, 6), 230) Q) : Ev d (c + 1) (s + 6) 150 197 [some (zr (some (1, 0, 0))), none] [] (I, L, P, S, 229) Q := by
  refine Ew.ld f150_197 rfl rfl rfl rfl ?_
  refine Ew.op (st' := zi (nI 6) :: _) f150_198 rfl rfl ?_
  refine Ew.newaR (tag := 20) (n := 6) (c := c) (s := s) f150_200 rfl (by decide) rfl rfl ?_
  refine Ew.putp f150_202 (by simp [zup3_if, zup4_if, s0]) rfl ?_
  exact h1
theorem k150_205 {d c s : Nat} {I : zI} {L : zL} {P : zP} {S : zS} {Q : Option zV → zM → Prop} (s0 : S 1 0 0 = (11, 0)) 
    (h1 : Ev d c s 150 214 [some (zr (some (1, 0, 0))), none] [] (zup3 I 1 0 26 (fun _ => 0), zup3 L 1 0 26 (fun _ => 0), zup4 (zup3 P 1 0 26 (fun _ => none)) 1 0 0 33 (some (1, 0, 26)), zup3 S 1 0 26 (20, 270), 231) Q) : Ev d (c + 1) (s + 270) 150 205 [some (zr (some (1, 0, 0))), none] [] (I, L, P, S, 230) Q := by
  refine Ew.ld f150_205 rfl rfl rfl rfl ?_
  refine Ew.op (st' := zi (nI 270) :: _) f150_206 rfl rfl ?_
  refine Ew.newaR (tag := 20) (n := 270) (c := c) (s := s) f150_209 rfl (by decide) rfl rfl ?_
  refine Ew.putp f150_211 (by simp [zup3_if, zup4_if, s0]) rfl ?_
  exact h1
theorem k150_214 {d c s : Nat} {I : zI} {L : zL} {P : zP} {S : zS} {Q : Option zV → zM → Prop} (s0 : S 1 0 0 = (11, 0)) 
    (h1 : Ev d c s 150 222 [some (zr (some (1, 0, 0))), none] [] (zup3 I 1 0 27 (fun _ => 0), zup3 L 1 0 27 (fun _ => 0), zup4 (zup3 P 1 0 27 (fun _ => none)) 1 0 0 35 (some (1, 0, 27)), zup3 S 1 0 27 (20, 60), 232) Q) : Ev d (c + 1) (s + 60) 150 214 [some (zr (some (1, 0, 0))), none] [] (I, L, P, S, 231) Q := by
  refine Ew.ld f150_214 rfl rfl rfl rfl ?_
  refine Ew.op (st' := zi (nI 60) :: _) f150_215 rfl rfl ?_
  refine Ew.newaR (tag := 20) (n := 60) (c := c) (s := s) f150_217 rfl (by decide) rfl rfl ?_
  refine Ew.putp f150_219 (by simp [zup3_if, zup4_if, s0]) rfl ?_
  exact h1
theorem k150_222 {d c s : Nat} {I : zI} {L : zL} {P : zP} {S : zS} {Q : Option zV → zM → Prop} (s0 : S 1 0 0 = (11, 0)) 
    (h1 : Ev d c s 150 230 [some (zr (some (1, 0, 0))), none] [] (zup3 I 1 0 28 (fun _ => 0), zup3 L 1 0 28 (fun _ => 0), zup4 (zup3 P 1 0 28 (fun _ => none)) 1 0 0 38 (some (1, 0, 28)), zup3 S 1 0 28 (20, 6), 233) Q) : Ev d (c + 1) (s + 6) 150 222 [some (zr (some (1, 0, 0))), none] [] (I, L, P, S, 232) Q := by
  refine Ew.ld f150_222 rfl rfl rfl rfl ?_
  refine Ew.op (st' := zi (nI 6) :: _) f150_223 rfl rfl ?_
  refine Ew.newaR (tag := 20) (n := 6) (c := c) (s := s) f150_225 rfl (by decide) rfl rfl ?_
  refine Ew.putp f150_227 (by simp [zup3_if, zup4_if, s0]) rfl ?_
  exact h1
theorem k150_230 {d c s : Nat} {I : zI} {L : zL} {P : zP} {S : zS} {Q : Option zV → zM → Prop} (s0 : S 1 0 0 = (11, 0)) 
    (h1 : Ev d c s 150 239 [some (zr (some (1, 0, 0))), none] [] (zup3 I 1 0 29 (fun _ => 0), zup3 L 1 0 29 (fun _ => 0), zup4 (zup3 P 1 0 29 (fun _ => none)) 1 0 0 39 (some (1, 0, 29)), zup3 S 1 0 29 (21, 961), 234) Q) : Ev d (c + 1) (s + 961) 150 230 [some (zr (some (1, 0, 0))), none] [] (I, L, P, S, 233) Q := by
  refine Ew.ld f150_230 rfl rfl rfl rfl ?_
  refine Ew.op (st' := zi (nI 961) :: _) f150_231 rfl rfl ?_
  refine Ew.newaR (tag := 21) (n := 961) (c := c) (s := s) f150_234 rfl (by decide) rfl rfl ?_
  refine Ew.putp f150_236 (by simp [zup3_if, zup4_if, s0]) rfl ?_
  exact h1
theorem k150_239 {d c s : Nat} {I : zI} {L : zL} {P : zP} {S : zS} {Q : Option zV → zM → Prop} (s0 : S 1 0 0 = (11, 0)) 
    (h1 : Ev d c s 150 248 [some (zr (some (1, 0, 0))), none] [] (zup3 I 1 0 30 (fun _ => 0), zup3 L 1 0 30 (fun _ => 0), zup4 (zup3 P 1 0 30 (fun _ => none)) 1 0 0 40 (some (1, 0, 30)), zup3 S 1 0 30 (21, 961), 235) Q) : Ev d (c + 1) (s + 961) 150 239 [some (zr (some (1, 0, 0))), none] [] (I, L, P, S, 234) Q := by
  refine Ew.ld f150_239 rfl rfl rfl rfl ?_
  refine Ew.op (st' := zi (nI 961) :: _) f150_240 rfl rfl ?_
  refine Ew.newaR (tag := 21) (n := 961) (c := c) (s := s) f150_243 rfl (by decide) rfl rfl ?_
  refine Ew.putp f150_245 (by simp [zup3_if, zup4_if, s0]) rfl ?_
  exact h1
theorem k150_248 {d c s : Nat} {I : zI} {L : zL} {P : zP} {S : zS} {Q : Option zV → zM → Prop} (s0 : S 1 0 0 = (11, 0)) 
    (h1 : Ev d c s 150 256 [some (zr (some (1, 0, 0))), none] [] (zup3 I 1 0 31 (fun _ => 0), zup3 L 1 0 31 (fun _ => 0), zup4 (zup3 P 1 0 31 (fun _ => none)) 1 0 0 41 (some (1, 0, 31)), zup3 S 1 0 31 (20, 31), 236) Q) : Ev d (c + 1) (s + 31) 150 248 [some (zr (some (1, 0, 0))), none] [] (I, L, P, S, 235) Q := by
  refine Ew.ld f150_248 rfl rfl rfl rfl ?_
  refine Ew.op (st' := zi (nI 31) :: _) f150_249 rfl rfl ?_
  refine Ew.newaR (tag := 20) (n := 31) (c := c) (s := s) f150_251 rfl (by decide) rfl rfl ?_
  refine Ew.putp f150_253 (by simp [zup3_if, zup4_if, s0]) rfl ?_
  exact h1
theorem k150_256 {d c s : Nat} {I : zI} {L : zL} {P : zP} {S : zS} {Q : Option zV → zM → Prop} (s0 : S 1 0 0 = (11, 0)) 
    (h1 : Ev d c s 150 264 [some (zr (some (1, 0, 0))), none] [] (zup3 I 1 0 32 (fun _ => 0), zup3 L 1 0 32 (fun _ => 0), zup4 (zup3 P 1 0 32 (fun _ => none)) 1 0 0 42 (some (1, 0, 32)), zup3 S 1 0 32 (20, 31), 237) Q) : Ev d (c + 1) (s + 31) 150 256 [some (zr (some (1, 0, 0))), none] [] (I, L, P, S, 236) Q := by
  refine Ew.ld f150_256 rfl rfl rfl rfl ?_
  refine Ew.op (st' := zi (nI 31) :: _) f150_257 rfl rfl ?_
  refine Ew.newaR (tag := 20) (n := 31) (c := c) (s := s) f150_259 rfl (by decide) rfl rfl ?_
  refine Ew.putp f150_261 (by simp [zup3_if, zup4_if, s0]) rfl ?_
  exact h1
def Xr (q f : Nat) (ι : Nat → Int32) (I0 : zI) (L0 : zL) (P0 : zP) (S0 : zS) (I : zI) (L : zL) (P : zP) (S : zS) : Prop := fAB 204 (205 + q) I0 L0 P0 S0 I L P S ∧ (∀ k, 1 ≤ k → k ≤ q → I 1 0 k = (fun _ => 0) ∧ L 1 0 k = (fun _ => 0) ∧ P 1 0 k = (fun _ => none) ∧ S 1 0 k = zs1 k) ∧ I 1 0 0 = ι ∧ L 1 0 0 = (fun _ => 0) ∧ P 1 0 0 = (fun i => if i < f then EP 1 0 0 i else none) ∧ S 1 0 0 = (11, 0)
theorem zal_r : ∀ k, k ≤ 32 → zal (204 + k) = (1, 0, k) := by decide +kernel
section
variable {d c s : Nat} {Q : Option zV → zM → Prop} {I I0 : zI} {L L0 : zL} {P P0 : zP} {S S0 : zS} {q f : Nat} {x : Nat × Nat} {ι : Nat → Int32}
theorem Xr.arr (h : Xr q f ι I0 L0 P0 S0 I L P S) (hq : q < 32) (hv : EP 1 0 0 f = some (1, 0, q + 1)) (hs : zs1 (q + 1) = x) : Xr (q + 1) (f + 1) ι I0 L0 P0 S0 (zup3 I 1 0 (q + 1) (fun _ => 0)) (zup3 L 1 0 (q + 1) (fun _ => 0)) (zup4 (zup3 P 1 0 (q + 1) (fun _ => none)) 1 0 0 f (some (1, 0, q + 1))) (zup3 S 1 0 (q + 1) x) := by
  obtain ⟨h1, h2, h3, h4, h5, h6⟩ := h
  refine ⟨fun r j k g => ?_, fun k g1 g2 => ?_, ?_, ?_, ?_, ?_⟩
  · have n0 := zne (g 204 (by omega) (by omega)) (zal_r 0 (by omega))
    have n1 := zne (g (204 + (q + 1)) (by omega) (by omega)) (zal_r (q + 1) (by omega))
    have := h1 r j k (fun n a b => g n a (by omega))
    unfold mEq at this ⊢
    rw [zu4r _ _ n0, zup3_o _ _ n1, zup3_o _ _ n1, zup3_o _ _ n1, zup3_o _ _ n1]
    exact this
  · by_cases e : k = q + 1
    · subst e
      rw [zu4r _ _ (by omega), zup3_s, zup3_s, zup3_s, zup3_s, hs]
      exact ⟨rfl, rfl, rfl, rfl⟩
    · rw [zu4r _ _ (by omega), zup3_o _ _ (by omega), zup3_o _ _ (by omega), zup3_o _ _ (by omega), zup3_o _ _ (by omega)]
      exact h2 k g1 (by omega)
  · rw [zup3_o _ _ (by omega)]; exact h3
  · rw [zup3_o _ _ (by omega)]; exact h4
  · funext i
    by_cases g : i = f
    · subst g; rw [zu4s, if_pos (by omega), hv]
    · rw [zu4n _ _ (by omega), zup3_o _ _ (by omega), h5]
      by_cases g2 : i < f
      · simp only [if_pos g2, if_pos (show i < f + 1 by omega)]
      · simp only [if_neg g2, if_neg (show ¬ i < f + 1 by omega)]
  · rw [zup3_o _ _ (by omega)]; exact h6
theorem Xr.skip (h : Xr q f ι I0 L0 P0 S0 I L P S) (hm : EP 1 0 0 f = none) : Xr q (f + 1) ι I0 L0 P0 S0 I L P S := by
  refine ⟨h.1, h.2.1, h.2.2.1, h.2.2.2.1, ?_, h.2.2.2.2.2⟩
  rw [h.2.2.2.2.1]
  funext i
  by_cases g : i = f
  · subst g; simp only [if_neg (Nat.lt_irrefl i), if_pos (Nat.lt_succ_self i), hm]
  · by_cases g2 : i < f
    · simp only [if_pos g2, if_pos (show i < f + 1 by omega)]
    · simp only [if_neg g2, if_neg (show ¬ i < f + 1 by omega)]
theorem Xr.i5 (h : Xr q f (fun _ => 0) I0 L0 P0 S0 I L P S) : Xr q f (fun i => if i = 5 then -1 else 0) I0 L0 P0 S0 (zup4 I 1 0 0 5 (-1)) L P S := by
  obtain ⟨h1, h2, h3, h4, h5, h6⟩ := h
  refine ⟨fun r j k g => ?_, fun k g1 g2 => ?_, ?_, h4, h5, h6⟩
  · have n0 := zne (g 204 (by omega) (by omega)) (zal_r 0 (by omega))
    have := h1 r j k g
    unfold mEq at this ⊢
    rw [zu4r _ _ n0]
    exact this
  · rw [zu4r _ _ (by omega)]; exact h2 k g1 g2
  · funext i
    by_cases g : i = 5
    · subst g; rw [zu4s]; rfl
    · rw [zu4n _ _ (by omega), h3, if_neg g]
theorem cn_Ref (hf : cFresh I L P S 1 0 0 (11, 0)) (k : ∀ I' L' P' S', Xr 32 43 (fun i => if i = 5 then -1 else 0) I L P S I' L' P' S' → Ev (d + 1) c s 150 264 [some (zr (some (1, 0, 0))), none] [] (I', L', P', S', 237) Q) : Ev (d + 1) (c + 32) (s + 6764) 150 0 [some (zr (some (1, 0, 0))), none] [] (I, L, P, S, 205) Q := by
  have x0 : Xr 0 0 (fun _ => 0) I L P S I L P S := ⟨fun r j q _ => ⟨rfl, rfl, rfl, rfl⟩, fun n h1 h2 => by omega, hf.1, hf.2.1, by rw [hf.2.2.1]; rfl, hf.2.2.2⟩
  refine k150_0 (c := c + 31) (s := s + 6494) x0.2.2.2.2.2 ?_
  have x1 := x0.arr (x := (20, 270)) (by omega) rfl rfl
  refine k150_13 (c := c + 30) (s := s + 4874) x1.2.2.2.2.2 ?_
  have x2 := x1.arr (x := (20, 1620)) (by omega) rfl rfl
  refine k150_22 (c := c + 29) (s := s + 4604) x2.2.2.2.2.2 ?_
  have x3 := x2.skip rfl
  have x4 := x3.arr (x := (20, 270)) (by omega) rfl rfl
  refine k150_31 (c := c + 28) (s := s + 2984) x4.2.2.2.2.2 ?_
  have x5 := x4.arr (x := (20, 1620)) (by omega) rfl rfl
  have x6 := x5.i5
  refine k150_45 (c := c + 27) (s := s + 2924) x6.2.2.2.2.2 ?_
  have x7 := x6.skip rfl
  have x8 := x7.arr (x := (20, 60)) (by omega) rfl rfl
  refine k150_53 (c := c + 26) (s := s + 2920) x8.2.2.2.2.2 ?_
  have x9 := x8.skip rfl
  have x10 := x9.arr (x := (20, 4)) (by omega) rfl rfl
  refine k150_60 (c := c + 25) (s := s + 2916) x10.2.2.2.2.2 ?_
  have x11 := x10.arr (x := (20, 4)) (by omega) rfl rfl
  refine k150_67 (c := c + 24) (s := s + 2820) x11.2.2.2.2.2 ?_
  have x12 := x11.arr (x := (21, 96)) (by omega) rfl rfl
  refine k150_75 (c := c + 23) (s := s + 2796) x12.2.2.2.2.2 ?_
  have x13 := x12.arr (x := (21, 24)) (by omega) rfl rfl
  refine k150_83 (c := c + 22) (s := s + 2676) x13.2.2.2.2.2 ?_
  have x14 := x13.arr (x := (20, 120)) (by omega) rfl rfl
  refine k150_91 (c := c + 21) (s := s + 2556) x14.2.2.2.2.2 ?_
  have x15 := x14.arr (x := (20, 120)) (by omega) rfl rfl
  refine k150_99 (c := c + 20) (s := s + 2436) x15.2.2.2.2.2 ?_
  have x16 := x15.arr (x := (20, 120)) (by omega) rfl rfl
  refine k150_107 (c := c + 19) (s := s + 2432) x16.2.2.2.2.2 ?_
  have x17 := x16.arr (x := (20, 4)) (by omega) rfl rfl
  refine k150_114 (c := c + 18) (s := s + 2428) x17.2.2.2.2.2 ?_
  have x18 := x17.arr (x := (20, 4)) (by omega) rfl rfl
  refine k150_121 (c := c + 17) (s := s + 2424) x18.2.2.2.2.2 ?_
  have x19 := x18.arr (x := (20, 4)) (by omega) rfl rfl
  refine k150_128 (c := c + 16) (s := s + 2420) x19.2.2.2.2.2 ?_
  have x20 := x19.arr (x := (20, 4)) (by omega) rfl rfl
  refine k150_135 (c := c + 15) (s := s + 2416) x20.2.2.2.2.2 ?_
  have x21 := x20.arr (x := (20, 4)) (by omega) rfl rfl
  refine k150_142 (c := c + 14) (s := s + 2412) x21.2.2.2.2.2 ?_
  have x22 := x21.arr (x := (20, 4)) (by omega) rfl rfl
  refine k150_149 (c := c + 13) (s := s + 2406) x22.2.2.2.2.2 ?_
  have x23 := x22.skip rfl
  have x24 := x23.arr (x := (20, 6)) (by omega) rfl rfl
  refine k150_157 (c := c + 12) (s := s + 2400) x24.2.2.2.2.2 ?_
  have x25 := x24.arr (x := (20, 6)) (by omega) rfl rfl
  refine k150_165 (c := c + 11) (s := s + 2394) x25.2.2.2.2.2 ?_
  have x26 := x25.arr (x := (20, 6)) (by omega) rfl rfl
  refine k150_173 (c := c + 10) (s := s + 2388) x26.2.2.2.2.2 ?_
  have x27 := x26.arr (x := (20, 6)) (by omega) rfl rfl
  refine k150_181 (c := c + 9) (s := s + 2357) x27.2.2.2.2.2 ?_
  have x28 := x27.skip rfl
  have x29 := x28.arr (x := (20, 31)) (by omega) rfl rfl
  refine k150_189 (c := c + 8) (s := s + 2326) x29.2.2.2.2.2 ?_
  have x30 := x29.arr (x := (20, 31)) (by omega) rfl rfl
  refine k150_197 (c := c + 7) (s := s + 2320) x30.2.2.2.2.2 ?_
  have x31 := x30.skip rfl
  have x32 := x31.arr (x := (20, 6)) (by omega) rfl rfl
  refine k150_205 (c := c + 6) (s := s + 2050) x32.2.2.2.2.2 ?_
  have x33 := x32.skip rfl
  have x34 := x33.skip rfl
  have x35 := x34.arr (x := (20, 270)) (by omega) rfl rfl
  refine k150_214 (c := c + 5) (s := s + 1990) x35.2.2.2.2.2 ?_
  have x36 := x35.skip rfl
  have x37 := x36.arr (x := (20, 60)) (by omega) rfl rfl
  refine k150_222 (c := c + 4) (s := s + 1984) x37.2.2.2.2.2 ?_
  have x38 := x37.skip rfl
  have x39 := x38.skip rfl
  have x40 := x39.arr (x := (20, 6)) (by omega) rfl rfl
  refine k150_230 (c := c + 3) (s := s + 1023) x40.2.2.2.2.2 ?_
  have x41 := x40.arr (x := (21, 961)) (by omega) rfl rfl
  refine k150_239 (c := c + 2) (s := s + 62) x41.2.2.2.2.2 ?_
  have x42 := x41.arr (x := (21, 961)) (by omega) rfl rfl
  refine k150_248 (c := c + 1) (s := s + 31) x42.2.2.2.2.2 ?_
  have x43 := x42.arr (x := (20, 31)) (by omega) rfl rfl
  refine k150_256 (c := c) (s := s) x43.2.2.2.2.2 ?_
  have x44 := x43.arr (x := (20, 31)) (by omega) rfl rfl
  exact k _ _ _ _ x44
end
