/-! the first trace; a history -/
theorem k98_0 {d c s : Nat} {I : zI} {L : zL} {P : zP} {S : zS} {Q : Option zV → zM → Prop} (s0 : S 3 4 0 = (9, 0)) (s4 : S 0 0 4 = (4, 0)) (i6 : I 0 0 4 6 = nI 0) (p2 : P 0 0 4 2 = some (0, 0, 5)) 
    (h1 : Ev d 1 31 247 0 [some (zr (some (0, 0, 5))), some (zi (nI 0)), none] [] (zup4 I 3 4 0 0 (nI 0), L, P, S, 16) (fun r M' => Ev (d + 1) c s 98 24 [some (zr (some (3, 4, 0))), some (zr (some (0, 0, 4)))] (zpush r [zr (some (3, 4, 0))]) M' Q)) : Ev (d + 1) (c + 1) (s + 31) 98 0 [some (zr (some (3, 4, 0))), some (zr (some (0, 0, 4)))] [] (I, L, P, S, 16) Q := by
  refine Ew.ld f98_0 rfl rfl rfl rfl ?_
  refine Ew.nat (st' := []) f98_1 rfl (fun k h => ⟨Nat.le_of_ble_eq_true rfl, h⟩) rfl ?_
  refine Ew.ld f98_4 rfl rfl rfl rfl ?_
  refine Ew.ld f98_5 rfl rfl rfl rfl ?_
  refine Ew.getiV (v := nI 0) f98_6 (by simp [zup3_if, zup4_if, s0, s4, i6, p2]) (by simp [zup3_if, zup4_if, s0, s4, i6, p2]) rfl ?_
  refine Ew.puti f98_9 (by simp [zup3_if, zup4_if, s0, s4, i6, p2]) rfl ?_
  refine Ew.ld f98_12 rfl rfl rfl rfl ?_
  refine Ew.ld f98_13 rfl rfl rfl rfl ?_
  refine Ew.getp (v := some (0, 0, 5)) f98_14 (by simp [zup3_if, zup4_if, s0, s4, i6, p2]) (by simp [zup3_if, zup4_if, s0, s4, i6, p2]) rfl ?_
  refine Ew.ld f98_17 rfl rfl rfl rfl ?_
  refine Ew.getiV (v := nI 0) f98_18 (by simp [zup3_if, zup4_if, s0, s4, i6, p2]) (by simp [zup3_if, zup4_if, s0, s4, i6, p2]) rfl ?_
  refine Ew.callB (c := c) (s := s) (ls0 := [some (zr (some (0, 0, 5))), some (zi (nI 0)), none]) f98_21 rfl (Nat.le_of_ble_eq_true rfl) rfl rfl (Nat.le_of_ble_eq_true rfl) trivial (Nat.le_of_ble_eq_true rfl) rfl rfl ?_
  exact h1
theorem k98_24 {d c s : Nat} {I : zI} {L : zL} {P : zP} {S : zS} {Q : Option zV → zM → Prop} (s0 : S 3 4 0 = (9, 0)) (s4 : S 0 0 4 = (4, 0)) (i0 : I 3 4 0 0 = nI 0) (p3 : P 0 0 4 3 = some (0, 0, 6)) 
    (h1 : Ev d 1 31 247 0 [some (zr (some (0, 0, 6))), some (zi (nI 0)), none] [] (I, L, zup4 P 3 4 0 1 (some (3, 5, 0)), S, 17) (fun r M' => Ev (d + 1) c s 98 39 [some (zr (some (3, 4, 0))), some (zr (some (0, 0, 4)))] (zpush r [zr (some (3, 4, 0))]) M' Q)) : Ev (d + 1) (c + 1) (s + 31) 98 24 [some (zr (some (3, 4, 0))), some (zr (some (0, 0, 4)))] [zr (some (3, 5, 0)), zr (some (3, 4, 0))] (I, L, P, S, 17) Q := by
  refine Ew.putp f98_24 (by simp [zup3_if, zup4_if, s0, s4, i0, p3]) rfl ?_
  refine Ew.ld f98_27 rfl rfl rfl rfl ?_
  refine Ew.ld f98_28 rfl rfl rfl rfl ?_
  refine Ew.getp (v := some (0, 0, 6)) f98_29 (by simp [zup3_if, zup4_if, s0, s4, i0, p3]) (by simp [zup3_if, zup4_if, s0, s4, i0, p3]) rfl ?_
  refine Ew.ld f98_32 rfl rfl rfl rfl ?_
  refine Ew.getiV (v := nI 0) f98_33 (by simp [zup3_if, zup4_if, s0, s4, i0, p3]) (by simp [zup3_if, zup4_if, s0, s4, i0, p3]) rfl ?_
  refine Ew.callB (c := c) (s := s) (ls0 := [some (zr (some (0, 0, 6))), some (zi (nI 0)), none]) f98_36 rfl (Nat.le_of_ble_eq_true rfl) rfl rfl (Nat.le_of_ble_eq_true rfl) trivial (Nat.le_of_ble_eq_true rfl) rfl rfl ?_
  exact h1
theorem k98_39 {d c s : Nat} {I : zI} {L : zL} {P : zP} {S : zS} {Q : Option zV → zM → Prop} (s0 : S 3 4 0 = (9, 0)) (s4 : S 0 0 4 = (4, 0)) (i0 : I 3 4 0 0 = nI 0) (p4 : P 0 0 4 4 = some (0, 0, 7)) 
    (h1 : Ev d 1 31 247 0 [some (zr (some (0, 0, 7))), some (zi (nI 0)), none] [] (I, L, zup4 P 3 4 0 2 (some (3, 6, 0)), S, 18) (fun r M' => Ev (d + 1) c s 98 54 [some (zr (some (3, 4, 0))), some (zr (some (0, 0, 4)))] (zpush r [zr (some (3, 4, 0))]) M' Q)) : Ev (d + 1) (c + 1) (s + 31) 98 39 [some (zr (some (3, 4, 0))), some (zr (some (0, 0, 4)))] [zr (some (3, 6, 0)), zr (some (3, 4, 0))] (I, L, P, S, 18) Q := by
  refine Ew.putp f98_39 (by simp [zup3_if, zup4_if, s0, s4, i0, p4]) rfl ?_
  refine Ew.ld f98_42 rfl rfl rfl rfl ?_
  refine Ew.ld f98_43 rfl rfl rfl rfl ?_
  refine Ew.getp (v := some (0, 0, 7)) f98_44 (by simp [zup3_if, zup4_if, s0, s4, i0, p4]) (by simp [zup3_if, zup4_if, s0, s4, i0, p4]) rfl ?_
  refine Ew.ld f98_47 rfl rfl rfl rfl ?_
  refine Ew.getiV (v := nI 0) f98_48 (by simp [zup3_if, zup4_if, s0, s4, i0, p4]) (by simp [zup3_if, zup4_if, s0, s4, i0, p4]) rfl ?_
  refine Ew.callB (c := c) (s := s) (ls0 := [some (zr (some (0, 0, 7))), some (zi (nI 0)), none]) f98_51 rfl (Nat.le_of_ble_eq_true rfl) rfl rfl (Nat.le_of_ble_eq_true rfl) trivial (Nat.le_of_ble_eq_true rfl) rfl rfl ?_
  exact h1
theorem k98_54 {d c s : Nat} {I : zI} {L : zL} {P : zP} {S : zS} {Q : Option zV → zM → Prop} (s0 : S 3 4 0 = (9, 0)) (s4 : S 0 0 4 = (4, 0)) (i0 : I 3 4 0 0 = nI 0) (p5 : P 0 0 4 5 = some (0, 0, 8)) 
    (h1 : Ev d 1 31 247 0 [some (zr (some (0, 0, 8))), some (zi (nI 1)), none] [] (I, L, zup4 P 3 4 0 3 (some (3, 7, 0)), S, 19) (fun r M' => Ev (d + 1) c s 98 71 [some (zr (some (3, 4, 0))), some (zr (some (0, 0, 4)))] (zpush r [zr (some (3, 4, 0))]) M' Q)) : Ev (d + 1) (c + 1) (s + 31) 98 54 [some (zr (some (3, 4, 0))), some (zr (some (0, 0, 4)))] [zr (some (3, 7, 0)), zr (some (3, 4, 0))] (I, L, P, S, 19) Q := by
  refine Ew.putp f98_54 (by simp [zup3_if, zup4_if, s0, s4, i0, p5]) rfl ?_
  refine Ew.ld f98_57 rfl rfl rfl rfl ?_
  refine Ew.ld f98_58 rfl rfl rfl rfl ?_
  refine Ew.getp (v := some (0, 0, 8)) f98_59 (by simp [zup3_if, zup4_if, s0, s4, i0, p5]) (by simp [zup3_if, zup4_if, s0, s4, i0, p5]) rfl ?_
  refine Ew.ld f98_62 rfl rfl rfl rfl ?_
  refine Ew.getiV (v := nI 0) f98_63 (by simp [zup3_if, zup4_if, s0, s4, i0, p5]) (by simp [zup3_if, zup4_if, s0, s4, i0, p5]) rfl ?_
  refine Ew.op (st' := zi (nI 1) :: _) f98_66 rfl rfl ?_
  refine Ew.op (st' := zi (nI 1) :: _) f98_67 rfl rfl ?_
  refine Ew.callB (c := c) (s := s) (ls0 := [some (zr (some (0, 0, 8))), some (zi (nI 1)), none]) f98_68 rfl (Nat.le_of_ble_eq_true rfl) rfl rfl (Nat.le_of_ble_eq_true rfl) trivial (Nat.le_of_ble_eq_true rfl) rfl rfl ?_
  exact h1
theorem k98_71 {d c s : Nat} {I : zI} {L : zL} {P : zP} {S : zS} {Q : Option zV → zM → Prop} (s0 : S 3 4 0 = (9, 0)) (s4 : S 0 0 4 = (4, 0)) (i14 : I 0 0 4 14 = nI 0) (i15 : I 0 0 4 15 = -4) (i16 : I 0 0 4 16 = nI 0) (i17 : I 0 0 4 17 = nI 0) (i11 : I 0 0 4 11 = nI 0) 
    (h1 : Q none (zup4 (zup4 (zup4 (zup4 (zup4 I 3 4 0 5 (nI 0)) 3 4 0 6 ((-4))) 3 4 0 7 (nI 0)) 3 4 0 8 (nI 0)) 3 4 0 9 (nI 0), L, zup4 P 3 4 0 4 (some (3, 8, 0)), S, 20)) : Ev d c s 98 71 [some (zr (some (3, 4, 0))), some (zr (some (0, 0, 4)))] [zr (some (3, 8, 0)), zr (some (3, 4, 0))] (I, L, P, S, 20) Q := by
  refine Ew.putp f98_71 (by simp [zup3_if, zup4_if, s0, s4, i14, i15, i16, i17, i11]) rfl ?_
  refine Ew.ld f98_74 rfl rfl rfl rfl ?_
  refine Ew.ld f98_75 rfl rfl rfl rfl ?_
  refine Ew.getiV (v := nI 0) f98_76 (by simp [zup3_if, zup4_if, s0, s4, i14, i15, i16, i17, i11]) (by simp [zup3_if, zup4_if, s0, s4, i14, i15, i16, i17, i11]) rfl ?_
  refine Ew.puti f98_79 (by simp [zup3_if, zup4_if, s0, s4, i14, i15, i16, i17, i11]) rfl ?_
  refine Ew.ld f98_82 rfl rfl rfl rfl ?_
  refine Ew.ld f98_83 rfl rfl rfl rfl ?_
  refine Ew.getiV (v := (-4)) f98_84 (by simp [zup3_if, zup4_if, s0, s4, i14, i15, i16, i17, i11]) (by simp [zup3_if, zup4_if, s0, s4, i14, i15, i16, i17, i11]) rfl ?_
  refine Ew.puti f98_87 (by simp [zup3_if, zup4_if, s0, s4, i14, i15, i16, i17, i11]) rfl ?_
  refine Ew.ld f98_90 rfl rfl rfl rfl ?_
  refine Ew.ld f98_91 rfl rfl rfl rfl ?_
  refine Ew.getiV (v := nI 0) f98_92 (by simp [zup3_if, zup4_if, s0, s4, i14, i15, i16, i17, i11]) (by simp [zup3_if, zup4_if, s0, s4, i14, i15, i16, i17, i11]) rfl ?_
  refine Ew.puti f98_95 (by simp [zup3_if, zup4_if, s0, s4, i14, i15, i16, i17, i11]) rfl ?_
  refine Ew.ld f98_98 rfl rfl rfl rfl ?_
  refine Ew.ld f98_99 rfl rfl rfl rfl ?_
  refine Ew.getiV (v := nI 0) f98_100 (by simp [zup3_if, zup4_if, s0, s4, i14, i15, i16, i17, i11]) (by simp [zup3_if, zup4_if, s0, s4, i14, i15, i16, i17, i11]) rfl ?_
  refine Ew.puti f98_103 (by simp [zup3_if, zup4_if, s0, s4, i14, i15, i16, i17, i11]) rfl ?_
  refine Ew.ld f98_106 rfl rfl rfl rfl ?_
  refine Ew.ld f98_107 rfl rfl rfl rfl ?_
  refine Ew.getiV (v := nI 0) f98_108 (by simp [zup3_if, zup4_if, s0, s4, i14, i15, i16, i17, i11]) (by simp [zup3_if, zup4_if, s0, s4, i14, i15, i16, i17, i11]) rfl ?_
  refine Ew.puti f98_111 (by simp [zup3_if, zup4_if, s0, s4, i14, i15, i16, i17, i11]) rfl ?_
  refine Ew.vret f98_114 ?_
  exact h1
section
variable {d c s top : Nat} {Q : Option zV → zM → Prop} {I : zI} {L : zL} {P : zP} {S : zS} {r j q : Nat}
theorem cn_Trc (hf : cFresh I L P S 3 4 0 (9, 0)) (hB : ∀ n, 4 ≤ n → n < 13 → Ec I L P S (zal n)) (k : ∀ I' L' P' S', fAB 15 20 I L P S I' L' P' S' → (∀ n, 15 ≤ n → n < 20 → Ec I' L' P' S' (zal n)) → Q none (I', L', P', S', 20)) : Ev (d + 2) (c + 4) (s + 124) 98 0 [some (zr (some (3, 4, 0))), some (zr (some (0, 0, 4)))] [] (I, L, P, S, 16) Q := by
  obtain ⟨f1, f2, f3, f4⟩ := hf
  obtain ⟨a1, a2, a3, a4⟩ := hB 4 (by decide) (by decide)
  obtain ⟨b1, b2, b3, b4⟩ := hB 7 (by decide) (by decide)
  obtain ⟨c1, c2, c3, c4⟩ := hB 8 (by decide) (by decide)
  obtain ⟨d1, d2, d3, d4⟩ := hB 9 (by decide) (by decide)
  obtain ⟨e1, e2, e3, e4⟩ := hB 10 (by decide) (by decide)
  have a1 : I 0 0 4 = fun i => if i = 15 then -4 else 0 := a1
  have a3 : ∀ i, P 0 0 4 i = if i = 0 then some (3, 0, 0) else zpj (fun _ _ _ _ => none) 0 0 4 i := fun i => congrFun a3 i
  have a4 : S 0 0 4 = (4, 0) := a4
  have b4 : S 0 0 5 = (20, 30) := b4
  have c4 : S 0 0 6 = (20, 30) := c4
  have d4 : S 0 0 7 = (20, 30) := d4
  have e4 : S 0 0 8 = (20, 31) := e4
  have e1 : I 0 0 8 = fun _ => 0 := e1
  have p2 : P 0 0 4 2 = some (0, 0, 5) := by rw [a3]; rfl
  have p3 : P 0 0 4 3 = some (0, 0, 6) := by rw [a3]; rfl
  have p4 : P 0 0 4 4 = some (0, 0, 7) := by rw [a3]; rfl
  have p5 : P 0 0 4 5 = some (0, 0, 8) := by rw [a3]; rfl
  refine k98_0 (d := d + 1) (c := c + 3) (s := s + 93) f4 a4 (by rw [a1]; rfl) p2 ?_
  refine sp_cpR (d := d) (c := 0) (N := 30) (r1 := 3) (j1 := 5) (q1 := 0) (by decide) (by simp [b4]) (by decide) (by decide) rfl (by decide) (by decide) (Nat.zero_le _) ?_
  refine k98_24 (d := d + 1) (c := c + 2) (s := s + 62) (by simp [zup3_if, f4]) (by simp [zup3_if, a4]) (by simp [zup3_if, zup4_if]) (by simp [zup3_if, p3]) ?_
  refine sp_cpR (d := d) (c := 0) (N := 30) (r1 := 3) (j1 := 6) (q1 := 0) (by decide) (by simp [zup3_if, c4]) (by decide) (by decide) rfl (by decide) (by decide) (Nat.zero_le _) ?_
  refine k98_39 (d := d + 1) (c := c + 1) (s := s + 31) (by simp [zup3_if, f4]) (by simp [zup3_if, a4]) (by simp [zup3_if, zup4_if]) (by simp [zup3_if, zup4_if, p4]) ?_
  refine sp_cpR (d := d) (c := 0) (N := 30) (r1 := 3) (j1 := 7) (q1 := 0) (by decide) (by simp [zup3_if, d4]) (by decide) (by decide) rfl (by decide) (by decide) (Nat.zero_le _) ?_
  refine k98_54 (d := d + 1) (c := c) (s := s) (by simp [zup3_if, f4]) (by simp [zup3_if, a4]) (by simp [zup3_if, zup4_if]) (by simp [zup3_if, zup4_if, p5]) ?_
  refine sp_cpR (d := d) (c := 0) (N := 31) (r1 := 3) (j1 := 8) (q1 := 0) (by decide) (by simp [zup3_if, e4]) (by decide) (by decide) rfl (by decide) (by decide) (by decide) ?_
  refine k98_71 (by simp [zup3_if, f4]) (by simp [zup3_if, a4]) (by simp [zup3_if, zup4_if, a1]; rfl) (by simp [zup3_if, zup4_if, a1]) (by simp [zup3_if, zup4_if, a1]; rfl) (by simp [zup3_if, zup4_if, a1]; rfl) (by simp [zup3_if, zup4_if, a1]; rfl) ?_
  refine k _ _ _ _ (fun r j q g => ?_) (fun n h1 h2 => ?_)
  · have n0 := zne (g 15 (by decide) (by decide)) (rfl : zal 15 = (3, 4, 0))
    have n1 := zne (g 16 (by decide) (by decide)) (rfl : zal 16 = (3, 5, 0))
    have n2 := zne (g 17 (by decide) (by decide)) (rfl : zal 17 = (3, 6, 0))
    have n3 := zne (g 18 (by decide) (by decide)) (rfl : zal 18 = (3, 7, 0))
    have n4 := zne (g 19 (by decide) (by decide)) (rfl : zal 19 = (3, 8, 0))
    refine ⟨?_, ?_, ?_, ?_⟩
    · repeat (first | rw [zup3_o _ _ (by omega)] | rw [zu4r _ _ (by omega)])
    · repeat (first | rw [zup3_o _ _ (by omega)] | rw [zu4r _ _ (by omega)])
    · repeat (first | rw [zup3_o _ _ (by omega)] | rw [zu4r _ _ (by omega)])
    · repeat (first | rw [zup3_o _ _ (by omega)] | rw [zu4r _ _ (by omega)])
  · have hn : n = 15 ∨ n = 16 ∨ n = 17 ∨ n = 18 ∨ n = 19 := by omega
    rcases hn with e | e | e | e | e <;> subst e
    · rw [show zal 15 = (3, 4, 0) from rfl]
      refine ⟨funext fun i => ?_, funext fun i => ?_, funext fun i => ?_, ?_⟩
      · simp [zup3_if, zup4_if, EI, f1]
        repeat' split
        all_goals first | rfl | omega | (intro _; rfl) | simp_all
      · simp [zup3_if, f2, zup4_if]
      · simp [zup3_if, zup4_if, EP, f3]
        repeat' split
        all_goals first | rfl | omega | (intro _; rfl) | simp_all
      · simp [zup3_if, ES, f4]
    · rw [show zal 16 = (3, 5, 0) from rfl]
      exact ⟨funext fun i => by simp [zup3_if, zup4_if, EI, va_cpy], funext fun i => by simp [zup3_if, zup4_if], funext fun i => by simp [zup3_if, zup4_if, EP], by simp [zup3_if, ES]⟩
    · rw [show zal 17 = (3, 6, 0) from rfl]
      exact ⟨funext fun i => by simp [zup3_if, zup4_if, EI, va_cpy], funext fun i => by simp [zup3_if, zup4_if], funext fun i => by simp [zup3_if, zup4_if, EP], by simp [zup3_if, ES]⟩
    · rw [show zal 18 = (3, 7, 0) from rfl]
      exact ⟨funext fun i => by simp [zup3_if, zup4_if, EI, va_cpy], funext fun i => by simp [zup3_if, zup4_if], funext fun i => by simp [zup3_if, zup4_if, EP], by simp [zup3_if, ES]⟩
    · rw [show zal 19 = (3, 8, 0) from rfl]
      exact ⟨funext fun i => by simp [zup3_if, zup4_if, EI, va_cpy, e1], funext fun i => by simp [zup3_if, zup4_if], funext fun i => by simp [zup3_if, zup4_if, EP], by simp [zup3_if, ES]⟩
/-- a history, its tables behind one another -/
theorem cn_Hist {a base : Nat} (hj : j < 2) (hb : base = if j = 0 then 2 else 9) (h0 : zal a = (4, j, 0)) (h1 : zal (a + 1) = (4, j, 1)) (ht : ∀ k, k < 6 → ∀ q, q ≤ 10 → zal (a + 2 + 11 * k + q) = (2, base + k, q)) (ha : 20 ≤ a) (hf : cFresh I L P S 4 j 0 (1, 0)) (sm : S 3 2 0 = (5, 0)) (sn : S 3 4 0 = (9, 0)) (k : ∀ I' L' P' S', fAB a (a + 68) I L P S I' L' P' S' → (∀ n, a ≤ n → n < a + 68 → Ec I' L' P' S' (zal n)) → Q none (I', L', P', S', a + 68)) : Ev (d + 2) (c + 67) (s + 366) 0 0 [some (zr (some (4, j, 0))), some (zr (some (3, 2, 0))), some (zr (some (3, 4, 0))), none] [] (I, L, P, S, a + 1) Q := by
  obtain ⟨f1, f2, f3, f4⟩ := hf
  refine k0_0 (d := d + 1) (c := c + 66) (s := s + 360) (T := a + 1) (fun k hk => by rw [show a + 1 + k = a + 1 by omega]; exact h1) f4 ?_
  have lp : ∀ m, m ≤ 6 → ∀ I1 L1 P1 S1, fAB a (a + 2 + 11 * (6 - m)) I L P S I1 L1 P1 S1 → (∀ n, a + 2 ≤ n → n < a + 2 + 11 * (6 - m) → Ec I1 L1 P1 S1 (zal n)) → (I1 4 j 0 = (fun _ => 0) ∧ L1 4 j 0 = (fun _ => 0) ∧ P1 4 j 0 = (fun i => if i = 0 then some (4, j, 1) else none) ∧ S1 4 j 0 = (1, 0)) → (I1 4 j 1 = (fun _ => 0) ∧ L1 4 j 1 = (fun _ => 0) ∧ P1 4 j 1 = (fun i => if i < 6 - m then some (2, base + i, 0) else none) ∧ S1 4 j 1 = (25, 6)) → Ev (d + 2) (c + 11 * m) (s + 60 * m) 0 20 [some (zr (some (4, j, 0))), some (zr (some (3, 2, 0))), some (zr (some (3, 4, 0))), some (zi (nI (6 - m)))] [] (I1, L1, P1, S1, a + 2 + 11 * (6 - m)) Q := by
    intro m
    induction m with
    | zero =>
      intro _ I1 L1 P1 S1 ff fe g0 g1
      refine Ew.ld f0_20 rfl rfl rfl rfl ?_
      refine Ew.op (st' := zi (nI 6) :: _) f0_21 rfl rfl ?_
      refine Ew.icmp f0_23 rfl rfl (fun _ => ?_) (fun h => absurd (show nI 6 ≤ nI (6 - 0) from Int32.le_refl _) h)
      refine Ew.vret f0_47 (k _ _ _ _ ff (fun n q1 q2 => ?_))
      by_cases e : n = a
      · subst e
        rw [h0]
        refine ⟨g0.1.trans (by rfl), g0.2.1, ?_, ?_⟩
        · show P1 4 j 0 = EP 4 j 0
          rw [g0.2.2.1]
          funext i
          simp only [EP, zpj]
          by_cases e0 : i = 0
          · subst e0; rfl
          simp only [e0, if_false]
        · show S1 4 j 0 = zsj (fun _ _ _ => (0, 0)) 4 j 0
          rw [zsj4 _ hj, g0.2.2.2]; rfl
      · by_cases e1 : n = a + 1
        · subst e1
          rw [h1]
          refine ⟨g1.1.trans (by rfl), g1.2.1, ?_, ?_⟩
          · show P1 4 j 1 = EP 4 j 1
            rw [g1.2.2.1, hb]
            rfl
          · show S1 4 j 1 = zsj (fun _ _ _ => (0, 0)) 4 j 1
            rw [zsj4 _ hj, g1.2.2.2]; rfl
        · exact fe n (by omega) (by omega)
    | succ m ih =>
      intro hm I1 L1 P1 S1 ff fe g0 g1
      have hk : 6 - (m + 1) < 6 := by omega
      have ek : 6 - (m + 1) + 1 = 6 - m := by omega
      have hz : ∀ q, q ≤ 10 → zal (a + 2 + 11 * (6 - (m + 1)) + q) = (2, base + (6 - (m + 1)), q) := fun q hq => ht _ hk q hq
      have hjj : base + (6 - (m + 1)) < 15 := by subst hb; split <;> omega
      refine Ew.ld f0_20 rfl rfl rfl rfl ?_
      refine Ew.op (st' := zi (nI 6) :: _) f0_21 rfl rfl ?_
      refine Ew.icmp f0_23 rfl rfl (fun g => absurd ((zle_iff (by decide) (by omega)).mp g) (by omega)) (fun _ => ?_)
      refine Ew.ld f0_26 rfl rfl rfl rfl ?_
      refine Ew.getp (v := some (4, j, 1)) f0_27 (by rw [g0.2.2.2]) (by rw [g0.2.2.1]; rfl) rfl ?_
      refine Ew.ld f0_30 rfl rfl rfl rfl ?_
      rw [show c + 11 * (m + 1) = c + 11 * m + 10 + 1 by omega, show s + 60 * (m + 1) = s + 60 * m + 46 + 14 by omega]
      refine Ew.newR (c := c + 11 * m + 10) (s := s + 60 * m + 46) f0_31 (hz 0 (by omega)) rfl ?_
      refine Ew.op (st' := zr (some (2, base + (6 - (m + 1)), 0)) :: zr (some (2, base + (6 - (m + 1)), 0)) :: _) f0_34 rfl rfl ?_
      refine Ew.ld f0_35 rfl rfl rfl rfl ?_
      refine Ew.ld f0_36 rfl rfl rfl rfl ?_
      refine Ew.callB (c := c + 11 * m) (s := s + 60 * m) (ls0 := [some (zr (some (2, base + (6 - (m + 1)), 0))), some (zr (some (3, 2, 0))), some (zr (some (3, 4, 0))), none]) f0_37 rfl (Nat.le_of_ble_eq_true rfl) rfl rfl (Nat.le_of_ble_eq_true rfl) trivial (Nat.le_of_ble_eq_true rfl) rfl rfl ?_
      have mm := (ff.cell (n := 13) (by omega) (rfl : zal 13 = (3, 2, 0))).2.2.2
      have mn := (ff.cell (n := 15) (by omega) (rfl : zal 15 = (3, 4, 0))).2.2.2
      refine cn_Tab (d := d) (c := 0) (s := 0) (a := a + 2 + 11 * (6 - (m + 1))) hjj hz cFresh_new (by simp [zup3_if]; exact mm.trans sm) (by simp [zup3_if]; exact mn.trans sn) (fun I2 L2 P2 S2 f2 e2 => ?_)
      have fn : fAB (a + 2 + 11 * (6 - (m + 1))) (a + 2 + 11 * (6 - (m + 1)) + 11) I1 L1 P1 S1 I2 L2 P2 S2 := fun r' j' q' g => by
        have n0 := zne (g _ (Nat.le_refl _) (by omega)) (hz 0 (by omega))
        have := f2 r' j' q' g
        unfold mEq at this ⊢
        rw [zup3_o _ _ (by omega), zup3_o _ _ (by omega), zup3_o _ _ (by omega), zup3_o _ _ (by omega)] at this
        exact this
      have et : a + 2 + 11 * (6 - (m + 1)) + 11 = a + 2 + 11 * (6 - m) := by omega
      have q0 := fn.cell (n := a) (by omega) h0
      have q1 := fn.cell (n := a + 1) (by omega) h1
      have s20 : S2 2 (base + (6 - (m + 1))) 0 = (7, 0) := by
        have := (e2 (a + 2 + 11 * (6 - (m + 1))) (Nat.le_refl _) (by omega)).2.2.2
        have hz0 : zal (a + 2 + 11 * (6 - (m + 1))) = (2, base + (6 - (m + 1)), 0) := hz 0 (by omega)
        rw [hz0] at this
        exact this.trans (zsj2 (fun _ _ _ => (0, 0)) hjj 0)
      show Ev (d + 2) (c + 11 * m) (s + 60 * m) 0 40 [some (zr (some (4, j, 0))), some (zr (some (3, 2, 0))), some (zr (some (3, 4, 0))), some (zi (nI (6 - (m + 1))))] [zr (some (2, base + (6 - (m + 1)), 0)), zi (nI (6 - (m + 1))), zr (some (4, j, 1))] (I2, L2, P2, S2, a + 2 + 11 * (6 - (m + 1)) + 11) Q
      have s41 : S2 4 j 1 = (25, 6) := q1.2.2.2.trans g1.2.2.2
      refine Ew.aastn f0_40 (by rw [s41]; decide) (by rw [s20, s41]; rfl) (by rw [s41]; exact hk) (by rw [s41]; decide) rfl ?_
      refine Ew.iinc (v := nI (6 - (m + 1) + 1)) (ls' := [some (zr (some (4, j, 0))), some (zr (some (3, 2, 0))), some (zr (some (3, 4, 0))), some (zi (nI (6 - (m + 1) + 1)))]) f0_41 rfl (nI_1 _) rfl rfl ?_
      refine Ew.goto f0_44 rfl ?_
      rw [ek, et]
      have ff' : fAB a (a + 2 + 11 * (6 - m)) I L P S I2 L2 P2 S2 := by rw [← et]; exact ff.trans fn (by omega) (by omega)
      refine ih (by omega) _ _ _ _ (fun r' j' q' g => ?_) (fun n x1 x2 => ?_) ⟨q0.1.trans g0.1, q0.2.1.trans g0.2.1, ?_, q0.2.2.2.trans g0.2.2.2⟩ ⟨q1.1.trans g1.1, q1.2.1.trans g1.2.1, ?_, s41⟩
      · have n1 := zne (g (a + 1) (by omega) (by omega)) h1
        have := ff' r' j' q' g
        unfold mEq at this ⊢
        rw [zu4r _ _ (by omega)]
        exact this
      · have en : Ec I2 L2 P2 S2 (zal n) := by
          by_cases e : n < a + 2 + 11 * (6 - (m + 1))
          · exact (fe n x1 e).fr (fn.cell e rfl)
          · exact e2 n (by omega) (by omega)
        have nz : ¬ ((zal n).1 = 4 ∧ (zal n).2.1 = j ∧ (zal n).2.2 = 1) := fun e => by
          have : zal n = zal (a + 1) := by rw [h1, ← e.1, ← e.2.1, ← e.2.2]
          have := zal_inj this
          omega
        refine ⟨en.1, en.2.1, ?_, en.2.2.2⟩
        rw [zu4r _ _ nz]
        exact en.2.2.1
      · rw [zu4r _ _ (by omega)]
        exact q0.2.2.1.trans g0.2.2.1
      · funext i
        by_cases e : i = 6 - (m + 1)
        · subst e
          rw [zu4s, if_pos (by omega)]
        · rw [zu4n _ _ (by omega), q1.2.2.1, g1.2.2.1]
          by_cases e5 : i < 6 - (m + 1)
          · simp only [if_pos e5, if_pos (show i < 6 - m by omega)]
          · simp only [if_neg e5, if_neg (show ¬ i < 6 - m by omega)]
  refine lp 6 (Nat.le_refl _) _ _ _ _ (fun r' j' q' g => ?_) (fun n x1 x2 => by omega) ⟨?_, ?_, ?_, ?_⟩ ⟨?_, ?_, ?_, ?_⟩
  · have n0 := zne (g a (by omega) (by omega)) h0
    have n1 := zne (g (a + 1) (by omega) (by omega)) h1
    refine ⟨?_, ?_, ?_, ?_⟩
    · repeat (first | rw [zup3_o _ _ (by omega)] | rw [zu4r _ _ (by omega)])
    · repeat (first | rw [zup3_o _ _ (by omega)] | rw [zu4r _ _ (by omega)])
    · repeat (first | rw [zup3_o _ _ (by omega)] | rw [zu4r _ _ (by omega)])
    · repeat (first | rw [zup3_o _ _ (by omega)] | rw [zu4r _ _ (by omega)])
  · funext i; simp [zup3_if, zup4_if, f1]; intro _; rfl
  · funext i; simp [zup3_if, zup4_if, f2]
  · funext i; simp [zup3_if, zup4_if, f3]
  · simp [zup3_if, f4]
  · funext i; simp [zup3_if, zup4_if]
  · funext i; simp [zup3_if, zup4_if]
  · funext i; simp [zup3_if, zup4_if]
  · simp [zup3_if]
end
