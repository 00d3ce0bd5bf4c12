/-! the class: a trace is made, a script is made -/
theorem g98_0 {d c s : Nat} {m t : Nat} {I : zI} {L : zL} {P : zP} {S : zS} {Q : Option zV → zM → Prop} (sm : S 3 m 0 = (9, 0)) 
    (h1 : Ev d 1 31 247 0 [some (zr (some (0, 0, 5))), some (zi ((zup4 I 3 m 0 0 (I 0 0 4 6)) 3 m 0 0)), none] [] (zup4 I 3 m 0 0 (I 0 0 4 6), L, zpj P, zsj S, 237 + t) (fun r M' => Ev (d + 1) c s 98 24 [some (zr (some (3, m, 0))), some (zr (some (0, 0, 4)))] (zpush r [zr (some (3, m, 0))]) M' Q)) : Ev (d + 1) (c + 1) (s + 31) 98 0 [some (zr (some (3, m, 0))), some (zr (some (0, 0, 4)))] [] (I, L, zpj P, zsj S, 237 + t) Q := by
  refine Ew.ld f98_0 rfl rfl rfl rfl ?_
  refine Ew.nat (st' := []) f98_1 rfl (fun k h => ⟨Nat.le_of_ble_eq_true rfl, h⟩) rfl ?_
  refine Ew.ld f98_4 rfl rfl rfl rfl ?_
  refine Ew.ld f98_5 rfl rfl rfl rfl ?_
  refine Ew.geti f98_6 rfl rfl ?_
  refine Ew.puti f98_9 (by show (S 3 m 0).1 = _; rw [sm]) rfl ?_
  refine Ew.ld f98_12 rfl rfl rfl rfl ?_
  refine Ew.ld f98_13 rfl rfl rfl rfl ?_
  refine Ew.getp (v := some (0, 0, 5)) f98_14 rfl rfl rfl ?_
  refine Ew.ld f98_17 rfl rfl rfl rfl ?_
  refine Ew.geti f98_18 (by show (S 3 m 0).1 = _; rw [sm]) rfl ?_
  refine Ew.callB (c := c) (s := s) (ls0 := [some (zr (some (0, 0, 5))), some (zi ((zup4 I 3 m 0 0 (I 0 0 4 6)) 3 m 0 0)), none]) f98_21 rfl (Nat.le_of_ble_eq_true rfl) rfl rfl (Nat.le_of_ble_eq_true rfl) trivial (Nat.le_of_ble_eq_true rfl) rfl rfl ?_
  exact h1
theorem g98_24 {d c s : Nat} {m n t : Nat} {I : zI} {L : zL} {P : zP} {S : zS} {Q : Option zV → zM → Prop} (sm : S 3 m 0 = (9, 0)) 
    (h1 : Ev d 1 31 247 0 [some (zr (some (0, 0, 6))), some (zi (I 3 m 0 0)), none] [] (I, L, zpj (zup4 P 3 m 0 1 (some (3, n, 0))), zsj S, 237 + t) (fun r M' => Ev (d + 1) c s 98 39 [some (zr (some (3, m, 0))), some (zr (some (0, 0, 4)))] (zpush r [zr (some (3, m, 0))]) M' Q)) : Ev (d + 1) (c + 1) (s + 31) 98 24 [some (zr (some (3, m, 0))), some (zr (some (0, 0, 4)))] [zr (some (3, n, 0)), zr (some (3, m, 0))] (I, L, zpj P, zsj S, 237 + t) Q := by
  refine Ew.putp f98_24 (by show (S 3 m 0).1 = _; rw [sm]) rfl ?_
  rw [zpj_up (r := 3) (j := m) (q := 0) (n := 1) (fun _ => rfl)]
  show Ev (d + 1) (c + 1) (s + 31) 98 27 [some (zr (some (3, m, 0))), some (zr (some (0, 0, 4)))] [] (I, L, zpj (zup4 P 3 m 0 1 (some (3, n, 0))), zsj S, 237 + t) Q
  refine Ew.ld f98_27 rfl rfl rfl rfl ?_
  refine Ew.ld f98_28 rfl rfl rfl rfl ?_
  refine Ew.getp (v := some (0, 0, 6)) f98_29 rfl rfl rfl ?_
  refine Ew.ld f98_32 rfl rfl rfl rfl ?_
  refine Ew.geti f98_33 (by show (S 3 m 0).1 = _; rw [sm]) rfl ?_
  refine Ew.callB (c := c) (s := s) (ls0 := [some (zr (some (0, 0, 6))), some (zi (I 3 m 0 0)), none]) f98_36 rfl (Nat.le_of_ble_eq_true rfl) rfl rfl (Nat.le_of_ble_eq_true rfl) trivial (Nat.le_of_ble_eq_true rfl) rfl rfl ?_
  exact h1
theorem g98_39 {d c s : Nat} {m n t : Nat} {I : zI} {L : zL} {P : zP} {S : zS} {Q : Option zV → zM → Prop} (sm : S 3 m 0 = (9, 0)) 
    (h1 : Ev d 1 31 247 0 [some (zr (some (0, 0, 7))), some (zi (I 3 m 0 0)), none] [] (I, L, zpj (zup4 P 3 m 0 2 (some (3, n, 0))), zsj S, 237 + t) (fun r M' => Ev (d + 1) c s 98 54 [some (zr (some (3, m, 0))), some (zr (some (0, 0, 4)))] (zpush r [zr (some (3, m, 0))]) M' Q)) : Ev (d + 1) (c + 1) (s + 31) 98 39 [some (zr (some (3, m, 0))), some (zr (some (0, 0, 4)))] [zr (some (3, n, 0)), zr (some (3, m, 0))] (I, L, zpj P, zsj S, 237 + t) Q := by
  refine Ew.putp f98_39 (by show (S 3 m 0).1 = _; rw [sm]) rfl ?_
  rw [zpj_up (r := 3) (j := m) (q := 0) (n := 2) (fun _ => rfl)]
  show Ev (d + 1) (c + 1) (s + 31) 98 42 [some (zr (some (3, m, 0))), some (zr (some (0, 0, 4)))] [] (I, L, zpj (zup4 P 3 m 0 2 (some (3, n, 0))), zsj S, 237 + t) Q
  refine Ew.ld f98_42 rfl rfl rfl rfl ?_
  refine Ew.ld f98_43 rfl rfl rfl rfl ?_
  refine Ew.getp (v := some (0, 0, 7)) f98_44 rfl rfl rfl ?_
  refine Ew.ld f98_47 rfl rfl rfl rfl ?_
  refine Ew.geti f98_48 (by show (S 3 m 0).1 = _; rw [sm]) rfl ?_
  refine Ew.callB (c := c) (s := s) (ls0 := [some (zr (some (0, 0, 7))), some (zi (I 3 m 0 0)), none]) f98_51 rfl (Nat.le_of_ble_eq_true rfl) rfl rfl (Nat.le_of_ble_eq_true rfl) trivial (Nat.le_of_ble_eq_true rfl) rfl rfl ?_
  exact h1
theorem g98_54 {d c s : Nat} {m n t N : Nat} {I : zI} {L : zL} {P : zP} {S : zS} {Q : Option zV → zM → Prop} (sm : S 3 m 0 = (9, 0)) (z0 : I 3 m 0 0 = nI N) 
    (h1 : Ev d 1 31 247 0 [some (zr (some (0, 0, 8))), some (zi (nI (N + 1))), none] [] (I, L, zpj (zup4 P 3 m 0 3 (some (3, n, 0))), zsj S, 237 + t) (fun r M' => Ev (d + 1) c s 98 71 [some (zr (some (3, m, 0))), some (zr (some (0, 0, 4)))] (zpush r [zr (some (3, m, 0))]) M' Q)) : Ev (d + 1) (c + 1) (s + 31) 98 54 [some (zr (some (3, m, 0))), some (zr (some (0, 0, 4)))] [zr (some (3, n, 0)), zr (some (3, m, 0))] (I, L, zpj P, zsj S, 237 + t) Q := by
  refine Ew.putp f98_54 (by show (S 3 m 0).1 = _; rw [sm]) rfl ?_
  rw [zpj_up (r := 3) (j := m) (q := 0) (n := 3) (fun _ => rfl)]
  show Ev (d + 1) (c + 1) (s + 31) 98 57 [some (zr (some (3, m, 0))), some (zr (some (0, 0, 4)))] [] (I, L, zpj (zup4 P 3 m 0 3 (some (3, n, 0))), zsj S, 237 + t) Q
  refine Ew.ld f98_57 rfl rfl rfl rfl ?_
  refine Ew.ld f98_58 rfl rfl rfl rfl ?_
  refine Ew.getp (v := some (0, 0, 8)) f98_59 rfl rfl rfl ?_
  refine Ew.ld f98_62 rfl rfl rfl rfl ?_
  refine Ew.getiV (v := nI N) f98_63 (by show (S 3 m 0).1 = _; rw [sm]) z0 rfl ?_
  refine Ew.op (st' := zi (nI 1) :: _) f98_66 rfl rfl ?_
  refine Ew.addn f98_67 rfl ?_
  refine Ew.callB (c := c) (s := s) (ls0 := [some (zr (some (0, 0, 8))), some (zi (nI (N + 1))), none]) f98_68 rfl (Nat.le_of_ble_eq_true rfl) rfl rfl (Nat.le_of_ble_eq_true rfl) trivial (Nat.le_of_ble_eq_true rfl) rfl rfl ?_
  exact h1
theorem g98_71 {d c s : Nat} {m n t : Nat} {I : zI} {L : zL} {P : zP} {S : zS} {Q : Option zV → zM → Prop} (sm : S 3 m 0 = (9, 0)) 
    (h1 : Q none (zup4 (zup4 (zup4 (zup4 (zup4 I 3 m 0 5 (I 0 0 4 14)) 3 m 0 6 (I 0 0 4 15)) 3 m 0 7 (I 0 0 4 16)) 3 m 0 8 (I 0 0 4 17)) 3 m 0 9 (I 0 0 4 11), L, zpj (zup4 P 3 m 0 4 (some (3, n, 0))), zsj S, 237 + t)) : Ev d c s 98 71 [some (zr (some (3, m, 0))), some (zr (some (0, 0, 4)))] [zr (some (3, n, 0)), zr (some (3, m, 0))] (I, L, zpj P, zsj S, 237 + t) Q := by
  refine Ew.putp f98_71 (by show (S 3 m 0).1 = _; rw [sm]) rfl ?_
  rw [zpj_up (r := 3) (j := m) (q := 0) (n := 4) (fun _ => rfl)]
  show Ev d c s 98 74 [some (zr (some (3, m, 0))), some (zr (some (0, 0, 4)))] [] (I, L, zpj (zup4 P 3 m 0 4 (some (3, n, 0))), zsj S, 237 + t) Q
  refine Ew.ld f98_74 rfl rfl rfl rfl ?_
  refine Ew.ld f98_75 rfl rfl rfl rfl ?_
  refine Ew.geti f98_76 rfl rfl ?_
  refine Ew.puti f98_79 (by show (S 3 m 0).1 = _; rw [sm]) rfl ?_
  refine Ew.ld f98_82 rfl rfl rfl rfl ?_
  refine Ew.ld f98_83 rfl rfl rfl rfl ?_
  refine Ew.getiV (v := I 0 0 4 15) f98_84 rfl rfl rfl ?_
  refine Ew.puti f98_87 (by show (S 3 m 0).1 = _; rw [sm]) rfl ?_
  refine Ew.ld f98_90 rfl rfl rfl rfl ?_
  refine Ew.ld f98_91 rfl rfl rfl rfl ?_
  refine Ew.getiV (v := I 0 0 4 16) f98_92 rfl rfl rfl ?_
  refine Ew.puti f98_95 (by show (S 3 m 0).1 = _; rw [sm]) rfl ?_
  refine Ew.ld f98_98 rfl rfl rfl rfl ?_
  refine Ew.ld f98_99 rfl rfl rfl rfl ?_
  refine Ew.getiV (v := I 0 0 4 17) f98_100 rfl rfl rfl ?_
  refine Ew.puti f98_103 (by show (S 3 m 0).1 = _; rw [sm]) rfl ?_
  refine Ew.ld f98_106 rfl rfl rfl rfl ?_
  refine Ew.ld f98_107 rfl rfl rfl rfl ?_
  refine Ew.getiV (v := I 0 0 4 11) f98_108 rfl rfl rfl ?_
  refine Ew.puti f98_111 (by show (S 3 m 0).1 = _; rw [sm]) rfl ?_
  refine Ew.vret f98_114 ?_
  exact h1
/-- all but one cell and those behind are as they were -/
def cFm (m t : Nat) (I : zI) (L : zL) (P : zP) (S : zS) (I' : zI) (L' : zL) (P' : zP) (S' : zS) : Prop := ∀ r j q, ¬ (r = 3 ∧ (j = m ∨ t + 9 ≤ j)) → I' r j q = I r j q ∧ L' r j q = L r j q ∧ P' r j q = P r j q ∧ S' r j q = S r j q
theorem zu4r {α : Type} (f : Nat → Nat → Nat → Nat → α) {r j q n : Nat} (v : α) {r' j' q' : Nat} (h : ¬ (r' = r ∧ j' = j ∧ q' = q)) : zup4 f r j q n v r' j' q' = f r' j' q' := by
  funext i
  exact zu4n _ _ (fun e => h ⟨e.1, e.2.1, e.2.2.1⟩)
theorem sp_tInit {d c s m t : Nat} {T : tT} {I : zI} {L : zL} {P : zP} {S : zS} {Q : Option zV → zM → Prop} (sm : S 3 m 0 = (9, 0)) (hm : m < t + 9) (hT : cDn (I 0 0) T) (k : ∀ I' L' P' S', cFm m t I L P S I' L' P' S' → cTr I' P' S' (t + 4 + 9) m T → Q none (I', L', zpj P', zsj S', 237 + (t + 4))) : Ev (d + 2) (c + 4) (s + 124) 98 0 [some (zr (some (3, m, 0))), some (zr (some (0, 0, 4)))] [] (I, L, zpj P, zsj S, 237 + t) Q := by
  obtain ⟨h30, h6, hr, hi, h14, h15, h16, h17, h11⟩ := hT
  -- the number of steps
  refine g98_0 (d := d + 1) (c := c + 3) (s := s + 93) sm ?_
  rw [zu4s, h6]
  refine sp_cpI (d := d) (c := 0) (N := 30) (by decide) rfl (by decide) h30 (by omega) (by omega) (fun I1 L1 P1 S1 f1 s1 r1 => ?_)
  show Ev (d + 2) (c + 3) (s + 93) 98 24 [some (zr (some (3, m, 0))), some (zr (some (0, 0, 4)))] [zr (some (3, t + 9, 0)), zr (some (3, m, 0))] (I1, L1, zpj P1, zsj S1, 237 + (t + 1)) Q
  have fm1 := f1 3 m 0 (by omega)
  have z1 : I1 3 m 0 0 = nI T.n := by rw [fm1.1]; exact zu4s _ _ _ _ _ _
  have p1 : ∀ q, I1 0 0 q = I 0 0 q := fun q => by rw [(f1 0 0 q (by omega)).1]; exact zu4r _ _ (by omega)
  have sm1 : S1 3 m 0 = (9, 0) := fm1.2.2.2.trans sm
  refine g98_24 (d := d + 1) (c := c + 2) (s := s + 62) sm1 ?_
  rw [z1]
  refine sp_cpI (d := d) (c := 0) (N := 30) (by decide) rfl (by decide) h30 (by omega) (by omega) (fun I2 L2 P2 S2 f2 s2 r2 => ?_)
  show Ev (d + 2) (c + 2) (s + 62) 98 39 [some (zr (some (3, m, 0))), some (zr (some (0, 0, 4)))] [zr (some (3, t + 1 + 9, 0)), zr (some (3, m, 0))] (I2, L2, zpj P2, zsj S2, 237 + (t + 1 + 1)) Q
  have fm2 := f2 3 m 0 (by omega)
  have z2 : I2 3 m 0 0 = nI T.n := by rw [fm2.1]; exact z1
  have p2 : ∀ q, I2 0 0 q = I 0 0 q := fun q => by rw [(f2 0 0 q (by omega)).1]; exact p1 q
  have sm2 : S2 3 m 0 = (9, 0) := fm2.2.2.2.trans sm1
  refine g98_39 (d := d + 1) (c := c + 1) (s := s + 31) sm2 ?_
  rw [z2]
  refine sp_cpI (d := d) (c := 0) (N := 30) (by decide) rfl (by decide) h30 (by omega) (by omega) (fun I3 L3 P3 S3 f3 s3 r3 => ?_)
  show Ev (d + 2) (c + 1) (s + 31) 98 54 [some (zr (some (3, m, 0))), some (zr (some (0, 0, 4)))] [zr (some (3, t + 1 + 1 + 9, 0)), zr (some (3, m, 0))] (I3, L3, zpj P3, zsj S3, 237 + (t + 1 + 1 + 1)) Q
  have fm3 := f3 3 m 0 (by omega)
  have z3 : I3 3 m 0 0 = nI T.n := by rw [fm3.1]; exact z2
  have p3 : ∀ q, I3 0 0 q = I 0 0 q := fun q => by rw [(f3 0 0 q (by omega)).1]; exact p2 q
  have sm3 : S3 3 m 0 = (9, 0) := fm3.2.2.2.trans sm2
  refine g98_54 (d := d + 1) (c := c) (s := s) sm3 z3 ?_
  refine sp_cpI (d := d) (c := 0) (N := 31) (by decide) rfl (by decide) (by omega) (by omega) (by omega) (fun I4 L4 P4 S4 f4 s4 r4 => ?_)
  show Ev (d + 2) c s 98 71 [some (zr (some (3, m, 0))), some (zr (some (0, 0, 4)))] [zr (some (3, t + 1 + 1 + 1 + 9, 0)), zr (some (3, m, 0))] (I4, L4, zpj P4, zsj S4, 237 + (t + 1 + 1 + 1 + 1)) Q
  have fm4 := f4 3 m 0 (by omega)
  have z4 : I4 3 m 0 0 = nI T.n := by rw [fm4.1]; exact z3
  have p4 : ∀ q, I4 0 0 q = I 0 0 q := fun q => by rw [(f4 0 0 q (by omega)).1]; exact p3 q
  have sm4 : S4 3 m 0 = (9, 0) := fm4.2.2.2.trans sm3
  refine g98_71 sm4 ?_
  -- the pointers, one behind the other
  have q1 : P4 3 m 0 1 = some (3, t + 9, 0) := by
    rw [fm4.2.2.1, zu4n _ _ (by omega), fm3.2.2.1, zu4n _ _ (by omega), fm2.2.2.1]; exact zu4s _ _ _ _ _ _
  have q2 : P4 3 m 0 2 = some (3, t + 1 + 9, 0) := by
    rw [fm4.2.2.1, zu4n _ _ (by omega), fm3.2.2.1]; exact zu4s _ _ _ _ _ _
  have q3 : P4 3 m 0 3 = some (3, t + 1 + 1 + 9, 0) := by
    rw [fm4.2.2.1]; exact zu4s _ _ _ _ _ _
  have a1 : I4 3 (t + 9) 0 = I1 3 (t + 9) 0 := by rw [(f4 3 (t + 9) 0 (by omega)).1, (f3 3 (t + 9) 0 (by omega)).1, (f2 3 (t + 9) 0 (by omega)).1]
  have a2 : I4 3 (t + 1 + 9) 0 = I2 3 (t + 1 + 9) 0 := by rw [(f4 3 (t + 1 + 9) 0 (by omega)).1, (f3 3 (t + 1 + 9) 0 (by omega)).1]
  have a3 : I4 3 (t + 1 + 1 + 9) 0 = I3 3 (t + 1 + 1 + 9) 0 := by rw [(f4 3 (t + 1 + 1 + 9) 0 (by omega)).1]
  have b1 : S4 3 (t + 9) 0 = (20, T.n) := by rw [(f4 3 (t + 9) 0 (by omega)).2.2.2, (f3 3 (t + 9) 0 (by omega)).2.2.2, (f2 3 (t + 9) 0 (by omega)).2.2.2]; exact s1
  have b2 : S4 3 (t + 1 + 9) 0 = (20, T.n) := by rw [(f4 3 (t + 1 + 9) 0 (by omega)).2.2.2, (f3 3 (t + 1 + 9) 0 (by omega)).2.2.2]; exact s2
  have b3 : S4 3 (t + 1 + 1 + 9) 0 = (20, T.n) := by rw [(f4 3 (t + 1 + 1 + 9) 0 (by omega)).2.2.2]; exact s3
  have e1 : ∀ i, i < T.n → I4 3 (t + 9) 0 i = T.kind i := fun i h => by
    rw [a1, r1 i h, show zup4 I 3 m 0 0 (nI T.n) 0 0 5 i = I 0 0 5 i from rfl]; exact (hr i h).1
  have e2 : ∀ i, i < T.n → I4 3 (t + 1 + 9) 0 i = T.gate i := fun i h => by rw [a2, r2 i h, p1]; exact (hr i h).2.1
  have e3 : ∀ i, i < T.n → I4 3 (t + 1 + 1 + 9) 0 i = T.add i := fun i h => by rw [a3, r3 i h, p2]; exact (hr i h).2.2
  have e4 : ∀ i, i ≤ T.n → I4 3 (t + 1 + 1 + 1 + 9) 0 i = tSet T i := fun i h => by rw [r4 i (by omega), p3]; exact hi i h
  have fin : cFm m t I L P S I4 L4 P4 S4 := by
    intro r j q hn
    have g1 := f1 r j q (by omega)
    have g2 := f2 r j q (by omega)
    have g3 := f3 r j q (by omega)
    have g4 := f4 r j q (by omega)
    refine ⟨?_, ?_, ?_, ?_⟩
    · rw [g4.1, g3.1, g2.1, g1.1]; exact zu4r _ _ (by omega)
    · rw [g4.2.1, g3.2.1, g2.2.1, g1.2.1]
    · rw [g4.2.2.1, zu4r _ _ (by omega), g3.2.2.1, zu4r _ _ (by omega), g2.2.2.1, zu4r _ _ (by omega), g1.2.2.1]
    · rw [g4.2.2.2, g3.2.2.2, g2.2.2.2, g1.2.2.2]
  refine k _ _ _ _ (fun r j q hn => ?_) ⟨h30, t + 9, t + 1 + 9, t + 1 + 1 + 9, t + 1 + 1 + 1 + 9, ⟨by omega, by omega, by omega, by omega, by omega⟩, sm4, ⟨?_, ?_, ?_, ?_⟩, ⟨b1, b2, b3, s4⟩, ?_, fun i h => ⟨?_, ?_, ?_⟩, fun i h => ?_, ?_, ?_, ?_, ?_, ?_⟩
  · have g := fin r j q hn
    refine ⟨?_, g.2.1, ?_, g.2.2.2⟩
    · rw [zu4r _ _ (by omega), zu4r _ _ (by omega), zu4r _ _ (by omega), zu4r _ _ (by omega), zu4r _ _ (by omega)]; exact g.1
    · rw [zu4r _ _ (by omega)]; exact g.2.2.1
  · rw [zu4n _ _ (by omega)]; exact q1
  · rw [zu4n _ _ (by omega)]; exact q2
  · rw [zu4n _ _ (by omega)]; exact q3
  · exact zu4s _ _ _ _ _ _
  · rw [zu4n _ _ (by omega), zu4n _ _ (by omega), zu4n _ _ (by omega), zu4n _ _ (by omega), zu4n _ _ (by omega)]; exact z4
  · rw [zu4n _ _ (by omega), zu4n _ _ (by omega), zu4n _ _ (by omega), zu4n _ _ (by omega), zu4n _ _ (by omega)]; exact e1 i h
  · rw [zu4n _ _ (by omega), zu4n _ _ (by omega), zu4n _ _ (by omega), zu4n _ _ (by omega), zu4n _ _ (by omega)]; exact e2 i h
  · rw [zu4n _ _ (by omega), zu4n _ _ (by omega), zu4n _ _ (by omega), zu4n _ _ (by omega), zu4n _ _ (by omega)]; exact e3 i h
  · rw [zu4n _ _ (by omega), zu4n _ _ (by omega), zu4n _ _ (by omega), zu4n _ _ (by omega), zu4n _ _ (by omega)]; exact e4 i h
  · rw [zu4n _ _ (by omega), zu4n _ _ (by omega), zu4n _ _ (by omega), zu4n _ _ (by omega), zu4s, p4]; exact h14
  · rw [zu4n _ _ (by omega), zu4n _ _ (by omega), zu4n _ _ (by omega), zu4s, p4]; exact h15
  · rw [zu4n _ _ (by omega), zu4n _ _ (by omega), zu4s, p4]; exact h16
  · rw [zu4n _ _ (by omega), zu4s, p4]; exact h17
  · rw [zu4s, p4]; exact h11
/-! a script out of the tape -/
theorem g248_0 {d c s : Nat} {t : Nat} {I : zI} {L : zL} {P : zP} {S : zS} {Q : Option zV → zM → Prop}
    (h1 : Ev d c s 248 4 [some (zr (some (0, 0, 1))), some (zi (nI 0)), some (zi (nI 0))] [] (I, L, zpj P, zsj S, 237 + t) Q) : Ev d c s 248 0 [some (zr (some (0, 0, 1))), none, none] [] (I, L, zpj P, zsj S, 237 + t) Q := by
  refine Ew.op (st' := zi (nI 0) :: _) f248_0 rfl rfl ?_
  refine Ew.sr (ls' := [some (zr (some (0, 0, 1))), some (zi (nI 0)), none]) f248_1 rfl rfl (Nat.le_of_ble_eq_true rfl) rfl rfl ?_
  refine Ew.op (st' := zi (nI 0) :: _) f248_2 rfl rfl ?_
  refine Ew.sr (ls' := [some (zr (some (0, 0, 1))), some (zi (nI 0)), some (zi (nI 0))]) f248_3 rfl rfl (Nat.le_of_ble_eq_true rfl) rfl rfl ?_
  exact h1
theorem g248_4 {d c s : Nat} {p k N t : Nat} {I : zI} {L : zL} {P : zP} {S : zS} {Q : Option zV → zM → Prop} (hq : N < 5000) (hN : I 0 0 1 1 = nI N)  (nb_k : k < 5000) (nb_N : N < 5000)
    (h1 : (N ≤ k) → Q (some (zi (nI p))) (I, L, zpj P, zsj S, 237 + t))
    (b1 : (k < N) → k < 60)
    (h2 : (k < N) → (¬ (I 0 0 2 k) = (nI 32)) → Ev d c s 248 4 [some (zr (some (0, 0, 1))), some (zi (nI p)), some (zi (nI (k + 1)))] [] (I, L, zpj P, zsj S, 237 + t) Q)
    (h3 : (k < N) → ((I 0 0 2 k) = (nI 32)) → Ev d c s 248 4 [some (zr (some (0, 0, 1))), some (zi (nI (p + 1))), some (zi (nI (k + 1)))] [] (I, L, zpj P, zsj S, 237 + t) Q) : Ev d c s 248 4 [some (zr (some (0, 0, 1))), some (zi (nI p)), some (zi (nI k))] [] (I, L, zpj P, zsj S, 237 + t) Q := by
  refine Ew.ld f248_4 rfl rfl rfl rfl ?_
  refine Ew.ld f248_5 rfl rfl rfl rfl ?_
  refine Ew.getiV (v := nI N) f248_6 rfl hN rfl ?_
  refine Ew.icmp f248_9 rfl rfl (fun c1 => ?_) (fun c1 => ?_)
  · refine Ew.ld f248_32 rfl rfl rfl rfl ?_
    refine Ew.ireti f248_33 ?_
    exact h1 ((zle_iff nb_N nb_k).mp c1)
  · refine Ew.ld f248_12 rfl rfl rfl rfl ?_
    refine Ew.getp (v := some (0, 0, 2)) f248_13 rfl rfl rfl ?_
    refine Ew.ld f248_16 rfl rfl rfl rfl ?_
    refine Ew.caldn f248_17 rfl (b1 (Nat.not_le.mp fun e => c1 ((zle_iff nb_N nb_k).mpr e))) (Nat.le_of_ble_eq_true rfl) rfl ?_
    refine Ew.op (st' := zi (nI 32) :: _) f248_18 rfl rfl ?_
    refine Ew.icmp f248_20 rfl rfl (fun c2 => ?_) (fun c2 => ?_)
    · refine Ew.iinc (v := nI (k + 1)) (ls' := [some (zr (some (0, 0, 1))), some (zi (nI p)), some (zi (nI (k + 1)))]) f248_26 rfl (nI_1 _) rfl rfl ?_
      refine Ew.goto f248_29 rfl ?_
      exact h2 (Nat.not_le.mp fun e => c1 ((zle_iff nb_N nb_k).mpr e)) c2
    · refine Ew.iinc (v := nI (p + 1)) (ls' := [some (zr (some (0, 0, 1))), some (zi (nI (p + 1))), some (zi (nI k))]) f248_23 rfl (nI_1 _) rfl rfl ?_
      refine Ew.iinc (v := nI (k + 1)) (ls' := [some (zr (some (0, 0, 1))), some (zi (nI (p + 1))), some (zi (nI (k + 1)))]) f248_26 rfl (nI_1 _) rfl rfl ?_
      refine Ew.goto f248_29 rfl ?_
      exact h3 (Nat.not_le.mp fun e => c1 ((zle_iff nb_N nb_k).mpr e)) (Classical.not_not.mp c2)
theorem g93_0 {d c s : Nat} {N t : Nat} {I : zI} {L : zL} {P : zP} {S : zS} {Q : Option zV → zM → Prop} (hN : I 0 0 1 1 = nI N) 
    (h1 : Ev d 0 0 248 0 [some (zr (some (0, 0, 1))), none, none] [] (I, L, zpj P, zsj S, 237 + t) (fun r M' => Ev (d + 1) c s 93 8 [some (zr (some (0, 0, 1))), none, none, none] (zpush r [zi (nI N)]) M' Q)) : Ev (d + 1) c s 93 0 [some (zr (some (0, 0, 1))), none, none, none] [] (I, L, zpj P, zsj S, 237 + t) Q := by
  refine Ew.ld f93_0 rfl rfl rfl rfl ?_
  refine Ew.getiV (v := nI N) f93_1 rfl hN rfl ?_
  refine Ew.ld f93_4 rfl rfl rfl rfl ?_
  refine Ew.call0 (ls0 := [some (zr (some (0, 0, 1))), none, none]) f93_5 rfl (Nat.le_of_ble_eq_true rfl) rfl rfl (Nat.le_of_ble_eq_true rfl) rfl (Nat.le_of_ble_eq_true rfl) rfl rfl ?_
  exact h1
theorem g93_8 {d c s : Nat} {N t : Nat} {x : Int32} {I : zI} {L : zL} {P : zP} {S : zS} {Q : Option zV → zM → Prop}
    (h1 : Ev d c s 93 9 [some (zr (some (0, 0, 1))), none, none, none] [zi ((nI N) - x)] (I, L, zpj P, zsj S, 237 + t) Q) : Ev d c s 93 8 [some (zr (some (0, 0, 1))), none, none, none] [zi x, zi (nI N)] (I, L, zpj P, zsj S, 237 + t) Q := by
  refine Ew.op (st' := zi ((nI N) - x) :: _) f93_8 rfl rfl ?_
  exact h1
theorem g93_11 {d c s : Nat} {a t : Nat} {I : zI} {L : zL} {P : zP} {S : zS} {Q : Option zV → zM → Prop}
    (h1 : Ev d c s 93 16 [some (zr (some (0, 0, 1))), some (zr (some (3, a, 0))), some (zi (nI 0)), some (zi (nI 0))] [] (I, L, zpj P, zsj S, 237 + t) Q) : Ev d c s 93 11 [some (zr (some (0, 0, 1))), none, none, none] [zr (some (3, a, 0))] (I, L, zpj P, zsj S, 237 + t) Q := by
  refine Ew.sr (ls' := [some (zr (some (0, 0, 1))), some (zr (some (3, a, 0))), none, none]) f93_11 rfl rfl (Nat.le_of_ble_eq_true rfl) rfl rfl ?_
  refine Ew.op (st' := zi (nI 0) :: _) f93_12 rfl rfl ?_
  refine Ew.sr (ls' := [some (zr (some (0, 0, 1))), some (zr (some (3, a, 0))), some (zi (nI 0)), none]) f93_13 rfl rfl (Nat.le_of_ble_eq_true rfl) rfl rfl ?_
  refine Ew.op (st' := zi (nI 0) :: _) f93_14 rfl rfl ?_
  refine Ew.sr (ls' := [some (zr (some (0, 0, 1))), some (zr (some (3, a, 0))), some (zi (nI 0)), some (zi (nI 0))]) f93_15 rfl rfl (Nat.le_of_ble_eq_true rfl) rfl rfl ?_
  exact h1
theorem g93_16 {d c s : Nat} {a p k N E t : Nat} {I : zI} {L : zL} {P : zP} {S : zS} {Q : Option zV → zM → Prop} (sa : S 3 a 0 = (22, E)) (hq : N < 5000) (hE : E ≤ N) (hN : I 0 0 1 1 = nI N)  (nb_k : k < 5000) (nb_N : N < 5000) (nb_p : p < 5000) (nb_E : E < 5000)
    (h1 : (N ≤ k) → Ev d c s 93 59 [some (zr (some (0, 0, 1))), some (zr (some (3, a, 0))), some (zi (nI p)), some (zi (nI k))] [] (I, L, zpj P, zsj S, 237 + t) Q)
    (h2 : (k < N) → (E ≤ p) → Ev d c s 93 59 [some (zr (some (0, 0, 1))), some (zr (some (3, a, 0))), some (zi (nI p)), some (zi (nI k))] [] (I, L, zpj P, zsj S, 237 + t) Q)
    (b1 : (k < N) → (p < E) → k < 60)
    (h3 : (k < N) → (p < E) → ((I 0 0 2 k) = (nI 32)) → Ev d c s 93 16 [some (zr (some (0, 0, 1))), some (zr (some (3, a, 0))), some (zi (nI p)), some (zi (nI (k + 1)))] [] (I, L, zpj P, zsj S, 237 + t) Q)
    (b2 : (k < N) → (p < E) → (¬ (I 0 0 2 k) = (nI 32)) → k < 60)
    (b3 : (k < N) → (p < E) → (¬ (I 0 0 2 k) = (nI 32)) → p < E)
    (h4 : (k < N) → (p < E) → (¬ (I 0 0 2 k) = (nI 32)) → Ev d c s 93 16 [some (zr (some (0, 0, 1))), some (zr (some (3, a, 0))), some (zi (nI (p + 1))), some (zi (nI (k + 1)))] [] (zup4 I 3 a 0 p (vp_nar .char (I 0 0 2 k)), L, zpj P, zsj S, 237 + t) Q) : Ev d c s 93 16 [some (zr (some (0, 0, 1))), some (zr (some (3, a, 0))), some (zi (nI p)), some (zi (nI k))] [] (I, L, zpj P, zsj S, 237 + t) Q := by
  refine Ew.ld f93_16 rfl rfl rfl rfl ?_
  refine Ew.ld f93_17 rfl rfl rfl rfl ?_
  refine Ew.getiV (v := nI N) f93_18 rfl hN rfl ?_
  refine Ew.icmp f93_21 rfl rfl (fun c1 => ?_) (fun c1 => ?_)
  · exact h1 ((zle_iff nb_N nb_k).mp c1)
  · refine Ew.ld f93_24 rfl rfl rfl rfl ?_
    refine Ew.ld f93_25 rfl rfl rfl rfl ?_
    refine Ew.alen (n := E) f93_26 (by show _ < (S 3 a 0).1; rw [sa]; exact Nat.le_of_ble_eq_true rfl) (by show (S 3 a 0).2 = _; rw [sa]) rfl ?_
    refine Ew.icmp f93_27 rfl rfl (fun c2 => ?_) (fun c2 => ?_)
    · exact h2 (Nat.not_le.mp fun e => c1 ((zle_iff nb_N nb_k).mpr e)) ((zle_iff nb_E nb_p).mp c2)
    · refine Ew.ld f93_30 rfl rfl rfl rfl ?_
      refine Ew.getp (v := some (0, 0, 2)) f93_31 rfl rfl rfl ?_
      refine Ew.ld f93_34 rfl rfl rfl rfl ?_
      refine Ew.caldn f93_35 rfl (b1 (Nat.not_le.mp fun e => c1 ((zle_iff nb_N nb_k).mpr e)) (Nat.not_le.mp fun e => c2 ((zle_iff nb_E nb_p).mpr e))) (Nat.le_of_ble_eq_true rfl) rfl ?_
      refine Ew.op (st' := zi (nI 32) :: _) f93_36 rfl rfl ?_
      refine Ew.icmp f93_38 rfl rfl (fun c3 => ?_) (fun c3 => ?_)
      · refine Ew.iinc (v := nI (k + 1)) (ls' := [some (zr (some (0, 0, 1))), some (zr (some (3, a, 0))), some (zi (nI p)), some (zi (nI (k + 1)))]) f93_53 rfl (nI_1 _) rfl rfl ?_
        refine Ew.goto f93_56 rfl ?_
        exact h3 (Nat.not_le.mp fun e => c1 ((zle_iff nb_N nb_k).mpr e)) (Nat.not_le.mp fun e => c2 ((zle_iff nb_E nb_p).mpr e)) c3
      · refine Ew.ld f93_41 rfl rfl rfl rfl ?_
        refine Ew.ld f93_42 rfl rfl rfl rfl ?_
        refine Ew.ld f93_43 rfl rfl rfl rfl ?_
        refine Ew.getp (v := some (0, 0, 2)) f93_44 rfl rfl rfl ?_
        refine Ew.ld f93_47 rfl rfl rfl rfl ?_
        refine Ew.caldn f93_48 rfl (b2 (Nat.not_le.mp fun e => c1 ((zle_iff nb_N nb_k).mpr e)) (Nat.not_le.mp fun e => c2 ((zle_iff nb_E nb_p).mpr e)) c3) (Nat.le_of_ble_eq_true rfl) rfl ?_
        refine Ew.castn f93_49 (by show (S 3 a 0).1 = _; rw [sa]) (by show _ < (S 3 a 0).2; rw [sa]; exact (b3 (Nat.not_le.mp fun e => c1 ((zle_iff nb_N nb_k).mpr e)) (Nat.not_le.mp fun e => c2 ((zle_iff nb_E nb_p).mpr e)) c3)) (by show (S 3 a 0).2 < 5000; rw [sa]; omega) rfl ?_
        refine Ew.iinc (v := nI (p + 1)) (ls' := [some (zr (some (0, 0, 1))), some (zr (some (3, a, 0))), some (zi (nI (p + 1))), some (zi (nI k))]) f93_50 rfl (nI_1 _) rfl rfl ?_
        refine Ew.iinc (v := nI (k + 1)) (ls' := [some (zr (some (0, 0, 1))), some (zr (some (3, a, 0))), some (zi (nI (p + 1))), some (zi (nI (k + 1)))]) f93_53 rfl (nI_1 _) rfl rfl ?_
        refine Ew.goto f93_56 rfl ?_
        exact h4 (Nat.not_le.mp fun e => c1 ((zle_iff nb_N nb_k).mpr e)) (Nat.not_le.mp fun e => c2 ((zle_iff nb_E nb_p).mpr e)) c3
theorem g93_62 {d c s : Nat} {a p k m t : Nat} {I : zI} {L : zL} {P : zP} {S : zS} {Q : Option zV → zM → Prop} (sm : S 3 m 0 = (5, 0)) 
    (h1 : Q (some (zr (some (3, m, 0)))) (I, L, zpj (zup4 P 3 m 0 0 (some (3, a, 0))), zsj S, 237 + t)) : Ev (d + 2) c s 93 62 [some (zr (some (0, 0, 1))), some (zr (some (3, a, 0))), some (zi (nI p)), some (zi (nI k))] [zr (some (3, m, 0))] (I, L, zpj P, zsj S, 237 + t) Q := by
  refine Ew.op (st' := zr (some (3, m, 0)) :: zr (some (3, m, 0)) :: _) f93_62 rfl rfl ?_
  refine Ew.ld f93_63 rfl rfl rfl rfl ?_
  refine Ew.call0 (ls0 := [some (zr (some (3, m, 0))), some (zr (some (3, a, 0)))]) f93_64 rfl (Nat.le_of_ble_eq_true rfl) rfl rfl (Nat.le_of_ble_eq_true rfl) trivial (Nat.le_of_ble_eq_true rfl) rfl rfl ?_
  refine Ew.ld f36_0 rfl rfl rfl rfl ?_
  refine Ew.nat (st' := []) f36_1 rfl (fun k h => ⟨Nat.le_of_ble_eq_true rfl, h⟩) rfl ?_
  refine Ew.ld f36_4 rfl rfl rfl rfl ?_
  refine Ew.ld f36_5 rfl rfl rfl rfl ?_
  refine Ew.putp f36_6 (by show (S 3 m 0).1 = _; rw [sm]) rfl ?_
  rw [zpj_up (r := 3) (j := m) (q := 0) (n := 0) (fun _ => rfl)]
  show Ev (d + 1) 0 0 36 9 [some (zr (some (3, m, 0))), some (zr (some (3, a, 0)))] [] (I, L, zpj (zup4 P 3 m 0 0 (some (3, a, 0))), zsj S, 237 + t) (fun r M' => Ev (d + 2) c s 93 67 [some (zr (some (0, 0, 1))), some (zr (some (3, a, 0))), some (zi (nI p)), some (zi (nI k))] (zpush r [zr (some (3, m, 0))]) M' Q)
  refine Ew.vret f36_9 ?_
  show Ev (d + 2) c s 93 67 [some (zr (some (0, 0, 1))), some (zr (some (3, a, 0))), some (zi (nI p)), some (zi (nI k))] [zr (some (3, m, 0))] (I, L, zpj (zup4 P 3 m 0 0 (some (3, a, 0))), zsj S, 237 + t) Q
  refine Ew.aret f93_67 ?_
  exact h1
/-- the tape -/
def cTp (ρ : Nat → Nat → Int32) (T : List Nat) : Prop := ρ 1 1 = nI T.length ∧ ∀ k (h : k < T.length), ρ 2 k = nI T[k]
theorem aDense_t {T : List Nat} {k : Nat} (hk : k < T.length) : aDense (T.take (k + 1)) = if T[k] = 32 then aDense (T.take k) else aDense (T.take k) ++ [T[k]] := by
  unfold aDense
  rw [List.take_succ_eq_append_getElem hk, List.filter_append]
  by_cases e : T[k] = 32
  · rw [if_pos e]; simp [e]
  · rw [if_neg e]; simp [e]
theorem aDense_l (T : List Nat) (k : Nat) : (aDense (T.take k)).length ≤ k := Nat.le_trans (List.length_filter_le _ _) (by rw [List.length_take]; exact Nat.min_le_left _ _)
theorem aDense_e {T : List Nat} {k : Nat} (h : (aDense T).length ≤ (aDense (T.take k)).length) : aDense (T.take k) = aDense T := by
  have e : aDense T = aDense (T.take k) ++ aDense (T.drop k) := by
    unfold aDense
    rw [← List.filter_append, List.take_append_drop]
  have l : (aDense (T.drop k)).length = 0 := by
    have := congrArg List.length e
    rw [List.length_append] at this
    omega
  rw [e, List.eq_nil_of_length_eq_zero l, List.append_nil]
theorem nI_les : ∀ m, m < 61 → ∀ n, n < 61 → nI (m + n) - nI n = nI m := by decide +kernel
/-- how many blanks lie on the tape -/
theorem sp_tBl {d c s t : Nat} {T : List Nat} {I : zI} {L : zL} {P : zP} {S : zS} {Q : Option zV → zM → Prop} (hT : cTp (I 0 0) T) (h60 : T.length ≤ 60) (hx : ∀ x, x ∈ T → 32 ≤ x ∧ x < 127) (k : Q (some (zi (nI (T.length - (aDense T).length)))) (I, L, zpj P, zsj S, 237 + t)) : Ev d c s 248 0 [some (zr (some (0, 0, 1))), none, none] [] (I, L, zpj P, zsj S, 237 + t) Q := by
  refine g248_0 ?_
  have lp : ∀ m, m ≤ T.length → Ev d c s 248 4 [some (zr (some (0, 0, 1))), some (zi (nI (T.length - m - (aDense (T.take (T.length - m))).length))), some (zi (nI (T.length - m)))] [] (I, L, zpj P, zsj S, 237 + t) Q := by
    intro m
    induction m with
    | zero =>
      intro _
      rw [show T.length - 0 = T.length from rfl, List.take_length]
      exact g248_4 (N := T.length) (by omega) hT.1 (by omega) (by omega) (fun _ => k) (fun q => by omega) (fun q => by omega) (fun q => by omega)
    | succ m ih =>
      intro hm
      have hk : T.length - (m + 1) < T.length := by omega
      have e1 : T.length - (m + 1) + 1 = T.length - m := by omega
      have ea := aDense_t hk
      have xb := hx _ (List.getElem_mem hk)
      rw [e1] at ea
      have el : I 0 0 2 (T.length - (m + 1)) = nI T[T.length - (m + 1)] := hT.2 _ hk
      have dl := aDense_l T (T.length - (m + 1))
      refine g248_4 (N := T.length) (by omega) hT.1 (by omega) (by omega) (fun q => by omega) (fun q => by omega) (fun _ q => ?_) (fun _ q => ?_)
      · rw [el] at q
        have e32 : ¬ T[T.length - (m + 1)] = 32 := fun e => q (by rw [e])
        rw [if_neg e32] at ea
        have := ih (by omega)
        rw [ea, List.length_append, List.length_singleton, show T.length - m - ((aDense (T.take (T.length - (m + 1)))).length + 1) = T.length - (m + 1) - (aDense (T.take (T.length - (m + 1)))).length by omega] at this
        rw [e1]
        exact this
      · rw [el] at q
        have e32 : T[T.length - (m + 1)] = 32 := (zeq (by omega) (by decide)).mp q
        rw [if_pos e32] at ea
        have := ih (by omega)
        rw [ea, show T.length - m - (aDense (T.take (T.length - (m + 1)))).length = T.length - (m + 1) - (aDense (T.take (T.length - (m + 1)))).length + 1 by omega] at this
        rw [e1]
        exact this
  have h0 := lp T.length (Nat.le_refl _)
  rw [Nat.sub_self, Nat.zero_sub] at h0
  exact h0
theorem sp_toScr {d c s t : Nat} {T : List Nat} {I : zI} {L : zL} {P : zP} {S : zS} {Q : Option zV → zM → Prop} (hT : cTp (I 0 0) T) (h60 : T.length ≤ 60) (hx : ∀ x, x ∈ T → 32 ≤ x ∧ x < 127) (k : ∀ I' L' P' S', cFn t I L P S I' L' P' S' → cSc I' P' S' (t + 2 + 9) (t + 1 + 9) (aDense T) → Q (some (zr (some (3, t + 1 + 9, 0)))) (I', L', zpj P', zsj S', 237 + (t + 2))) : Ev (d + 2) (c + 3) (s + 121) 93 0 [some (zr (some (0, 0, 1))), none, none, none] [] (I, L, zpj P, zsj S, 237 + t) Q := by
  have dl : (aDense T).length ≤ T.length := List.length_filter_le _ _
  refine g93_0 (d := d + 1) hT.1 (sp_tBl hT h60 hx ?_)
  show Ev (d + 2) (c + 3) (s + 121) 93 8 [some (zr (some (0, 0, 1))), none, none, none] [zi (nI (T.length - (aDense T).length)), zi (nI T.length)] (I, L, zpj P, zsj S, 237 + t) Q
  refine g93_8 ?_
  have eN : nI T.length - nI (T.length - (aDense T).length) = nI (aDense T).length := by
    have := nI_les (aDense T).length (by omega) (T.length - (aDense T).length) (by omega)
    rwa [Nat.add_sub_cancel' dl] at this
  rw [eN]
  refine Ew.newaC (d := d + 2) (c := c + 2) (s := s + 121) (n := (aDense T).length) f93_9 (by omega) (by omega) rfl rfl (fun I1 L1 P1 S1 f1 sa _ => ?_)
  have sa : S1 3 (t + 9) 0 = (22, (aDense T).length) := sa
  refine g93_11 ?_
  -- behind the loop
  have aft : ∀ I2 A, A = aDense T → (∀ r j q, ¬ (r = 3 ∧ t + 9 ≤ j) → I2 r j q = I r j q) → (∀ i (h : i < A.length), I2 3 (t + 9) 0 i = nI A[i]) → ∀ pp kk, Ev (d + 2) (c + 2) (s + 121 - (aDense T).length) 93 59 [some (zr (some (0, 0, 1))), some (zr (some (3, t + 9, 0))), some (zi (nI pp)), some (zi (nI kk))] [] (I2, L1, zpj P1, zsj S1, 237 + (t + 1)) Q := by
    intro I2 A eA fI row pp kk
    subst eA
    rw [show s + 121 - (aDense T).length = (s + 120 - (aDense T).length) + 1 by omega]
    refine Ew.newC (d := d + 2) (c := c + 1) (s := s + 120 - (aDense T).length) f93_59 rfl (fun I3 L3 P3 S3 f3 sm _ => ?_)
    have sm : S3 3 (t + 1 + 9) 0 = (5, 0) := sm
    have fa := f3 3 (t + 9) 0 (by omega)
    refine g93_62 (d := d) sm (k _ _ _ _ ?_ ⟨by omega, fun x h => ?_, t + 9, ⟨by omega, by omega⟩, sm, zu4s _ _ _ _ _ _, fa.2.2.2.trans sa, fun i h => ?_⟩)
    · intro r j q hn
      have g1 := f1 r j q hn
      have g3 := f3 r j q (by omega)
      refine ⟨?_, ?_, ?_, ?_⟩
      · rw [g3.1]; exact fI r j q hn
      · rw [g3.2.1]; exact g1.2.1
      · rw [zu4r _ _ (by omega), g3.2.2.1]; exact g1.2.2.1
      · rw [g3.2.2.2]; exact g1.2.2.2
    · exact (hx x (List.mem_filter.mp h).1).2
    · rw [fa.1]; exact row i h
  have lp : ∀ m, m ≤ T.length → ∀ I2, (∀ r j q, ¬ (r = 3 ∧ t + 9 ≤ j) → I2 r j q = I r j q) → (∀ i (h : i < (aDense (T.take (T.length - m))).length), I2 3 (t + 9) 0 i = nI (aDense (T.take (T.length - m)))[i]) → Ev (d + 2) (c + 2) (s + 121 - (aDense T).length) 93 16 [some (zr (some (0, 0, 1))), some (zr (some (3, t + 9, 0))), some (zi (nI (aDense (T.take (T.length - m))).length)), some (zi (nI (T.length - m)))] [] (I2, L1, zpj P1, zsj S1, 237 + (t + 1)) Q := by
    intro m
    induction m with
    | zero =>
      intro _ I2 fI row
      have hN2 : I2 0 0 1 1 = nI T.length := by rw [fI _ _ _ (by omega)]; exact hT.1
      rw [show T.length - 0 = T.length from rfl, List.take_length] at row ⊢
      exact g93_16 (N := T.length) sa (by omega) dl hN2 (by omega) (by omega) (by omega) (by omega) (fun _ => aft I2 _ rfl fI row _ _) (fun q => by omega) (fun q => by omega) (fun q => by omega) (fun q => by omega) (fun q => by omega) (fun q => by omega)
    | succ m ih =>
      intro hm I2 fI row
      have hN2 : I2 0 0 1 1 = nI T.length := by rw [fI _ _ _ (by omega)]; exact hT.1
      have hk : T.length - (m + 1) < T.length := by omega
      have e1 : T.length - (m + 1) + 1 = T.length - m := by omega
      have ea := aDense_t hk
      have xb := hx _ (List.getElem_mem hk)
      rw [e1] at ea
      have el : I2 0 0 2 (T.length - (m + 1)) = nI T[T.length - (m + 1)] := by rw [fI _ _ _ (by omega)]; exact hT.2 _ hk
      have dk := aDense_l T (T.length - (m + 1))
      refine g93_16 (N := T.length) sa (by omega) dl hN2 (by omega) (by omega) (by omega) (by omega) (fun q => by omega) (fun _ q => aft I2 _ (aDense_e q) fI row _ _) (fun _ _ => by omega) (fun _ _ q => ?_) (fun _ _ _ => by omega) (fun _ q _ => q) (fun _ _ q => ?_)
      · rw [el] at q
        have e32 : T[T.length - (m + 1)] = 32 := (zeq (by omega) (by decide)).mp q
        rw [if_pos e32] at ea
        have := ih (by omega) I2 fI (by rw [ea]; exact row)
        rw [ea] at this
        rw [e1]
        exact this
      · rw [el] at q ⊢
        have e32 : ¬ T[T.length - (m + 1)] = 32 := fun e => q (by rw [e])
        rw [if_neg e32] at ea
        have := ih (by omega) (zup4 I2 3 (t + 9) 0 (aDense (T.take (T.length - (m + 1)))).length (vp_nar .char (nI T[T.length - (m + 1)]))) (fun r j q hn => by rw [zu4r _ _ (by omega)]; exact fI r j q hn) (by
          rw [ea, znar xb.2]
          intro i hi
          rw [List.length_append] at hi
          by_cases e : i = (aDense (T.take (T.length - (m + 1)))).length
          · subst e
            rw [zu4s, List.getElem_append_right (Nat.le_refl _)]
            simp
          · have hi2 : i < (aDense (T.take (T.length - (m + 1)))).length := by
              have : i < (aDense (T.take (T.length - (m + 1)))).length + 1 := hi
              omega
            rw [zu4n _ _ (by omega), List.getElem_append_left hi2]
            exact row i hi2)
        rw [ea, List.length_append] at this
        rw [e1]
        exact this
  have h0 := lp T.length (Nat.le_refl _) I1 (fun r j q hn => (f1 r j q hn).1) (by rw [Nat.sub_self]; intro i h; exact absurd h (Nat.not_lt_zero i))
  rw [Nat.sub_self] at h0
  exact h0
