/-! what the constructors leave -/
def w0 : Nat → Int32 := fun i => if i = 3 then nI 1 else if i = 12 ∨ i = 16 ∨ i = 20 ∨ i = 24 then -4 else 0
def EI (r j q : Nat) : Nat → Int32 := match r, q with
  | 2, 0 => fun i => if i = 4 then nI 1 else 0
  | 2, 4 => fun i => if i < 6 then -4 else 0
  | 2, 8 => fun i => if i < 4 then -4 else 0
  | 2, 9 => fun i => if i < 4 then -4 else 0
  | 0, 4 => fun i => if i = 15 then -4 else 0
  | 0, 14 => fun i => if i = 5 then -4 else 0
  | 5, 0 => fun i => if i = 0 then -1 else 0
  | 3, _ => if j = 4 then (fun i => if i = 6 then -4 else 0) else fun _ => 0
  | _, _ => fun _ => 0
def EP (r j q : Nat) : Nat → Option zR := match r, q with
  | 2, 1 => fun i => if i < 4 then some (3, 2, 0) else none
  | 2, 2 => fun i => if i < 4 then some (3, 4, 0) else none
  | 4, 1 => fun i => if i < 6 then some (2, (if j = 0 then 2 else 9) + i, 0) else none
  | 3, _ => if j = 0 then (fun i => if i = 0 then some (3, 1, 0) else none) else if j = 2 then (fun i => if i = 0 then some (3, 3, 0) else none) else if j = 4 then (fun i => if i = 1 then some (3, 5, 0) else if i = 2 then some (3, 6, 0) else if i = 3 then some (3, 7, 0) else if i = 4 then some (3, 8, 0) else none) else fun _ => none
  | 0, 4 => fun i => if i = 0 then some (3, 0, 0) else zpj (fun _ _ _ _ => none) 0 0 4 i
  | 0, 11 => fun i => if i < 4 then some (3, 4, 0) else none
  | 0, 14 => fun i => if i = 6 ∨ i = 7 then some (3, 4, 0) else zpj (fun _ _ _ _ => none) 0 0 14 i
  | _, _ => zpj (fun _ _ _ _ => none) r j q
def ES (r j q : Nat) : Nat × Nat := match r with
  | 3 => if j = 0 ∨ j = 2 then (5, 0) else if j = 1 ∨ j = 3 then (22, 0) else if j = 4 then (9, 0) else if j = 8 then (20, 1) else (20, 0)
  | _ => zsj (fun _ _ _ => (0, 0)) r j q
def mEq (I : zI) (L : zL) (P : zP) (S : zS) (I' : zI) (L' : zL) (P' : zP) (S' : zS) (r j q : Nat) : Prop := I' r j q = I r j q ∧ L' r j q = L r j q ∧ P' r j q = P r j q ∧ S' r j q = S r j q
def fAB (a b : Nat) (I : zI) (L : zL) (P : zP) (S : zS) (I' : zI) (L' : zL) (P' : zP) (S' : zS) : Prop := ∀ r j q, (∀ n, a ≤ n → n < b → ¬ zal n = (r, j, q)) → mEq I L P S I' L' P' S' r j q
def Ec (I : zI) (L : zL) (P : zP) (S : zS) (x : zR) : Prop := I x.1 x.2.1 x.2.2 = EI x.1 x.2.1 x.2.2 ∧ L x.1 x.2.1 x.2.2 = (fun _ => 0) ∧ P x.1 x.2.1 x.2.2 = EP x.1 x.2.1 x.2.2 ∧ S x.1 x.2.1 x.2.2 = ES x.1 x.2.1 x.2.2
/-- a cell that is new -/
def cFresh (I : zI) (L : zL) (P : zP) (S : zS) (r j q : Nat) (x : Nat × Nat) : Prop := I r j q = (fun _ => 0) ∧ L r j q = (fun _ => 0) ∧ P r j q = (fun _ => none) ∧ S r j q = x
theorem zal_inj {n m : Nat} (h : zal n = zal m) : n = m := by
  have := congrArg zix h
  rw [zix_al, zix_al] at this
  exact this
def Bt (top : Nat) (I : zI) (L : zL) (P : zP) (S : zS) : Prop := ∀ n, 1 ≤ n → n < top → Ec I L P S (zal n)
section
variable {a b c : Nat} {I I' I2 : zI} {L L' L2 : zL} {P P' P2 : zP} {S S' S2 : zS}
theorem mEq.trans {r j q : Nat} (h : mEq I L P S I' L' P' S' r j q) (h' : mEq I' L' P' S' I2 L2 P2 S2 r j q) : mEq I L P S I2 L2 P2 S2 r j q := ⟨h'.1.trans h.1, h'.2.1.trans h.2.1, h'.2.2.1.trans h.2.2.1, h'.2.2.2.trans h.2.2.2⟩
theorem fAB.trans (h : fAB a b I L P S I' L' P' S') (h' : fAB b c I' L' P' S' I2 L2 P2 S2) (hab : a ≤ b) (hbc : b ≤ c) : fAB a c I L P S I2 L2 P2 S2 := fun r j q g => (h r j q (fun n h1 h2 => g n h1 (by omega))).trans (h' r j q (fun n h1 h2 => g n (by omega) h2))
theorem fAB.cell (h : fAB a b I L P S I' L' P' S') {n : Nat} (hn : n < a) {r j q : Nat} (e : zal n = (r, j, q)) : mEq I L P S I' L' P' S' r j q := h r j q (fun m h1 _ q => by have := zal_inj (q.trans e.symm); omega)
theorem Ec.fr {x : zR} (h : Ec I L P S x) (hm : mEq I L P S I' L' P' S' x.1 x.2.1 x.2.2) : Ec I' L' P' S' x := ⟨hm.1.trans h.1, hm.2.1.trans h.2.1, hm.2.2.1.trans h.2.2.1, hm.2.2.2.trans h.2.2.2⟩
theorem Bt.step (h : Bt a I L P S) (hf : fAB a b I L P S I' L' P' S') (he : ∀ n, a ≤ n → n < b → Ec I' L' P' S' (zal n)) : Bt b I' L' P' S' := by
  intro n h1 h2
  by_cases g : n < a
  · exact (h n h1 g).fr (hf.cell g rfl)
  · exact he n (by omega) h2
theorem cFresh_new {r j q tag len : Nat} : cFresh (zup3 I r j q (fun _ => 0)) (zup3 L r j q (fun _ => 0)) (zup3 P r j q (fun _ => none)) (zup3 S r j q (tag, len)) r j q (tag, len) := ⟨zup3_s _ _ _ _ _, zup3_s _ _ _ _ _, zup3_s _ _ _ _ _, zup3_s _ _ _ _ _⟩
theorem fAB_new {r j q : Nat} {x : Nat × Nat} {f : Nat → Int32} {l : Nat → Int64} {p : Nat → Option zR} (ha : zal a = (r, j, q)) : fAB a (a + 1) I L P S (zup3 I r j q f) (zup3 L r j q l) (zup3 P r j q p) (zup3 S r j q x) := by
  intro r' j' q' g
  have h : ¬ (r' = r ∧ j' = j ∧ q' = q) := fun e => g a (Nat.le_refl _) (by omega) (by rw [ha, e.1, e.2.1, e.2.2])
  exact ⟨zup3_o _ _ h, zup3_o _ _ h, zup3_o _ _ h, zup3_o _ _ h⟩
end
/-! a table -/
theorem k51_0 {d c s : Nat} {j : Nat} {I : zI} {L : zL} {P : zP} {S : zS} {T : Nat} {Q : Option zV → zM → Prop} (hal : ∀ k, k < 10 → zal (T + k) = (2, j, k + 1)) (s0 : S 2 j 0 = (7, 0)) 
    (h1 : Ev d 0 0 246 0 [some (zr (some (2, j, 4))), some (zi ((-4))), none, none] [] (zup3 (zup3 (zup3 (zup3 (zup3 (zup3 (zup3 (zup3 (zup4 (zup4 (zup4 (zup4 (zup3 (zup3 I 2 j 1 (fun _ => 0)) 2 j 2 (fun _ => 0)) 2 j 0 2 (nI 0)) 2 j 0 3 (nI 0)) 2 j 0 4 (nI 1)) 2 j 0 5 (nI 0)) 2 j 3 (fun _ => 0)) 2 j 4 (fun _ => 0)) 2 j 5 (fun _ => 0)) 2 j 6 (fun _ => 0)) 2 j 7 (fun _ => 0)) 2 j 8 (fun _ => 0)) 2 j 9 (fun _ => 0)) 2 j 10 (fun _ => 0), zup3 (zup3 (zup3 (zup3 (zup3 (zup3 (zup3 (zup3 (zup3 (zup3 L 2 j 1 (fun _ => 0)) 2 j 2 (fun _ => 0)) 2 j 3 (fun _ => 0)) 2 j 4 (fun _ => 0)) 2 j 5 (fun _ => 0)) 2 j 6 (fun _ => 0)) 2 j 7 (fun _ => 0)) 2 j 8 (fun _ => 0)) 2 j 9 (fun _ => 0)) 2 j 10 (fun _ => 0), zup4 (zup3 (zup4 (zup3 (zup4 (zup3 (zup4 (zup3 (zup4 (zup3 (zup4 (zup3 (zup4 (zup3 (zup4 (zup3 (zup4 (zup3 (zup4 (zup3 P 2 j 1 (fun _ => none)) 2 j 0 0 (some (2, j, 1))) 2 j 2 (fun _ => none)) 2 j 0 1 (some (2, j, 2))) 2 j 3 (fun _ => none)) 2 j 0 6 (some (2, j, 3))) 2 j 4 (fun _ => none)) 2 j 0 7 (some (2, j, 4))) 2 j 5 (fun _ => none)) 2 j 0 8 (some (2, j, 5))) 2 j 6 (fun _ => none)) 2 j 0 9 (some (2, j, 6))) 2 j 7 (fun _ => none)) 2 j 0 10 (some (2, j, 7))) 2 j 8 (fun _ => none)) 2 j 0 11 (some (2, j, 8))) 2 j 9 (fun _ => none)) 2 j 0 12 (some (2, j, 9))) 2 j 10 (fun _ => none)) 2 j 0 13 (some (2, j, 10)), zup3 (zup3 (zup3 (zup3 (zup3 (zup3 (zup3 (zup3 (zup3 (zup3 S 2 j 1 (23, 4)) 2 j 2 (24, 4)) 2 j 3 (20, 6)) 2 j 4 (20, 6)) 2 j 5 (20, 6)) 2 j 6 (20, 4)) 2 j 7 (20, 4)) 2 j 8 (20, 4)) 2 j 9 (20, 4)) 2 j 10 (20, 4), T + 10) (fun r M' => Ev (d + 1) c s 51 108 [some (zr (some (2, j, 0))), some (zr (some (3, 2, 0))), some (zr (some (3, 4, 0))), none] (zpush r []) M' Q)) : Ev (d + 1) (c + 10) (s + 46) 51 0 [some (zr (some (2, j, 0))), some (zr (some (3, 2, 0))), some (zr (some (3, 4, 0))), none] [] (I, L, P, S, T) Q := by
  refine Ew.ld f51_0 rfl rfl rfl rfl ?_
  refine Ew.nat (st' := []) f51_1 rfl (fun k h => ⟨Nat.le_of_ble_eq_true rfl, h⟩) rfl ?_
  refine Ew.ld f51_4 rfl rfl rfl rfl ?_
  refine Ew.op (st' := zi (nI 4) :: _) f51_5 rfl rfl ?_
  refine Ew.anewaR (n := 4) (c := c + 9) (s := s + 42) f51_6 (hal 0 (by decide)) (by decide) rfl ?_
  refine Ew.putp f51_9 (by simp [zup3_if, zup4_if, s0]) rfl ?_
  refine Ew.ld f51_12 rfl rfl rfl rfl ?_
  refine Ew.op (st' := zi (nI 4) :: _) f51_13 rfl rfl ?_
  refine Ew.anewaR (n := 4) (c := c + 8) (s := s + 38) f51_14 (hal 1 (by decide)) (by decide) rfl ?_
  refine Ew.putp f51_17 (by simp [zup3_if, zup4_if, s0]) rfl ?_
  refine Ew.ld f51_20 rfl rfl rfl rfl ?_
  refine Ew.op (st' := zi (nI 0) :: _) f51_21 rfl rfl ?_
  refine Ew.puti f51_22 (by simp [zup3_if, zup4_if, s0]) rfl ?_
  refine Ew.ld f51_25 rfl rfl rfl rfl ?_
  refine Ew.op (st' := zi (nI 0) :: _) f51_26 rfl rfl ?_
  refine Ew.puti f51_27 (by simp [zup3_if, zup4_if, s0]) rfl ?_
  refine Ew.ld f51_30 rfl rfl rfl rfl ?_
  refine Ew.op (st' := zi (nI 1) :: _) f51_31 rfl rfl ?_
  refine Ew.puti f51_32 (by simp [zup3_if, zup4_if, s0]) rfl ?_
  refine Ew.ld f51_35 rfl rfl rfl rfl ?_
  refine Ew.op (st' := zi (nI 0) :: _) f51_36 rfl rfl ?_
  refine Ew.puti f51_37 (by simp [zup3_if, zup4_if, s0]) rfl ?_
  refine Ew.ld f51_40 rfl rfl rfl rfl ?_
  refine Ew.op (st' := zi (nI 6) :: _) f51_41 rfl rfl ?_
  refine Ew.newaR (tag := 20) (n := 6) (c := c + 7) (s := s + 32) f51_43 (hal 2 (by decide)) (by decide) rfl rfl ?_
  refine Ew.putp f51_45 (by simp [zup3_if, zup4_if, s0]) rfl ?_
  refine Ew.ld f51_48 rfl rfl rfl rfl ?_
  refine Ew.op (st' := zi (nI 6) :: _) f51_49 rfl rfl ?_
  refine Ew.newaR (tag := 20) (n := 6) (c := c + 6) (s := s + 26) f51_51 (hal 3 (by decide)) (by decide) rfl rfl ?_
  refine Ew.putp f51_53 (by simp [zup3_if, zup4_if, s0]) rfl ?_
  refine Ew.ld f51_56 rfl rfl rfl rfl ?_
  refine Ew.op (st' := zi (nI 6) :: _) f51_57 rfl rfl ?_
  refine Ew.newaR (tag := 20) (n := 6) (c := c + 5) (s := s + 20) f51_59 (hal 4 (by decide)) (by decide) rfl rfl ?_
  refine Ew.putp f51_61 (by simp [zup3_if, zup4_if, s0]) rfl ?_
  refine Ew.ld f51_64 rfl rfl rfl rfl ?_
  refine Ew.op (st' := zi (nI 4) :: _) f51_65 rfl rfl ?_
  refine Ew.newaR (tag := 20) (n := 4) (c := c + 4) (s := s + 16) f51_66 (hal 5 (by decide)) (by decide) rfl rfl ?_
  refine Ew.putp f51_68 (by simp [zup3_if, zup4_if, s0]) rfl ?_
  refine Ew.ld f51_71 rfl rfl rfl rfl ?_
  refine Ew.op (st' := zi (nI 4) :: _) f51_72 rfl rfl ?_
  refine Ew.newaR (tag := 20) (n := 4) (c := c + 3) (s := s + 12) f51_73 (hal 6 (by decide)) (by decide) rfl rfl ?_
  refine Ew.putp f51_75 (by simp [zup3_if, zup4_if, s0]) rfl ?_
  refine Ew.ld f51_78 rfl rfl rfl rfl ?_
  refine Ew.op (st' := zi (nI 4) :: _) f51_79 rfl rfl ?_
  refine Ew.newaR (tag := 20) (n := 4) (c := c + 2) (s := s + 8) f51_80 (hal 7 (by decide)) (by decide) rfl rfl ?_
  refine Ew.putp f51_82 (by simp [zup3_if, zup4_if, s0]) rfl ?_
  refine Ew.ld f51_85 rfl rfl rfl rfl ?_
  refine Ew.op (st' := zi (nI 4) :: _) f51_86 rfl rfl ?_
  refine Ew.newaR (tag := 20) (n := 4) (c := c + 1) (s := s + 4) f51_87 (hal 8 (by decide)) (by decide) rfl rfl ?_
  refine Ew.putp f51_89 (by simp [zup3_if, zup4_if, s0]) rfl ?_
  refine Ew.ld f51_92 rfl rfl rfl rfl ?_
  refine Ew.op (st' := zi (nI 4) :: _) f51_93 rfl rfl ?_
  refine Ew.newaR (tag := 20) (n := 4) (c := c) (s := s) f51_94 (hal 9 (by decide)) (by decide) rfl rfl ?_
  refine Ew.putp f51_96 (by simp [zup3_if, zup4_if, s0]) rfl ?_
  refine Ew.ld f51_99 rfl rfl rfl rfl ?_
  refine Ew.getp (v := some (2, j, 4)) f51_100 (by simp [zup3_if, zup4_if, s0]) (by simp [zup3_if, zup4_if, s0]) rfl ?_
  refine Ew.op (st' := zi ((-4)) :: _) f51_103 rfl rfl ?_
  refine Ew.call0 (ls0 := [some (zr (some (2, j, 4))), some (zi ((-4))), none, none]) f51_105 rfl (Nat.le_of_ble_eq_true rfl) rfl rfl (Nat.le_of_ble_eq_true rfl) trivial (Nat.le_of_ble_eq_true rfl) rfl rfl ?_
  exact h1
theorem k51_108 {d c s : Nat} {j : Nat} {I : zI} {L : zL} {P : zP} {S : zS} {T : Nat} {Q : Option zV → zM → Prop} (s0 : S 2 j 0 = (7, 0)) (p11 : P 2 j 0 11 = some (2, j, 8)) 
    (h1 : Ev d 0 0 246 0 [some (zr (some (2, j, 8))), some (zi ((-4))), none, none] [] (I, L, P, S, T) (fun r M' => Ev (d + 1) c s 51 117 [some (zr (some (2, j, 0))), some (zr (some (3, 2, 0))), some (zr (some (3, 4, 0))), none] (zpush r []) M' Q)) : Ev (d + 1) c s 51 108 [some (zr (some (2, j, 0))), some (zr (some (3, 2, 0))), some (zr (some (3, 4, 0))), none] [] (I, L, P, S, T) Q := by
  refine Ew.ld f51_108 rfl rfl rfl rfl ?_
  refine Ew.getp (v := some (2, j, 8)) f51_109 (by simp [zup3_if, zup4_if, s0, p11]) (by simp [zup3_if, zup4_if, s0, p11]) rfl ?_
  refine Ew.op (st' := zi ((-4)) :: _) f51_112 rfl rfl ?_
  refine Ew.call0 (ls0 := [some (zr (some (2, j, 8))), some (zi ((-4))), none, none]) f51_114 rfl (Nat.le_of_ble_eq_true rfl) rfl rfl (Nat.le_of_ble_eq_true rfl) trivial (Nat.le_of_ble_eq_true rfl) rfl rfl ?_
  exact h1
theorem k51_117 {d c s : Nat} {j : Nat} {I : zI} {L : zL} {P : zP} {S : zS} {T : Nat} {Q : Option zV → zM → Prop} (s0 : S 2 j 0 = (7, 0)) (p12 : P 2 j 0 12 = some (2, j, 9)) 
    (h1 : Ev d 0 0 246 0 [some (zr (some (2, j, 9))), some (zi ((-4))), none, none] [] (I, L, P, S, T) (fun r M' => Ev (d + 1) c s 51 126 [some (zr (some (2, j, 0))), some (zr (some (3, 2, 0))), some (zr (some (3, 4, 0))), none] (zpush r []) M' Q)) : Ev (d + 1) c s 51 117 [some (zr (some (2, j, 0))), some (zr (some (3, 2, 0))), some (zr (some (3, 4, 0))), none] [] (I, L, P, S, T) Q := by
  refine Ew.ld f51_117 rfl rfl rfl rfl ?_
  refine Ew.getp (v := some (2, j, 9)) f51_118 (by simp [zup3_if, zup4_if, s0, p12]) (by simp [zup3_if, zup4_if, s0, p12]) rfl ?_
  refine Ew.op (st' := zi ((-4)) :: _) f51_121 rfl rfl ?_
  refine Ew.call0 (ls0 := [some (zr (some (2, j, 9))), some (zi ((-4))), none, none]) f51_123 rfl (Nat.le_of_ble_eq_true rfl) rfl rfl (Nat.le_of_ble_eq_true rfl) trivial (Nat.le_of_ble_eq_true rfl) rfl rfl ?_
  exact h1
theorem k51_126 {d c s : Nat} {j : Nat} {I : zI} {L : zL} {P : zP} {S : zS} {T : Nat} {Q : Option zV → zM → Prop} (s0 : S 2 j 0 = (7, 0)) (s1 : S 2 j 1 = (23, 4)) (s2 : S 2 j 2 = (24, 4)) (sm : S 3 2 0 = (5, 0)) (sn : S 3 4 0 = (9, 0)) (p0 : P 2 j 0 0 = some (2, j, 1)) (p1 : P 2 j 0 1 = some (2, j, 2)) 
    (h1 : Q none (I, L, zup4 (zup4 (zup4 (zup4 (zup4 (zup4 (zup4 (zup4 P 2 j 1 0 (some (3, 2, 0))) 2 j 2 0 (some (3, 4, 0))) 2 j 1 1 (some (3, 2, 0))) 2 j 2 1 (some (3, 4, 0))) 2 j 1 2 (some (3, 2, 0))) 2 j 2 2 (some (3, 4, 0))) 2 j 1 3 (some (3, 2, 0))) 2 j 2 3 (some (3, 4, 0)), S, T)) : Ev d c s 51 126 [some (zr (some (2, j, 0))), some (zr (some (3, 2, 0))), some (zr (some (3, 4, 0))), none] [] (I, L, P, S, T) Q := by
  refine Ew.op (st' := zi (nI 0) :: _) f51_126 rfl rfl ?_
  refine Ew.sr (ls' := [some (zr (some (2, j, 0))), some (zr (some (3, 2, 0))), some (zr (some (3, 4, 0))), some (zi (nI 0))]) f51_127 rfl rfl (Nat.le_of_ble_eq_true rfl) rfl rfl ?_
  refine Ew.ld f51_128 rfl rfl rfl rfl ?_
  refine Ew.op (st' := zi (nI 4) :: _) f51_129 rfl rfl ?_
  refine Ew.icmp f51_130 rfl rfl (fun h => absurd h (show ¬ ((nI 4) ≤ ((nI 0) : Int32)) by decide)) (fun _ => ?_)
  refine Ew.ld f51_133 rfl rfl rfl rfl ?_
  refine Ew.getp (v := some (2, j, 1)) f51_134 (by simp [zup3_if, zup4_if, s0, s1, s2, sm, sn, p0, p1]) (by simp [zup3_if, zup4_if, s0, s1, s2, sm, sn, p0, p1]) rfl ?_
  refine Ew.ld f51_137 rfl rfl rfl rfl ?_
  refine Ew.ld f51_138 rfl rfl rfl rfl ?_
  refine Ew.aastn f51_139 (by simp [zup3_if, zup4_if, s0, s1, s2, sm, sn, p0, p1, zel]) (by simp [zup3_if, zup4_if, s0, s1, s2, sm, sn, p0, p1, zel]) (by simp [zup3_if, zup4_if, s0, s1, s2, sm, sn, p0, p1]) (by simp [zup3_if, zup4_if, s0, s1, s2, sm, sn, p0, p1]) rfl ?_
  refine Ew.ld f51_140 rfl rfl rfl rfl ?_
  refine Ew.getp (v := some (2, j, 2)) f51_141 (by simp [zup3_if, zup4_if, s0, s1, s2, sm, sn, p0, p1]) (by simp [zup3_if, zup4_if, s0, s1, s2, sm, sn, p0, p1]) rfl ?_
  refine Ew.ld f51_144 rfl rfl rfl rfl ?_
  refine Ew.ld f51_145 rfl rfl rfl rfl ?_
  refine Ew.aastn f51_146 (by simp [zup3_if, zup4_if, s0, s1, s2, sm, sn, p0, p1, zel]) (by simp [zup3_if, zup4_if, s0, s1, s2, sm, sn, p0, p1, zel]) (by simp [zup3_if, zup4_if, s0, s1, s2, sm, sn, p0, p1]) (by simp [zup3_if, zup4_if, s0, s1, s2, sm, sn, p0, p1]) rfl ?_
  refine Ew.iinc (v := nI 1) (ls' := [some (zr (some (2, j, 0))), some (zr (some (3, 2, 0))), some (zr (some (3, 4, 0))), some (zi (nI 1))]) f51_147 rfl rfl rfl rfl ?_
  refine Ew.goto f51_150 rfl ?_
  refine Ew.ld f51_128 rfl rfl rfl rfl ?_
  refine Ew.op (st' := zi (nI 4) :: _) f51_129 rfl rfl ?_
  refine Ew.icmp f51_130 rfl rfl (fun h => absurd h (show ¬ ((nI 4) ≤ ((nI 1) : Int32)) by decide)) (fun _ => ?_)
  refine Ew.ld f51_133 rfl rfl rfl rfl ?_
  refine Ew.getp (v := some (2, j, 1)) f51_134 (by simp [zup3_if, zup4_if, s0, s1, s2, sm, sn, p0, p1]) (by simp [zup3_if, zup4_if, s0, s1, s2, sm, sn, p0, p1]) rfl ?_
  refine Ew.ld f51_137 rfl rfl rfl rfl ?_
  refine Ew.ld f51_138 rfl rfl rfl rfl ?_
  refine Ew.aastn f51_139 (by simp [zup3_if, zup4_if, s0, s1, s2, sm, sn, p0, p1, zel]) (by simp [zup3_if, zup4_if, s0, s1, s2, sm, sn, p0, p1, zel]) (by simp [zup3_if, zup4_if, s0, s1, s2, sm, sn, p0, p1]) (by simp [zup3_if, zup4_if, s0, s1, s2, sm, sn, p0, p1]) rfl ?_
  refine Ew.ld f51_140 rfl rfl rfl rfl ?_
  refine Ew.getp (v := some (2, j, 2)) f51_141 (by simp [zup3_if, zup4_if, s0, s1, s2, sm, sn, p0, p1]) (by simp [zup3_if, zup4_if, s0, s1, s2, sm, sn, p0, p1]) rfl ?_
  refine Ew.ld f51_144 rfl rfl rfl rfl ?_
  refine Ew.ld f51_145 rfl rfl rfl rfl ?_
  refine Ew.aastn f51_146 (by simp [zup3_if, zup4_if, s0, s1, s2, sm, sn, p0, p1, zel]) (by simp [zup3_if, zup4_if, s0, s1, s2, sm, sn, p0, p1, zel]) (by simp [zup3_if, zup4_if, s0, s1, s2, sm, sn, p0, p1]) (by simp [zup3_if, zup4_if, s0, s1, s2, sm, sn, p0, p1]) rfl ?_
  refine Ew.iinc (v := nI 2) (ls' := [some (zr (some (2, j, 0))), some (zr (some (3, 2, 0))), some (zr (some (3, 4, 0))), some (zi (nI 2))]) f51_147 rfl rfl rfl rfl ?_
  refine Ew.goto f51_150 rfl ?_
  refine Ew.ld f51_128 rfl rfl rfl rfl ?_
  refine Ew.op (st' := zi (nI 4) :: _) f51_129 rfl rfl ?_
  refine Ew.icmp f51_130 rfl rfl (fun h => absurd h (show ¬ ((nI 4) ≤ ((nI 2) : Int32)) by decide)) (fun _ => ?_)
  refine Ew.ld f51_133 rfl rfl rfl rfl ?_
  refine Ew.getp (v := some (2, j, 1)) f51_134 (by simp [zup3_if, zup4_if, s0, s1, s2, sm, sn, p0, p1]) (by simp [zup3_if, zup4_if, s0, s1, s2, sm, sn, p0, p1]) rfl ?_
  refine Ew.ld f51_137 rfl rfl rfl rfl ?_
  refine Ew.ld f51_138 rfl rfl rfl rfl ?_
  refine Ew.aastn f51_139 (by simp [zup3_if, zup4_if, s0, s1, s2, sm, sn, p0, p1, zel]) (by simp [zup3_if, zup4_if, s0, s1, s2, sm, sn, p0, p1, zel]) (by simp [zup3_if, zup4_if, s0, s1, s2, sm, sn, p0, p1]) (by simp [zup3_if, zup4_if, s0, s1, s2, sm, sn, p0, p1]) rfl ?_
  refine Ew.ld f51_140 rfl rfl rfl rfl ?_
  refine Ew.getp (v := some (2, j, 2)) f51_141 (by simp [zup3_if, zup4_if, s0, s1, s2, sm, sn, p0, p1]) (by simp [zup3_if, zup4_if, s0, s1, s2, sm, sn, p0, p1]) rfl ?_
  refine Ew.ld f51_144 rfl rfl rfl rfl ?_
  refine Ew.ld f51_145 rfl rfl rfl rfl ?_
  refine Ew.aastn f51_146 (by simp [zup3_if, zup4_if, s0, s1, s2, sm, sn, p0, p1, zel]) (by simp [zup3_if, zup4_if, s0, s1, s2, sm, sn, p0, p1, zel]) (by simp [zup3_if, zup4_if, s0, s1, s2, sm, sn, p0, p1]) (by simp [zup3_if, zup4_if, s0, s1, s2, sm, sn, p0, p1]) rfl ?_
  refine Ew.iinc (v := nI 3) (ls' := [some (zr (some (2, j, 0))), some (zr (some (3, 2, 0))), some (zr (some (3, 4, 0))), some (zi (nI 3))]) f51_147 rfl rfl rfl rfl ?_
  refine Ew.goto f51_150 rfl ?_
  refine Ew.ld f51_128 rfl rfl rfl rfl ?_
  refine Ew.op (st' := zi (nI 4) :: _) f51_129 rfl rfl ?_
  refine Ew.icmp f51_130 rfl rfl (fun h => absurd h (show ¬ ((nI 4) ≤ ((nI 3) : Int32)) by decide)) (fun _ => ?_)
  refine Ew.ld f51_133 rfl rfl rfl rfl ?_
  refine Ew.getp (v := some (2, j, 1)) f51_134 (by simp [zup3_if, zup4_if, s0, s1, s2, sm, sn, p0, p1]) (by simp [zup3_if, zup4_if, s0, s1, s2, sm, sn, p0, p1]) rfl ?_
  refine Ew.ld f51_137 rfl rfl rfl rfl ?_
  refine Ew.ld f51_138 rfl rfl rfl rfl ?_
  refine Ew.aastn f51_139 (by simp [zup3_if, zup4_if, s0, s1, s2, sm, sn, p0, p1, zel]) (by simp [zup3_if, zup4_if, s0, s1, s2, sm, sn, p0, p1, zel]) (by simp [zup3_if, zup4_if, s0, s1, s2, sm, sn, p0, p1]) (by simp [zup3_if, zup4_if, s0, s1, s2, sm, sn, p0, p1]) rfl ?_
  refine Ew.ld f51_140 rfl rfl rfl rfl ?_
  refine Ew.getp (v := some (2, j, 2)) f51_141 (by simp [zup3_if, zup4_if, s0, s1, s2, sm, sn, p0, p1]) (by simp [zup3_if, zup4_if, s0, s1, s2, sm, sn, p0, p1]) rfl ?_
  refine Ew.ld f51_144 rfl rfl rfl rfl ?_
  refine Ew.ld f51_145 rfl rfl rfl rfl ?_
  refine Ew.aastn f51_146 (by simp [zup3_if, zup4_if, s0, s1, s2, sm, sn, p0, p1, zel]) (by simp [zup3_if, zup4_if, s0, s1, s2, sm, sn, p0, p1, zel]) (by simp [zup3_if, zup4_if, s0, s1, s2, sm, sn, p0, p1]) (by simp [zup3_if, zup4_if, s0, s1, s2, sm, sn, p0, p1]) rfl ?_
  refine Ew.iinc (v := nI 4) (ls' := [some (zr (some (2, j, 0))), some (zr (some (3, 2, 0))), some (zr (some (3, 4, 0))), some (zi (nI 4))]) f51_147 rfl rfl rfl rfl ?_
  refine Ew.goto f51_150 rfl ?_
  refine Ew.ld f51_128 rfl rfl rfl rfl ?_
  refine Ew.op (st' := zi (nI 4) :: _) f51_129 rfl rfl ?_
  refine Ew.icmp f51_130 rfl rfl (fun _ => ?_) (fun h => absurd (show (nI 4) ≤ ((nI 4) : Int32) by decide) h)
  refine Ew.vret f51_153 ?_
  exact h1
