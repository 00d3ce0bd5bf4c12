/-! the class: new cells -/
/-- what is new lies behind; all else is as it was -/
def cFn (t : Nat) (I : zI) (L : zL) (P : zP) (S : zS) (I' : zI) (L' : zL) (P' : zP) (S' : zS) : Prop := ∀ r j q, ¬ (r = 3 ∧ t + 9 ≤ j) → I' r j q = I r j q ∧ L' r j q = L r j q ∧ P' r j q = P r j q ∧ S' r j q = S r j q
theorem cFn.trans {t t' : Nat} {I : zI} {L : zL} {P : zP} {S : zS} {I' : zI} {L' : zL} {P' : zP} {S' : zS} {I2 : zI} {L2 : zL} {P2 : zP} {S2 : zS} (h : cFn t I L P S I' L' P' S') (h' : cFn t' I' L' P' S' I2 L2 P2 S2) (ht : t ≤ t') : cFn t I L P S I2 L2 P2 S2 := by
  intro r j q hn
  have a := h r j q hn
  have b := h' r j q (by omega)
  exact ⟨b.1.trans a.1, b.2.1.trans a.2.1, b.2.2.1.trans a.2.2.1, b.2.2.2.trans a.2.2.2⟩
theorem zup3_o {α : Type} (f : Nat → Nat → Nat → α) {r j q : Nat} (v : α) {r' j' q' : Nat} (h : ¬ (r' = r ∧ j' = j ∧ q' = q)) : zup3 f r j q v r' j' q' = f r' j' q' := by
  unfold zup3 zup
  by_cases h1 : r' = r
  · subst h1
    by_cases h2 : j' = j
    · subst h2
      have h3 : ¬ q' = q := fun e => h ⟨rfl, rfl, e⟩
      simp [h3]
    · simp [h2]
  · simp [h1]
theorem zpj_n3 (P : zP) (n : Nat) (v : Nat → Option zR) : zup3 (zpj P) 3 n 0 v = zpj (zup3 P 3 n 0 v) := by
  funext r j q i
  by_cases h : r = 3 ∧ j = n ∧ q = 0
  · obtain ⟨rfl, rfl, rfl⟩ := h
    rw [zup3_s]
    show v i = zup3 P 3 j 0 v 3 j 0 i
    rw [zup3_s]
  · rw [zup3_o _ _ h]
    exact (zpj_st _ _ _ _ _ _ (by rw [zup3_o _ _ h])).symm
theorem zsj_st (S S' : zS) (r j q : Nat) (h : S' r j q = S r j q) : zsj S' r j q = zsj S r j q := by
  unfold zsj
  split
  all_goals first | rfl | exact h
theorem zsj_n3 (S : zS) (n : Nat) (v : Nat × Nat) : zup3 (zsj S) 3 n 0 v = zsj (zup3 S 3 n 0 v) := by
  funext r j q
  by_cases h : r = 3 ∧ j = n ∧ q = 0
  · obtain ⟨rfl, rfl, rfl⟩ := h
    rw [zup3_s]
    show v = zup3 S 3 j 0 v 3 j 0
    rw [zup3_s]
  · rw [zup3_o _ _ h]
    exact (zsj_st _ _ _ _ _ (by rw [zup3_o _ _ h])).symm
theorem cFn_nw {t : Nat} {I : zI} {L : zL} {P : zP} {S : zS} {a : Nat → Int32} {b : Nat → Int64} {x : Nat → Option zR} {y : Nat × Nat} : cFn t I L P S (zup3 I 3 (t + 9) 0 a) (zup3 L 3 (t + 9) 0 b) (zup3 P 3 (t + 9) 0 x) (zup3 S 3 (t + 9) 0 y) := by
  intro r j q h
  have h' : ¬ (r = 3 ∧ j = t + 9 ∧ q = 0) := fun e => h ⟨e.1, by omega⟩
  exact ⟨zup3_o _ _ h', zup3_o _ _ h', zup3_o _ _ h', zup3_o _ _ h'⟩
section
variable {d c s mid pc pc' len t : Nat} {ls : List (Option zV)} {st : List zV} {Q : Option zV → zM → Prop} {a : List Nat} {z : Int} {I : zI} {L : zL} {P : zP} {S : zS}
theorem Ew.newC {ci nf idx : Nat} (hF : zF mid pc = some (.new idx, len, [ci, nf], z)) (hpc : pc + len = pc') (k : ∀ I' L' P' S', cFn t I L P S I' L' P' S' → S' 3 (t + 9) 0 = (ci + 1, 0) → (∀ i, I' 3 (t + 9) 0 i = 0) → Ev d c s mid pc' ls (zr (some (3, t + 9, 0)) :: st) (I', L', zpj P', zsj S', 237 + (t + 1)) Q) : Ev d (c + 1) (s + nf) mid pc ls st (I, L, zpj P, zsj S, 237 + t) Q := by
  refine Ew.mk (c' := c) (s' := s) (st' := zr (some (3, t + 9, 0)) :: st) (M' := (zup3 I 3 (t + 9) 0 (fun _ => 0), zup3 L 3 (t + 9) 0 (fun _ => 0), zpj (zup3 P 3 (t + 9) 0 (fun _ => none)), zsj (zup3 S 3 (t + 9) 0 (ci + 1, 0)), 237 + (t + 1))) hF rfl (fun k h => ?_) hpc (k _ _ _ _ cFn_nw (zup3_s _ _ _ _ _) (fun i => by rw [zup3_s]))
  refine ⟨Nat.le_add_left 1 c, Nat.le_add_left nf s, ?_⟩
  rw [Nat.add_sub_cancel, Nat.add_sub_cancel]
  unfold znew
  show k c s (zr (some (zal (237 + t))) :: st) (match zal (237 + t) with | (r, j, q) => (zup3 I r j q (fun _ => 0), zup3 L r j q (fun _ => 0), zup3 (zpj P) r j q (fun _ => none), zup3 (zsj S) r j q (ci + 1, 0), 237 + t + 1))
  rw [zal_dyn]
  show k c s _ (_, _, zup3 (zpj P) 3 (t + 9) 0 (fun _ => none), zup3 (zsj S) 3 (t + 9) 0 (ci + 1, 0), _)
  rw [zpj_n3, zsj_n3]
  exact h
theorem Ew.newaC {n tag : Nat} {ty : ArrayType} (hF : zF mid pc = some (.newarray ty, len, a, z)) (hn : n < 5000) (hs : n ≤ s) (hty : zaty ty = tag) (hpc : pc + len = pc') (k : ∀ I' L' P' S', cFn t I L P S I' L' P' S' → S' 3 (t + 9) 0 = (tag, n) → (∀ i, I' 3 (t + 9) 0 i = 0) → Ev d c (s - n) mid pc' ls (zr (some (3, t + 9, 0)) :: st) (I', L', zpj P', zsj S', 237 + (t + 1)) Q) : Ev d (c + 1) s mid pc ls (zi (nI n) :: st) (I, L, zpj P, zsj S, 237 + t) Q := by
  subst hty
  refine Ew.mk (c' := c) (s' := s - n) (st' := zr (some (3, t + 9, 0)) :: st) (M' := (zup3 I 3 (t + 9) 0 (fun _ => 0), zup3 L 3 (t + 9) 0 (fun _ => 0), zpj (zup3 P 3 (t + 9) 0 (fun _ => none)), zsj (zup3 S 3 (t + 9) 0 (zaty ty, n)), 237 + (t + 1))) hF rfl (fun k h => ?_) hpc (k _ _ _ _ cFn_nw (zup3_s _ _ _ _ _) (fun i => by rw [zup3_s]))
  have cn : (nI n).toNatClampNeg = n := nI_clamp (by omega)
  refine ⟨nI_pos (by omega), by rw [cn]; omega, Nat.le_add_left 1 c, by rw [cn]; exact hs, ?_⟩
  rw [cn, Nat.add_sub_cancel]
  unfold znew
  show k c (s - n) (zr (some (zal (237 + t))) :: st) (match zal (237 + t) with | (r, j, q) => (zup3 I r j q (fun _ => 0), zup3 L r j q (fun _ => 0), zup3 (zpj P) r j q (fun _ => none), zup3 (zsj S) r j q (zaty ty, n), 237 + t + 1))
  rw [zal_dyn]
  show k c (s - n) _ (_, _, zup3 (zpj P) 3 (t + 9) 0 (fun _ => none), zup3 (zsj S) 3 (t + 9) 0 (zaty ty, n), _)
  rw [zpj_n3, zsj_n3]
  exact h
/-- a call that makes something -/
theorem Ew.callB {i : Instr} {mode mid' cl na nl bc bs : Nat} {M : zM} {as rest : List zV} {ls0 : List (Option zV)} (hF : zF mid pc = some (i, len, [mode, mid', cl, na, nl, bc, bs], z)) (hi : zcall i = true) (hna : na ≤ st.length) (hrest : st.drop na = rest) (has : (st.take na).reverse = as) (hcat : zcats rest ≤ 8) (hrec : zrec mode cl as M) (hlen : (zent as).length ≤ nl) (hls : zpad (zent as) nl = ls0) (hpc : pc + len = pc') (kk : Ev d bc bs mid' 0 ls0 [] M (fun r M' => Ev (d + 1) c s mid pc' ls (zpush r rest) M' Q)) : Ev (d + 1) (c + bc) (s + bs) mid pc ls st M Q := Ew.call hF hi ⟨Nat.le_add_left _ _, Nat.le_add_left _ _⟩ hna hrest has hcat hrec hlen hls hpc (by rw [Nat.add_sub_cancel, Nat.add_sub_cancel]; exact kk)
end
theorem sp_cpI {d c s r j q n N t : Nat} {I : zI} {L : zL} {P : zP} {S : zS} {Q : Option zV → zM → Prop} (h9 : ¬ r = 9) (hS : zsj S r j q = (20, N)) (hN : N < 5000) (hn : n ≤ N) (hnw' : ¬ (r = 3 ∧ t + 9 ≤ j)) (hs : n ≤ s) (k : ∀ I' L' P' S', cFn t I L P S I' L' P' S' → S' 3 (t + 9) 0 = (20, n) → (∀ i, i < n → I' 3 (t + 9) 0 i = I r j q i) → Q (some (zr (some (3, t + 9, 0)))) (I', L', zpj P', zsj S', 237 + (t + 1))) : Ev (d + 1) (c + 1) s 247 0 [some (zr (some (r, j, q))), some (zi (nI n)), none] [] (I, L, zpj P, zsj S, 237 + t) Q := by
  have h1 : (zsj S r j q).1 = 20 := by rw [hS]
  have h2 : (zsj S r j q).2 = N := by rw [hS]
  refine Ew.ld f247_0 rfl rfl rfl rfl ?_
  refine Ew.ld f247_1 rfl rfl rfl rfl ?_
  refine Ew.alen (n := N) f247_2 (by rw [h1]; exact Nat.le_of_ble_eq_true rfl) h2 rfl ?_
  refine Ew.icmp f247_3 rfl rfl (fun c1 => ?_) (fun c1 => ?_)
  · have c2 : ¬ n = N := fun e => c1 (by rw [e])
    refine Ew.ld f247_14 rfl rfl rfl rfl ?_
    refine Ew.newaC (n := n) f247_15 (by omega) hs rfl rfl (fun I1 L1 P1 S1 hf hs1 hz => ?_)
    refine Ew.sr (ls' := [some (zr (some (r, j, q))), some (zi (nI n)), some (zr (some (3, t + 9, 0)))]) f247_17 rfl rfl (Nat.le_of_ble_eq_true rfl) rfl rfl ?_
    have f1 := hf r j q hnw'
    have e1 : zsj S1 r j q = (20, N) := (zsj_st _ _ _ _ _ f1.2.2.2).trans hS
    have g1 : (zsj S1 r j q).1 = 20 := by rw [e1]
    have g2 : (zsj S1 r j q).2 = N := by rw [e1]
    refine Ew.ld f247_18 rfl rfl rfl rfl ?_
    refine Ew.op (st' := zi (nI 0) :: _) f247_19 rfl rfl ?_
    refine Ew.ld f247_20 rfl rfl rfl rfl ?_
    refine Ew.op (st' := zi (nI 0) :: _) f247_21 rfl rfl ?_
    refine Ew.ld f247_22 rfl rfl rfl rfl ?_
    refine Ew.alen (n := N) f247_23 (by rw [g1]; exact Nat.le_of_ble_eq_true rfl) g2 rfl ?_
    refine Ew.ld f247_24 rfl rfl rfl rfl ?_
    refine Ew.nat (st' := zi (nI n) :: _) f247_25 rfl (fun k h => ⟨Nat.le_of_ble_eq_true rfl, by rw [if_pos ((zlt_iff (by omega) hN).mpr (by omega))]; exact h⟩) rfl ?_
    have c0 : (nI 0).toNatClampNeg = 0 := rfl
    have cn : (nI n).toNatClampNeg = n := nI_clamp (by omega)
    have p0 : ¬ (nI 0 : Int32) < 0 := by decide
    have pn : ¬ (nI n : Int32) < 0 := nI_pos (by omega)
    refine Ew.nat (st' := []) (c' := c) (s' := s - n) (M' := (zup3 I1 3 (t + 9) 0 (va_cpy (I1 r j q) (I1 3 (t + 9) 0) 0 0 n), L1, zpj P1, zsj S1, 237 + (t + 1))) f247_28 rfl (fun k h => ?_) rfl ?_
    · refine ⟨Nat.le_of_ble_eq_true rfl, by decide, h9, ?_, p0, p0, pn, ?_, ?_, Or.inl ⟨?_, ?_⟩⟩
      · show (zsj S1 r j q).1 = (S1 3 (t + 9) 0).1
        rw [g1, hs1]; rfl
      · show (nI 0).toNatClampNeg + (nI n).toNatClampNeg ≤ (zsj S1 r j q).2
        rw [c0, cn, g2]; omega
      · show (nI 0).toNatClampNeg + (nI n).toNatClampNeg ≤ (S1 3 (t + 9) 0).2
        rw [c0, cn, hs1]; exact Nat.le_of_eq (Nat.zero_add n)
      · show (S1 3 (t + 9) 0).1 = 20 ∨ (S1 3 (t + 9) 0).1 = 22
        rw [hs1]; exact Or.inl rfl
      · show k c (s - n) [] (zup3 I1 3 (t + 9) 0 (va_cpy (I1 r j q) (I1 3 (t + 9) 0) (nI 0).toNatClampNeg (nI 0).toNatClampNeg (nI n).toNatClampNeg), _)
        rw [c0, cn]; exact h
    refine Ew.ld f247_31 rfl rfl rfl rfl ?_
    refine Ew.aret f247_32 ?_
    refine k _ _ _ _ (fun r' j' q' h' => ?_) hs1 (fun i hi => ?_)
    · have f2 := hf r' j' q' h'
      refine ⟨?_, f2.2⟩
      rw [zup3_o _ _ (by intro e; exact h' ⟨e.1, by omega⟩)]
      exact f2.1
    · rw [zup3_s]
      show (if 0 ≤ i ∧ i < 0 + n then I1 r j q (0 + (i - 0)) else _) = _
      rw [if_pos ⟨Nat.zero_le _, by omega⟩, f1.1, Nat.sub_zero, Nat.zero_add]
  · have c2 : n = N := (zeq (by omega) hN).mp (Classical.not_not.mp c1)
    refine Ew.ld f247_6 rfl rfl rfl rfl ?_
    refine Ew.nat (st' := [zr (some (3, t + 9, 0))]) (c' := c) (s' := s - n) (M' := (zup3 I 3 (t + 9) 0 (I r j q), zup3 L 3 (t + 9) 0 (fun _ => 0), zpj (zup3 P 3 (t + 9) 0 (fun _ => none)), zsj (zup3 S 3 (t + 9) 0 (20, n)), 237 + (t + 1))) f247_7 rfl (fun k h => ?_) rfl ?_
    · refine ⟨Nat.le_of_ble_eq_true rfl, h9, h1, Nat.le_add_left 1 c, by show (zsj S r j q).2 ≤ s; rw [h2, ← c2]; exact hs, ?_⟩
      show k (c + 1 - 1) (s - (zsj S r j q).2) (zr (some (zal (237 + t))) :: []) _
      rw [h2, ← c2, Nat.add_sub_cancel]
      show k c (s - n) (zr (some (zal (237 + t))) :: []) (match zal (237 + t) with | (r1, j1, q1) => (zup3 I r1 j1 q1 (I r j q), zup3 L r1 j1 q1 (fun _ => 0), zup3 (zpj P) r1 j1 q1 (fun _ => none), zup3 (zsj S) r1 j1 q1 (20, n), 237 + t + 1))
      rw [zal_dyn]
      show k c (s - n) _ (_, _, zup3 (zpj P) 3 (t + 9) 0 (fun _ => none), zup3 (zsj S) 3 (t + 9) 0 (20, n), _)
      rw [zpj_n3, zsj_n3]
      exact h
    refine Ew.mem (st' := [zr (some (3, t + 9, 0))]) f247_10 rfl (fun k h => ⟨by decide, by show (zup3 S 3 (t + 9) 0 (20, n) 3 (t + 9) 0).1 = 20; rw [zup3_s], h⟩) rfl ?_
    refine Ew.aret f247_13 (k _ _ _ _ cFn_nw (zup3_s _ _ _ _ _) (fun i _ => by rw [zup3_s]))
