/-! the class: a history gives back, becomes another -/
theorem g3_0 {d c s : Nat} {j N : Nat} {I : zI} {L : zL} {P : zP} {S : zS} {top : Nat} {Q : Option zV → zM → Prop} (hj : j < 2) (hN : I 4 j 0 1 = nI (N + 1)) 
    (h1 : ((nI (N + 1)) ≤ 0) → Q none (I, L, zpj P, zsj S, top))
    (h2 : (0 < (nI (N + 1))) → Ev d c s 3 26 [some (zr (some (4, j, 0))), some (zr (some (2, 0, 0)))] [zi ((zup4 I 4 j 0 1 ((nI (N + 1)) - (nI 1))) 4 j 0 1), zr (some (4, j, 1)), zr (some (2, 0, 0))] (zup4 I 4 j 0 1 ((nI (N + 1)) - (nI 1)), L, zpj P, zsj S, top) Q) : Ev d c s 3 0 [some (zr (some (4, j, 0))), some (zr (some (2, 0, 0)))] [] (I, L, zpj P, zsj S, top) Q := by
  refine Ew.ld f3_0 rfl rfl rfl rfl ?_
  refine Ew.getiV (v := nI (N + 1)) f3_1 (by rw [zsj4 _ hj]; rfl) hN rfl ?_
  refine Ew.ifc f3_4 rfl rfl (fun c1 => ?_) (fun c1 => ?_)
  · refine Ew.vret f3_30 ?_
    exact h1 c1
  · refine Ew.ld f3_7 rfl rfl rfl rfl ?_
    refine Ew.op (st' := zr (some (4, j, 0)) :: zr (some (4, j, 0)) :: _) f3_8 rfl rfl ?_
    refine Ew.getiV (v := nI (N + 1)) f3_9 (by rw [zsj4 _ hj]; rfl) hN rfl ?_
    refine Ew.op (st' := zi (nI 1) :: _) f3_12 rfl rfl ?_
    refine Ew.op (st' := zi ((nI (N + 1)) - (nI 1)) :: _) f3_13 rfl rfl ?_
    refine Ew.puti f3_14 (by rw [zsj4 _ hj]; rfl) rfl ?_
    refine Ew.ld f3_17 rfl rfl rfl rfl ?_
    refine Ew.ld f3_18 rfl rfl rfl rfl ?_
    refine Ew.getp (v := some (4, j, 1)) f3_19 (by rw [zsj4 _ hj]; rfl) rfl rfl ?_
    refine Ew.ld f3_22 rfl rfl rfl rfl ?_
    refine Ew.geti f3_23 (by rw [zsj4 _ hj]; rfl) rfl ?_
    exact h2 (Int32.not_le.mp c1)
theorem g3_26 {d c s : Nat} {j N b : Nat} {I : zI} {L : zL} {P : zP} {S : zS} {top : Nat} {Q : Option zV → zM → Prop} (hj : j < 2) (hb : b < 15) (pk : P 4 j 1 N = some (2, b, 0)) 
    (b1 : N < 6)
    (h1 : Ev d 0 0 52 0 [some (zr (some (2, 0, 0))), some (zr (some (2, b, 0))), none] [] (I, L, zpj P, zsj S, top) (fun r M' => Ev (d + 1) c s 3 30 [some (zr (some (4, j, 0))), some (zr (some (2, 0, 0)))] (zpush r []) M' Q)) : Ev (d + 1) c s 3 26 [some (zr (some (4, j, 0))), some (zr (some (2, 0, 0)))] [zi (nI N), zr (some (4, j, 1)), zr (some (2, 0, 0))] (I, L, zpj P, zsj S, top) Q := by
  refine Ew.aaldn (v := some (2, b, 0)) f3_26 (by rw [zsj4 _ hj]; decide) (by rw [zsj4 _ hj]; exact b1) (by rw [zsj4 _ hj]; decide) rfl (show zpj P 4 j 1 N = _ from pk) ?_
  refine Ew.call0 (ls0 := [some (zr (some (2, 0, 0))), some (zr (some (2, b, 0))), none]) f3_27 rfl (Nat.le_of_ble_eq_true rfl) rfl rfl (Nat.le_of_ble_eq_true rfl) rfl (Nat.le_of_ble_eq_true rfl) rfl rfl ?_
  exact h1
theorem g3_30 {d c s : Nat} {j : Nat} {I : zI} {L : zL} {P : zP} {S : zS} {top : Nat} {Q : Option zV → zM → Prop} (hj : j < 2) 
    (h1 : Q none (I, L, zpj P, zsj S, top)) : Ev d c s 3 30 [some (zr (some (4, j, 0))), some (zr (some (2, 0, 0)))] [] (I, L, zpj P, zsj S, top) Q := by
  refine Ew.vret f3_30 ?_
  exact h1
theorem g4_0 {d c s : Nat} {j k : Nat} {I : zI} {L : zL} {P : zP} {S : zS} {top : Nat} {Q : Option zV → zM → Prop} (hj : j < 2) (hk : k < 2) 
    (h1 : Ev d c s 4 10 [some (zr (some (4, j, 0))), some (zr (some (4, k, 0))), some (zi (nI 0))] [] (zup4 I 4 j 0 1 (I 4 k 0 1), L, zpj P, zsj S, top) Q) : Ev d c s 4 0 [some (zr (some (4, j, 0))), some (zr (some (4, k, 0))), none] [] (I, L, zpj P, zsj S, top) Q := by
  refine Ew.ld f4_0 rfl rfl rfl rfl ?_
  refine Ew.ld f4_1 rfl rfl rfl rfl ?_
  refine Ew.geti f4_2 (by rw [zsj4 _ hk]; rfl) rfl ?_
  refine Ew.puti f4_5 (by rw [zsj4 _ hj]; rfl) rfl ?_
  refine Ew.op (st' := zi (nI 0) :: _) f4_8 rfl rfl ?_
  refine Ew.sr (ls' := [some (zr (some (4, j, 0))), some (zr (some (4, k, 0))), some (zi (nI 0))]) f4_9 rfl rfl (Nat.le_of_ble_eq_true rfl) rfl rfl ?_
  exact h1
theorem g4_10 {d c s : Nat} {j k a b n N : Nat} {I : zI} {L : zL} {P : zP} {S : zS} {top : Nat} {Q : Option zV → zM → Prop} (hj : j < 2) (hk : k < 2) (hN : I 4 j 0 1 = nI N) (ha : a < 15) (hb : b < 15) (pa : n < N → P 4 j 1 n = some (2, a, 0)) (pb : n < N → P 4 k 1 n = some (2, b, 0))  (nb_n : n < 5000) (nb_N : N < 5000)
    (h1 : (N ≤ n) → Q none (I, L, zpj P, zsj S, top))
    (b1 : (n < N) → n < 6)
    (b2 : (n < N) → n < 6)
    (h2 : (n < N) → Ev d 0 0 52 0 [some (zr (some (2, a, 0))), some (zr (some (2, b, 0))), none] [] (I, L, zpj P, zsj S, top) (fun r M' => Ev (d + 1) c s 4 33 [some (zr (some (4, j, 0))), some (zr (some (4, k, 0))), some (zi (nI n))] (zpush r []) M' Q)) : Ev (d + 1) c s 4 10 [some (zr (some (4, j, 0))), some (zr (some (4, k, 0))), some (zi (nI n))] [] (I, L, zpj P, zsj S, top) Q := by
  refine Ew.ld f4_10 rfl rfl rfl rfl ?_
  refine Ew.ld f4_11 rfl rfl rfl rfl ?_
  refine Ew.getiV (v := nI N) f4_12 (by rw [zsj4 _ hj]; rfl) hN rfl ?_
  refine Ew.icmp f4_15 rfl rfl (fun c1 => ?_) (fun c1 => ?_)
  · refine Ew.vret f4_39 ?_
    exact h1 ((zle_iff nb_N nb_n).mp c1)
  · refine Ew.ld f4_18 rfl rfl rfl rfl ?_
    refine Ew.getp (v := some (4, j, 1)) f4_19 (by rw [zsj4 _ hj]; rfl) rfl rfl ?_
    refine Ew.ld f4_22 rfl rfl rfl rfl ?_
    refine Ew.aaldn (v := some (2, a, 0)) f4_23 (by rw [zsj4 _ hj]; decide) (by rw [zsj4 _ hj]; exact (b1 (Nat.not_le.mp fun e => c1 ((zle_iff nb_N nb_n).mpr e)))) (by rw [zsj4 _ hj]; decide) rfl (show zpj P 4 j 1 n = _ from (pa (Nat.not_le.mp fun e => c1 ((zle_iff nb_N nb_n).mpr e)))) ?_
    refine Ew.ld f4_24 rfl rfl rfl rfl ?_
    refine Ew.getp (v := some (4, k, 1)) f4_25 (by rw [zsj4 _ hk]; rfl) rfl rfl ?_
    refine Ew.ld f4_28 rfl rfl rfl rfl ?_
    refine Ew.aaldn (v := some (2, b, 0)) f4_29 (by rw [zsj4 _ hk]; decide) (by rw [zsj4 _ hk]; exact (b2 (Nat.not_le.mp fun e => c1 ((zle_iff nb_N nb_n).mpr e)))) (by rw [zsj4 _ hk]; decide) rfl (show zpj P 4 k 1 n = _ from (pb (Nat.not_le.mp fun e => c1 ((zle_iff nb_N nb_n).mpr e)))) ?_
    refine Ew.call0 (ls0 := [some (zr (some (2, a, 0))), some (zr (some (2, b, 0))), none]) f4_30 rfl (Nat.le_of_ble_eq_true rfl) rfl rfl (Nat.le_of_ble_eq_true rfl) (by show (zsj S 2 a 0).1 = _; rw [zsj2 _ ha]; rfl) (Nat.le_of_ble_eq_true rfl) rfl rfl ?_
    exact h2 (Nat.not_le.mp fun e => c1 ((zle_iff nb_N nb_n).mpr e))
theorem g4_33 {d c s : Nat} {j k n : Nat} {I : zI} {L : zL} {P : zP} {S : zS} {top : Nat} {Q : Option zV → zM → Prop} (hj : j < 2) (hk : k < 2) 
    (h1 : Ev d c s 4 10 [some (zr (some (4, j, 0))), some (zr (some (4, k, 0))), some (zi (nI (n + 1)))] [] (I, L, zpj P, zsj S, top) Q) : Ev d c s 4 33 [some (zr (some (4, j, 0))), some (zr (some (4, k, 0))), some (zi (nI n))] [] (I, L, zpj P, zsj S, top) Q := by
  refine Ew.iinc (v := nI (n + 1)) (ls' := [some (zr (some (4, j, 0))), some (zr (some (4, k, 0))), some (zi (nI (n + 1)))]) f4_33 rfl (nI_1 _) rfl rfl ?_
  refine Ew.goto f4_36 rfl ?_
  exact h1
theorem sp_hGive {d c s b j base : Nat} {H : List (Nat → Int32)} {w : Nat → Int32} {I : zI} {L : zL} {P : zP} {S : zS} {top : Nat} {Q : Option zV → zM → Prop} (hj : j < 2) (hb : 1 ≤ base ∧ base + 6 ≤ 15) (h : cHs I P S b j base (H ++ [w])) (k : ∀ I' P', (∀ r j' q i, ¬ ((r = 4 ∧ j' = j) ∨ (r = 2 ∧ j' = 0)) → I' r j' q i = I r j' q i ∧ P' r j' q i = P r j' q i) → cHs I' P' S b j base H → cTb I' P' S b 0 w → Q none (I', L, zpj P', zsj S, top)) : Ev (d + 1) c s 3 0 [some (zr (some (4, j, 0))), some (zr (some (2, 0, 0)))] [] (I, L, zpj P, zsj S, top) Q := by
  obtain ⟨p, ⟨q1, q2⟩, hl, hs, ht⟩ := h
  rw [List.length_append] at hl hs
  have hl : H.length + 1 ≤ 6 := hl
  have hs : I 4 j 0 1 = nI (H.length + 1) := hs
  have aN := q1 H.length (by omega)
  refine g3_0 (d := d + 1) (N := H.length) hj hs (fun g => absurd g (Int32.not_le.mpr ((zlt_iff (a := 0) (by decide) (by omega)).mpr (by omega)))) (fun _ => ?_)
  have e1 : nI (H.length + 1) - nI 1 = nI H.length := pk_sub (a := H.length + 1) (b := 1) (by omega)
  rw [zu4s, e1]
  have oldT : cTb I P S b (p H.length) w := by
    have := ht H.length (by rw [List.length_append]; exact Nat.lt_succ_self _)
    rw [List.getElem_append_right (Nat.le_refl _)] at this
    simp only [Nat.sub_self, List.getElem_cons_zero] at this
    exact this
  have hw1 : cTb (zup4 I 4 j 0 1 (nI H.length)) P S b (p H.length) w := oldT.fr (Nat.le_refl _) (fun q i => zu4n _ _ (by omega)) (fun _ _ => rfl) (fun n _ => ⟨funext fun i => zu4n _ _ (by omega), rfl, rfl⟩)
  refine g3_26 (d := d) (N := H.length) (b := p H.length) hj (by omega) aN.2.2 (by omega) (sp_cBec (by decide) (by omega) (by omega) hw1.po (fun I2 P2 hB => g3_30 hj ?_))
  have f2 : ∀ r j' q i, ¬ (r = 2 ∧ j' = 0) → I2 r j' q i = zup4 I 4 j 0 1 (nI H.length) r j' q i ∧ P2 r j' q i = P r j' q i := fun r j' q i g => ⟨hB.1.1 r j' q i g, hB.1.2 r j' q i g⟩
  refine k I2 P2 (fun r j' q i g => ?_) ⟨p, ⟨fun k hk => ⟨(q1 k hk).1, (q1 k hk).2.1, (f2 4 j 1 k (by omega)).2.trans (q1 k hk).2.2⟩, q2⟩, by omega, ?_, fun k hk => ?_⟩ (cTb.be hB hw1)
  · have := f2 r j' q i (by omega)
    rw [zu4n _ _ (by omega)] at this
    exact this
  · rw [(f2 4 j 0 1 (by omega)).1, zu4s]
  · have t0 := ht k (by rw [List.length_append]; exact Nat.lt_succ_of_lt hk)
    rw [List.getElem_append_left hk] at t0
    have ak := q1 k (by omega)
    refine t0.fr (Nat.le_refl _) (fun q i => ?_) (fun q i => (f2 _ _ _ _ (by omega)).2) (fun n _ => ⟨funext fun i => ?_, funext fun i => (f2 3 n 0 i (by omega)).2, rfl⟩)
    · rw [(f2 2 (p k) q i (by omega)).1, zu4n _ _ (by omega)]
    · rw [(f2 3 n 0 i (by omega)).1, zu4n _ _ (by omega)]
theorem sp_hBec {d c s b j k base bask : Nat} {H H0 : List (Nat → Int32)} {I : zI} {L : zL} {P : zP} {S : zS} {top : Nat} {Q : Option zV → zM → Prop} (hj : j < 2) (hk : k < 2) (hne : ¬ j = k) (hb : base + 6 ≤ 15) (hbk : bask + 6 ≤ 15) (hd : base + 6 ≤ bask ∨ bask + 6 ≤ base) (h0 : cHs I P S b j base H0) (h : cHs I P S b k bask H) (kk : ∀ I' P', cHf j base I I' P P' → cHs I' P' S b j base H → Q none (I', L, zpj P', zsj S, top)) : Ev (d + 1) c s 4 0 [some (zr (some (4, j, 0))), some (zr (some (4, k, 0))), none] [] (I, L, zpj P, zsj S, top) Q := by
  obtain ⟨p, ⟨q1, q2⟩, hl, hs, ht⟩ := h
  obtain ⟨p0, ⟨u1, u2⟩, _, _, _⟩ := h0
  refine g4_0 hj hk ?_
  rw [hs]
  have lp : ∀ m, m ≤ H.length → ∀ I' P', cHf j base I I' P P' → I' 4 j 0 1 = nI H.length → (∀ q i, P' 4 j q i = P 4 j q i) → (∀ i (h : i < H.length), i < H.length - m → cTb I' P' S b (p0 i) H[i]) → Ev (d + 1) c s 4 10 [some (zr (some (4, j, 0))), some (zr (some (4, k, 0))), some (zi (nI (H.length - m)))] [] (I', L, zpj P', zsj S, top) Q := by
    intro m
    induction m with
    | zero =>
      intro _ I' P' f1 f2 f3 f4
      refine g4_10 (d := d) (N := H.length) (a := 0) (b := 0) hj hk f2 (by decide) (by decide) (fun q => by omega) (fun q => by omega) (by omega) (by omega) (fun _ => kk I' P' f1 ⟨p0, ⟨fun k hk => ⟨(u1 k hk).1, (u1 k hk).2.1, (f3 1 k).trans (u1 k hk).2.2⟩, u2⟩, hl, f2, fun i hi => f4 i hi (by omega)⟩) (fun q => by omega) (fun q => by omega) (fun q => by omega)
    | succ m ih =>
      intro hm I' P' f1 f2 f3 f4
      have hn : H.length - (m + 1) < H.length := by omega
      have a := u1 (H.length - (m + 1)) (by omega)
      have b' := q1 (H.length - (m + 1)) (by omega)
      have src : cTb I' P' S b (p (H.length - (m + 1))) H[H.length - (m + 1)] := (ht _ hn).fr (Nat.le_refl _) (fun q i => (f1 _ _ _ _ (by omega)).1) (fun q i => (f1 _ _ _ _ (by omega)).2) f1.old
      refine g4_10 (d := d) (N := H.length) (a := p0 (H.length - (m + 1))) (b := p (H.length - (m + 1))) hj hk f2 (by omega) (by omega) (fun _ => (f3 _ _).trans a.2.2) (fun _ => (f1 4 k 1 _ (by omega)).2.trans b'.2.2) (by omega) (by omega) (fun q => by omega) (fun _ => by omega) (fun _ => by omega) (fun _ => sp_cBec (by omega) (by omega) (by omega) src.po (fun I2 P2 hB => g4_33 hj hk ?_))
      have g2 : ∀ r j' q i, ¬ (r = 2 ∧ j' = p0 (H.length - (m + 1))) → I2 r j' q i = I' r j' q i ∧ P2 r j' q i = P' r j' q i := fun r j' q i g => ⟨hB.1.1 r j' q i g, hB.1.2 r j' q i g⟩
      rw [show H.length - (m + 1) + 1 = H.length - m by omega]
      refine ih (by omega) I2 P2 (fun r j' q i g => ?_) ((g2 4 j 0 1 (by omega)).1.trans f2) (fun q i => (g2 4 j q i (by omega)).2.trans (f3 q i)) (fun i hi hi2 => ?_)
      · have x1 := f1 r j' q i g
        have x2 := g2 r j' q i (by omega)
        exact ⟨x2.1.trans x1.1, x2.2.trans x1.2⟩
      · by_cases e : i = H.length - (m + 1)
        · subst e
          exact cTb.be hB src
        · have ne : ¬ p0 i = p0 (H.length - (m + 1)) := fun q => e (u2 _ _ (by omega) (by omega) q)
          exact (f4 i hi (by omega)).fr (Nat.le_refl _) (fun q i' => (g2 _ _ _ _ (by omega)).1) (fun q i' => (g2 _ _ _ _ (by omega)).2) hB.old
  have h1 := lp H.length (Nat.le_refl _) (zup4 I 4 j 0 1 (nI H.length)) P (fun r j' q i g => ⟨zu4n _ _ (by omega), rfl⟩) (zu4s _ _ _ _ _ _) (fun _ _ => rfl) (fun i _ hi => by omega)
  rw [Nat.sub_self] at h1
  exact h1
