/-! the class: what a table tells; histories -/
theorem Ew.aastx {F : Nat → Nat → Option zE} {al : Nat → zR} {d c s mid pc pc' len : Nat} {ls : List (Option zV)} {st : List zV} {Q : Option zV → zM → Prop} {a : List Nat} {z : Int} {I : zI} {L : zL} {P : zP} {S : zS} {top : Nat} {r j q : Nat} {x : Int32} {r' j' q' : Nat} (hF : F mid pc = some (.aastore, len, a, z)) (hS : 0 < zel (S r j q).1) (hS' : (S r' j' q').1 = zel (S r j q).1) (hn : vp_in x (S r j q).2) (hpc : pc + len = pc') (k : Ew F al d c s mid pc' ls st (I, L, zup4 P r j q x.toNatClampNeg (some (r', j', q')), S, top) Q) : Ew F al d c s mid pc ls (zr (some (r', j', q')) :: zi x :: zr (some (r, j, q)) :: st) (I, L, P, S, top) Q := Ew.mem hF rfl (fun k h => ⟨hS, hS', hn, h⟩) hpc k
/-- a memory as that of one object -/
theorem ev_om {d c s mid pc : Nat} {ls : List (Option zV)} {st : List zV} {I : zI} {L : zL} {P : zP} {S : zS} {top : Nat} {Q : Option zV → zM → Prop} (r j : Nat) (h : Ev d c s mid pc ls st (OM (I, L, P, S, top) r j (I r j) (L r j)) Q) : Ev d c s mid pc ls st (I, L, zpj P, zsj S, top) Q := by
  have e : OM (I, L, P, S, top) r j (I r j) (L r j) = (I, L, zpj P, zsj S, top) := by
    show (so I r j (I r j), so L r j (L r j), zpj P, zsj S, top) = _
    rw [so_id, so_id]
  rw [e] at h
  exact h
/-- old cells are as they were -/
def cOld (b : Nat) (I : zI) (P : zP) (S : zS) (I' : zI) (P' : zP) (S' : zS) : Prop := ∀ n, n < b → I' 3 n 0 = I 3 n 0 ∧ P' 3 n 0 = P 3 n 0 ∧ S' 3 n 0 = S 3 n 0
theorem cTr.fr {I I' : zI} {P P' : zP} {S S' : zS} {b b' n : Nat} {T : tT} (h : cTr I P S b n T) (hb : b ≤ b') (ho : cOld b I P S I' P' S') : cTr I' P' S' b' n T := by
  obtain ⟨h1, n1, n2, n3, n4, ⟨b0, b1, b2, b3, b4⟩, h3, ⟨a1, a2, a3, a4⟩, ⟨s1, s2, s3, s4⟩, z0, r1, r2, f1, f2, f3, f4, f5⟩ := h
  have o0 := ho n b0
  have o1 := ho n1 b1
  have o2 := ho n2 b2
  have o3 := ho n3 b3
  have o4 := ho n4 b4
  refine ⟨h1, n1, n2, n3, n4, ⟨by omega, by omega, by omega, by omega, by omega⟩, by rw [o0.2.2]; exact h3, ⟨by rw [o0.2.1]; exact a1, by rw [o0.2.1]; exact a2, by rw [o0.2.1]; exact a3, by rw [o0.2.1]; exact a4⟩, ⟨by rw [o1.2.2]; exact s1, by rw [o2.2.2]; exact s2, by rw [o3.2.2]; exact s3, by rw [o4.2.2]; exact s4⟩, by rw [o0.1]; exact z0, fun k hk => by rw [o1.1, o2.1, o3.1]; exact r1 k hk, fun k hk => by rw [o4.1]; exact r2 k hk, by rw [o0.1]; exact f1, by rw [o0.1]; exact f2, by rw [o0.1]; exact f3, by rw [o0.1]; exact f4, by rw [o0.1]; exact f5⟩
theorem cSc.fr {I I' : zI} {P P' : zP} {S S' : zS} {b b' n : Nat} {A : List Nat} (h : cSc I P S b n A) (hb : b ≤ b') (ho : cOld b I P S I' P' S') : cSc I' P' S' b' n A := by
  obtain ⟨h1, h2, a, ⟨b0, b1⟩, h3, h4, h5, h6⟩ := h
  have o0 := ho n b0
  have o1 := ho a b1
  exact ⟨h1, h2, a, ⟨by omega, by omega⟩, by rw [o0.2.2]; exact h3, by rw [o0.2.1]; exact h4, by rw [o1.2.2]; exact h5, fun k hk => by rw [o1.1]; exact h6 k hk⟩
/-- a table tells a row -/
def cTb (I : zI) (P : zP) (S : zS) (b j : Nat) (w : Nat → Int32) : Prop := cTI (tτ w) (I 2 j) w ∧ ∀ t, t < 4 → (∃ m, P 2 j 1 t = some (3, m, 0) ∧ cSc I P S b m (tL w t)) ∧ ∃ n, P 2 j 2 t = some (3, n, 0) ∧ cTr I P S b n (tTr w t)
theorem cTb.fr {I I' : zI} {P P' : zP} {S S' : zS} {b b' j j' : Nat} {w : Nat → Int32} (h : cTb I P S b j w) (hb : b ≤ b') (h2 : ∀ q i, I' 2 j' q i = I 2 j q i) (hp : ∀ q i, P' 2 j' q i = P 2 j q i) (ho : cOld b I P S I' P' S') : cTb I' P' S' b' j' w := by
  have e : I' 2 j' = I 2 j := by funext q i; exact h2 q i
  refine ⟨by rw [e]; exact h.1, fun t ht => ?_⟩
  obtain ⟨⟨m, p1, c1⟩, n, p2, c2⟩ := h.2 t ht
  exact ⟨⟨m, (hp 1 t).trans p1, c1.fr hb ho⟩, n, (hp 2 t).trans p2, c2.fr hb ho⟩
theorem cTb.ps {I : zI} {L : zL} {P : zP} {S : zS} {top b j : Nat} {w : Nat → Int32} (h : cTb I P S b j w) (hx : tTx w) : cPs (I, L, P, S, top) j b (tτ w) := by
  intro t ht
  obtain ⟨_, n, pn, cn⟩ := h.2 t ht
  exact ⟨n, tTr w t, pn, cn, rTrs_τ hx t ht, tTr_ok hx ht⟩
theorem cTb.po {I : zI} {P : zP} {S : zS} {b j : Nat} {w : Nat → Int32} (h : cTb I P S b j w) : cPo P S j := by
  intro t ht
  obtain ⟨⟨m, p1, c1⟩, n, p2, c2⟩ := h.2 t ht
  exact ⟨m, n, ⟨p1, c1.sh⟩, p2, c2.sh⟩
theorem cBe.old {j k b : Nat} {I I' : zI} {P P' : zP} {S : zS} (h : cBe j k I I' P P') : cOld b I P S I' P' S := fun n _ => ⟨funext fun i => h.1.1 3 n 0 i (by omega), funext fun i => h.1.2 3 n 0 i (by omega), rfl⟩
theorem cTb.be {I I' : zI} {P P' : zP} {S : zS} {b j k : Nat} {w : Nat → Int32} (hb : cBe j k I I' P P') (h : cTb I P S b k w) : cTb I' P' S b j w := by
  have ho := cBe.old (b := b) (S := S) hb
  obtain ⟨_, ⟨a1, a2, a3, a4⟩, hg, ht⟩ := hb
  obtain ⟨⟨⟨c1, c2, c3, c4⟩, cg, ct⟩, hp⟩ := h
  refine ⟨⟨⟨a1.trans c1, a2.trans c2, a3.trans c3, a4.trans c4⟩, fun g h6 => ?_, fun t h4 => ?_⟩, fun t h4 => ?_⟩
  · obtain ⟨x1, x2, x3⟩ := hg g h6
    obtain ⟨y1, y2, y3⟩ := cg g h6
    exact ⟨x1.trans y1, x2.trans y2, x3.trans y3⟩
  · obtain ⟨⟨x1, x2, x3, x4, x5⟩, _⟩ := ht t h4
    obtain ⟨y1, y2, y3, y4, y5⟩ := ct t h4
    exact ⟨x1.trans y1, x2.trans y2, x3.trans y3, x4.trans y4, x5.trans y5⟩
  · obtain ⟨_, x1, x2⟩ := ht t h4
    obtain ⟨⟨m, p1, c1⟩, n, p2, c2⟩ := hp t h4
    exact ⟨⟨m, x1.trans p1, c1.fr (Nat.le_refl _) ho⟩, n, x2.trans p2, c2.fr (Nat.le_refl _) ho⟩
/-- a history's tables -/
def cHq (P : zP) (j base : Nat) (p : Nat → Nat) : Prop := (∀ k, k < 6 → base ≤ p k ∧ p k < base + 6 ∧ P 4 j 1 k = some (2, p k, 0)) ∧ ∀ k k', k < 6 → k' < 6 → p k = p k' → k = k'
def cHs (I : zI) (P : zP) (S : zS) (b j base : Nat) (H : List (Nat → Int32)) : Prop := ∃ p, cHq P j base p ∧ H.length ≤ 6 ∧ I 4 j 0 1 = nI H.length ∧ ∀ k (h : k < H.length), cTb I P S b (p k) H[k]
def cHf (j base : Nat) (I I' : zI) (P P' : zP) : Prop := ∀ r j' q i, ¬ ((r = 4 ∧ j' = j) ∨ (r = 2 ∧ base ≤ j' ∧ j' < base + 6)) → I' r j' q i = I r j' q i ∧ P' r j' q i = P r j' q i
theorem cHf.old {j base b : Nat} {I I' : zI} {P P' : zP} {S : zS} (h : cHf j base I I' P P') : cOld b I P S I' P' S := fun n _ => ⟨funext fun i => (h 3 n 0 i (by omega)).1, funext fun i => (h 3 n 0 i (by omega)).2, rfl⟩
theorem cHf.trans {j base : Nat} {I I' I'' : zI} {P P' P'' : zP} (h : cHf j base I I' P P') (h' : cHf j base I' I'' P' P'') : cHf j base I I'' P P'' := fun r j' q i g => ⟨(h' r j' q i g).1.trans (h r j' q i g).1, (h' r j' q i g).2.trans (h r j' q i g).2⟩
theorem cHs.fr {I I' : zI} {P P' : zP} {S S' : zS} {b b' j base : Nat} {H : List (Nat → Int32)} (h : cHs I P S b j base H) (hb : b ≤ b') (h4 : ∀ q i, I' 4 j q i = I 4 j q i ∧ P' 4 j q i = P 4 j q i) (h2 : ∀ j', base ≤ j' → j' < base + 6 → ∀ q i, I' 2 j' q i = I 2 j' q i ∧ P' 2 j' q i = P 2 j' q i) (ho : cOld b I P S I' P' S') : cHs I' P' S' b' j base H := by
  obtain ⟨p, ⟨q1, q2⟩, hl, hs, ht⟩ := h
  refine ⟨p, ⟨fun k hk => ⟨(q1 k hk).1, (q1 k hk).2.1, (h4 1 k).2.trans (q1 k hk).2.2⟩, q2⟩, hl, (h4 0 1).1.trans hs, fun k hk => ?_⟩
  have a := q1 k (by omega)
  exact (ht k hk).fr hb (fun q i => (h2 _ a.1 a.2.1 q i).1) (fun q i => (h2 _ a.1 a.2.1 q i).2) ho
theorem g5_0 {d c s : Nat} {j a : Nat} {I : zI} {L : zL} {P : zP} {S : zS} {top : Nat} {Q : Option zV → zM → Prop} (hj : j < 2) (ha : a < 15) (p0 : P 4 j 1 0 = some (2, a, 0)) 
    (h1 : Ev d c s 5 9 [some (zr (some (4, j, 0))), some (zr (some (2, a, 0))), some (zi (nI 1))] [] (I, L, zpj P, zsj S, top) Q) : Ev d c s 5 0 [some (zr (some (4, j, 0))), none, none] [] (I, L, zpj P, zsj S, top) Q := by
  refine Ew.ld f5_0 rfl rfl rfl rfl ?_
  refine Ew.getp (v := some (4, j, 1)) f5_1 (by rw [zsj4 _ hj]; rfl) rfl rfl ?_
  refine Ew.op (st' := zi (nI 0) :: _) f5_4 rfl rfl ?_
  refine Ew.aaldn (v := some (2, a, 0)) f5_5 (by rw [zsj4 _ hj]; decide) (by rw [zsj4 _ hj]; exact (show 0 < 6 by decide)) (by rw [zsj4 _ hj]; decide) rfl (show zpj P 4 j 1 0 = _ from p0) ?_
  refine Ew.sr (ls' := [some (zr (some (4, j, 0))), some (zr (some (2, a, 0))), none]) f5_6 rfl rfl (Nat.le_of_ble_eq_true rfl) rfl rfl ?_
  refine Ew.op (st' := zi (nI 1) :: _) f5_7 rfl rfl ?_
  refine Ew.sr (ls' := [some (zr (some (4, j, 0))), some (zr (some (2, a, 0))), some (zi (nI 1))]) f5_8 rfl rfl (Nat.le_of_ble_eq_true rfl) rfl rfl ?_
  exact h1
theorem g5_9 {d c s : Nat} {j a b k : Nat} {I : zI} {L : zL} {P : zP} {S : zS} {top : Nat} {Q : Option zV → zM → Prop} (hj : j < 2) (ha : a < 15) (hb : b < 15) (pk : k < 6 → P 4 j 1 k = some (2, b, 0))  (nb_k : k < 5000)
    (h1 : (6 ≤ k) → Q none (zup4 I 4 j 0 1 ((I 4 j 0 1) - (nI 1)), L, zpj (zup4 P 4 j 1 5 (some (2, a, 0))), zsj S, top))
    (b1 : (k < 6) → k < 6)
    (b2 : (k < 6) → vp_in ((nI k) - (nI 1)) 6)
    (h2 : (k < 6) → Ev d c s 5 9 [some (zr (some (4, j, 0))), some (zr (some (2, a, 0))), some (zi (nI (k + 1)))] [] (I, L, zpj (zup4 P 4 j 1 (((nI k) - (nI 1)).toNatClampNeg) (some (2, b, 0))), zsj S, top) Q) : Ev d c s 5 9 [some (zr (some (4, j, 0))), some (zr (some (2, a, 0))), some (zi (nI k))] [] (I, L, zpj P, zsj S, top) Q := by
  refine Ew.ld f5_9 rfl rfl rfl rfl ?_
  refine Ew.op (st' := zi (nI 6) :: _) f5_10 rfl rfl ?_
  refine Ew.icmp f5_12 rfl rfl (fun c1 => ?_) (fun c1 => ?_)
  · refine Ew.ld f5_35 rfl rfl rfl rfl ?_
    refine Ew.getp (v := some (4, j, 1)) f5_36 (by rw [zsj4 _ hj]; rfl) rfl rfl ?_
    refine Ew.op (st' := zi (nI 5) :: _) f5_39 rfl rfl ?_
    refine Ew.ld f5_40 rfl rfl rfl rfl ?_
    refine Ew.aastn f5_41 (by rw [zsj4 _ hj]; decide) (by show (zsj S 2 a 0).1 = zel (zsj S 4 j 1).1; rw [zsj2 _ ha, zsj4 _ hj]; rfl) (by rw [zsj4 _ hj]; exact (show 5 < 6 by decide)) (by rw [zsj4 _ hj]; decide) rfl ?_
    rw [zpj_up (r := 4) (j := j) (q := 1) (n := 5) (fun _ => rfl)]
    show Ev d c s 5 42 [some (zr (some (4, j, 0))), some (zr (some (2, a, 0))), some (zi (nI k))] [] (I, L, zpj (zup4 P 4 j 1 5 (some (2, a, 0))), zsj S, top) Q
    refine Ew.ld f5_42 rfl rfl rfl rfl ?_
    refine Ew.op (st' := zr (some (4, j, 0)) :: zr (some (4, j, 0)) :: _) f5_43 rfl rfl ?_
    refine Ew.geti f5_44 (by rw [zsj4 _ hj]; rfl) rfl ?_
    refine Ew.op (st' := zi (nI 1) :: _) f5_47 rfl rfl ?_
    refine Ew.op (st' := zi ((I 4 j 0 1) - (nI 1)) :: _) f5_48 rfl rfl ?_
    refine Ew.puti f5_49 (by rw [zsj4 _ hj]; rfl) rfl ?_
    refine Ew.vret f5_52 ?_
    exact h1 ((zle_iff (by decide) nb_k).mp c1)
  · refine Ew.ld f5_15 rfl rfl rfl rfl ?_
    refine Ew.getp (v := some (4, j, 1)) f5_16 (by rw [zsj4 _ hj]; rfl) rfl rfl ?_
    refine Ew.ld f5_19 rfl rfl rfl rfl ?_
    refine Ew.op (st' := zi (nI 1) :: _) f5_20 rfl rfl ?_
    refine Ew.op (st' := zi ((nI k) - (nI 1)) :: _) f5_21 rfl rfl ?_
    refine Ew.ld f5_22 rfl rfl rfl rfl ?_
    refine Ew.getp (v := some (4, j, 1)) f5_23 (by rw [zsj4 _ hj]; rfl) rfl rfl ?_
    refine Ew.ld f5_26 rfl rfl rfl rfl ?_
    refine Ew.aaldn (v := some (2, b, 0)) f5_27 (by rw [zsj4 _ hj]; decide) (by rw [zsj4 _ hj]; exact (b1 (Nat.not_le.mp fun e => c1 ((zle_iff (by decide) nb_k).mpr e)))) (by rw [zsj4 _ hj]; decide) rfl (show zpj P 4 j 1 k = _ from (pk (Nat.not_le.mp fun e => c1 ((zle_iff (by decide) nb_k).mpr e)))) ?_
    refine Ew.aastx f5_28 (by rw [zsj4 _ hj]; decide) (by show (zsj S 2 b 0).1 = zel (zsj S 4 j 1).1; rw [zsj2 _ hb, zsj4 _ hj]; rfl) (by rw [zsj4 _ hj]; exact (b2 (Nat.not_le.mp fun e => c1 ((zle_iff (by decide) nb_k).mpr e)))) rfl ?_
    rw [zpj_up (r := 4) (j := j) (q := 1) (n := ((nI k) - (nI 1)).toNatClampNeg) (fun _ => rfl)]
    show Ev d c s 5 29 [some (zr (some (4, j, 0))), some (zr (some (2, a, 0))), some (zi (nI k))] [] (I, L, zpj (zup4 P 4 j 1 (((nI k) - (nI 1)).toNatClampNeg) (some (2, b, 0))), zsj S, top) Q
    refine Ew.iinc (v := nI (k + 1)) (ls' := [some (zr (some (4, j, 0))), some (zr (some (2, a, 0))), some (zi (nI (k + 1)))]) f5_29 rfl (nI_1 _) rfl rfl ?_
    refine Ew.goto f5_32 rfl ?_
    exact h2 (Nat.not_le.mp fun e => c1 ((zle_iff (by decide) nb_k).mpr e))
theorem g2_0 {d c s : Nat} {j N : Nat} {I : zI} {L : zL} {P : zP} {S : zS} {top : Nat} {Q : Option zV → zM → Prop} (hj : j < 2) (hN : I 4 j 0 1 = nI N)  (nb_N : N < 5000)
    (h1 : (¬ N = 6) → Ev (d + 1) c s 2 13 [some (zr (some (4, j, 0))), some (zr (some (2, 0, 0)))] [] (I, L, zpj P, zsj S, top) Q)
    (h2 : (N = 6) → Ev d 0 0 5 0 [some (zr (some (4, j, 0))), none, none] [] (I, L, zpj P, zsj S, top) (fun r M' => Ev (d + 1) c s 2 13 [some (zr (some (4, j, 0))), some (zr (some (2, 0, 0)))] (zpush r []) M' Q)) : Ev (d + 1) c s 2 0 [some (zr (some (4, j, 0))), some (zr (some (2, 0, 0)))] [] (I, L, zpj P, zsj S, top) Q := by
  refine Ew.ld f2_0 rfl rfl rfl rfl ?_
  refine Ew.getiV (v := nI N) f2_1 (by rw [zsj4 _ hj]; rfl) hN rfl ?_
  refine Ew.op (st' := zi (nI 6) :: _) f2_4 rfl rfl ?_
  refine Ew.icmp f2_6 rfl rfl (fun c1 => ?_) (fun c1 => ?_)
  · exact h1 (fun e => c1 ((zeq nb_N (by decide)).mpr e))
  · refine Ew.ld f2_9 rfl rfl rfl rfl ?_
    refine Ew.call0 (ls0 := [some (zr (some (4, j, 0))), none, none]) f2_10 rfl (Nat.le_of_ble_eq_true rfl) rfl rfl (Nat.le_of_ble_eq_true rfl) (by show (zsj S 4 j 0).1 = _; rw [zsj4 _ hj]; rfl) (Nat.le_of_ble_eq_true rfl) rfl rfl ?_
    exact h2 ((zeq nb_N (by decide)).mp (Classical.not_not.mp c1))
theorem g2_13 {d c s : Nat} {j N b : Nat} {I : zI} {L : zL} {P : zP} {S : zS} {top : Nat} {Q : Option zV → zM → Prop} (hj : j < 2) (hN : I 4 j 0 1 = nI N) (hb : b < 15) (pk : P 4 j 1 N = some (2, b, 0)) 
    (b1 : N < 6)
    (h1 : Ev d 0 0 52 0 [some (zr (some (2, b, 0))), some (zr (some (2, 0, 0))), none] [] (I, L, zpj P, zsj S, top) (fun r M' => Ev (d + 1) c s 2 26 [some (zr (some (4, j, 0))), some (zr (some (2, 0, 0)))] (zpush r []) M' Q)) : Ev (d + 1) c s 2 13 [some (zr (some (4, j, 0))), some (zr (some (2, 0, 0)))] [] (I, L, zpj P, zsj S, top) Q := by
  refine Ew.ld f2_13 rfl rfl rfl rfl ?_
  refine Ew.getp (v := some (4, j, 1)) f2_14 (by rw [zsj4 _ hj]; rfl) rfl rfl ?_
  refine Ew.ld f2_17 rfl rfl rfl rfl ?_
  refine Ew.getiV (v := nI N) f2_18 (by rw [zsj4 _ hj]; rfl) hN rfl ?_
  refine Ew.aaldn (v := some (2, b, 0)) f2_21 (by rw [zsj4 _ hj]; decide) (by rw [zsj4 _ hj]; exact b1) (by rw [zsj4 _ hj]; decide) rfl (show zpj P 4 j 1 N = _ from pk) ?_
  refine Ew.ld f2_22 rfl rfl rfl rfl ?_
  refine Ew.call0 (ls0 := [some (zr (some (2, b, 0))), some (zr (some (2, 0, 0))), none]) f2_23 rfl (Nat.le_of_ble_eq_true rfl) rfl rfl (Nat.le_of_ble_eq_true rfl) (by show (zsj S 2 b 0).1 = _; rw [zsj2 _ hb]; rfl) (Nat.le_of_ble_eq_true rfl) rfl rfl ?_
  exact h1
theorem g2_26 {d c s : Nat} {j N : Nat} {I : zI} {L : zL} {P : zP} {S : zS} {top : Nat} {Q : Option zV → zM → Prop} (hj : j < 2) (hN : I 4 j 0 1 = nI N) 
    (h1 : Q none (zup4 I 4 j 0 1 (nI (N + 1)), L, zpj P, zsj S, top)) : Ev d c s 2 26 [some (zr (some (4, j, 0))), some (zr (some (2, 0, 0)))] [] (I, L, zpj P, zsj S, top) Q := by
  refine Ew.ld f2_26 rfl rfl rfl rfl ?_
  refine Ew.op (st' := zr (some (4, j, 0)) :: zr (some (4, j, 0)) :: _) f2_27 rfl rfl ?_
  refine Ew.getiV (v := nI N) f2_28 (by rw [zsj4 _ hj]; rfl) hN rfl ?_
  refine Ew.op (st' := zi (nI 1) :: _) f2_31 rfl rfl ?_
  refine Ew.addn f2_32 rfl ?_
  refine Ew.puti f2_33 (by rw [zsj4 _ hj]; rfl) rfl ?_
  refine Ew.vret f2_36 ?_
  exact h1
theorem sp_hLose {d c s b j base : Nat} {H : List (Nat → Int32)} {I : zI} {L : zL} {P : zP} {S : zS} {top : Nat} {Q : Option zV → zM → Prop} (hj : j < 2) (hb : base + 6 ≤ 15) (h : cHs I P S b j base H) (h6 : H.length = 6) (k : ∀ I' P', cHf j base I I' P P' → cHs I' P' S b j base H.tail → Q none (I', L, zpj P', zsj S, top)) : Ev d c s 5 0 [some (zr (some (4, j, 0))), none, none] [] (I, L, zpj P, zsj S, top) Q := by
  obtain ⟨p, ⟨q1, q2⟩, hl, hs, ht⟩ := h
  have a0 := q1 0 (by decide)
  refine g5_0 hj (by omega) a0.2.2 ?_
  have lp : ∀ m, m ≤ 5 → ∀ P', (∀ r j' q i, ¬ (r = 4 ∧ j' = j ∧ q = 1) → P' r j' q i = P r j' q i) → (∀ i, i < 6 - m - 1 → P' 4 j 1 i = some (2, p (i + 1), 0)) → (∀ i, 6 - m ≤ i → i < 6 → P' 4 j 1 i = some (2, p i, 0)) → Ev d c s 5 9 [some (zr (some (4, j, 0))), some (zr (some (2, p 0, 0))), some (zi (nI (6 - m)))] [] (I, L, zpj P', zsj S, top) Q := by
    intro m
    induction m with
    | zero =>
      intro _ P' f1 f2 f3
      refine g5_9 (b := 0) hj (by omega) (by decide) (fun q => by omega) (by omega) (fun _ => k _ _ (fun r j' q i g => ⟨zu4n _ _ (by omega), ?_⟩) ?_) (fun q => by omega) (fun q => by omega) (fun q => by omega)
      · rw [zu4n _ _ (by omega)]; exact f1 r j' q i (by omega)
      · refine ⟨fun i => if i = 5 then p 0 else p (i + 1), ⟨fun k hk => ?_, fun k k' hk hk' e => ?_⟩, by rw [List.length_tail]; omega, ?_, fun k hk => ?_⟩
        · by_cases e : k = 5
          · subst e
            exact ⟨a0.1, a0.2.1, zu4s _ _ _ _ _ _⟩
          · simp only [if_neg e]
            have ak := q1 (k + 1) (by omega)
            refine ⟨ak.1, ak.2.1, ?_⟩
            rw [zu4n _ _ (by omega)]
            exact f2 k (by omega)
        · by_cases e1 : k = 5 <;> by_cases e2 : k' = 5
          · omega
          · simp only [if_pos e1, if_neg e2] at e
            have := q2 0 (k' + 1) (by omega) (by omega) e
            omega
          · simp only [if_neg e1, if_pos e2] at e
            have := q2 (k + 1) 0 (by omega) (by omega) e
            omega
          · simp only [if_neg e1, if_neg e2] at e
            have := q2 (k + 1) (k' + 1) (by omega) (by omega) e
            omega
        · rw [zu4s, hs, List.length_tail]
          exact pk_sub (by omega)
        · rw [List.length_tail] at hk
          simp only [if_neg (show ¬ k = 5 by omega)]
          have e : H.tail[k] = H[k + 1] := by rw [List.getElem_tail]
          rw [e]
          refine (ht (k + 1) (by omega)).fr (Nat.le_refl _) (fun q i => zu4n _ _ (by omega)) (fun q i => ?_) (fun n _ => ⟨funext fun i => zu4n _ _ (by omega), funext fun i => ?_, rfl⟩)
          · rw [zu4n _ _ (by omega)]; exact f1 _ _ _ _ (by omega)
          · rw [zu4n _ _ (by omega)]; exact f1 _ _ _ _ (by omega)
    | succ m ih =>
      intro hm P' f1 f2 f3
      have ak := q1 (6 - (m + 1)) (by omega)
      refine g5_9 (b := p (6 - (m + 1))) hj (by omega) (by omega) (fun _ => f3 _ (by omega) (by omega)) (by omega) (fun q => by omega) (fun q => q) (fun _ => by rw [pk_sub (by omega)]; exact zvin (by omega) (by decide)) (fun _ => ?_)
      rw [pk_sub (by omega), nI_clamp (by omega), show 6 - (m + 1) + 1 = 6 - m by omega]
      refine ih (by omega) _ (fun r j' q i g => by rw [zu4n _ _ (by omega)]; exact f1 r j' q i g) (fun i hi => ?_) (fun i h1 h2 => ?_)
      · by_cases e : i = 6 - (m + 1) - 1
        · rw [e, zu4s, show 6 - (m + 1) - 1 + 1 = 6 - (m + 1) by omega]
        · rw [zu4n _ _ (by omega)]; exact f2 i (by omega)
      · rw [zu4n _ _ (by omega)]; exact f3 i (by omega) h2
  exact lp 5 (Nat.le_refl _) P (fun _ _ _ _ _ => rfl) (fun i hi => by omega) (fun i _ h2 => (q1 i h2).2.2)
theorem sp_hKeep {d c s b j base : Nat} {H : List (Nat → Int32)} {w : Nat → Int32} {I : zI} {L : zL} {P : zP} {S : zS} {top : Nat} {Q : Option zV → zM → Prop} (hj : j < 2) (hb : 1 ≤ base ∧ base + 6 ≤ 15) (h : cHs I P S b j base H) (hw : cTb I P S b 0 w) (k : ∀ I' P', cHf j base I I' P P' → cHs I' P' S b j base (hNote H w) → Q none (I', L, zpj P', zsj S, top)) : Ev (d + 1) c s 2 0 [some (zr (some (4, j, 0))), some (zr (some (2, 0, 0)))] [] (I, L, zpj P, zsj S, top) Q := by
  have go : ∀ I1 P1 H1, cHf j base I I1 P P1 → cHs I1 P1 S b j base H1 → H1.length ≤ 5 → hNote H w = H1 ++ [w] → Ev (d + 1) c s 2 13 [some (zr (some (4, j, 0))), some (zr (some (2, 0, 0)))] [] (I1, L, zpj P1, zsj S, top) Q := by
    intro I1 P1 H1 hf h1 h5 hn
    obtain ⟨p, ⟨q1, q2⟩, hl, hs, ht⟩ := h1
    have ak := q1 H1.length (by omega)
    have hw1 : cTb I1 P1 S b 0 w := hw.fr (Nat.le_refl _) (fun q i => (hf 2 0 q i (by omega)).1) (fun q i => (hf 2 0 q i (by omega)).2) hf.old
    refine g2_13 (N := H1.length) (b := p H1.length) hj hs (by omega) ak.2.2 (by omega) (sp_cBec (by omega) (by decide) (by omega) hw1.po (fun I2 P2 hB => ?_))
    have f2 : ∀ r j' q i, ¬ (r = 2 ∧ j' = p H1.length) → I2 r j' q i = I1 r j' q i ∧ P2 r j' q i = P1 r j' q i := fun r j' q i g => ⟨hB.1.1 r j' q i g, hB.1.2 r j' q i g⟩
    have hL := hNote_len (f := w) (show H.length ≤ 6 from h.choose_spec.2.1)
    refine g2_26 (N := H1.length) hj ((f2 4 j 0 1 (by omega)).1.trans hs) (k _ _ (fun r j' q i g => ?_) ⟨p, ⟨fun k hk => ⟨(q1 k hk).1, (q1 k hk).2.1, (f2 4 j 1 k (by omega)).2.trans (q1 k hk).2.2⟩, q2⟩, hL, ?_, ?_⟩)
    · have g1 := hf r j' q i g
      have g2 := f2 r j' q i (by omega)
      rw [zu4n _ _ (by omega)]
      exact ⟨g2.1.trans g1.1, g2.2.trans g1.2⟩
    · rw [zu4s, hn, List.length_append]; rfl
    · rw [hn]
      intro k hk
      rw [List.length_append] at hk
      have hk : k < H1.length + 1 := hk
      have ho : cOld b I1 P1 S (zup4 I2 4 j 0 1 (nI (H1.length + 1))) P2 S := fun n _ => ⟨funext fun i => by rw [zu4n _ _ (by omega)]; exact (f2 3 n 0 i (by omega)).1, funext fun i => (f2 3 n 0 i (by omega)).2, rfl⟩
      by_cases e : k = H1.length
      · subst e
        rw [List.getElem_append_right (Nat.le_refl _)]
        simp only [Nat.sub_self, List.getElem_cons_zero]
        exact (cTb.be hB hw1).fr (Nat.le_refl _) (fun q i => zu4n _ _ (by omega)) (fun _ _ => rfl) (fun n _ => ⟨funext fun i => zu4n _ _ (by omega), rfl, rfl⟩)
      · have hk1 : k < H1.length := by omega
        rw [List.getElem_append_left hk1]
        have ne : ¬ p k = p H1.length := fun q => e (q2 k H1.length (by omega) (by omega) q)
        exact (ht k hk1).fr (Nat.le_refl _) (fun q i => by rw [zu4n _ _ (by omega)]; exact (f2 _ _ _ _ (by omega)).1) (fun q i => (f2 _ _ _ _ (by omega)).2) ho
  have hl := h.choose_spec.2.1
  have hs := h.choose_spec.2.2.1
  refine g2_0 (N := H.length) hj hs (by omega) (fun q => ?_) (fun q => ?_)
  · exact go I P H (fun _ _ _ _ _ => ⟨rfl, rfl⟩) h (by omega) (by unfold hNote; rw [if_neg q])
  · exact sp_hLose hj hb.2 h q (fun I1 P1 hf h1 => go I1 P1 H.tail hf h1 (by rw [List.length_tail]; omega) (by unfold hNote; rw [if_pos q]))
