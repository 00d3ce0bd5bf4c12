/-! the class: tables, single changes -/
theorem g105_0 {d c s : Nat} {j n u : Nat} {y : Int32} {X : zM} {ρ : Nat → Nat → Int32} {l : Nat → Nat → Int64} {Q : Option zV → zM → Prop} (hj : j < 15)
    (h1 : Ev d c s 105 3 [some (zr (some (3, n, 0))), some (zr (some (2, j, 3))), some (zi (nI u)), some (zi y), some (zi (nI 0))] [] (OM X 2 j ρ l) Q) : Ev d c s 105 0 [some (zr (some (3, n, 0))), some (zr (some (2, j, 3))), some (zi (nI u)), some (zi y), none] [] (OM X 2 j ρ l) Q := by
  refine Ew.op (st' := zi (nI 0) :: _) f105_0 rfl rfl ?_
  refine Ew.sr (ls' := [some (zr (some (3, n, 0))), some (zr (some (2, j, 3))), some (zi (nI u)), some (zi y), some (zi (nI 0))]) f105_1 rfl rfl (Nat.le_of_ble_eq_true rfl) rfl rfl ?_
  exact h1
theorem g105_3 {d c s : Nat} {j n n1 n2 n3 n4 N u k : Nat} {y : Int32} {X : zM} {ρ : Nat → Nat → Int32} {l : Nat → Nat → Int64} {Q : Option zV → zM → Prop} (hj : j < 15) (p1 : X.2.2.1 3 n 0 1 = some (3, n1, 0)) (p2 : X.2.2.1 3 n 0 2 = some (3, n2, 0)) (p3 : X.2.2.1 3 n 0 3 = some (3, n3, 0)) (p4 : X.2.2.1 3 n 0 4 = some (3, n4, 0)) (s1 : X.2.2.2.1 3 n1 0 = (20, N)) (s2 : X.2.2.2.1 3 n2 0 = (20, N)) (s3 : X.2.2.2.1 3 n3 0 = (20, N)) (s4 : X.2.2.2.1 3 n4 0 = (20, N + 1)) (hq : N + 1 < 5000) (sn : X.2.2.2.1 3 n 0 = (9, 0)) (z0 : X.1 3 n 0 0 = nI N) (nb_k : k < 5000) (nb_u : u < 5000) (nb_N : N < 5000)
    (h1 : (u ≤ k) → Q none (OM X 2 j ρ l))
    (h2 : (k < u) → (N ≤ k) → Q none (OM X 2 j ρ l))
    (b1 : (k < u) → (k < N) → k < N)
    (h3 : (k < u) → (k < N) → ((nI 6) ≤ (X.1 3 n2 0 k)) → Ev d c s 105 3 [some (zr (some (3, n, 0))), some (zr (some (2, j, 3))), some (zi (nI u)), some (zi y), some (zi (nI (k + 1)))] [] (OM X 2 j ρ l) Q)
    (b2 : (k < u) → (k < N) → ((X.1 3 n2 0 k) < (nI 6)) → k < N)
    (b3 : (k < u) → (k < N) → ((X.1 3 n2 0 k) < (nI 6)) → vp_in (X.1 3 n2 0 k) 6)
    (b4 : (k < u) → (k < N) → ((X.1 3 n2 0 k) < (nI 6)) → k < N)
    (b5 : (k < u) → (k < N) → ((X.1 3 n2 0 k) < (nI 6)) → vp_in (X.1 3 n2 0 k) 6)
    (h4 : (k < u) → (k < N) → ((X.1 3 n2 0 k) < (nI 6)) → Ev d c s 105 3 [some (zr (some (3, n, 0))), some (zr (some (2, j, 3))), some (zi (nI u)), some (zi y), some (zi (nI (k + 1)))] [] (OM X 2 j (zu ρ 3 ((X.1 3 n2 0 k).toNatClampNeg) ((ρ 3 ((X.1 3 n2 0 k).toNatClampNeg)) + (y * (X.1 3 n3 0 k)))) l) Q) : Ev d c s 105 3 [some (zr (some (3, n, 0))), some (zr (some (2, j, 3))), some (zi (nI u)), some (zi y), some (zi (nI k))] [] (OM X 2 j ρ l) Q := by
  refine Ew.ld f105_3 rfl rfl rfl rfl ?_
  refine Ew.ld f105_5 rfl rfl rfl rfl ?_
  refine Ew.icmp f105_6 rfl rfl (fun c1 => ?_) (fun c1 => ?_)
  · refine Ew.vret f105_57 ?_
    exact h1 ((zle_iff nb_u nb_k).mp c1)
  · refine Ew.ld f105_9 rfl rfl rfl rfl ?_
    refine Ew.ld f105_11 rfl rfl rfl rfl ?_
    refine Ew.getiV (v := nI N) f105_12 (by show (X.2.2.2.1 3 n 0).1 = _; rw [sn]) (show so X.1 2 j _ 3 n _ _ = _ from z0) rfl ?_
    refine Ew.icmp f105_15 rfl rfl (fun c2 => ?_) (fun c2 => ?_)
    · refine Ew.vret f105_57 ?_
      exact h2 (Nat.not_le.mp fun e => c1 ((zle_iff nb_u nb_k).mpr e)) ((zle_iff nb_N nb_k).mp c2)
    · refine Ew.ld f105_18 rfl rfl rfl rfl ?_
      refine Ew.getp (v := some (3, n2, 0)) f105_19 (by show (X.2.2.2.1 3 n 0).1 = _; rw [sn]) (show zpj X.2.2.1 3 n 0 2 = _ from p2) rfl ?_
      refine Ew.ld f105_22 rfl rfl rfl rfl ?_
      refine Ew.ialdn f105_24 (by show (X.2.2.2.1 3 n2 0).1 = _; rw [s2]) (by show _ < (X.2.2.2.1 3 n2 0).2; rw [s2]; exact (b1 (Nat.not_le.mp fun e => c1 ((zle_iff nb_u nb_k).mpr e)) (Nat.not_le.mp fun e => c2 ((zle_iff nb_N nb_k).mpr e)))) (by show (X.2.2.2.1 3 n2 0).2 < 5000; rw [s2]; omega) rfl ?_
      refine Ew.ld f105_25 rfl rfl rfl rfl ?_
      refine Ew.alen (n := 6) f105_26 (by rw [zsj2 _ hj]; decide) (by rw [zsj2 _ hj]; rfl) rfl ?_
      refine Ew.icmp f105_27 rfl rfl (fun c3 => ?_) (fun c3 => ?_)
      · refine Ew.iinc (v := nI (k + 1)) (ls' := [some (zr (some (3, n, 0))), some (zr (some (2, j, 3))), some (zi (nI u)), some (zi y), some (zi (nI (k + 1)))]) f105_51 rfl (nI_1 _) rfl rfl ?_
        refine Ew.goto f105_54 rfl ?_
        exact h3 (Nat.not_le.mp fun e => c1 ((zle_iff nb_u nb_k).mpr e)) (Nat.not_le.mp fun e => c2 ((zle_iff nb_N nb_k).mpr e)) c3
      · refine Ew.ld f105_30 rfl rfl rfl rfl ?_
        refine Ew.ld f105_31 rfl rfl rfl rfl ?_
        refine Ew.getp (v := some (3, n2, 0)) f105_32 (by show (X.2.2.2.1 3 n 0).1 = _; rw [sn]) (show zpj X.2.2.1 3 n 0 2 = _ from p2) rfl ?_
        refine Ew.ld f105_35 rfl rfl rfl rfl ?_
        refine Ew.ialdn f105_37 (by show (X.2.2.2.1 3 n2 0).1 = _; rw [s2]) (by show _ < (X.2.2.2.1 3 n2 0).2; rw [s2]; exact (b2 (Nat.not_le.mp fun e => c1 ((zle_iff nb_u nb_k).mpr e)) (Nat.not_le.mp fun e => c2 ((zle_iff nb_N nb_k).mpr e)) (Int32.not_le.mp c3))) (by show (X.2.2.2.1 3 n2 0).2 < 5000; rw [s2]; omega) rfl ?_
        refine Ew.op (st' := zi (X.1 3 n2 0 k) :: zr (some (2, j, 3)) :: zi (X.1 3 n2 0 k) :: zr (some (2, j, 3)) :: _) f105_38 rfl rfl ?_
        refine Ew.ialdxO f105_39 (by rw [zsj2 _ hj]; rfl) (by rw [zsj2 _ hj]; exact (b3 (Nat.not_le.mp fun e => c1 ((zle_iff nb_u nb_k).mpr e)) (Nat.not_le.mp fun e => c2 ((zle_iff nb_N nb_k).mpr e)) (Int32.not_le.mp c3))) rfl ?_
        refine Ew.ld f105_40 rfl rfl rfl rfl ?_
        refine Ew.ld f105_41 rfl rfl rfl rfl ?_
        refine Ew.getp (v := some (3, n3, 0)) f105_42 (by show (X.2.2.2.1 3 n 0).1 = _; rw [sn]) (show zpj X.2.2.1 3 n 0 3 = _ from p3) rfl ?_
        refine Ew.ld f105_45 rfl rfl rfl rfl ?_
        refine Ew.ialdn f105_47 (by show (X.2.2.2.1 3 n3 0).1 = _; rw [s3]) (by show _ < (X.2.2.2.1 3 n3 0).2; rw [s3]; exact (b4 (Nat.not_le.mp fun e => c1 ((zle_iff nb_u nb_k).mpr e)) (Nat.not_le.mp fun e => c2 ((zle_iff nb_N nb_k).mpr e)) (Int32.not_le.mp c3))) (by show (X.2.2.2.1 3 n3 0).2 < 5000; rw [s3]; omega) rfl ?_
        refine Ew.op (st' := zi (y * (X.1 3 n3 0 k)) :: _) f105_48 rfl rfl ?_
        refine Ew.op (st' := zi ((ρ 3 ((X.1 3 n2 0 k).toNatClampNeg)) + (y * (X.1 3 n3 0 k))) :: _) f105_49 rfl rfl ?_
        refine Ew.iastxO f105_50 (by decide) (by rw [zsj2 _ hj]; rfl) (by rw [zsj2 _ hj]; exact (b5 (Nat.not_le.mp fun e => c1 ((zle_iff nb_u nb_k).mpr e)) (Nat.not_le.mp fun e => c2 ((zle_iff nb_N nb_k).mpr e)) (Int32.not_le.mp c3))) rfl ?_
        refine Ew.iinc (v := nI (k + 1)) (ls' := [some (zr (some (3, n, 0))), some (zr (some (2, j, 3))), some (zi (nI u)), some (zi y), some (zi (nI (k + 1)))]) f105_51 rfl (nI_1 _) rfl rfl ?_
        refine Ew.goto f105_54 rfl ?_
        exact h4 (Nat.not_le.mp fun e => c1 ((zle_iff nb_u nb_k).mpr e)) (Nat.not_le.mp fun e => c2 ((zle_iff nb_N nb_k).mpr e)) (Int32.not_le.mp c3)
/-- cells of a table: what so many steps of a trace add, so many times -/
def cAddL (T : tT) (y : Int32) (ρ : Nat → Nat → Int32) : Nat → Nat → Nat → Int32
  | 0 => ρ
  | k + 1 => zu (cAddL T y ρ k) 3 (T.gate k).toNatClampNeg (cAddL T y ρ k 3 (T.gate k).toNatClampNeg + y * T.add k)
theorem tOk.gate {T : tT} (h : tOk T) {k : Nat} (hk : k < T.n) : ∃ G, G < 6 ∧ T.gate k = nI G := by
  obtain ⟨_, g, _, b, _, e, _⟩ := h.2.1 k hk
  exact ⟨g, b, e⟩
theorem sp_cAddTo {d c s j n bb u : Nat} {y : Int32} {T : tT} {X : zM} {ρ : Nat → Nat → Int32} {l : Nat → Nat → Int64} {Q : Option zV → zM → Prop} (hj : j < 15) (h : cTr X.1 X.2.2.1 X.2.2.2.1 bb n T) (hT : tOk T) (hu : u ≤ T.n) (kk : Q none (OM X 2 j (cAddL T y ρ u) l)) : Ev d c s 105 0 [some (zr (some (3, n, 0))), some (zr (some (2, j, 3))), some (zi (nI u)), some (zi y), none] [] (OM X 2 j ρ l) Q := by
  obtain ⟨h30, n1, n2, n3, n4, _, sn, ⟨p1, p2, p3, p4⟩, ⟨s1, s2, s3, s4⟩, z0, r, _⟩ := h
  refine g105_0 hj ?_
  refine loopN (fun k => Ev d c s 105 3 [some (zr (some (3, n, 0))), some (zr (some (2, j, 3))), some (zi (nI u)), some (zi y), some (zi (nI k))] [] (OM X 2 j (cAddL T y ρ k) l) Q) u (fun k hk hE => ?_) ?_
  · obtain ⟨G, hG, eG⟩ := hT.gate (k := k) (by omega)
    have e1 := (r k (by omega)).2.1
    have e2 := (r k (by omega)).2.2
    have eg : X.1 3 n2 0 k = nI G := e1.trans eG
    unfold cAddL at hE
    rw [← e1, ← e2] at hE
    refine g105_3 hj p1 p2 p3 p4 s1 s2 s3 s4 (by omega) sn z0 (by omega) (by omega) (by omega) (fun g => by omega) (fun _ g => by omega) (fun _ g => g) (fun _ _ g => ?_) (fun _ g _ => g) (fun _ _ _ => ?_) (fun _ g _ => g) (fun _ _ _ => ?_) (fun _ _ _ => hE)
    · rw [eg] at g
      exact absurd g (nI_ge hG (by decide))
    · rw [eg]; exact zvin hG (by decide)
    · rw [eg]; exact zvin hG (by decide)
  · exact g105_3 hj p1 p2 p3 p4 s1 s2 s3 s4 (by omega) sn z0 (by omega) (by omega) (by omega) (fun _ => kk) (fun g => by omega) (fun g => by omega) (fun g => by omega) (fun g => by omega) (fun g => by omega) (fun g => by omega) (fun g => by omega) (fun g => by omega)
theorem g87_0 {d c s : Nat} {j t : Nat} {X : zM} {ρ : Nat → Nat → Int32} {l : Nat → Nat → Int64} {Q : Option zV → zM → Prop} (hj : j < 15)
    (b1 : t < 4)
    (b2 : t < 4)
    (b3 : t < 4)
    (b4 : t < 4)
    (h1 : Q none (OM X 2 j (zu (zu (zu (zu ρ 6 t (nI 0)) 7 t (nI 0)) 8 t ((-4))) 9 t ((-4))) l)) : Ev d c s 87 0 [some (zr (some (2, j, 0))), some (zi (nI t))] [] (OM X 2 j ρ l) Q := by
  refine Ew.ld f87_0 rfl rfl rfl rfl ?_
  refine Ew.getp (v := some (2, j, 6)) f87_1 (by rw [zsj2 _ hj]; rfl) rfl rfl ?_
  refine Ew.ld f87_4 rfl rfl rfl rfl ?_
  refine Ew.op (st' := zi (nI 0) :: _) f87_5 rfl rfl ?_
  refine Ew.iastnO f87_6 (by decide) (by rw [zsj2 _ hj]; rfl) (by rw [zsj2 _ hj]; exact b1) (by rw [zsj2 _ hj]; decide) rfl ?_
  refine Ew.ld f87_7 rfl rfl rfl rfl ?_
  refine Ew.getp (v := some (2, j, 7)) f87_8 (by rw [zsj2 _ hj]; rfl) rfl rfl ?_
  refine Ew.ld f87_11 rfl rfl rfl rfl ?_
  refine Ew.op (st' := zi (nI 0) :: _) f87_12 rfl rfl ?_
  refine Ew.iastnO f87_13 (by decide) (by rw [zsj2 _ hj]; rfl) (by rw [zsj2 _ hj]; exact b2) (by rw [zsj2 _ hj]; decide) rfl ?_
  refine Ew.ld f87_14 rfl rfl rfl rfl ?_
  refine Ew.getp (v := some (2, j, 8)) f87_15 (by rw [zsj2 _ hj]; rfl) rfl rfl ?_
  refine Ew.ld f87_18 rfl rfl rfl rfl ?_
  refine Ew.op (st' := zi ((-4)) :: _) f87_19 rfl rfl ?_
  refine Ew.iastnO f87_21 (by decide) (by rw [zsj2 _ hj]; rfl) (by rw [zsj2 _ hj]; exact b3) (by rw [zsj2 _ hj]; decide) rfl ?_
  refine Ew.ld f87_22 rfl rfl rfl rfl ?_
  refine Ew.getp (v := some (2, j, 9)) f87_23 (by rw [zsj2 _ hj]; rfl) rfl rfl ?_
  refine Ew.ld f87_26 rfl rfl rfl rfl ?_
  refine Ew.op (st' := zi ((-4)) :: _) f87_27 rfl rfl ?_
  refine Ew.iastnO f87_29 (by decide) (by rw [zsj2 _ hj]; rfl) (by rw [zsj2 _ hj]; exact b4) (by rw [zsj2 _ hj]; decide) rfl ?_
  refine Ew.vret f87_30 ?_
  exact h1
theorem g83_0 {d c s : Nat} {j t n bb : Nat} {T : tT} {D : Nat} {X : zM} {ρ : Nat → Nat → Int32} {l : Nat → Nat → Int64} {Q : Option zV → zM → Prop} (hj : j < 15) (hc : cTr X.1 X.2.2.1 X.2.2.2.1 bb n T) (pt : X.2.2.1 2 j 2 t = some (3, n, 0)) (hD : ρ 7 t = nI D) 
    (b1 : t < 4)
    (b2 : t < 4)
    (b3 : cTr X.1 X.2.2.1 X.2.2.2.1 bb n T)
    (b4 : D < 5000)
    (b5 : (D < T.n) → cTr X.1 X.2.2.1 X.2.2.2.1 bb n T)
    (b6 : (D < T.n) → D < 5000)
    (b7 : (D < T.n) → cTr X.1 X.2.2.1 X.2.2.2.1 bb n T)
    (b8 : (D < T.n) → D < 5000)
    (b9 : (D < T.n) → (¬ (tKd T D) = 0) → cTr X.1 X.2.2.1 X.2.2.2.1 bb n T)
    (b10 : (D < T.n) → (¬ (tKd T D) = 0) → D < 5000)
    (b11 : (D < T.n) → (¬ (tKd T D) = 0) → (¬ (tKd T D) = (nI 1)) → vp_in (tGt T D) 6)
    (b12 : (D < T.n) → (¬ (tKd T D) = 0) → (¬ (tKd T D) = (nI 1)) → cTr X.1 X.2.2.1 X.2.2.2.1 bb n T)
    (b13 : (D < T.n) → (¬ (tKd T D) = 0) → (¬ (tKd T D) = (nI 1)) → D < 5000)
    (b14 : (D < T.n) → (¬ (tKd T D) = 0) → (¬ (tKd T D) = (nI 1)) → vp_in (tGt T D) 6)
    (b15 : (D < T.n) → (¬ (tKd T D) = 0) → (¬ (tKd T D) = (nI 1)) → t < 4)
    (h1 : (D < T.n) → (¬ (tKd T D) = 0) → (¬ (tKd T D) = (nI 1)) → Q none (OM X 2 j (zu (zu ρ 3 ((tGt T D).toNatClampNeg) ((ρ 3 ((tGt T D).toNatClampNeg)) + (tAd T D))) 7 t (nI (D + 1))) l))
    (b16 : (D < T.n) → (¬ (tKd T D) = 0) → ((tKd T D) = (nI 1)) → vp_in (tGt T D) 6)
    (b17 : (D < T.n) → (¬ (tKd T D) = 0) → ((tKd T D) = (nI 1)) → vp_in (tGt T D) 6)
    (b18 : (D < T.n) → (¬ (tKd T D) = 0) → ((tKd T D) = (nI 1)) → vp_in (tGt T D) 6)
    (b19 : (D < T.n) → (¬ (tKd T D) = 0) → ((tKd T D) = (nI 1)) → (¬ ((zu ρ 5 ((tGt T D).toNatClampNeg) ((ρ 5 ((tGt T D).toNatClampNeg)) - (nI 1))) 5 ((tGt T D).toNatClampNeg)) = 0) → t < 4)
    (h2 : (D < T.n) → (¬ (tKd T D) = 0) → ((tKd T D) = (nI 1)) → (¬ ((zu ρ 5 ((tGt T D).toNatClampNeg) ((ρ 5 ((tGt T D).toNatClampNeg)) - (nI 1))) 5 ((tGt T D).toNatClampNeg)) = 0) → Q none (OM X 2 j (zu (zu ρ 5 ((tGt T D).toNatClampNeg) ((ρ 5 ((tGt T D).toNatClampNeg)) - (nI 1))) 7 t (nI (D + 1))) l))
    (b20 : (D < T.n) → (¬ (tKd T D) = 0) → ((tKd T D) = (nI 1)) → (((zu ρ 5 ((tGt T D).toNatClampNeg) ((ρ 5 ((tGt T D).toNatClampNeg)) - (nI 1))) 5 ((tGt T D).toNatClampNeg)) = 0) → vp_in (tGt T D) 6)
    (b21 : (D < T.n) → (¬ (tKd T D) = 0) → ((tKd T D) = (nI 1)) → (((zu ρ 5 ((tGt T D).toNatClampNeg) ((ρ 5 ((tGt T D).toNatClampNeg)) - (nI 1))) 5 ((tGt T D).toNatClampNeg)) = 0) → t < 4)
    (h3 : (D < T.n) → (¬ (tKd T D) = 0) → ((tKd T D) = (nI 1)) → (((zu ρ 5 ((tGt T D).toNatClampNeg) ((ρ 5 ((tGt T D).toNatClampNeg)) - (nI 1))) 5 ((tGt T D).toNatClampNeg)) = 0) → Q none (OM X 2 j (zu (zu (zu ρ 5 ((tGt T D).toNatClampNeg) ((ρ 5 ((tGt T D).toNatClampNeg)) - (nI 1))) 4 ((tGt T D).toNatClampNeg) ((-4))) 7 t (nI (D + 1))) l))
    (b22 : (D < T.n) → ((tKd T D) = 0) → vp_in (tGt T D) 6)
    (b23 : (D < T.n) → ((tKd T D) = 0) → vp_in (tGt T D) 6)
    (b24 : (D < T.n) → ((tKd T D) = 0) → vp_in (tGt T D) 6)
    (b25 : (D < T.n) → ((tKd T D) = 0) → t < 4)
    (h4 : (D < T.n) → ((tKd T D) = 0) → Q none (OM X 2 j (zu (zu (zu ρ 4 ((tGt T D).toNatClampNeg) (nI t)) 5 ((tGt T D).toNatClampNeg) ((ρ 5 ((tGt T D).toNatClampNeg)) + (nI 1))) 7 t (nI (D + 1))) l))
    (h5 : (¬ (D < T.n)) → Q none (OM X 2 j ρ l)) : Ev (d + 2) c s 83 0 [some (zr (some (2, j, 0))), some (zi (nI t)), none, none, none] [] (OM X 2 j ρ l) Q := by
  refine Ew.ld f83_0 rfl rfl rfl rfl ?_
  refine Ew.getp (v := some (2, j, 2)) f83_1 (by rw [zsj2 _ hj]; rfl) rfl rfl ?_
  refine Ew.ld f83_4 rfl rfl rfl rfl ?_
  refine Ew.aaldn (v := some (3, n, 0)) f83_5 (by rw [zsj2 _ hj]; decide) (by rw [zsj2 _ hj]; exact b1) (by rw [zsj2 _ hj]; decide) rfl (show zpj X.2.2.1 2 j 2 t = _ from pt) ?_
  refine Ew.sr (ls' := [some (zr (some (2, j, 0))), some (zi (nI t)), some (zr (some (3, n, 0))), none, none]) f83_6 rfl rfl (Nat.le_of_ble_eq_true rfl) rfl rfl ?_
  refine Ew.ld f83_7 rfl rfl rfl rfl ?_
  refine Ew.getp (v := some (2, j, 7)) f83_8 (by rw [zsj2 _ hj]; rfl) rfl rfl ?_
  refine Ew.ld f83_11 rfl rfl rfl rfl ?_
  refine Ew.ialdnV (v := nI D) f83_12 (by rw [zsj2 _ hj]; rfl) (by rw [zsj2 _ hj]; exact b2) (by rw [zsj2 _ hj]; decide) rfl (so_v hD) ?_
  refine Ew.sr (ls' := [some (zr (some (2, j, 0))), some (zi (nI t)), some (zr (some (3, n, 0))), some (zi (nI D)), none]) f83_13 rfl rfl (Nat.le_of_ble_eq_true rfl) rfl rfl ?_
  refine Ew.ld f83_14 rfl rfl rfl rfl ?_
  refine Ew.ld f83_15 rfl rfl rfl rfl ?_
  refine Ew.call0 (ls0 := [some (zr (some (3, n, 0))), some (zi (nI D))]) f83_16 rfl (Nat.le_of_ble_eq_true rfl) rfl rfl (Nat.le_of_ble_eq_true rfl) (by show (X.2.2.2.1 3 n 0).1 = _; rw [hc.sh]) (Nat.le_of_ble_eq_true rfl) rfl rfl ?_
  refine sp_tHas b3 b4 (fun c1 => ?_) (fun c1 => ?_)
  · refine Ew.ifc f83_19 rfl rfl (fun _ => ?_) (fun h => absurd (show ¬ ((nI 1) : Int32) = 0 by decide) h)
    refine Ew.ld f83_23 rfl rfl rfl rfl ?_
    refine Ew.ld f83_24 rfl rfl rfl rfl ?_
    refine Ew.call0 (ls0 := [some (zr (some (3, n, 0))), some (zi (nI D))]) f83_25 rfl (Nat.le_of_ble_eq_true rfl) rfl rfl (Nat.le_of_ble_eq_true rfl) (by show (X.2.2.2.1 3 n 0).1 = _; rw [hc.sh]) (Nat.le_of_ble_eq_true rfl) rfl rfl ?_
    refine sp_tGt (b5 c1) (b6 c1) ?_
    show Ev (d + 2) c s 83 28 [some (zr (some (2, j, 0))), some (zi (nI t)), some (zr (some (3, n, 0))), some (zi (nI D)), none] [zi (tGt T D)] (OM X 2 j ρ l) Q
    refine Ew.sr (ls' := [some (zr (some (2, j, 0))), some (zi (nI t)), some (zr (some (3, n, 0))), some (zi (nI D)), some (zi (tGt T D))]) f83_28 rfl rfl (Nat.le_of_ble_eq_true rfl) rfl rfl ?_
    refine Ew.ld f83_30 rfl rfl rfl rfl ?_
    refine Ew.ld f83_31 rfl rfl rfl rfl ?_
    refine Ew.call0 (ls0 := [some (zr (some (3, n, 0))), some (zi (nI D))]) f83_32 rfl (Nat.le_of_ble_eq_true rfl) rfl rfl (Nat.le_of_ble_eq_true rfl) (by show (X.2.2.2.1 3 n 0).1 = _; rw [hc.sh]) (Nat.le_of_ble_eq_true rfl) rfl rfl ?_
    refine sp_tKd (b7 c1) (b8 c1) ?_
    show Ev (d + 2) c s 83 35 [some (zr (some (2, j, 0))), some (zi (nI t)), some (zr (some (3, n, 0))), some (zi (nI D)), some (zi (tGt T D))] [zi (tKd T D)] (OM X 2 j ρ l) Q
    refine Ew.ifc f83_35 rfl rfl (fun c2 => ?_) (fun c2 => ?_)
    · refine Ew.ld f83_60 rfl rfl rfl rfl ?_
      refine Ew.ld f83_61 rfl rfl rfl rfl ?_
      refine Ew.call0 (ls0 := [some (zr (some (3, n, 0))), some (zi (nI D))]) f83_62 rfl (Nat.le_of_ble_eq_true rfl) rfl rfl (Nat.le_of_ble_eq_true rfl) (by show (X.2.2.2.1 3 n 0).1 = _; rw [hc.sh]) (Nat.le_of_ble_eq_true rfl) rfl rfl ?_
      refine sp_tKd (b9 c1 c2) (b10 c1 c2) ?_
      show Ev (d + 2) c s 83 65 [some (zr (some (2, j, 0))), some (zi (nI t)), some (zr (some (3, n, 0))), some (zi (nI D)), some (zi (tGt T D))] [zi (tKd T D)] (OM X 2 j ρ l) Q
      refine Ew.op (st' := zi (nI 1) :: _) f83_65 rfl rfl ?_
      refine Ew.icmp f83_66 rfl rfl (fun c3 => ?_) (fun c3 => ?_)
      · refine Ew.ld f83_102 rfl rfl rfl rfl ?_
        refine Ew.getp (v := some (2, j, 3)) f83_103 (by rw [zsj2 _ hj]; rfl) rfl rfl ?_
        refine Ew.ld f83_106 rfl rfl rfl rfl ?_
        refine Ew.op (st' := zi (tGt T D) :: zr (some (2, j, 3)) :: zi (tGt T D) :: zr (some (2, j, 3)) :: _) f83_108 rfl rfl ?_
        refine Ew.ialdxO f83_109 (by rw [zsj2 _ hj]; rfl) (by rw [zsj2 _ hj]; exact (b11 c1 c2 c3)) rfl ?_
        refine Ew.ld f83_110 rfl rfl rfl rfl ?_
        refine Ew.ld f83_111 rfl rfl rfl rfl ?_
        refine Ew.call0 (ls0 := [some (zr (some (3, n, 0))), some (zi (nI D))]) f83_112 rfl (Nat.le_of_ble_eq_true rfl) rfl rfl (Nat.le_of_ble_eq_true rfl) (by show (X.2.2.2.1 3 n 0).1 = _; rw [hc.sh]) (Nat.le_of_ble_eq_true rfl) rfl rfl ?_
        refine sp_tAd (b12 c1 c2 c3) (b13 c1 c2 c3) ?_
        show Ev (d + 2) c s 83 115 [some (zr (some (2, j, 0))), some (zi (nI t)), some (zr (some (3, n, 0))), some (zi (nI D)), some (zi (tGt T D))] [zi (tAd T D), zi (ρ 3 ((tGt T D).toNatClampNeg)), zi (tGt T D), zr (some (2, j, 3))] (OM X 2 j ρ l) Q
        refine Ew.op (st' := zi ((ρ 3 ((tGt T D).toNatClampNeg)) + (tAd T D)) :: _) f83_115 rfl rfl ?_
        refine Ew.iastxO f83_116 (by decide) (by rw [zsj2 _ hj]; rfl) (by rw [zsj2 _ hj]; exact (b14 c1 c2 c3)) rfl ?_
        refine Ew.ld f83_117 rfl rfl rfl rfl ?_
        refine Ew.getp (v := some (2, j, 7)) f83_118 (by rw [zsj2 _ hj]; rfl) rfl rfl ?_
        refine Ew.ld f83_121 rfl rfl rfl rfl ?_
        refine Ew.ld f83_122 rfl rfl rfl rfl ?_
        refine Ew.op (st' := zi (nI 1) :: _) f83_123 rfl rfl ?_
        refine Ew.addn f83_124 rfl ?_
        refine Ew.iastnO f83_125 (by decide) (by rw [zsj2 _ hj]; rfl) (by rw [zsj2 _ hj]; exact (b15 c1 c2 c3)) (by rw [zsj2 _ hj]; decide) rfl ?_
        refine Ew.vret f83_126 ?_
        exact h1 c1 c2 c3
      · refine Ew.ld f83_69 rfl rfl rfl rfl ?_
        refine Ew.getp (v := some (2, j, 5)) f83_70 (by rw [zsj2 _ hj]; rfl) rfl rfl ?_
        refine Ew.ld f83_73 rfl rfl rfl rfl ?_
        refine Ew.op (st' := zi (tGt T D) :: zr (some (2, j, 5)) :: zi (tGt T D) :: zr (some (2, j, 5)) :: _) f83_75 rfl rfl ?_
        refine Ew.ialdxO f83_76 (by rw [zsj2 _ hj]; rfl) (by rw [zsj2 _ hj]; exact (b16 c1 c2 (Classical.not_not.mp c3))) rfl ?_
        refine Ew.op (st' := zi (nI 1) :: _) f83_77 rfl rfl ?_
        refine Ew.op (st' := zi ((ρ 5 ((tGt T D).toNatClampNeg)) - (nI 1)) :: _) f83_78 rfl rfl ?_
        refine Ew.iastxO f83_79 (by decide) (by rw [zsj2 _ hj]; rfl) (by rw [zsj2 _ hj]; exact (b17 c1 c2 (Classical.not_not.mp c3))) rfl ?_
        refine Ew.ld f83_80 rfl rfl rfl rfl ?_
        refine Ew.getp (v := some (2, j, 5)) f83_81 (by rw [zsj2 _ hj]; rfl) rfl rfl ?_
        refine Ew.ld f83_84 rfl rfl rfl rfl ?_
        refine Ew.ialdxO f83_86 (by rw [zsj2 _ hj]; rfl) (by rw [zsj2 _ hj]; exact (b18 c1 c2 (Classical.not_not.mp c3))) rfl ?_
        refine Ew.ifc f83_87 rfl rfl (fun c4 => ?_) (fun c4 => ?_)
        · refine Ew.ld f83_117 rfl rfl rfl rfl ?_
          refine Ew.getp (v := some (2, j, 7)) f83_118 (by rw [zsj2 _ hj]; rfl) rfl rfl ?_
          refine Ew.ld f83_121 rfl rfl rfl rfl ?_
          refine Ew.ld f83_122 rfl rfl rfl rfl ?_
          refine Ew.op (st' := zi (nI 1) :: _) f83_123 rfl rfl ?_
          refine Ew.addn f83_124 rfl ?_
          refine Ew.iastnO f83_125 (by decide) (by rw [zsj2 _ hj]; rfl) (by rw [zsj2 _ hj]; exact (b19 c1 c2 (Classical.not_not.mp c3) c4)) (by rw [zsj2 _ hj]; decide) rfl ?_
          refine Ew.vret f83_126 ?_
          exact h2 c1 c2 (Classical.not_not.mp c3) c4
        · refine Ew.ld f83_90 rfl rfl rfl rfl ?_
          refine Ew.getp (v := some (2, j, 4)) f83_91 (by rw [zsj2 _ hj]; rfl) rfl rfl ?_
          refine Ew.ld f83_94 rfl rfl rfl rfl ?_
          refine Ew.op (st' := zi ((-4)) :: _) f83_96 rfl rfl ?_
          refine Ew.iastxO f83_98 (by decide) (by rw [zsj2 _ hj]; rfl) (by rw [zsj2 _ hj]; exact (b20 c1 c2 (Classical.not_not.mp c3) (Classical.not_not.mp c4))) rfl ?_
          refine Ew.goto f83_99 rfl ?_
          refine Ew.ld f83_117 rfl rfl rfl rfl ?_
          refine Ew.getp (v := some (2, j, 7)) f83_118 (by rw [zsj2 _ hj]; rfl) rfl rfl ?_
          refine Ew.ld f83_121 rfl rfl rfl rfl ?_
          refine Ew.ld f83_122 rfl rfl rfl rfl ?_
          refine Ew.op (st' := zi (nI 1) :: _) f83_123 rfl rfl ?_
          refine Ew.addn f83_124 rfl ?_
          refine Ew.iastnO f83_125 (by decide) (by rw [zsj2 _ hj]; rfl) (by rw [zsj2 _ hj]; exact (b21 c1 c2 (Classical.not_not.mp c3) (Classical.not_not.mp c4))) (by rw [zsj2 _ hj]; decide) rfl ?_
          refine Ew.vret f83_126 ?_
          exact h3 c1 c2 (Classical.not_not.mp c3) (Classical.not_not.mp c4)
    · refine Ew.ld f83_38 rfl rfl rfl rfl ?_
      refine Ew.getp (v := some (2, j, 4)) f83_39 (by rw [zsj2 _ hj]; rfl) rfl rfl ?_
      refine Ew.ld f83_42 rfl rfl rfl rfl ?_
      refine Ew.ld f83_44 rfl rfl rfl rfl ?_
      refine Ew.iastxO f83_45 (by decide) (by rw [zsj2 _ hj]; rfl) (by rw [zsj2 _ hj]; exact (b22 c1 (Classical.not_not.mp c2))) rfl ?_
      refine Ew.ld f83_46 rfl rfl rfl rfl ?_
      refine Ew.getp (v := some (2, j, 5)) f83_47 (by rw [zsj2 _ hj]; rfl) rfl rfl ?_
      refine Ew.ld f83_50 rfl rfl rfl rfl ?_
      refine Ew.op (st' := zi (tGt T D) :: zr (some (2, j, 5)) :: zi (tGt T D) :: zr (some (2, j, 5)) :: _) f83_52 rfl rfl ?_
      refine Ew.ialdxO f83_53 (by rw [zsj2 _ hj]; rfl) (by rw [zsj2 _ hj]; exact (b23 c1 (Classical.not_not.mp c2))) rfl ?_
      refine Ew.op (st' := zi (nI 1) :: _) f83_54 rfl rfl ?_
      refine Ew.op (st' := zi ((ρ 5 ((tGt T D).toNatClampNeg)) + (nI 1)) :: _) f83_55 rfl rfl ?_
      refine Ew.iastxO f83_56 (by decide) (by rw [zsj2 _ hj]; rfl) (by rw [zsj2 _ hj]; exact (b24 c1 (Classical.not_not.mp c2))) rfl ?_
      refine Ew.goto f83_57 rfl ?_
      refine Ew.ld f83_117 rfl rfl rfl rfl ?_
      refine Ew.getp (v := some (2, j, 7)) f83_118 (by rw [zsj2 _ hj]; rfl) rfl rfl ?_
      refine Ew.ld f83_121 rfl rfl rfl rfl ?_
      refine Ew.ld f83_122 rfl rfl rfl rfl ?_
      refine Ew.op (st' := zi (nI 1) :: _) f83_123 rfl rfl ?_
      refine Ew.addn f83_124 rfl ?_
      refine Ew.iastnO f83_125 (by decide) (by rw [zsj2 _ hj]; rfl) (by rw [zsj2 _ hj]; exact (b25 c1 (Classical.not_not.mp c2))) (by rw [zsj2 _ hj]; decide) rfl ?_
      refine Ew.vret f83_126 ?_
      exact h4 c1 (Classical.not_not.mp c2)
  · refine Ew.ifc f83_19 rfl rfl (fun h => absurd h (show ¬ (¬ ((nI 0) : Int32) = 0) by decide)) (fun _ => ?_)
    refine Ew.vret f83_22 ?_
    exact h5 c1
theorem g86_0 {d c s : Nat} {j t n bb : Nat} {T : tT} {D : Nat} {X : zM} {ρ : Nat → Nat → Int32} {l : Nat → Nat → Int64} {Q : Option zV → zM → Prop} (hj : j < 15) (hc : cTr X.1 X.2.2.1 X.2.2.2.1 bb n T) (pt : X.2.2.1 2 j 2 t = some (3, n, 0)) (hD : ρ 7 t = nI D) 
    (b1 : t < 4)
    (b2 : t < 4)
    (b3 : cTr X.1 X.2.2.1 X.2.2.2.1 bb n T)
    (b4 : tOk T)
    (b5 : D ≤ T.n)
    (h1 : Ev (d + 1) c s 86 22 [some (zr (some (2, j, 0))), some (zi (nI t)), some (zi (nI 0))] [] (OM X 2 j (cAddL T ((-1)) ρ D) l) Q) : Ev (d + 1) c s 86 0 [some (zr (some (2, j, 0))), some (zi (nI t)), none] [] (OM X 2 j ρ l) Q := by
  refine Ew.ld f86_0 rfl rfl rfl rfl ?_
  refine Ew.getp (v := some (2, j, 2)) f86_1 (by rw [zsj2 _ hj]; rfl) rfl rfl ?_
  refine Ew.ld f86_4 rfl rfl rfl rfl ?_
  refine Ew.aaldn (v := some (3, n, 0)) f86_5 (by rw [zsj2 _ hj]; decide) (by rw [zsj2 _ hj]; exact b1) (by rw [zsj2 _ hj]; decide) rfl (show zpj X.2.2.1 2 j 2 t = _ from pt) ?_
  refine Ew.ld f86_6 rfl rfl rfl rfl ?_
  refine Ew.getp (v := some (2, j, 3)) f86_7 (by rw [zsj2 _ hj]; rfl) rfl rfl ?_
  refine Ew.ld f86_10 rfl rfl rfl rfl ?_
  refine Ew.getp (v := some (2, j, 7)) f86_11 (by rw [zsj2 _ hj]; rfl) rfl rfl ?_
  refine Ew.ld f86_14 rfl rfl rfl rfl ?_
  refine Ew.ialdnV (v := nI D) f86_15 (by rw [zsj2 _ hj]; rfl) (by rw [zsj2 _ hj]; exact b2) (by rw [zsj2 _ hj]; decide) rfl (so_v hD) ?_
  refine Ew.op (st' := zi ((-1)) :: _) f86_16 rfl rfl ?_
  refine Ew.call0 (ls0 := [some (zr (some (3, n, 0))), some (zr (some (2, j, 3))), some (zi (nI D)), some (zi ((-1))), none]) f86_17 rfl (Nat.le_of_ble_eq_true rfl) rfl rfl (Nat.le_of_ble_eq_true rfl) (by show (X.2.2.2.1 3 n 0).1 = _; rw [hc.sh]) (Nat.le_of_ble_eq_true rfl) rfl rfl ?_
  refine sp_cAddTo hj b3 b4 b5 ?_
  show Ev (d + 1) c s 86 20 [some (zr (some (2, j, 0))), some (zi (nI t)), none] [] (OM X 2 j (cAddL T ((-1)) ρ D) l) Q
  refine Ew.op (st' := zi (nI 0) :: _) f86_20 rfl rfl ?_
  refine Ew.sr (ls' := [some (zr (some (2, j, 0))), some (zi (nI t)), some (zi (nI 0))]) f86_21 rfl rfl (Nat.le_of_ble_eq_true rfl) rfl rfl ?_
  exact h1
theorem g86_22 {d c s : Nat} {j t g : Nat} {X : zM} {ρ : Nat → Nat → Int32} {l : Nat → Nat → Int64} {Q : Option zV → zM → Prop} (hj : j < 15) (nb_g : g < 5000)
    (h1 : (6 ≤ g) → Q none (OM X 2 j ρ l))
    (b1 : (g < 6) → g < 6)
    (h2 : (g < 6) → (¬ (ρ 4 g) = (nI t)) → Ev d c s 86 22 [some (zr (some (2, j, 0))), some (zi (nI t)), some (zi (nI (g + 1)))] [] (OM X 2 j ρ l) Q)
    (b2 : (g < 6) → ((ρ 4 g) = (nI t)) → g < 6)
    (b3 : (g < 6) → ((ρ 4 g) = (nI t)) → g < 6)
    (h3 : (g < 6) → ((ρ 4 g) = (nI t)) → Ev d c s 86 22 [some (zr (some (2, j, 0))), some (zi (nI t)), some (zi (nI (g + 1)))] [] (OM X 2 j (zu (zu ρ 4 g ((-4))) 5 g (nI 0)) l) Q) : Ev d c s 86 22 [some (zr (some (2, j, 0))), some (zi (nI t)), some (zi (nI g))] [] (OM X 2 j ρ l) Q := by
  refine Ew.ld f86_22 rfl rfl rfl rfl ?_
  refine Ew.op (st' := zi (nI 6) :: _) f86_23 rfl rfl ?_
  refine Ew.icmp f86_25 rfl rfl (fun c1 => ?_) (fun c1 => ?_)
  · refine Ew.vret f86_59 ?_
    exact h1 ((zle_iff (by decide) nb_g).mp c1)
  · refine Ew.ld f86_28 rfl rfl rfl rfl ?_
    refine Ew.getp (v := some (2, j, 4)) f86_29 (by rw [zsj2 _ hj]; rfl) rfl rfl ?_
    refine Ew.ld f86_32 rfl rfl rfl rfl ?_
    refine Ew.ialdnO f86_33 (by rw [zsj2 _ hj]; rfl) (by rw [zsj2 _ hj]; exact (b1 (Nat.not_le.mp fun e => c1 ((zle_iff (by decide) nb_g).mpr e)))) (by rw [zsj2 _ hj]; decide) rfl ?_
    refine Ew.ld f86_34 rfl rfl rfl rfl ?_
    refine Ew.icmp f86_35 rfl rfl (fun c2 => ?_) (fun c2 => ?_)
    · refine Ew.iinc (v := nI (g + 1)) (ls' := [some (zr (some (2, j, 0))), some (zi (nI t)), some (zi (nI (g + 1)))]) f86_53 rfl (nI_1 _) rfl rfl ?_
      refine Ew.goto f86_56 rfl ?_
      exact h2 (Nat.not_le.mp fun e => c1 ((zle_iff (by decide) nb_g).mpr e)) c2
    · refine Ew.ld f86_38 rfl rfl rfl rfl ?_
      refine Ew.getp (v := some (2, j, 4)) f86_39 (by rw [zsj2 _ hj]; rfl) rfl rfl ?_
      refine Ew.ld f86_42 rfl rfl rfl rfl ?_
      refine Ew.op (st' := zi ((-4)) :: _) f86_43 rfl rfl ?_
      refine Ew.iastnO f86_45 (by decide) (by rw [zsj2 _ hj]; rfl) (by rw [zsj2 _ hj]; exact (b2 (Nat.not_le.mp fun e => c1 ((zle_iff (by decide) nb_g).mpr e)) (Classical.not_not.mp c2))) (by rw [zsj2 _ hj]; decide) rfl ?_
      refine Ew.ld f86_46 rfl rfl rfl rfl ?_
      refine Ew.getp (v := some (2, j, 5)) f86_47 (by rw [zsj2 _ hj]; rfl) rfl rfl ?_
      refine Ew.ld f86_50 rfl rfl rfl rfl ?_
      refine Ew.op (st' := zi (nI 0) :: _) f86_51 rfl rfl ?_
      refine Ew.iastnO f86_52 (by decide) (by rw [zsj2 _ hj]; rfl) (by rw [zsj2 _ hj]; exact (b3 (Nat.not_le.mp fun e => c1 ((zle_iff (by decide) nb_g).mpr e)) (Classical.not_not.mp c2))) (by rw [zsj2 _ hj]; decide) rfl ?_
      refine Ew.iinc (v := nI (g + 1)) (ls' := [some (zr (some (2, j, 0))), some (zi (nI t)), some (zi (nI (g + 1)))]) f86_53 rfl (nI_1 _) rfl rfl ?_
      refine Ew.goto f86_56 rfl ?_
      exact h3 (Nat.not_le.mp fun e => c1 ((zle_iff (by decide) nb_g).mpr e)) (Classical.not_not.mp c2)
