/-! the class: all ways of two tasks -/
theorem g108_0 {d c s : Nat} {n bb k : Nat} {T : tT} {x : Int32} {I : zI} {L : zL} {P : zP} {S : zS} {top : Nat} {Q : Option zV → zM → Prop} (hc : cTr I P S bb n T) 
    (b1 : cTr I P S bb n T)
    (b2 : k < 5000)
    (b3 : cTr I P S bb n T)
    (b4 : k < 5000)
    (h1 : (k < T.n) → ((tEn T k) = ((-4))) → Q (some (zi (nI 1))) (I, L, zpj P, zsj S, top))
    (h2 : (k < T.n) → (¬ (tEn T k) = ((-4))) → (cHas x (tEn T k)) → Q (some (zi (nI 0))) (I, L, zpj P, zsj S, top))
    (h3 : (k < T.n) → (¬ (tEn T k) = ((-4))) → (¬ (cHas x (tEn T k))) → Q (some (zi (nI 1))) (I, L, zpj P, zsj S, top))
    (h4 : (¬ (k < T.n)) → Q (some (zi (nI 0))) (I, L, zpj P, zsj S, top)) : Ev (d + 3) c s 108 0 [some (zr (some (3, n, 0))), some (zi (nI k)), some (zi x), none] [] (I, L, zpj P, zsj S, top) Q := by
  refine Ew.ld f108_0 rfl rfl rfl rfl ?_
  refine Ew.ld f108_1 rfl rfl rfl rfl ?_
  refine Ew.call0 (ls0 := [some (zr (some (3, n, 0))), some (zi (nI k))]) f108_2 rfl (Nat.le_of_ble_eq_true rfl) rfl rfl (Nat.le_of_ble_eq_true rfl) (by show (S 3 n 0).1 = _; rw [hc.sh]) (Nat.le_of_ble_eq_true rfl) rfl rfl ?_
  refine sp_tEn b1 b2 ?_
  show Ev (d + 3) c s 108 5 [some (zr (some (3, n, 0))), some (zi (nI k)), some (zi x), none] [zi (tEn T k)] (I, L, zpj P, zsj S, top) Q
  refine Ew.sr (ls' := [some (zr (some (3, n, 0))), some (zi (nI k)), some (zi x), some (zi (tEn T k))]) f108_5 rfl rfl (Nat.le_of_ble_eq_true rfl) rfl rfl ?_
  refine Ew.ld f108_6 rfl rfl rfl rfl ?_
  refine Ew.ld f108_7 rfl rfl rfl rfl ?_
  refine Ew.call0 (ls0 := [some (zr (some (3, n, 0))), some (zi (nI k))]) f108_8 rfl (Nat.le_of_ble_eq_true rfl) rfl rfl (Nat.le_of_ble_eq_true rfl) (by show (S 3 n 0).1 = _; rw [hc.sh]) (Nat.le_of_ble_eq_true rfl) rfl rfl ?_
  refine sp_tHas b3 b4 (fun c1 => ?_) (fun c1 => ?_)
  · refine Ew.ifc f108_11 rfl rfl (fun h => absurd h (show ¬ (((nI 1) : Int32) = 0) by decide)) (fun _ => ?_)
    refine Ew.ld f108_14 rfl rfl rfl rfl ?_
    refine Ew.op (st' := zi ((-4)) :: _) f108_15 rfl rfl ?_
    refine Ew.icmp f108_17 rfl rfl (fun c2 => ?_) (fun c2 => ?_)
    · refine Ew.op (st' := zi (nI 1) :: _) f108_28 rfl rfl ?_
      refine Ew.goto f108_29 rfl ?_
      refine Ew.iretb f108_33 (Or.inr rfl) ?_
      exact h1 c1 c2
    · refine Ew.ld f108_20 rfl rfl rfl rfl ?_
      refine Ew.ld f108_21 rfl rfl rfl rfl ?_
      refine Ew.call0 (ls0 := [some (zi x), some (zi (tEn T k))]) f108_22 rfl (Nat.le_of_ble_eq_true rfl) rfl rfl (Nat.le_of_ble_eq_true rfl) trivial (Nat.le_of_ble_eq_true rfl) rfl rfl ?_
      refine sp_cHas (fun c3 => ?_) (fun c3 => ?_)
      · refine Ew.ifc f108_25 rfl rfl (fun _ => ?_) (fun h => absurd (show ¬ ((nI 1) : Int32) = 0 by decide) h)
        refine Ew.op (st' := zi (nI 0) :: _) f108_32 rfl rfl ?_
        refine Ew.iretb f108_33 (Or.inl rfl) ?_
        exact h2 c1 c2 c3
      · refine Ew.ifc f108_25 rfl rfl (fun h => absurd h (show ¬ (¬ ((nI 0) : Int32) = 0) by decide)) (fun _ => ?_)
        refine Ew.op (st' := zi (nI 1) :: _) f108_28 rfl rfl ?_
        refine Ew.goto f108_29 rfl ?_
        refine Ew.iretb f108_33 (Or.inr rfl) ?_
        exact h3 c1 c2 c3
  · refine Ew.ifc f108_11 rfl rfl (fun _ => ?_) (fun h => absurd (show ((nI 0) : Int32) = 0 by decide) h)
    refine Ew.op (st' := zi (nI 0) :: _) f108_32 rfl rfl ?_
    refine Ew.iretb f108_33 (Or.inl rfl) ?_
    exact h4 c1
/-- may a task do its next step while others are in those gates? -/
def tCan (T : tT) (k : Nat) (x : Int32) : Prop := k < T.n ∧ (tEn T k = -4 ∨ ¬ cHas x (tEn T k))
theorem sp_tCan {d c s n bb k : Nat} {T : tT} {x : Int32} {I : zI} {L : zL} {P : zP} {S : zS} {top : Nat} {Q : Option zV → zM → Prop} (hc : cTr I P S bb n T) (hk : k < 5000) (k1 : tCan T k x → Q (some (zi (nI 1))) (I, L, zpj P, zsj S, top)) (k0 : ¬ tCan T k x → Q (some (zi (nI 0))) (I, L, zpj P, zsj S, top)) : Ev (d + 3) c s 108 0 [some (zr (some (3, n, 0))), some (zi (nI k)), some (zi x), none] [] (I, L, zpj P, zsj S, top) Q :=
  g108_0 hc hc hk hc hk (fun q1 q2 => k1 ⟨q1, Or.inl q2⟩) (fun _ q2 q3 => k0 (fun g => by rcases g.2 with e | e; exact q2 e; exact e q3)) (fun q1 _ q3 => k1 ⟨q1, Or.inr q3⟩) (fun q => k0 (fun g => q g.1))
theorem g20_0 {d c s : Nat} {n1 n2 bb : Nat} {T1 T2 : tT} {p q : Nat} {X : zM} {ρ : Nat → Nat → Int32} {l : Nat → Nat → Int64} {Q : Option zV → zM → Prop} (e1 : cTr X.1 X.2.2.1 X.2.2.2.1 bb n1 T1) (e2 : cTr X.1 X.2.2.1 X.2.2.2.1 bb n2 T2) (p1 : X.2.2.1 0 0 14 6 = some (3, n1, 0)) (p2 : X.2.2.1 0 0 14 7 = some (3, n2, 0))  (nb_q : q < 5000)
    (b1 : q < 31)
    (b2 : q < 31)
    (b3 : cTr X.1 X.2.2.1 X.2.2.2.1 bb n2 T2)
    (b4 : q < 5000)
    (b5 : cTr X.1 X.2.2.1 X.2.2.2.1 bb n1 T1)
    (b6 : p < 5000)
    (b7 : (tCan T1 p (tIs T2 q)) → cTr X.1 X.2.2.1 X.2.2.2.1 bb n1 T1)
    (b8 : (tCan T1 p (tIs T2 q)) → p < 5000)
    (b9 : (tCan T1 p (tIs T2 q)) → cTr X.1 X.2.2.1 X.2.2.2.1 bb n2 T2)
    (b10 : (tCan T1 p (tIs T2 q)) → q < 5000)
    (b11 : (tCan T1 p (tIs T2 q)) → (tCan T2 q (tIs T1 p)) → q < 31)
    (h1 : (tCan T1 p (tIs T2 q)) → (tCan T2 q (tIs T1 p)) → (30 ≤ q) → Q none (OM X 0 0 ρ (zu l 16 q ((l 16 q) / (lN 2)))))
    (b12 : (tCan T1 p (tIs T2 q)) → (tCan T2 q (tIs T1 p)) → (q < 30) → q + 1 < 31)
    (b13 : (tCan T1 p (tIs T2 q)) → (tCan T2 q (tIs T1 p)) → (q < 30) → q + 1 < 31)
    (b14 : (tCan T1 p (tIs T2 q)) → (tCan T2 q (tIs T1 p)) → (q < 30) → q + 1 < 31)
    (b15 : (tCan T1 p (tIs T2 q)) → (tCan T2 q (tIs T1 p)) → (q < 30) → q + 1 < 31)
    (h2 : (tCan T1 p (tIs T2 q)) → (tCan T2 q (tIs T1 p)) → (q < 30) → Q none (OM X 0 0 ρ (zu (zu (zu l 16 q ((l 16 q) / (lN 2))) 15 (q + 1) ((l 15 (q + 1)) + (l 15 q))) 16 (q + 1) (((zu l 16 q ((l 16 q) / (lN 2))) 16 (q + 1)) + ((l 16 q) / (lN 2))))))
    (b16 : (tCan T1 p (tIs T2 q)) → (¬ (tCan T2 q (tIs T1 p))) → q < 31)
    (h3 : (tCan T1 p (tIs T2 q)) → (¬ (tCan T2 q (tIs T1 p))) → Q none (OM X 0 0 ρ (zu l 16 q (l 16 q))))
    (b17 : (¬ (tCan T1 p (tIs T2 q))) → cTr X.1 X.2.2.1 X.2.2.2.1 bb n1 T1)
    (b18 : (¬ (tCan T1 p (tIs T2 q))) → p < 5000)
    (b19 : (¬ (tCan T1 p (tIs T2 q))) → cTr X.1 X.2.2.1 X.2.2.2.1 bb n2 T2)
    (b20 : (¬ (tCan T1 p (tIs T2 q))) → q < 5000)
    (b21 : (¬ (tCan T1 p (tIs T2 q))) → (tCan T2 q (tIs T1 p)) → q < 31)
    (b22 : (¬ (tCan T1 p (tIs T2 q))) → (tCan T2 q (tIs T1 p)) → q < 31)
    (h4 : (¬ (tCan T1 p (tIs T2 q))) → (tCan T2 q (tIs T1 p)) → (30 ≤ q) → Q none (OM X 0 0 ρ (zu (zu l 15 q (lN 0)) 16 q (lN 0))))
    (b23 : (¬ (tCan T1 p (tIs T2 q))) → (tCan T2 q (tIs T1 p)) → (q < 30) → q + 1 < 31)
    (b24 : (¬ (tCan T1 p (tIs T2 q))) → (tCan T2 q (tIs T1 p)) → (q < 30) → q + 1 < 31)
    (b25 : (¬ (tCan T1 p (tIs T2 q))) → (tCan T2 q (tIs T1 p)) → (q < 30) → q + 1 < 31)
    (b26 : (¬ (tCan T1 p (tIs T2 q))) → (tCan T2 q (tIs T1 p)) → (q < 30) → q + 1 < 31)
    (h5 : (¬ (tCan T1 p (tIs T2 q))) → (tCan T2 q (tIs T1 p)) → (q < 30) → Q none (OM X 0 0 ρ (zu (zu (zu (zu l 15 q (lN 0)) 16 q (lN 0)) 15 (q + 1) (((zu l 15 q (lN 0)) 15 (q + 1)) + (l 15 q))) 16 (q + 1) (((zu (zu l 15 q (lN 0)) 16 q (lN 0)) 16 (q + 1)) + (l 16 q)))))
    (b27 : (¬ (tCan T1 p (tIs T2 q))) → (¬ (tCan T2 q (tIs T1 p))) → q < 31)
    (b28 : (¬ (tCan T1 p (tIs T2 q))) → (¬ (tCan T2 q (tIs T1 p))) → q < 31)
    (h6 : (¬ (tCan T1 p (tIs T2 q))) → (¬ (tCan T2 q (tIs T1 p))) → Ev (d + 3) 0 0 21 0 [some (zr (some (0, 0, 14))), some (zi (nI p)), some (zi (nI q)), some (zl (l 15 q)), none, some (zl (l 16 q)), none] [] (OM X 0 0 ρ (zu (zu l 15 q (lN 0)) 16 q (lN 0))) (fun r M' => Ev (d + 4) c s 20 159 [some (zr (some (0, 0, 14))), some (zi (nI p)), some (zi (nI q)), some (zl (l 15 q)), none, some (zl (l 16 q)), none, some (zi (nI 0)), some (zi (nI 0)), some (zl (l 16 q)), none] (zpush r []) M' Q)) : Ev (d + 4) c s 20 0 [some (zr (some (0, 0, 14))), some (zi (nI p)), some (zi (nI q)), none, none, none, none, none, none, none, none] [] (OM X 0 0 ρ l) Q := by
  refine Ew.ld f20_0 rfl rfl rfl rfl ?_
  refine Ew.getp (v := some (0, 0, 15)) f20_1 rfl rfl rfl ?_
  refine Ew.ld f20_4 rfl rfl rfl rfl ?_
  refine Ew.laldnO f20_5 rfl b1 (Nat.le_of_ble_eq_true rfl) rfl ?_
  refine Ew.sr (ls' := [some (zr (some (0, 0, 14))), some (zi (nI p)), some (zi (nI q)), some (zl (l 15 q)), none, none, none, none, none, none, none]) f20_6 rfl rfl (Nat.le_of_ble_eq_true rfl) rfl rfl ?_
  refine Ew.ld f20_7 rfl rfl rfl rfl ?_
  refine Ew.getp (v := some (0, 0, 16)) f20_8 rfl rfl rfl ?_
  refine Ew.ld f20_11 rfl rfl rfl rfl ?_
  refine Ew.laldnO f20_12 rfl b2 (Nat.le_of_ble_eq_true rfl) rfl ?_
  refine Ew.sr (ls' := [some (zr (some (0, 0, 14))), some (zi (nI p)), some (zi (nI q)), some (zl (l 15 q)), none, some (zl (l 16 q)), none, none, none, none, none]) f20_13 rfl rfl (Nat.le_of_ble_eq_true rfl) rfl rfl ?_
  refine Ew.ld f20_15 rfl rfl rfl rfl ?_
  refine Ew.getp (v := some (3, n1, 0)) f20_16 rfl (show zpj X.2.2.1 0 0 14 6 = _ from p1) rfl ?_
  refine Ew.ld f20_19 rfl rfl rfl rfl ?_
  refine Ew.ld f20_20 rfl rfl rfl rfl ?_
  refine Ew.getp (v := some (3, n2, 0)) f20_21 rfl (show zpj X.2.2.1 0 0 14 7 = _ from p2) rfl ?_
  refine Ew.ld f20_24 rfl rfl rfl rfl ?_
  refine Ew.call0 (ls0 := [some (zr (some (3, n2, 0))), some (zi (nI q))]) f20_25 rfl (Nat.le_of_ble_eq_true rfl) rfl rfl (Nat.le_of_ble_eq_true rfl) (by show (X.2.2.2.1 3 n2 0).1 = _; rw [e2.sh]) (Nat.le_of_ble_eq_true rfl) rfl rfl ?_
  refine sp_tIs b3 b4 ?_
  show Ev (d + 4) c s 20 28 [some (zr (some (0, 0, 14))), some (zi (nI p)), some (zi (nI q)), some (zl (l 15 q)), none, some (zl (l 16 q)), none, none, none, none, none] [zi (tIs T2 q), zi (nI p), zr (some (3, n1, 0))] (OM X 0 0 ρ l) Q
  refine Ew.call0 (ls0 := [some (zr (some (3, n1, 0))), some (zi (nI p)), some (zi (tIs T2 q)), none]) f20_28 rfl (Nat.le_of_ble_eq_true rfl) rfl rfl (Nat.le_of_ble_eq_true rfl) (by show (X.2.2.2.1 3 n1 0).1 = _; rw [e1.sh]) (Nat.le_of_ble_eq_true rfl) rfl rfl ?_
  refine sp_tCan b5 b6 (fun c1 => ?_) (fun c1 => ?_)
  · refine Ew.sr (ls' := [some (zr (some (0, 0, 14))), some (zi (nI p)), some (zi (nI q)), some (zl (l 15 q)), none, some (zl (l 16 q)), none, some (zi (nI 1)), none, none, none]) f20_31 rfl rfl (Nat.le_of_ble_eq_true rfl) rfl rfl ?_
    refine Ew.ld f20_33 rfl rfl rfl rfl ?_
    refine Ew.getp (v := some (3, n2, 0)) f20_34 rfl (show zpj X.2.2.1 0 0 14 7 = _ from p2) rfl ?_
    refine Ew.ld f20_37 rfl rfl rfl rfl ?_
    refine Ew.ld f20_38 rfl rfl rfl rfl ?_
    refine Ew.getp (v := some (3, n1, 0)) f20_39 rfl (show zpj X.2.2.1 0 0 14 6 = _ from p1) rfl ?_
    refine Ew.ld f20_42 rfl rfl rfl rfl ?_
    refine Ew.call0 (ls0 := [some (zr (some (3, n1, 0))), some (zi (nI p))]) f20_43 rfl (Nat.le_of_ble_eq_true rfl) rfl rfl (Nat.le_of_ble_eq_true rfl) (by show (X.2.2.2.1 3 n1 0).1 = _; rw [e1.sh]) (Nat.le_of_ble_eq_true rfl) rfl rfl ?_
    refine sp_tIs (b7 c1) (b8 c1) ?_
    show Ev (d + 4) c s 20 46 [some (zr (some (0, 0, 14))), some (zi (nI p)), some (zi (nI q)), some (zl (l 15 q)), none, some (zl (l 16 q)), none, some (zi (nI 1)), none, none, none] [zi (tIs T1 p), zi (nI q), zr (some (3, n2, 0))] (OM X 0 0 ρ l) Q
    refine Ew.call0 (ls0 := [some (zr (some (3, n2, 0))), some (zi (nI q)), some (zi (tIs T1 p)), none]) f20_46 rfl (Nat.le_of_ble_eq_true rfl) rfl rfl (Nat.le_of_ble_eq_true rfl) (by show (X.2.2.2.1 3 n2 0).1 = _; rw [e2.sh]) (Nat.le_of_ble_eq_true rfl) rfl rfl ?_
    refine sp_tCan (b9 c1) (b10 c1) (fun c2 => ?_) (fun c2 => ?_)
    · refine Ew.sr (ls' := [some (zr (some (0, 0, 14))), some (zi (nI p)), some (zi (nI q)), some (zl (l 15 q)), none, some (zl (l 16 q)), none, some (zi (nI 1)), some (zi (nI 1)), none, none]) f20_49 rfl rfl (Nat.le_of_ble_eq_true rfl) rfl rfl ?_
      refine Ew.ld f20_51 rfl rfl rfl rfl ?_
      refine Ew.ifc f20_53 rfl rfl (fun h => absurd h (show ¬ (((nI 1) : Int32) = 0) by decide)) (fun _ => ?_)
      refine Ew.ld f20_56 rfl rfl rfl rfl ?_
      refine Ew.ifc f20_58 rfl rfl (fun h => absurd h (show ¬ (((nI 1) : Int32) = 0) by decide)) (fun _ => ?_)
      refine Ew.ld f20_61 rfl rfl rfl rfl ?_
      refine Ew.op (st' := zl (lN 2) :: _) f20_63 rfl rfl ?_
      refine Ew.ldiv f20_66 (by decide) rfl ?_
      refine Ew.goto f20_67 rfl ?_
      refine Ew.sr (ls' := [some (zr (some (0, 0, 14))), some (zi (nI p)), some (zi (nI q)), some (zl (l 15 q)), none, some (zl (l 16 q)), none, some (zi (nI 1)), some (zi (nI 1)), some (zl ((l 16 q) / (lN 2))), none]) f20_72 rfl rfl (Nat.le_of_ble_eq_true rfl) rfl rfl ?_
      refine Ew.ld f20_74 rfl rfl rfl rfl ?_
      refine Ew.ifc f20_76 rfl rfl (fun _ => ?_) (fun h => absurd (show ¬ ((nI 1) : Int32) = 0 by decide) h)
      refine Ew.ld f20_96 rfl rfl rfl rfl ?_
      refine Ew.getp (v := some (0, 0, 16)) f20_97 rfl rfl rfl ?_
      refine Ew.ld f20_100 rfl rfl rfl rfl ?_
      refine Ew.ld f20_101 rfl rfl rfl rfl ?_
      refine Ew.lastnO f20_103 rfl (b11 c1 c2) (Nat.le_of_ble_eq_true rfl) rfl ?_
      refine Ew.ld f20_104 rfl rfl rfl rfl ?_
      refine Ew.ifc f20_106 rfl rfl (fun h => absurd h (show ¬ (((nI 1) : Int32) = 0) by decide)) (fun _ => ?_)
      refine Ew.ld f20_109 rfl rfl rfl rfl ?_
      refine Ew.op (st' := zi (nI 30) :: _) f20_110 rfl rfl ?_
      refine Ew.icmp f20_112 rfl rfl (fun c3 => ?_) (fun c3 => ?_)
      · refine Ew.ld f20_140 rfl rfl rfl rfl ?_
        refine Ew.ifc f20_142 rfl rfl (fun _ => ?_) (fun h => absurd (show ¬ ((nI 1) : Int32) = 0 by decide) h)
        refine Ew.vret f20_159 ?_
        exact h1 c1 c2 ((zle_iff (by decide) nb_q).mp c3)
      · refine Ew.ld f20_115 rfl rfl rfl rfl ?_
        refine Ew.getp (v := some (0, 0, 15)) f20_116 rfl rfl rfl ?_
        refine Ew.ld f20_119 rfl rfl rfl rfl ?_
        refine Ew.op (st' := zi (nI 1) :: _) f20_120 rfl rfl ?_
        refine Ew.addn f20_121 rfl ?_
        refine Ew.op (st' := zi (nI (q + 1)) :: zr (some (0, 0, 15)) :: zi (nI (q + 1)) :: zr (some (0, 0, 15)) :: _) f20_122 rfl rfl ?_
        refine Ew.laldnO f20_123 rfl (b12 c1 c2 (Nat.not_le.mp fun e => c3 ((zle_iff (by decide) nb_q).mpr e))) (Nat.le_of_ble_eq_true rfl) rfl ?_
        refine Ew.ld f20_124 rfl rfl rfl rfl ?_
        refine Ew.op (st' := zl ((l 15 (q + 1)) + (l 15 q)) :: _) f20_125 rfl rfl ?_
        refine Ew.lastnO f20_126 rfl (b13 c1 c2 (Nat.not_le.mp fun e => c3 ((zle_iff (by decide) nb_q).mpr e))) (Nat.le_of_ble_eq_true rfl) rfl ?_
        refine Ew.ld f20_127 rfl rfl rfl rfl ?_
        refine Ew.getp (v := some (0, 0, 16)) f20_128 rfl rfl rfl ?_
        refine Ew.ld f20_131 rfl rfl rfl rfl ?_
        refine Ew.op (st' := zi (nI 1) :: _) f20_132 rfl rfl ?_
        refine Ew.addn f20_133 rfl ?_
        refine Ew.op (st' := zi (nI (q + 1)) :: zr (some (0, 0, 16)) :: zi (nI (q + 1)) :: zr (some (0, 0, 16)) :: _) f20_134 rfl rfl ?_
        refine Ew.laldnO f20_135 rfl (b14 c1 c2 (Nat.not_le.mp fun e => c3 ((zle_iff (by decide) nb_q).mpr e))) (Nat.le_of_ble_eq_true rfl) rfl ?_
        refine Ew.ld f20_136 rfl rfl rfl rfl ?_
        refine Ew.op (st' := zl (((zu l 16 q ((l 16 q) / (lN 2))) 16 (q + 1)) + ((l 16 q) / (lN 2))) :: _) f20_138 rfl rfl ?_
        refine Ew.lastnO f20_139 rfl (b15 c1 c2 (Nat.not_le.mp fun e => c3 ((zle_iff (by decide) nb_q).mpr e))) (Nat.le_of_ble_eq_true rfl) rfl ?_
        refine Ew.ld f20_140 rfl rfl rfl rfl ?_
        refine Ew.ifc f20_142 rfl rfl (fun _ => ?_) (fun h => absurd (show ¬ ((nI 1) : Int32) = 0 by decide) h)
        refine Ew.vret f20_159 ?_
        exact h2 c1 c2 (Nat.not_le.mp fun e => c3 ((zle_iff (by decide) nb_q).mpr e))
    · refine Ew.sr (ls' := [some (zr (some (0, 0, 14))), some (zi (nI p)), some (zi (nI q)), some (zl (l 15 q)), none, some (zl (l 16 q)), none, some (zi (nI 1)), some (zi (nI 0)), none, none]) f20_49 rfl rfl (Nat.le_of_ble_eq_true rfl) rfl rfl ?_
      refine Ew.ld f20_51 rfl rfl rfl rfl ?_
      refine Ew.ifc f20_53 rfl rfl (fun h => absurd h (show ¬ (((nI 1) : Int32) = 0) by decide)) (fun _ => ?_)
      refine Ew.ld f20_56 rfl rfl rfl rfl ?_
      refine Ew.ifc f20_58 rfl rfl (fun _ => ?_) (fun h => absurd (show ((nI 0) : Int32) = 0 by decide) h)
      refine Ew.ld f20_70 rfl rfl rfl rfl ?_
      refine Ew.sr (ls' := [some (zr (some (0, 0, 14))), some (zi (nI p)), some (zi (nI q)), some (zl (l 15 q)), none, some (zl (l 16 q)), none, some (zi (nI 1)), some (zi (nI 0)), some (zl (l 16 q)), none]) f20_72 rfl rfl (Nat.le_of_ble_eq_true rfl) rfl rfl ?_
      refine Ew.ld f20_74 rfl rfl rfl rfl ?_
      refine Ew.ifc f20_76 rfl rfl (fun _ => ?_) (fun h => absurd (show ¬ ((nI 1) : Int32) = 0 by decide) h)
      refine Ew.ld f20_96 rfl rfl rfl rfl ?_
      refine Ew.getp (v := some (0, 0, 16)) f20_97 rfl rfl rfl ?_
      refine Ew.ld f20_100 rfl rfl rfl rfl ?_
      refine Ew.ld f20_101 rfl rfl rfl rfl ?_
      refine Ew.lastnO f20_103 rfl (b16 c1 c2) (Nat.le_of_ble_eq_true rfl) rfl ?_
      refine Ew.ld f20_104 rfl rfl rfl rfl ?_
      refine Ew.ifc f20_106 rfl rfl (fun _ => ?_) (fun h => absurd (show ((nI 0) : Int32) = 0 by decide) h)
      refine Ew.ld f20_140 rfl rfl rfl rfl ?_
      refine Ew.ifc f20_142 rfl rfl (fun _ => ?_) (fun h => absurd (show ¬ ((nI 1) : Int32) = 0 by decide) h)
      refine Ew.vret f20_159 ?_
      exact h3 c1 c2
  · refine Ew.sr (ls' := [some (zr (some (0, 0, 14))), some (zi (nI p)), some (zi (nI q)), some (zl (l 15 q)), none, some (zl (l 16 q)), none, some (zi (nI 0)), none, none, none]) f20_31 rfl rfl (Nat.le_of_ble_eq_true rfl) rfl rfl ?_
    refine Ew.ld f20_33 rfl rfl rfl rfl ?_
    refine Ew.getp (v := some (3, n2, 0)) f20_34 rfl (show zpj X.2.2.1 0 0 14 7 = _ from p2) rfl ?_
    refine Ew.ld f20_37 rfl rfl rfl rfl ?_
    refine Ew.ld f20_38 rfl rfl rfl rfl ?_
    refine Ew.getp (v := some (3, n1, 0)) f20_39 rfl (show zpj X.2.2.1 0 0 14 6 = _ from p1) rfl ?_
    refine Ew.ld f20_42 rfl rfl rfl rfl ?_
    refine Ew.call0 (ls0 := [some (zr (some (3, n1, 0))), some (zi (nI p))]) f20_43 rfl (Nat.le_of_ble_eq_true rfl) rfl rfl (Nat.le_of_ble_eq_true rfl) (by show (X.2.2.2.1 3 n1 0).1 = _; rw [e1.sh]) (Nat.le_of_ble_eq_true rfl) rfl rfl ?_
    refine sp_tIs (b17 c1) (b18 c1) ?_
    show Ev (d + 4) c s 20 46 [some (zr (some (0, 0, 14))), some (zi (nI p)), some (zi (nI q)), some (zl (l 15 q)), none, some (zl (l 16 q)), none, some (zi (nI 0)), none, none, none] [zi (tIs T1 p), zi (nI q), zr (some (3, n2, 0))] (OM X 0 0 ρ l) Q
    refine Ew.call0 (ls0 := [some (zr (some (3, n2, 0))), some (zi (nI q)), some (zi (tIs T1 p)), none]) f20_46 rfl (Nat.le_of_ble_eq_true rfl) rfl rfl (Nat.le_of_ble_eq_true rfl) (by show (X.2.2.2.1 3 n2 0).1 = _; rw [e2.sh]) (Nat.le_of_ble_eq_true rfl) rfl rfl ?_
    refine sp_tCan (b19 c1) (b20 c1) (fun c4 => ?_) (fun c4 => ?_)
    · refine Ew.sr (ls' := [some (zr (some (0, 0, 14))), some (zi (nI p)), some (zi (nI q)), some (zl (l 15 q)), none, some (zl (l 16 q)), none, some (zi (nI 0)), some (zi (nI 1)), none, none]) f20_49 rfl rfl (Nat.le_of_ble_eq_true rfl) rfl rfl ?_
      refine Ew.ld f20_51 rfl rfl rfl rfl ?_
      refine Ew.ifc f20_53 rfl rfl (fun _ => ?_) (fun h => absurd (show ((nI 0) : Int32) = 0 by decide) h)
      refine Ew.ld f20_70 rfl rfl rfl rfl ?_
      refine Ew.sr (ls' := [some (zr (some (0, 0, 14))), some (zi (nI p)), some (zi (nI q)), some (zl (l 15 q)), none, some (zl (l 16 q)), none, some (zi (nI 0)), some (zi (nI 1)), some (zl (l 16 q)), none]) f20_72 rfl rfl (Nat.le_of_ble_eq_true rfl) rfl rfl ?_
      refine Ew.ld f20_74 rfl rfl rfl rfl ?_
      refine Ew.ifc f20_76 rfl rfl (fun h => absurd h (show ¬ (¬ ((nI 0) : Int32) = 0) by decide)) (fun _ => ?_)
      refine Ew.ld f20_79 rfl rfl rfl rfl ?_
      refine Ew.getp (v := some (0, 0, 15)) f20_80 rfl rfl rfl ?_
      refine Ew.ld f20_83 rfl rfl rfl rfl ?_
      refine Ew.op (st' := zl (lN 0) :: _) f20_84 rfl rfl ?_
      refine Ew.lastnO f20_85 rfl (b21 c1 c4) (Nat.le_of_ble_eq_true rfl) rfl ?_
      refine Ew.ld f20_86 rfl rfl rfl rfl ?_
      refine Ew.getp (v := some (0, 0, 16)) f20_87 rfl rfl rfl ?_
      refine Ew.ld f20_90 rfl rfl rfl rfl ?_
      refine Ew.op (st' := zl (lN 0) :: _) f20_91 rfl rfl ?_
      refine Ew.lastnO f20_92 rfl (b22 c1 c4) (Nat.le_of_ble_eq_true rfl) rfl ?_
      refine Ew.goto f20_93 rfl ?_
      refine Ew.ld f20_104 rfl rfl rfl rfl ?_
      refine Ew.ifc f20_106 rfl rfl (fun h => absurd h (show ¬ (((nI 1) : Int32) = 0) by decide)) (fun _ => ?_)
      refine Ew.ld f20_109 rfl rfl rfl rfl ?_
      refine Ew.op (st' := zi (nI 30) :: _) f20_110 rfl rfl ?_
      refine Ew.icmp f20_112 rfl rfl (fun c5 => ?_) (fun c5 => ?_)
      · refine Ew.ld f20_140 rfl rfl rfl rfl ?_
        refine Ew.ifc f20_142 rfl rfl (fun h => absurd h (show ¬ (¬ ((nI 0) : Int32) = 0) by decide)) (fun _ => ?_)
        refine Ew.ld f20_145 rfl rfl rfl rfl ?_
        refine Ew.ifc f20_147 rfl rfl (fun _ => ?_) (fun h => absurd (show ¬ ((nI 1) : Int32) = 0 by decide) h)
        refine Ew.vret f20_159 ?_
        exact h4 c1 c4 ((zle_iff (by decide) nb_q).mp c5)
      · refine Ew.ld f20_115 rfl rfl rfl rfl ?_
        refine Ew.getp (v := some (0, 0, 15)) f20_116 rfl rfl rfl ?_
        refine Ew.ld f20_119 rfl rfl rfl rfl ?_
        refine Ew.op (st' := zi (nI 1) :: _) f20_120 rfl rfl ?_
        refine Ew.addn f20_121 rfl ?_
        refine Ew.op (st' := zi (nI (q + 1)) :: zr (some (0, 0, 15)) :: zi (nI (q + 1)) :: zr (some (0, 0, 15)) :: _) f20_122 rfl rfl ?_
        refine Ew.laldnO f20_123 rfl (b23 c1 c4 (Nat.not_le.mp fun e => c5 ((zle_iff (by decide) nb_q).mpr e))) (Nat.le_of_ble_eq_true rfl) rfl ?_
        refine Ew.ld f20_124 rfl rfl rfl rfl ?_
        refine Ew.op (st' := zl (((zu l 15 q (lN 0)) 15 (q + 1)) + (l 15 q)) :: _) f20_125 rfl rfl ?_
        refine Ew.lastnO f20_126 rfl (b24 c1 c4 (Nat.not_le.mp fun e => c5 ((zle_iff (by decide) nb_q).mpr e))) (Nat.le_of_ble_eq_true rfl) rfl ?_
        refine Ew.ld f20_127 rfl rfl rfl rfl ?_
        refine Ew.getp (v := some (0, 0, 16)) f20_128 rfl rfl rfl ?_
        refine Ew.ld f20_131 rfl rfl rfl rfl ?_
        refine Ew.op (st' := zi (nI 1) :: _) f20_132 rfl rfl ?_
        refine Ew.addn f20_133 rfl ?_
        refine Ew.op (st' := zi (nI (q + 1)) :: zr (some (0, 0, 16)) :: zi (nI (q + 1)) :: zr (some (0, 0, 16)) :: _) f20_134 rfl rfl ?_
        refine Ew.laldnO f20_135 rfl (b25 c1 c4 (Nat.not_le.mp fun e => c5 ((zle_iff (by decide) nb_q).mpr e))) (Nat.le_of_ble_eq_true rfl) rfl ?_
        refine Ew.ld f20_136 rfl rfl rfl rfl ?_
        refine Ew.op (st' := zl (((zu (zu l 15 q (lN 0)) 16 q (lN 0)) 16 (q + 1)) + (l 16 q)) :: _) f20_138 rfl rfl ?_
        refine Ew.lastnO f20_139 rfl (b26 c1 c4 (Nat.not_le.mp fun e => c5 ((zle_iff (by decide) nb_q).mpr e))) (Nat.le_of_ble_eq_true rfl) rfl ?_
        refine Ew.ld f20_140 rfl rfl rfl rfl ?_
        refine Ew.ifc f20_142 rfl rfl (fun h => absurd h (show ¬ (¬ ((nI 0) : Int32) = 0) by decide)) (fun _ => ?_)
        refine Ew.ld f20_145 rfl rfl rfl rfl ?_
        refine Ew.ifc f20_147 rfl rfl (fun _ => ?_) (fun h => absurd (show ¬ ((nI 1) : Int32) = 0 by decide) h)
        refine Ew.vret f20_159 ?_
        exact h5 c1 c4 (Nat.not_le.mp fun e => c5 ((zle_iff (by decide) nb_q).mpr e))
    · refine Ew.sr (ls' := [some (zr (some (0, 0, 14))), some (zi (nI p)), some (zi (nI q)), some (zl (l 15 q)), none, some (zl (l 16 q)), none, some (zi (nI 0)), some (zi (nI 0)), none, none]) f20_49 rfl rfl (Nat.le_of_ble_eq_true rfl) rfl rfl ?_
      refine Ew.ld f20_51 rfl rfl rfl rfl ?_
      refine Ew.ifc f20_53 rfl rfl (fun _ => ?_) (fun h => absurd (show ((nI 0) : Int32) = 0 by decide) h)
      refine Ew.ld f20_70 rfl rfl rfl rfl ?_
      refine Ew.sr (ls' := [some (zr (some (0, 0, 14))), some (zi (nI p)), some (zi (nI q)), some (zl (l 15 q)), none, some (zl (l 16 q)), none, some (zi (nI 0)), some (zi (nI 0)), some (zl (l 16 q)), none]) f20_72 rfl rfl (Nat.le_of_ble_eq_true rfl) rfl rfl ?_
      refine Ew.ld f20_74 rfl rfl rfl rfl ?_
      refine Ew.ifc f20_76 rfl rfl (fun h => absurd h (show ¬ (¬ ((nI 0) : Int32) = 0) by decide)) (fun _ => ?_)
      refine Ew.ld f20_79 rfl rfl rfl rfl ?_
      refine Ew.getp (v := some (0, 0, 15)) f20_80 rfl rfl rfl ?_
      refine Ew.ld f20_83 rfl rfl rfl rfl ?_
      refine Ew.op (st' := zl (lN 0) :: _) f20_84 rfl rfl ?_
      refine Ew.lastnO f20_85 rfl (b27 c1 c4) (Nat.le_of_ble_eq_true rfl) rfl ?_
      refine Ew.ld f20_86 rfl rfl rfl rfl ?_
      refine Ew.getp (v := some (0, 0, 16)) f20_87 rfl rfl rfl ?_
      refine Ew.ld f20_90 rfl rfl rfl rfl ?_
      refine Ew.op (st' := zl (lN 0) :: _) f20_91 rfl rfl ?_
      refine Ew.lastnO f20_92 rfl (b28 c1 c4) (Nat.le_of_ble_eq_true rfl) rfl ?_
      refine Ew.goto f20_93 rfl ?_
      refine Ew.ld f20_104 rfl rfl rfl rfl ?_
      refine Ew.ifc f20_106 rfl rfl (fun _ => ?_) (fun h => absurd (show ((nI 0) : Int32) = 0 by decide) h)
      refine Ew.ld f20_140 rfl rfl rfl rfl ?_
      refine Ew.ifc f20_142 rfl rfl (fun h => absurd h (show ¬ (¬ ((nI 0) : Int32) = 0) by decide)) (fun _ => ?_)
      refine Ew.ld f20_145 rfl rfl rfl rfl ?_
      refine Ew.ifc f20_147 rfl rfl (fun h => absurd h (show ¬ (¬ ((nI 0) : Int32) = 0) by decide)) (fun _ => ?_)
      refine Ew.ld f20_150 rfl rfl rfl rfl ?_
      refine Ew.ld f20_151 rfl rfl rfl rfl ?_
      refine Ew.ld f20_152 rfl rfl rfl rfl ?_
      refine Ew.ld f20_153 rfl rfl rfl rfl ?_
      refine Ew.ld f20_154 rfl rfl rfl rfl ?_
      refine Ew.call0 (ls0 := [some (zr (some (0, 0, 14))), some (zi (nI p)), some (zi (nI q)), some (zl (l 15 q)), none, some (zl (l 16 q)), none]) f20_156 rfl (Nat.le_of_ble_eq_true rfl) rfl rfl (Nat.le_of_ble_eq_true rfl) rfl (Nat.le_of_ble_eq_true rfl) rfl rfl ?_
      exact h6 c1 c4
theorem g20_159 {d c s : Nat} {p q : Nat} {u v : Int64} {X : zM} {ρ : Nat → Nat → Int32} {l : Nat → Nat → Int64} {Q : Option zV → zM → Prop}
    (h1 : Q none (OM X 0 0 ρ l)) : Ev d c s 20 159 [some (zr (some (0, 0, 14))), some (zi (nI p)), some (zi (nI q)), some (zl u), none, some (zl v), none, some (zi (nI 0)), some (zi (nI 0)), some (zl v), none] [] (OM X 0 0 ρ l) Q := by
  refine Ew.vret f20_159 ?_
  exact h1
theorem g21_0 {d c s : Nat} {n1 n2 bb : Nat} {T1 T2 : tT} {p q : Nat} {u v : Int64} {X : zM} {ρ : Nat → Nat → Int32} {l : Nat → Nat → Int64} {Q : Option zV → zM → Prop} (e1 : cTr X.1 X.2.2.1 X.2.2.2.1 bb n1 T1) (e2 : cTr X.1 X.2.2.1 X.2.2.2.1 bb n2 T2) (p1 : X.2.2.1 0 0 14 6 = some (3, n1, 0)) (p2 : X.2.2.1 0 0 14 7 = some (3, n2, 0)) 
    (b1 : cTr X.1 X.2.2.1 X.2.2.2.1 bb n1 T1)
    (h1 : (¬ (nI p) = (nI T1.n)) → (¬ (ρ 14 5) = ((-4))) → Q none (OM X 0 0 (zu ρ 14 5 ((if (nI (p + q)) < (ρ 14 5) then nI (p + q) else ρ 14 5))) (zu (zu l 14 3 ((l 14 3) + u)) 14 4 (((zu l 14 3 ((l 14 3) + u)) 14 4) + v))))
    (h2 : (¬ (nI p) = (nI T1.n)) → ((ρ 14 5) = ((-4))) → Q none (OM X 0 0 (zu ρ 14 5 (nI (p + q))) (zu (zu l 14 3 ((l 14 3) + u)) 14 4 (((zu l 14 3 ((l 14 3) + u)) 14 4) + v))))
    (b2 : ((nI p) = (nI T1.n)) → cTr X.1 X.2.2.1 X.2.2.2.1 bb n2 T2)
    (h3 : ((nI p) = (nI T1.n)) → (¬ (nI q) = (nI T2.n)) → (¬ (ρ 14 5) = ((-4))) → Q none (OM X 0 0 (zu ρ 14 5 ((if (nI (p + q)) < (ρ 14 5) then nI (p + q) else ρ 14 5))) (zu (zu l 14 3 ((l 14 3) + u)) 14 4 (((zu l 14 3 ((l 14 3) + u)) 14 4) + v))))
    (h4 : ((nI p) = (nI T1.n)) → (¬ (nI q) = (nI T2.n)) → ((ρ 14 5) = ((-4))) → Q none (OM X 0 0 (zu ρ 14 5 (nI (p + q))) (zu (zu l 14 3 ((l 14 3) + u)) 14 4 (((zu l 14 3 ((l 14 3) + u)) 14 4) + v))))
    (h5 : ((nI p) = (nI T1.n)) → ((nI q) = (nI T2.n)) → Q none (OM X 0 0 ρ (zu l 14 2 ((l 14 2) + u)))) : Ev (d + 1) c s 21 0 [some (zr (some (0, 0, 14))), some (zi (nI p)), some (zi (nI q)), some (zl u), none, some (zl v), none] [] (OM X 0 0 ρ l) Q := by
  refine Ew.ld f21_0 rfl rfl rfl rfl ?_
  refine Ew.ld f21_1 rfl rfl rfl rfl ?_
  refine Ew.getp (v := some (3, n1, 0)) f21_2 rfl (show zpj X.2.2.1 0 0 14 6 = _ from p1) rfl ?_
  refine Ew.call0 (ls0 := [some (zr (some (3, n1, 0)))]) f21_5 rfl (Nat.le_of_ble_eq_true rfl) rfl rfl (Nat.le_of_ble_eq_true rfl) (by show (X.2.2.2.1 3 n1 0).1 = _; rw [e1.sh]) (Nat.le_of_ble_eq_true rfl) rfl rfl ?_
  refine sp_tLen b1 ?_
  show Ev (d + 1) c s 21 8 [some (zr (some (0, 0, 14))), some (zi (nI p)), some (zi (nI q)), some (zl u), none, some (zl v), none] [zi (nI T1.n), zi (nI p)] (OM X 0 0 ρ l) Q
  refine Ew.icmp f21_8 rfl rfl (fun c1 => ?_) (fun c1 => ?_)
  · refine Ew.ld f21_33 rfl rfl rfl rfl ?_
    refine Ew.op (st' := zr (some (0, 0, 14)) :: zr (some (0, 0, 14)) :: _) f21_34 rfl rfl ?_
    refine Ew.getlO f21_35 rfl rfl ?_
    refine Ew.ld f21_38 rfl rfl rfl rfl ?_
    refine Ew.op (st' := zl ((l 14 3) + u) :: _) f21_39 rfl rfl ?_
    refine Ew.putlO f21_40 rfl rfl ?_
    refine Ew.ld f21_43 rfl rfl rfl rfl ?_
    refine Ew.op (st' := zr (some (0, 0, 14)) :: zr (some (0, 0, 14)) :: _) f21_44 rfl rfl ?_
    refine Ew.getlO f21_45 rfl rfl ?_
    refine Ew.ld f21_48 rfl rfl rfl rfl ?_
    refine Ew.op (st' := zl (((zu l 14 3 ((l 14 3) + u)) 14 4) + v) :: _) f21_50 rfl rfl ?_
    refine Ew.putlO f21_51 rfl rfl ?_
    refine Ew.ld f21_54 rfl rfl rfl rfl ?_
    refine Ew.ld f21_55 rfl rfl rfl rfl ?_
    refine Ew.getiO f21_56 rfl rfl ?_
    refine Ew.op (st' := zi ((-4)) :: _) f21_59 rfl rfl ?_
    refine Ew.icmp f21_61 rfl rfl (fun c2 => ?_) (fun c2 => ?_)
    · refine Ew.ld f21_70 rfl rfl rfl rfl ?_
      refine Ew.getiO f21_71 rfl rfl ?_
      refine Ew.ld f21_74 rfl rfl rfl rfl ?_
      refine Ew.ld f21_75 rfl rfl rfl rfl ?_
      refine Ew.addn f21_76 rfl ?_
      refine Ew.nat (st' := zi ((if (nI (p + q)) < (ρ 14 5) then nI (p + q) else ρ 14 5)) :: _) f21_77 rfl (fun k h => ⟨Nat.le_of_ble_eq_true rfl, h⟩) rfl ?_
      refine Ew.putiO f21_80 rfl rfl ?_
      refine Ew.vret f21_83 ?_
      exact h1 c1 c2
    · refine Ew.ld f21_64 rfl rfl rfl rfl ?_
      refine Ew.ld f21_65 rfl rfl rfl rfl ?_
      refine Ew.addn f21_66 rfl ?_
      refine Ew.goto f21_67 rfl ?_
      refine Ew.putiO f21_80 rfl rfl ?_
      refine Ew.vret f21_83 ?_
      exact h2 c1 (Classical.not_not.mp c2)
  · refine Ew.ld f21_11 rfl rfl rfl rfl ?_
    refine Ew.ld f21_12 rfl rfl rfl rfl ?_
    refine Ew.getp (v := some (3, n2, 0)) f21_13 rfl (show zpj X.2.2.1 0 0 14 7 = _ from p2) rfl ?_
    refine Ew.call0 (ls0 := [some (zr (some (3, n2, 0)))]) f21_16 rfl (Nat.le_of_ble_eq_true rfl) rfl rfl (Nat.le_of_ble_eq_true rfl) (by show (X.2.2.2.1 3 n2 0).1 = _; rw [e2.sh]) (Nat.le_of_ble_eq_true rfl) rfl rfl ?_
    refine sp_tLen (b2 (Classical.not_not.mp c1)) ?_
    show Ev (d + 1) c s 21 19 [some (zr (some (0, 0, 14))), some (zi (nI p)), some (zi (nI q)), some (zl u), none, some (zl v), none] [zi (nI T2.n), zi (nI q)] (OM X 0 0 ρ l) Q
    refine Ew.icmp f21_19 rfl rfl (fun c3 => ?_) (fun c3 => ?_)
    · refine Ew.ld f21_33 rfl rfl rfl rfl ?_
      refine Ew.op (st' := zr (some (0, 0, 14)) :: zr (some (0, 0, 14)) :: _) f21_34 rfl rfl ?_
      refine Ew.getlO f21_35 rfl rfl ?_
      refine Ew.ld f21_38 rfl rfl rfl rfl ?_
      refine Ew.op (st' := zl ((l 14 3) + u) :: _) f21_39 rfl rfl ?_
      refine Ew.putlO f21_40 rfl rfl ?_
      refine Ew.ld f21_43 rfl rfl rfl rfl ?_
      refine Ew.op (st' := zr (some (0, 0, 14)) :: zr (some (0, 0, 14)) :: _) f21_44 rfl rfl ?_
      refine Ew.getlO f21_45 rfl rfl ?_
      refine Ew.ld f21_48 rfl rfl rfl rfl ?_
      refine Ew.op (st' := zl (((zu l 14 3 ((l 14 3) + u)) 14 4) + v) :: _) f21_50 rfl rfl ?_
      refine Ew.putlO f21_51 rfl rfl ?_
      refine Ew.ld f21_54 rfl rfl rfl rfl ?_
      refine Ew.ld f21_55 rfl rfl rfl rfl ?_
      refine Ew.getiO f21_56 rfl rfl ?_
      refine Ew.op (st' := zi ((-4)) :: _) f21_59 rfl rfl ?_
      refine Ew.icmp f21_61 rfl rfl (fun c4 => ?_) (fun c4 => ?_)
      · refine Ew.ld f21_70 rfl rfl rfl rfl ?_
        refine Ew.getiO f21_71 rfl rfl ?_
        refine Ew.ld f21_74 rfl rfl rfl rfl ?_
        refine Ew.ld f21_75 rfl rfl rfl rfl ?_
        refine Ew.addn f21_76 rfl ?_
        refine Ew.nat (st' := zi ((if (nI (p + q)) < (ρ 14 5) then nI (p + q) else ρ 14 5)) :: _) f21_77 rfl (fun k h => ⟨Nat.le_of_ble_eq_true rfl, h⟩) rfl ?_
        refine Ew.putiO f21_80 rfl rfl ?_
        refine Ew.vret f21_83 ?_
        exact h3 (Classical.not_not.mp c1) c3 c4
      · refine Ew.ld f21_64 rfl rfl rfl rfl ?_
        refine Ew.ld f21_65 rfl rfl rfl rfl ?_
        refine Ew.addn f21_66 rfl ?_
        refine Ew.goto f21_67 rfl ?_
        refine Ew.putiO f21_80 rfl rfl ?_
        refine Ew.vret f21_83 ?_
        exact h4 (Classical.not_not.mp c1) c3 (Classical.not_not.mp c4)
    · refine Ew.ld f21_22 rfl rfl rfl rfl ?_
      refine Ew.op (st' := zr (some (0, 0, 14)) :: zr (some (0, 0, 14)) :: _) f21_23 rfl rfl ?_
      refine Ew.getlO f21_24 rfl rfl ?_
      refine Ew.ld f21_27 rfl rfl rfl rfl ?_
      refine Ew.op (st' := zl ((l 14 2) + u) :: _) f21_28 rfl rfl ?_
      refine Ew.putlO f21_29 rfl rfl ?_
      refine Ew.vret f21_32 ?_
      exact h5 (Classical.not_not.mp c1) (Classical.not_not.mp c3)
/-- the pair tells ways and weights -/
def cGs (ρ : Nat → Nat → Int32) (l : Nat → Nat → Int64) (s : gS) : Prop := (∀ c, c ≤ 30 → l 15 c = lN (s.1 c) ∧ l 16 c = lN (s.2.1 c)) ∧ l 14 2 = lN s.2.2.1 ∧ l 14 3 = lN s.2.2.2.1 ∧ l 14 4 = lN s.2.2.2.2.1 ∧ ρ 14 5 = s.2.2.2.2.2
def cGf (ρ ρ' : Nat → Nat → Int32) (l l' : Nat → Nat → Int64) : Prop := (∀ q i, ¬ (q = 14 ∧ i = 5) → ρ' q i = ρ q i) ∧ ∀ q i, ¬ (q = 15 ∨ q = 16 ∨ q = 14) → l' q i = l q i
theorem cGf.refl {ρ : Nat → Nat → Int32} {l : Nat → Nat → Int64} : cGf ρ ρ l l := ⟨fun _ _ _ => rfl, fun _ _ _ => rfl⟩
theorem cGf.trans {ρ ρ' ρ'' : Nat → Nat → Int32} {l l' l'' : Nat → Nat → Int64} (h : cGf ρ ρ' l l') (h' : cGf ρ' ρ'' l' l'') : cGf ρ ρ'' l l'' := ⟨fun q i g => (h'.1 q i g).trans (h.1 q i g), fun q i g => (h'.2 q i g).trans (h.2 q i g)⟩
def gNs (x : Int32) : Prop := x = -4 ∨ ∃ n, n ≤ 60 ∧ x = nI n
theorem gPl_ns {c1 c2 : Bool} {n m p q : Nat} {s : gS} (hp : p ≤ 30) (hq : q ≤ 30) (h : gNs s.2.2.2.2.2) : gNs (gPl c1 c2 n m p q s).2.2.2.2.2 := by
  unfold gPl
  split
  · exact h
  · split
    · exact h
    · exact h
    · exact h
    · split
      · exact h
      · show gNs (gNr _ _)
        unfold gNr
        split
        · exact Or.inr ⟨_, by omega, rfl⟩
        · split
          · exact Or.inr ⟨_, by omega, rfl⟩
          · exact h
theorem sp_cGo {d c s n1 n2 bb p q m : Nat} {T1 T2 : tT} {S : gS} {X : zM} {ρ : Nat → Nat → Int32} {l : Nat → Nat → Int64} {Q : Option zV → zM → Prop} (e1 : cTr X.1 X.2.2.1 X.2.2.2.1 bb n1 T1) (e2 : cTr X.1 X.2.2.1 X.2.2.2.1 bb n2 T2) (p1 : X.2.2.1 0 0 14 6 = some (3, n1, 0)) (p2 : X.2.2.1 0 0 14 7 = some (3, n2, 0)) (hp : p ≤ T1.n) (hq : q ≤ T2.n) (hI : gInv m p q S) (h0 : ¬ S.1 q = 0) (hN : gNs S.2.2.2.2.2) (h : cGs ρ l S) (C1 C2 : Bool) (hC1 : C1 = true ↔ tCan T1 p (tIs T2 q)) (hC2 : C2 = true ↔ tCan T2 q (tIs T1 p)) (k : ∀ ρ' l', cGf ρ ρ' l l' → cGs ρ' l' (gPl C1 C2 T1.n T2.n p q S) → Q none (OM X 0 0 ρ' l')) : Ev (d + 4) c s 20 0 [some (zr (some (0, 0, 14))), some (zi (nI p)), some (zi (nI q)), none, none, none, none, none, none, none, none] [] (OM X 0 0 ρ l) Q := by
  have t1 := e1.1
  have t2 := e2.1
  have hle := hI.le (c := q) (by omega)
  obtain ⟨hr, hd, hs, hw, hn⟩ := h
  have rq := hr q (by omega)
  have ed : l 16 q / lN 2 = lN (S.2.1 q / 2) := by rw [rq.2]; exact pk_lDiv (by omega) (by decide) (by decide)
  unfold gPl at k
  rw [if_neg h0] at k
  have y1 : tCan T1 p (tIs T2 q) → C1 = true := hC1.mpr
  have z1 : ¬ tCan T1 p (tIs T2 q) → C1 = false := fun g => by cases C1; rfl; exact absurd (hC1.mp rfl) g
  have y2 : tCan T2 q (tIs T1 p) → C2 = true := hC2.mpr
  have z2 : ¬ tCan T2 q (tIs T1 p) → C2 = false := fun g => by cases C2; rfl; exact absurd (hC2.mp rfl) g
  refine g20_0 (d := d) e1 e2 p1 p2 (by omega) (by omega) (by omega) e2 (by omega) e1 (by omega) (fun _ => e1) (fun _ => by omega) (fun _ => e2) (fun _ => by omega) (fun _ _ => by omega) (fun g1 g2 g3 => ?_) (fun _ _ _ => by omega) (fun _ _ _ => by omega) (fun _ _ _ => by omega) (fun _ _ _ => by omega) (fun g1 g2 g3 => ?_) (fun _ _ => by omega) (fun g1 g2 => ?_) (fun _ => e1) (fun _ => by omega) (fun _ => e2) (fun _ => by omega) (fun _ _ => by omega) (fun _ _ => by omega) (fun g1 g2 g3 => ?_) (fun _ _ _ => by omega) (fun _ _ _ => by omega) (fun _ _ _ => by omega) (fun _ _ _ => by omega) (fun g1 g2 g3 => ?_) (fun _ _ => by omega) (fun _ _ => by omega) (fun g1 g2 => ?_)
  · have := g2.1; omega
  · have hq1 := g2.1
    rw [y1 g1, y2 g2] at k
    have rn := hr (q + 1) (by omega)
    refine k ρ _ ⟨fun _ _ _ => rfl, fun u i g => ?_⟩ ⟨fun c hc => ?_, ?_, ?_, ?_, hn⟩
    · rw [zu_i_ne (by omega), zu_i_ne (by omega), zu_i_ne (by omega)]
    · rw [ed, rn.1, rq.1, lN_add, show zu l 16 q (lN (S.2.1 q / 2)) 16 (q + 1) = lN (S.2.1 (q + 1)) by rw [zu_i_ne (by omega)]; exact rn.2, lN_add]
      show _ = lN (zup S.1 (q + 1) (S.1 (q + 1) + S.1 q) c) ∧ _ = lN (zup (zup S.2.1 q (S.2.1 q / 2)) (q + 1) (S.2.1 (q + 1) + S.2.1 q / 2) c)
      by_cases ec : c = q + 1
      · subst ec
        rw [zu_i_ne (by omega), zu_s, zu_s, zup_s, zup_s]
        exact ⟨rfl, rfl⟩
      · rw [zu_i_ne (by omega), zu_i_ne (by omega), zu_i_ne (by omega), zu_i_ne (by omega), zu_i_ne (by omega), zup_nn ec, zup_nn ec]
        by_cases eq : c = q
        · subst eq
          rw [zu_s, zup_s]
          exact ⟨rq.1, rfl⟩
        · rw [zu_i_ne (by omega), zup_nn eq]
          exact hr c hc
    · rw [zu_i_ne (by omega), zu_i_ne (by omega), zu_i_ne (by omega)]; exact hd
    · rw [zu_i_ne (by omega), zu_i_ne (by omega), zu_i_ne (by omega)]; exact hs
    · rw [zu_i_ne (by omega), zu_i_ne (by omega), zu_i_ne (by omega)]; exact hw
  · rw [y1 g1, z2 g2] at k
    refine k ρ _ ⟨fun _ _ _ => rfl, fun u i g => ?_⟩ ⟨fun c hc => ?_, ?_, ?_, ?_, hn⟩
    · rw [zu_i_ne (by omega)]
    · rw [zu_i_ne (by omega)]
      by_cases eq : c = q
      · subst eq
        rw [zu_s]
        exact rq
      · rw [zu_i_ne (by omega)]
        exact hr c hc
    · rw [zu_i_ne (by omega)]; exact hd
    · rw [zu_i_ne (by omega)]; exact hs
    · rw [zu_i_ne (by omega)]; exact hw
  · have := g2.1; omega
  · have hq1 := g2.1
    rw [z1 g1, y2 g2] at k
    have rn := hr (q + 1) (by omega)
    have ez : lN 0 = lN 0 := rfl
    refine k ρ _ ⟨fun _ _ _ => rfl, fun u i g => ?_⟩ ⟨fun c hc => ?_, ?_, ?_, ?_, hn⟩
    · rw [zu_i_ne (by omega), zu_i_ne (by omega), zu_i_ne (by omega), zu_i_ne (by omega)]
    · rw [show zu l 15 q (lN 0) 15 (q + 1) = lN (S.1 (q + 1)) by rw [zu_i_ne (by omega)]; exact rn.1, show zu (zu l 15 q (lN 0)) 16 q (lN 0) 16 (q + 1) = lN (S.2.1 (q + 1)) by rw [zu_i_ne (by omega), zu_i_ne (by omega)]; exact rn.2, rq.1, rq.2, lN_add, lN_add]
      show _ = lN (zup (zup S.1 q 0) (q + 1) (S.1 (q + 1) + S.1 q) c) ∧ _ = lN (zup (zup S.2.1 q 0) (q + 1) (S.2.1 (q + 1) + S.2.1 q) c)
      have A : ∀ a b x y : Int64, zu (zu (zu (zu l 15 q a) 16 q b) 15 (q + 1) x) 16 (q + 1) y 15 c = if c = q + 1 then x else if c = q then a else l 15 c := fun a b x y => by simp [zu_v]
      have B : ∀ a b x y : Int64, zu (zu (zu (zu l 15 q a) 16 q b) 15 (q + 1) x) 16 (q + 1) y 16 c = if c = q + 1 then y else if c = q then b else l 16 c := fun a b x y => by simp [zu_v]
      rw [A, B]
      by_cases ec : c = q + 1
      · subst ec
        rw [if_pos rfl, if_pos rfl, zup_s, zup_s]
        exact ⟨rfl, rfl⟩
      · rw [if_neg ec, if_neg ec, zup_nn ec, zup_nn ec]
        by_cases eq : c = q
        · subst eq
          rw [if_pos rfl, if_pos rfl, zup_s, zup_s]
          exact ⟨rfl, rfl⟩
        · rw [if_neg eq, if_neg eq, zup_nn eq, zup_nn eq]
          exact hr c hc
    · rw [zu_i_ne (by omega), zu_i_ne (by omega), zu_i_ne (by omega), zu_i_ne (by omega)]; exact hd
    · rw [zu_i_ne (by omega), zu_i_ne (by omega), zu_i_ne (by omega), zu_i_ne (by omega)]; exact hs
    · rw [zu_i_ne (by omega), zu_i_ne (by omega), zu_i_ne (by omega), zu_i_ne (by omega)]; exact hw
  · rw [z1 g1, z2 g2] at k
    rw [rq.1, rq.2]
    have row : ∀ l3 : Nat → Nat → Int64, (∀ q' i, ¬ q' = 14 → l3 q' i = zu (zu l 15 q (lN 0)) 16 q (lN 0) q' i) → ∀ c, c ≤ 30 → l3 15 c = lN (zup S.1 q 0 c) ∧ l3 16 c = lN (zup S.2.1 q 0 c) := by
      intro l3 f3 c hc
      rw [f3 _ _ (by omega), f3 _ _ (by omega), zu_i_ne (by omega)]
      by_cases eq : c = q
      · subst eq
        rw [zu_s, zu_s, zup_s, zup_s]
        exact ⟨rfl, rfl⟩
      · rw [zu_i_ne (by omega), zu_i_ne (by omega), zup_nn eq, zup_nn eq]
        exact hr c hc
    have frl : ∀ l3 : Nat → Nat → Int64, (∀ q' i, ¬ q' = 14 → l3 q' i = zu (zu l 15 q (lN 0)) 16 q (lN 0) q' i) → ∀ u i, ¬ (u = 15 ∨ u = 16 ∨ u = 14) → l3 u i = l u i := by
      intro l3 f3 u i g
      rw [f3 _ _ (by omega), zu_i_ne (by omega), zu_i_ne (by omega)]
    have b2 : ∀ i, zu (zu l 15 q (lN 0)) 16 q (lN 0) 14 i = l 14 i := fun i => by rw [zu_i_ne (by omega), zu_i_ne (by omega)]
    have k' : ∀ ρ' l', cGf ρ ρ' l l' → cGs ρ' l' (zup S.1 q 0, zup S.2.1 q 0, if p = T1.n ∧ q = T2.n then (S.2.2.1 + S.1 q, S.2.2.2.1, S.2.2.2.2.1, S.2.2.2.2.2) else (S.2.2.1, S.2.2.2.1 + S.1 q, S.2.2.2.2.1 + S.2.1 q, gNr S.2.2.2.2.2 (p + q))) → Q none (OM X 0 0 ρ' l') := k
    generalize hl3 : zu (zu l 15 q (lN 0)) 16 q (lN 0) = l3 at row frl b2 ⊢
    have stk : ¬ (p = T1.n ∧ q = T2.n) → ∀ v, v = gNr S.2.2.2.2.2 (p + q) → Q none (OM X 0 0 (zu ρ 14 5 v) (zu (zu l3 14 3 (l3 14 3 + lN (S.1 q))) 14 4 (zu l3 14 3 (l3 14 3 + lN (S.1 q)) 14 4 + lN (S.2.1 q)))) := by
      intro hne v hv
      rw [if_neg hne] at k'
      have f3 : ∀ q' i, ¬ q' = 14 → zu (zu l3 14 3 (l3 14 3 + lN (S.1 q))) 14 4 (zu l3 14 3 (l3 14 3 + lN (S.1 q)) 14 4 + lN (S.2.1 q)) q' i = l3 q' i := fun q' i g => by rw [zu_i_ne (by omega), zu_i_ne (by omega)]
      refine k' _ _ ⟨fun u i g => ?_, frl _ f3⟩ ⟨row _ f3, ?_, ?_, ?_, ?_⟩
      · rw [zu_i_ne (by omega)]
      · rw [zu_i_ne (by omega), zu_i_ne (by omega), b2]; exact hd
      · rw [zu_i_ne (by omega), zu_s, b2, hs]; exact lN_add _ _
      · rw [zu_s, zu_i_ne (by omega), b2, hw]; exact lN_add _ _
      · rw [zu_s]; exact hv
    have nr0 : ρ 14 5 = -4 → nI (p + q) = gNr S.2.2.2.2.2 (p + q) := by
      intro e
      unfold gNr
      rw [if_pos (by rw [← hn, e]; decide)]
    have nr1 : ¬ ρ 14 5 = -4 → (if nI (p + q) < ρ 14 5 then nI (p + q) else ρ 14 5) = gNr S.2.2.2.2.2 (p + q) := by
      intro e
      unfold gNr
      rw [hn] at e ⊢
      rcases hN with g | ⟨n, n60, g⟩
      · exact absurd g e
      · rw [if_neg (c := S.2.2.2.2.2 < 0) (by rw [g]; exact nI_pos (by omega))]
    have ep : nI p = nI T1.n ↔ p = T1.n := zeq (by omega) (by omega)
    have eq' : nI q = nI T2.n ↔ q = T2.n := zeq (by omega) (by omega)
    refine g21_0 (d := d + 2) e1 e2 p1 p2 e1 (fun a b => g20_159 (stk (fun g => a (ep.mpr g.1)) _ (nr1 b))) (fun a b => g20_159 (stk (fun g => a (ep.mpr g.1)) _ (nr0 b))) (fun _ => e2) (fun _ a b => g20_159 (stk (fun g => a (eq'.mpr g.2)) _ (nr1 b))) (fun _ a b => g20_159 (stk (fun g => a (eq'.mpr g.2)) _ (nr0 b))) (fun a b => g20_159 ?_)
    rw [if_pos ⟨ep.mp a, eq'.mp b⟩] at k'
    have f3 : ∀ q' i, ¬ q' = 14 → zu l3 14 2 (l3 14 2 + lN (S.1 q)) q' i = l3 q' i := fun q' i g => by rw [zu_i_ne (by omega)]
    refine k' _ _ ⟨fun _ _ _ => rfl, frl _ f3⟩ ⟨row _ f3, ?_, ?_, ?_, hn⟩
    · rw [zu_s, b2, hd]; exact lN_add _ _
    · rw [zu_i_ne (by omega), b2]; exact hs
    · rw [zu_i_ne (by omega), b2]; exact hw
