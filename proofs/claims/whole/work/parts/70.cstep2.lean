/-! the class: tables, single changes, told -/
def cIdR (t : Nat) (ρ : Nat → Nat → Int32) : Nat → Nat → Int32 := zu (zu (zu (zu ρ 6 t (nI 0)) 7 t (nI 0)) 8 t (-4)) 9 t (-4)
def cFreeL (t : Nat) (ρ : Nat → Nat → Int32) : Nat → Nat → Nat → Int32
  | 0 => ρ
  | g + 1 => if cFreeL t ρ g 4 g = nI t then zu (zu (cFreeL t ρ g) 4 g (-4)) 5 g (nI 0) else cFreeL t ρ g
def cWdR (T : tT) (t D : Nat) (ρ : Nat → Nat → Int32) : Nat → Nat → Int32 := cFreeL t (cAddL T (-1) ρ D) 6
def cStR (kd : Int32) (G : Nat) (a : Int32) (t D : Nat) (ρ : Nat → Nat → Int32) : Nat → Nat → Int32 := zu (if kd = 0 then zu (zu ρ 4 G (nI t)) 5 G (ρ 5 G + nI 1) else if kd = nI 1 then (if ρ 5 G - nI 1 = 0 then zu (zu ρ 5 G (ρ 5 G - nI 1)) 4 G (-4) else zu ρ 5 G (ρ 5 G - nI 1)) else zu ρ 3 G (ρ 3 G + a)) 7 t (nI (D + 1))
def cDoR (T : tT) (t D : Nat) (ρ : Nat → Nat → Int32) : Nat → Nat → Int32 := if D < T.n then cStR (T.kind D) (T.gate D).toNatClampNeg (T.add D) t D ρ else ρ
section
variable {d c s j t n bb D : Nat} {T : tT} {X : zM} {ρ : Nat → Nat → Int32} {l : Nat → Nat → Int64} {Q : Option zV → zM → Prop}
theorem sp_cRest (hj : j < 15) (ht : t < 4) (k : Q none (OM X 2 j (cIdR t ρ) l)) : Ev d c s 87 0 [some (zr (some (2, j, 0))), some (zi (nI t))] [] (OM X 2 j ρ l) Q := g87_0 hj ht ht ht ht k
theorem sp_cWdr (hj : j < 15) (ht : t < 4) (hc : cTr X.1 X.2.2.1 X.2.2.2.1 bb n T) (pt : X.2.2.1 2 j 2 t = some (3, n, 0)) (hD : ρ 7 t = nI D) (hT : tOk T) (hn : D ≤ T.n) (k : Q none (OM X 2 j (cWdR T t D ρ) l)) : Ev (d + 1) c s 86 0 [some (zr (some (2, j, 0))), some (zi (nI t)), none] [] (OM X 2 j ρ l) Q := by
  refine g86_0 hj hc pt hD ht ht hc hT hn ?_
  refine loopN (fun g => Ev (d + 1) c s 86 22 [some (zr (some (2, j, 0))), some (zi (nI t)), some (zi (nI g))] [] (OM X 2 j (cFreeL t (cAddL T (-1) ρ D) g) l) Q) 6 (fun g hg hE => ?_) ?_
  · unfold cFreeL at hE
    refine g86_22 hj (by omega) (fun h => by omega) (fun h => h) (fun _ h => ?_) (fun h _ => h) (fun h _ => h) (fun _ h => ?_)
    · rw [if_neg h] at hE; exact hE
    · rw [if_pos h] at hE; exact hE
  · exact g86_22 hj (by omega) (fun _ => k) (fun h => by omega) (fun h => by omega) (fun h => by omega) (fun h => by omega) (fun h => by omega)
theorem sp_cDo (hj : j < 15) (ht : t < 4) (hc : cTr X.1 X.2.2.1 X.2.2.2.1 bb n T) (pt : X.2.2.1 2 j 2 t = some (3, n, 0)) (hD : ρ 7 t = nI D) (hT : tOk T) (hD5 : D < 5000) (k : Q none (OM X 2 j (cDoR T t D ρ) l)) : Ev (d + 2) c s 83 0 [some (zr (some (2, j, 0))), some (zi (nI t)), none, none, none] [] (OM X 2 j ρ l) Q := by
  unfold cDoR cStR at k
  by_cases h : D < T.n
  · obtain ⟨G, hG, eG⟩ := hT.gate h
    have e1 : tGt T D = T.gate D := if_pos h
    have e2 : tKd T D = T.kind D := if_pos h
    have e3 : tAd T D = T.add D := if_pos h
    rw [if_pos h, ← e1, ← e2, ← e3] at k
    have v : vp_in (tGt T D) 6 := by rw [e1, eG]; exact zvin hG (by decide)
    refine g83_0 hj hc pt hD ht ht hc hD5 (fun _ => hc) (fun _ => hD5) (fun _ => hc) (fun _ => hD5) (fun _ _ => hc) (fun _ _ => hD5) (fun _ _ _ => v) (fun _ _ _ => hc) (fun _ _ _ => hD5) (fun _ _ _ => v) (fun _ _ _ => ht) (fun _ g1 g2 => ?_) (fun _ _ _ => v) (fun _ _ _ => v) (fun _ _ _ => v) (fun _ _ _ _ => ht) (fun _ g1 g2 g3 => ?_) (fun _ _ _ _ => v) (fun _ _ _ _ => ht) (fun _ g1 g2 g3 => ?_) (fun _ _ => v) (fun _ _ => v) (fun _ _ => v) (fun _ _ => ht) (fun _ g1 => ?_) (fun g => absurd h g)
    · rw [if_neg g1, if_neg g2] at k; exact k
    · rw [zu_i, if_pos rfl] at g3
      rw [if_neg g1, if_pos g2, if_neg g3] at k; exact k
    · rw [zu_i, if_pos rfl] at g3
      rw [if_neg g1, if_pos g2, if_pos g3] at k; exact k
    · rw [if_pos g1] at k; exact k
  · rw [if_neg h] at k
    refine g83_0 hj hc pt hD ht ht hc hD5 (fun g => absurd g h) (fun g => absurd g h) (fun g => absurd g h) (fun g => absurd g h) (fun g => absurd g h) (fun g => absurd g h) (fun g => absurd g h) (fun g => absurd g h) (fun g => absurd g h) (fun g => absurd g h) (fun g => absurd g h) (fun g => absurd g h) (fun g => absurd g h) (fun g => absurd g h) (fun g => absurd g h) (fun g => absurd g h) (fun g => absurd g h) (fun g => absurd g h) (fun g => absurd g h) (fun g => absurd g h) (fun g => absurd g h) (fun g => absurd g h) (fun g => absurd g h) (fun g => absurd g h) (fun g => absurd g h) (fun _ => k)
end
theorem g80_0 {d c s : Nat} {j t : Nat} {X : zM} {ρ : Nat → Nat → Int32} {l : Nat → Nat → Int64} {Q : Option zV → zM → Prop} (hj : j < 15)
    (b1 : t < 4)
    (h1 : (¬ (ρ 6 t) = 0) → Ev d c s 80 29 [some (zr (some (2, j, 0))), some (zi (nI t)), none] [] (OM X 2 j ρ l) Q)
    (b2 : ((ρ 6 t) = 0) → t < 4)
    (h2 : ((ρ 6 t) = 0) → Ev d c s 80 29 [some (zr (some (2, j, 0))), some (zi (nI t)), none] [] (OM X 2 j (zu (zu ρ 9 t (ρ 0 5)) 0 5 ((ρ 0 5) + (nI 1))) l) Q) : Ev d c s 80 0 [some (zr (some (2, j, 0))), some (zi (nI t)), none] [] (OM X 2 j ρ l) Q := by
  refine Ew.ld f80_0 rfl rfl rfl rfl ?_
  refine Ew.getp (v := some (2, j, 6)) f80_1 (by rw [zsj2 _ hj]; rfl) rfl rfl ?_
  refine Ew.ld f80_4 rfl rfl rfl rfl ?_
  refine Ew.ialdnO f80_5 (by rw [zsj2 _ hj]; rfl) (by rw [zsj2 _ hj]; exact b1) (by rw [zsj2 _ hj]; decide) rfl ?_
  refine Ew.ifc f80_6 rfl rfl (fun c1 => ?_) (fun c1 => ?_)
  · exact h1 c1
  · refine Ew.ld f80_9 rfl rfl rfl rfl ?_
    refine Ew.getp (v := some (2, j, 9)) f80_10 (by rw [zsj2 _ hj]; rfl) rfl rfl ?_
    refine Ew.ld f80_13 rfl rfl rfl rfl ?_
    refine Ew.ld f80_14 rfl rfl rfl rfl ?_
    refine Ew.getiO f80_15 (by rw [zsj2 _ hj]; rfl) rfl ?_
    refine Ew.iastnO f80_18 (by decide) (by rw [zsj2 _ hj]; rfl) (by rw [zsj2 _ hj]; exact (b2 (Classical.not_not.mp c1))) (by rw [zsj2 _ hj]; decide) rfl ?_
    refine Ew.ld f80_19 rfl rfl rfl rfl ?_
    refine Ew.op (st' := zr (some (2, j, 0)) :: zr (some (2, j, 0)) :: _) f80_20 rfl rfl ?_
    refine Ew.getiO f80_21 (by rw [zsj2 _ hj]; rfl) rfl ?_
    refine Ew.op (st' := zi (nI 1) :: _) f80_24 rfl rfl ?_
    refine Ew.op (st' := zi ((ρ 0 5) + (nI 1)) :: _) f80_25 rfl rfl ?_
    refine Ew.putiO f80_26 (by rw [zsj2 _ hj]; rfl) rfl ?_
    exact h2 (Classical.not_not.mp c1)
theorem g80_29 {d c s : Nat} {j t n bb : Nat} {T : tT} {D : Nat} {X : zM} {ρ : Nat → Nat → Int32} {l : Nat → Nat → Int64} {Q : Option zV → zM → Prop} (hj : j < 15) (hc : cTr X.1 X.2.2.1 X.2.2.2.1 bb n T) (pt : X.2.2.1 2 j 2 t = some (3, n, 0)) (hD : ρ 7 t = nI D) 
    (b1 : t < 4)
    (b2 : t < 4)
    (b3 : cTr X.1 X.2.2.1 X.2.2.2.1 bb n T)
    (b4 : D < 5000)
    (h1 : ((tEn T D) = ((-4))) → Ev (d + 3) c s 80 79 [some (zr (some (2, j, 0))), some (zi (nI t)), some (zi (tEn T D))] [] (OM X 2 j ρ l) Q)
    (b5 : (¬ (tEn T D) = ((-4))) → vp_in (tEn T D) 6)
    (h2 : (¬ (tEn T D) = ((-4))) → ((ρ 4 ((tEn T D).toNatClampNeg)) = ((-4))) → Ev (d + 3) c s 80 79 [some (zr (some (2, j, 0))), some (zi (nI t)), some (zi (tEn T D))] [] (OM X 2 j ρ l) Q)
    (b6 : (¬ (tEn T D) = ((-4))) → (¬ (ρ 4 ((tEn T D).toNatClampNeg)) = ((-4))) → vp_in (tEn T D) 6)
    (h3 : (¬ (tEn T D) = ((-4))) → (¬ (ρ 4 ((tEn T D).toNatClampNeg)) = ((-4))) → ((ρ 4 ((tEn T D).toNatClampNeg)) = (nI t)) → Ev (d + 3) c s 80 79 [some (zr (some (2, j, 0))), some (zi (nI t)), some (zi (tEn T D))] [] (OM X 2 j ρ l) Q)
    (h4 : (¬ (tEn T D) = ((-4))) → (¬ (ρ 4 ((tEn T D).toNatClampNeg)) = ((-4))) → (¬ (ρ 4 ((tEn T D).toNatClampNeg)) = (nI t)) → Ev (d + 2) 0 0 82 0 [some (zr (some (2, j, 0))), some (zi (nI t)), some (zi (tEn T D)), none, none] [] (OM X 2 j ρ l) (fun r M' => Ev (d + 3) c s 80 78 [some (zr (some (2, j, 0))), some (zi (nI t)), some (zi (tEn T D))] (zpush r []) M' Q)) : Ev (d + 3) c s 80 29 [some (zr (some (2, j, 0))), some (zi (nI t)), none] [] (OM X 2 j ρ l) Q := by
  refine Ew.ld f80_29 rfl rfl rfl rfl ?_
  refine Ew.getp (v := some (2, j, 2)) f80_30 (by rw [zsj2 _ hj]; rfl) rfl rfl ?_
  refine Ew.ld f80_33 rfl rfl rfl rfl ?_
  refine Ew.aaldn (v := some (3, n, 0)) f80_34 (by rw [zsj2 _ hj]; decide) (by rw [zsj2 _ hj]; exact b1) (by rw [zsj2 _ hj]; decide) rfl (show zpj X.2.2.1 2 j 2 t = _ from pt) ?_
  refine Ew.ld f80_35 rfl rfl rfl rfl ?_
  refine Ew.getp (v := some (2, j, 7)) f80_36 (by rw [zsj2 _ hj]; rfl) rfl rfl ?_
  refine Ew.ld f80_39 rfl rfl rfl rfl ?_
  refine Ew.ialdnV (v := nI D) f80_40 (by rw [zsj2 _ hj]; rfl) (by rw [zsj2 _ hj]; exact b2) (by rw [zsj2 _ hj]; decide) rfl (so_v hD) ?_
  refine Ew.call0 (ls0 := [some (zr (some (3, n, 0))), some (zi (nI D))]) f80_41 rfl (Nat.le_of_ble_eq_true rfl) rfl rfl (Nat.le_of_ble_eq_true rfl) (by show (X.2.2.2.1 3 n 0).1 = _; rw [hc.sh]) (Nat.le_of_ble_eq_true rfl) rfl rfl ?_
  refine sp_tEn b3 b4 ?_
  show Ev (d + 3) c s 80 44 [some (zr (some (2, j, 0))), some (zi (nI t)), none] [zi (tEn T D)] (OM X 2 j ρ l) Q
  refine Ew.sr (ls' := [some (zr (some (2, j, 0))), some (zi (nI t)), some (zi (tEn T D))]) f80_44 rfl rfl (Nat.le_of_ble_eq_true rfl) rfl rfl ?_
  refine Ew.ld f80_45 rfl rfl rfl rfl ?_
  refine Ew.op (st' := zi ((-4)) :: _) f80_46 rfl rfl ?_
  refine Ew.icmp f80_48 rfl rfl (fun c1 => ?_) (fun c1 => ?_)
  · exact h1 c1
  · refine Ew.ld f80_51 rfl rfl rfl rfl ?_
    refine Ew.getp (v := some (2, j, 4)) f80_52 (by rw [zsj2 _ hj]; rfl) rfl rfl ?_
    refine Ew.ld f80_55 rfl rfl rfl rfl ?_
    refine Ew.ialdxO f80_56 (by rw [zsj2 _ hj]; rfl) (by rw [zsj2 _ hj]; exact (b5 c1)) rfl ?_
    refine Ew.op (st' := zi ((-4)) :: _) f80_57 rfl rfl ?_
    refine Ew.icmp f80_59 rfl rfl (fun c2 => ?_) (fun c2 => ?_)
    · exact h2 c1 c2
    · refine Ew.ld f80_62 rfl rfl rfl rfl ?_
      refine Ew.getp (v := some (2, j, 4)) f80_63 (by rw [zsj2 _ hj]; rfl) rfl rfl ?_
      refine Ew.ld f80_66 rfl rfl rfl rfl ?_
      refine Ew.ialdxO f80_67 (by rw [zsj2 _ hj]; rfl) (by rw [zsj2 _ hj]; exact (b6 c1 c2)) rfl ?_
      refine Ew.ld f80_68 rfl rfl rfl rfl ?_
      refine Ew.icmp f80_69 rfl rfl (fun c3 => ?_) (fun c3 => ?_)
      · exact h3 c1 c2 c3
      · refine Ew.ld f80_72 rfl rfl rfl rfl ?_
        refine Ew.ld f80_73 rfl rfl rfl rfl ?_
        refine Ew.ld f80_74 rfl rfl rfl rfl ?_
        refine Ew.call0 (ls0 := [some (zr (some (2, j, 0))), some (zi (nI t)), some (zi (tEn T D)), none, none]) f80_75 rfl (Nat.le_of_ble_eq_true rfl) rfl rfl (Nat.le_of_ble_eq_true rfl) (by show (zsj X.2.2.2.1 2 j 0).1 = _; rw [zsj2 _ hj]; rfl) (Nat.le_of_ble_eq_true rfl) rfl rfl ?_
        exact h4 c1 c2 c3
theorem g80_78 {d c s : Nat} {j t : Nat} {g y : Int32} {X : zM} {ρ : Nat → Nat → Int32} {l : Nat → Nat → Int64} {Q : Option zV → zM → Prop} (hj : j < 15)
    (h1 : Q (some (zi y)) (OM X 2 j ρ l)) : Ev d c s 80 78 [some (zr (some (2, j, 0))), some (zi (nI t)), some (zi g)] [zi y] (OM X 2 j ρ l) Q := by
  refine Ew.ireti f80_78 ?_
  exact h1
theorem g80_79 {d c s : Nat} {j t n bb : Nat} {T : tT} {D : Nat} {g : Int32} {X : zM} {ρ : Nat → Nat → Int32} {l : Nat → Nat → Int64} {Q : Option zV → zM → Prop} (hj : j < 15) (hc : cTr X.1 X.2.2.1 X.2.2.2.1 bb n T) (pt : X.2.2.1 2 j 2 t = some (3, n, 0)) 
    (b1 : t < 4)
    (b2 : cTr X.1 X.2.2.1 X.2.2.2.1 bb n T)
    (b3 : X.2.2.1 2 j 2 t = some (3, n, 0))
    (b4 : ρ 7 t = nI D)
    (b5 : tOk T)
    (b6 : D < 5000)
    (h1 : Ev (d + 3) c s 80 84 [some (zr (some (2, j, 0))), some (zi (nI t)), some (zi g)] [] (OM X 2 j (cDoR T t D ρ) l) Q) : Ev (d + 3) c s 80 79 [some (zr (some (2, j, 0))), some (zi (nI t)), some (zi g)] [] (OM X 2 j ρ l) Q := by
  refine Ew.ld f80_79 rfl rfl rfl rfl ?_
  refine Ew.ld f80_80 rfl rfl rfl rfl ?_
  refine Ew.call0 (ls0 := [some (zr (some (2, j, 0))), some (zi (nI t)), none, none, none]) f80_81 rfl (Nat.le_of_ble_eq_true rfl) rfl rfl (Nat.le_of_ble_eq_true rfl) (by show (zsj X.2.2.2.1 2 j 0).1 = _; rw [zsj2 _ hj]; rfl) (Nat.le_of_ble_eq_true rfl) rfl rfl ?_
  refine sp_cDo hj b1 b2 b3 b4 b5 b6 ?_
  show Ev (d + 3) c s 80 84 [some (zr (some (2, j, 0))), some (zi (nI t)), some (zi g)] [] (OM X 2 j (cDoR T t D ρ) l) Q
  exact h1
theorem g80_84 {d c s : Nat} {j t n bb : Nat} {T : tT} {D : Nat} {g : Int32} {X : zM} {ρ : Nat → Nat → Int32} {l : Nat → Nat → Int64} {Q : Option zV → zM → Prop} (hj : j < 15) (hc : cTr X.1 X.2.2.1 X.2.2.2.1 bb n T) (pt : X.2.2.1 2 j 2 t = some (3, n, 0)) (hD : ρ 7 t = nI D) 
    (b1 : t < 4)
    (b2 : t < 4)
    (b3 : t < 4)
    (b4 : cTr X.1 X.2.2.1 X.2.2.2.1 bb n T)
    (b5 : D < 5000)
    (b6 : (D < T.n) → t < 4)
    (h1 : (D < T.n) → Q (some (zi (nI 0))) (OM X 2 j (zu (zu ρ 8 t ((-4))) 6 t (nI 1)) l))
    (b7 : (¬ (D < T.n)) → t < 4)
    (b8 : (¬ (D < T.n)) → cTr X.1 X.2.2.1 X.2.2.2.1 bb n T)
    (b9 : (¬ (D < T.n)) → (¬ T.why = 0) → t < 4)
    (b10 : (¬ (D < T.n)) → (¬ T.why = 0) → t < 4)
    (h2 : (¬ (D < T.n)) → (¬ T.why = 0) → (¬ ((zu (zu ρ 8 t ((-4))) 6 t (nI 4)) 6 t) = (nI 4)) → Q (some (zi (nI 2))) (OM X 2 j (zu (zu ρ 8 t ((-4))) 6 t (nI 4)) l))
    (h3 : (¬ (D < T.n)) → (¬ T.why = 0) → (((zu (zu ρ 8 t ((-4))) 6 t (nI 4)) 6 t) = (nI 4)) → Q (some (zi (nI 3))) (OM X 2 j (zu (zu ρ 8 t ((-4))) 6 t (nI 4)) l))
    (b11 : (¬ (D < T.n)) → (¬ (¬ T.why = 0)) → t < 4)
    (b12 : (¬ (D < T.n)) → (¬ (¬ T.why = 0)) → t < 4)
    (h4 : (¬ (D < T.n)) → (¬ (¬ T.why = 0)) → (¬ ((zu (zu ρ 8 t ((-4))) 6 t (nI 3)) 6 t) = (nI 4)) → Q (some (zi (nI 2))) (OM X 2 j (zu (zu ρ 8 t ((-4))) 6 t (nI 3)) l))
    (h5 : (¬ (D < T.n)) → (¬ (¬ T.why = 0)) → (((zu (zu ρ 8 t ((-4))) 6 t (nI 3)) 6 t) = (nI 4)) → Q (some (zi (nI 3))) (OM X 2 j (zu (zu ρ 8 t ((-4))) 6 t (nI 3)) l)) : Ev (d + 1) c s 80 84 [some (zr (some (2, j, 0))), some (zi (nI t)), some (zi g)] [] (OM X 2 j ρ l) Q := by
  refine Ew.ld f80_84 rfl rfl rfl rfl ?_
  refine Ew.getp (v := some (2, j, 8)) f80_85 (by rw [zsj2 _ hj]; rfl) rfl rfl ?_
  refine Ew.ld f80_88 rfl rfl rfl rfl ?_
  refine Ew.op (st' := zi ((-4)) :: _) f80_89 rfl rfl ?_
  refine Ew.iastnO f80_91 (by decide) (by rw [zsj2 _ hj]; rfl) (by rw [zsj2 _ hj]; exact b1) (by rw [zsj2 _ hj]; decide) rfl ?_
  refine Ew.ld f80_92 rfl rfl rfl rfl ?_
  refine Ew.getp (v := some (2, j, 2)) f80_93 (by rw [zsj2 _ hj]; rfl) rfl rfl ?_
  refine Ew.ld f80_96 rfl rfl rfl rfl ?_
  refine Ew.aaldn (v := some (3, n, 0)) f80_97 (by rw [zsj2 _ hj]; decide) (by rw [zsj2 _ hj]; exact b2) (by rw [zsj2 _ hj]; decide) rfl (show zpj X.2.2.1 2 j 2 t = _ from pt) ?_
  refine Ew.ld f80_98 rfl rfl rfl rfl ?_
  refine Ew.getp (v := some (2, j, 7)) f80_99 (by rw [zsj2 _ hj]; rfl) rfl rfl ?_
  refine Ew.ld f80_102 rfl rfl rfl rfl ?_
  refine Ew.ialdnV (v := nI D) f80_103 (by rw [zsj2 _ hj]; rfl) (by rw [zsj2 _ hj]; exact b3) (by rw [zsj2 _ hj]; decide) rfl (so_v hD) ?_
  refine Ew.call0 (ls0 := [some (zr (some (3, n, 0))), some (zi (nI D))]) f80_104 rfl (Nat.le_of_ble_eq_true rfl) rfl rfl (Nat.le_of_ble_eq_true rfl) (by show (X.2.2.2.1 3 n 0).1 = _; rw [hc.sh]) (Nat.le_of_ble_eq_true rfl) rfl rfl ?_
  refine sp_tHas b4 b5 (fun c1 => ?_) (fun c1 => ?_)
  · refine Ew.ifc f80_107 rfl rfl (fun h => absurd h (show ¬ (((nI 1) : Int32) = 0) by decide)) (fun _ => ?_)
    refine Ew.ld f80_110 rfl rfl rfl rfl ?_
    refine Ew.getp (v := some (2, j, 6)) f80_111 (by rw [zsj2 _ hj]; rfl) rfl rfl ?_
    refine Ew.ld f80_114 rfl rfl rfl rfl ?_
    refine Ew.op (st' := zi (nI 1) :: _) f80_115 rfl rfl ?_
    refine Ew.iastnO f80_116 (by decide) (by rw [zsj2 _ hj]; rfl) (by rw [zsj2 _ hj]; exact (b6 c1)) (by rw [zsj2 _ hj]; decide) rfl ?_
    refine Ew.op (st' := zi (nI 0) :: _) f80_117 rfl rfl ?_
    refine Ew.ireti f80_118 ?_
    exact h1 c1
  · refine Ew.ifc f80_107 rfl rfl (fun _ => ?_) (fun h => absurd (show ((nI 0) : Int32) = 0 by decide) h)
    refine Ew.ld f80_119 rfl rfl rfl rfl ?_
    refine Ew.getp (v := some (2, j, 6)) f80_120 (by rw [zsj2 _ hj]; rfl) rfl rfl ?_
    refine Ew.ld f80_123 rfl rfl rfl rfl ?_
    refine Ew.ld f80_124 rfl rfl rfl rfl ?_
    refine Ew.getp (v := some (2, j, 2)) f80_125 (by rw [zsj2 _ hj]; rfl) rfl rfl ?_
    refine Ew.ld f80_128 rfl rfl rfl rfl ?_
    refine Ew.aaldn (v := some (3, n, 0)) f80_129 (by rw [zsj2 _ hj]; decide) (by rw [zsj2 _ hj]; exact (b7 c1)) (by rw [zsj2 _ hj]; decide) rfl (show zpj X.2.2.1 2 j 2 t = _ from pt) ?_
    refine Ew.call0 (ls0 := [some (zr (some (3, n, 0)))]) f80_130 rfl (Nat.le_of_ble_eq_true rfl) rfl rfl (Nat.le_of_ble_eq_true rfl) (by show (X.2.2.2.1 3 n 0).1 = _; rw [hc.sh]) (Nat.le_of_ble_eq_true rfl) rfl rfl ?_
    refine sp_tBrk (b8 c1) (fun c2 => ?_) (fun c2 => ?_)
    · refine Ew.ifc f80_133 rfl rfl (fun h => absurd h (show ¬ (((nI 1) : Int32) = 0) by decide)) (fun _ => ?_)
      refine Ew.op (st' := zi (nI 4) :: _) f80_136 rfl rfl ?_
      refine Ew.goto f80_137 rfl ?_
      refine Ew.iastnO f80_141 (by decide) (by rw [zsj2 _ hj]; rfl) (by rw [zsj2 _ hj]; exact (b9 c1 c2)) (by rw [zsj2 _ hj]; decide) rfl ?_
      refine Ew.ld f80_142 rfl rfl rfl rfl ?_
      refine Ew.getp (v := some (2, j, 6)) f80_143 (by rw [zsj2 _ hj]; rfl) rfl rfl ?_
      refine Ew.ld f80_146 rfl rfl rfl rfl ?_
      refine Ew.ialdnO f80_147 (by rw [zsj2 _ hj]; rfl) (by rw [zsj2 _ hj]; exact (b10 c1 c2)) (by rw [zsj2 _ hj]; decide) rfl ?_
      refine Ew.op (st' := zi (nI 4) :: _) f80_148 rfl rfl ?_
      refine Ew.icmp f80_149 rfl rfl (fun c3 => ?_) (fun c3 => ?_)
      · refine Ew.op (st' := zi (nI 2) :: _) f80_156 rfl rfl ?_
        refine Ew.ireti f80_157 ?_
        exact h2 c1 c2 c3
      · refine Ew.op (st' := zi (nI 3) :: _) f80_152 rfl rfl ?_
        refine Ew.goto f80_153 rfl ?_
        refine Ew.ireti f80_157 ?_
        exact h3 c1 c2 (Classical.not_not.mp c3)
    · refine Ew.ifc f80_133 rfl rfl (fun _ => ?_) (fun h => absurd (show ((nI 0) : Int32) = 0 by decide) h)
      refine Ew.op (st' := zi (nI 3) :: _) f80_140 rfl rfl ?_
      refine Ew.iastnO f80_141 (by decide) (by rw [zsj2 _ hj]; rfl) (by rw [zsj2 _ hj]; exact (b11 c1 c2)) (by rw [zsj2 _ hj]; decide) rfl ?_
      refine Ew.ld f80_142 rfl rfl rfl rfl ?_
      refine Ew.getp (v := some (2, j, 6)) f80_143 (by rw [zsj2 _ hj]; rfl) rfl rfl ?_
      refine Ew.ld f80_146 rfl rfl rfl rfl ?_
      refine Ew.ialdnO f80_147 (by rw [zsj2 _ hj]; rfl) (by rw [zsj2 _ hj]; exact (b12 c1 c2)) (by rw [zsj2 _ hj]; decide) rfl ?_
      refine Ew.op (st' := zi (nI 4) :: _) f80_148 rfl rfl ?_
      refine Ew.icmp f80_149 rfl rfl (fun c4 => ?_) (fun c4 => ?_)
      · refine Ew.op (st' := zi (nI 2) :: _) f80_156 rfl rfl ?_
        refine Ew.ireti f80_157 ?_
        exact h4 c1 c2 c4
      · refine Ew.op (st' := zi (nI 3) :: _) f80_152 rfl rfl ?_
        refine Ew.goto f80_153 rfl ?_
        refine Ew.ireti f80_157 ?_
        exact h5 c1 c2 (Classical.not_not.mp c4)
theorem g82_0 {d c s : Nat} {j t G : Nat} {τ : Nat → Nat → Int32} {w : Nat → Int32} {X : zM} {ρ : Nat → Nat → Int32} {l : Nat → Nat → Int64} {Q : Option zV → zM → Prop} (hj : j < 15)
    (b1 : t < 4)
    (b2 : t < 4)
    (b3 : t < 4)
    (b4 : cTI τ (zu (zu ρ 6 t (nI 2)) 8 t (nI G)) w)
    (b5 : cWt τ w)
    (b6 : (¬ (rRing (zw τ w) t) = 0) → (¬ (ρ 0 3) = 0) → cTI τ (zu (zu ρ 6 t (nI 2)) 8 t (nI G)) w)
    (b7 : (¬ (rRing (zw τ w) t) = 0) → (¬ (ρ 0 3) = 0) → cUq τ w)
    (b8 : (¬ (rRing (zw τ w) t) = 0) → (¬ (ρ 0 3) = 0) → cNm w)
    (b9 : (¬ (rRing (zw τ w) t) = 0) → (¬ (ρ 0 3) = 0) → ∃ v, v < 16 ∧ (rRing (zw τ w) t) = nI v)
    (h1 : (¬ (rRing (zw τ w) t) = 0) → (¬ (ρ 0 3) = 0) → Ev (d + 3) c s 82 42 [some (zr (some (2, j, 0))), some (zi (nI t)), some (zi (nI G)), some (zi (rRing (zw τ w) t)), some (zi (rVic (zw τ w) (rRing (zw τ w) t)))] [] (OM X 2 j (zu (zu ρ 6 t (nI 2)) 8 t (nI G)) l) Q)
    (h2 : (¬ (rRing (zw τ w) t) = 0) → ((ρ 0 3) = 0) → Q (some (zi (nI 4))) (OM X 2 j (zu (zu ρ 6 t (nI 2)) 8 t (nI G)) l))
    (h3 : ((rRing (zw τ w) t) = 0) → Q (some (zi (nI 1))) (OM X 2 j (zu (zu ρ 6 t (nI 2)) 8 t (nI G)) l)) : Ev (d + 3) c s 82 0 [some (zr (some (2, j, 0))), some (zi (nI t)), some (zi (nI G)), none, none] [] (OM X 2 j ρ l) Q := by
  refine Ew.ld f82_0 rfl rfl rfl rfl ?_
  refine Ew.getp (v := some (2, j, 6)) f82_1 (by rw [zsj2 _ hj]; rfl) rfl rfl ?_
  refine Ew.ld f82_4 rfl rfl rfl rfl ?_
  refine Ew.op (st' := zi (nI 2) :: _) f82_5 rfl rfl ?_
  refine Ew.iastnO f82_6 (by decide) (by rw [zsj2 _ hj]; rfl) (by rw [zsj2 _ hj]; exact b1) (by rw [zsj2 _ hj]; decide) rfl ?_
  refine Ew.ld f82_7 rfl rfl rfl rfl ?_
  refine Ew.getp (v := some (2, j, 8)) f82_8 (by rw [zsj2 _ hj]; rfl) rfl rfl ?_
  refine Ew.ld f82_11 rfl rfl rfl rfl ?_
  refine Ew.ld f82_12 rfl rfl rfl rfl ?_
  refine Ew.iastnO f82_13 (by decide) (by rw [zsj2 _ hj]; rfl) (by rw [zsj2 _ hj]; exact b2) (by rw [zsj2 _ hj]; decide) rfl ?_
  refine Ew.ld f82_14 rfl rfl rfl rfl ?_
  refine Ew.ld f82_15 rfl rfl rfl rfl ?_
  refine Ew.call0 (ls0 := [some (zr (some (2, j, 0))), some (zi (nI t)), none, none, none]) f82_16 rfl (Nat.le_of_ble_eq_true rfl) rfl rfl (Nat.le_of_ble_eq_true rfl) (by show (zsj X.2.2.2.1 2 j 0).1 = _; rw [zsj2 _ hj]; rfl) (Nat.le_of_ble_eq_true rfl) rfl rfl ?_
  refine sp_cRing hj b3 b4 b5 ?_
  show Ev (d + 3) c s 82 19 [some (zr (some (2, j, 0))), some (zi (nI t)), some (zi (nI G)), none, none] [zi (rRing (zw τ w) t)] (OM X 2 j (zu (zu ρ 6 t (nI 2)) 8 t (nI G)) l) Q
  refine Ew.sr (ls' := [some (zr (some (2, j, 0))), some (zi (nI t)), some (zi (nI G)), some (zi (rRing (zw τ w) t)), none]) f82_19 rfl rfl (Nat.le_of_ble_eq_true rfl) rfl rfl ?_
  refine Ew.ld f82_20 rfl rfl rfl rfl ?_
  refine Ew.ifc f82_21 rfl rfl (fun c1 => ?_) (fun c1 => ?_)
  · refine Ew.ld f82_26 rfl rfl rfl rfl ?_
    refine Ew.getiO f82_27 (by rw [zsj2 _ hj]; rfl) rfl ?_
    refine Ew.ifc f82_30 rfl rfl (fun c2 => ?_) (fun c2 => ?_)
    · refine Ew.ld f82_35 rfl rfl rfl rfl ?_
      refine Ew.ld f82_36 rfl rfl rfl rfl ?_
      refine Ew.call0 (ls0 := [some (zr (some (2, j, 0))), some (zi (rRing (zw τ w) t)), none, none]) f82_37 rfl (Nat.le_of_ble_eq_true rfl) rfl rfl (Nat.le_of_ble_eq_true rfl) (by show (zsj X.2.2.2.1 2 j 0).1 = _; rw [zsj2 _ hj]; rfl) (Nat.le_of_ble_eq_true rfl) rfl rfl ?_
      refine sp_cVic hj (b6 c1 c2) (b7 c1 c2) (b8 c1 c2) (b9 c1 c2) ?_
      show Ev (d + 3) c s 82 40 [some (zr (some (2, j, 0))), some (zi (nI t)), some (zi (nI G)), some (zi (rRing (zw τ w) t)), none] [zi (rVic (zw τ w) (rRing (zw τ w) t))] (OM X 2 j (zu (zu ρ 6 t (nI 2)) 8 t (nI G)) l) Q
      refine Ew.sr (ls' := [some (zr (some (2, j, 0))), some (zi (nI t)), some (zi (nI G)), some (zi (rRing (zw τ w) t)), some (zi (rVic (zw τ w) (rRing (zw τ w) t)))]) f82_40 rfl rfl (Nat.le_of_ble_eq_true rfl) rfl rfl ?_
      exact h1 c1 c2
    · refine Ew.op (st' := zi (nI 4) :: _) f82_33 rfl rfl ?_
      refine Ew.ireti f82_34 ?_
      exact h2 c1 (Classical.not_not.mp c2)
  · refine Ew.op (st' := zi (nI 1) :: _) f82_24 rfl rfl ?_
    refine Ew.ireti f82_25 ?_
    exact h3 (Classical.not_not.mp c1)
theorem g82_42 {d c s : Nat} {j t v n bb D G : Nat} {T : tT} {r : Int32} {X : zM} {ρ : Nat → Nat → Int32} {l : Nat → Nat → Int64} {Q : Option zV → zM → Prop} (hj : j < 15)
    (b1 : v < 4)
    (b2 : cTr X.1 X.2.2.1 X.2.2.2.1 bb n T)
    (b3 : X.2.2.1 2 j 2 v = some (3, n, 0))
    (b4 : ρ 7 v = nI D)
    (b5 : tOk T)
    (b6 : D ≤ T.n)
    (b7 : v < 4)
    (b8 : v < 4)
    (b9 : v < 4)
    (h1 : Q (some (zi (nI (10 + v)))) (OM X 2 j (zu (cIdR v (cWdR T v D ρ)) 10 v (((cIdR v (cWdR T v D ρ)) 10 v) + (nI 1))) l)) : Ev (d + 2) c s 82 42 [some (zr (some (2, j, 0))), some (zi (nI t)), some (zi (nI G)), some (zi r), some (zi (nI v))] [] (OM X 2 j ρ l) Q := by
  refine Ew.ld f82_42 rfl rfl rfl rfl ?_
  refine Ew.ld f82_43 rfl rfl rfl rfl ?_
  refine Ew.call0 (ls0 := [some (zr (some (2, j, 0))), some (zi (nI v)), none]) f82_45 rfl (Nat.le_of_ble_eq_true rfl) rfl rfl (Nat.le_of_ble_eq_true rfl) (by show (zsj X.2.2.2.1 2 j 0).1 = _; rw [zsj2 _ hj]; rfl) (Nat.le_of_ble_eq_true rfl) rfl rfl ?_
  refine sp_cWdr hj b1 b2 b3 b4 b5 b6 ?_
  show Ev (d + 2) c s 82 48 [some (zr (some (2, j, 0))), some (zi (nI t)), some (zi (nI G)), some (zi r), some (zi (nI v))] [] (OM X 2 j (cWdR T v D ρ) l) Q
  refine Ew.ld f82_48 rfl rfl rfl rfl ?_
  refine Ew.ld f82_49 rfl rfl rfl rfl ?_
  refine Ew.call0 (ls0 := [some (zr (some (2, j, 0))), some (zi (nI v))]) f82_51 rfl (Nat.le_of_ble_eq_true rfl) rfl rfl (Nat.le_of_ble_eq_true rfl) (by show (zsj X.2.2.2.1 2 j 0).1 = _; rw [zsj2 _ hj]; rfl) (Nat.le_of_ble_eq_true rfl) rfl rfl ?_
  refine sp_cRest hj b7 ?_
  show Ev (d + 2) c s 82 54 [some (zr (some (2, j, 0))), some (zi (nI t)), some (zi (nI G)), some (zi r), some (zi (nI v))] [] (OM X 2 j (cIdR v (cWdR T v D ρ)) l) Q
  refine Ew.ld f82_54 rfl rfl rfl rfl ?_
  refine Ew.getp (v := some (2, j, 10)) f82_55 (by rw [zsj2 _ hj]; rfl) rfl rfl ?_
  refine Ew.ld f82_58 rfl rfl rfl rfl ?_
  refine Ew.op (st' := zi (nI v) :: zr (some (2, j, 10)) :: zi (nI v) :: zr (some (2, j, 10)) :: _) f82_60 rfl rfl ?_
  refine Ew.ialdnO f82_61 (by rw [zsj2 _ hj]; rfl) (by rw [zsj2 _ hj]; exact b8) (by rw [zsj2 _ hj]; decide) rfl ?_
  refine Ew.op (st' := zi (nI 1) :: _) f82_62 rfl rfl ?_
  refine Ew.op (st' := zi (((cIdR v (cWdR T v D ρ)) 10 v) + (nI 1)) :: _) f82_63 rfl rfl ?_
  refine Ew.iastnO f82_64 (by decide) (by rw [zsj2 _ hj]; rfl) (by rw [zsj2 _ hj]; exact b9) (by rw [zsj2 _ hj]; decide) rfl ?_
  refine Ew.op (st' := zi (nI 10) :: _) f82_65 rfl rfl ?_
  refine Ew.ld f82_67 rfl rfl rfl rfl ?_
  refine Ew.addn f82_69 rfl ?_
  refine Ew.ireti f82_70 ?_
  exact h1
theorem g81_0 {d c s : Nat} {j : Nat} {X : zM} {ρ : Nat → Nat → Int32} {l : Nat → Nat → Int64} {Q : Option zV → zM → Prop} (hj : j < 15)
    (h1 : Q (some (zi (((zu ρ 0 4 ((((((ρ 0 4).toInt64) * (lN 1103515245)) + (lN 12345)) &&& (lN 2147483647)).toInt32)) 0 4) / (nI 65536)))) (OM X 2 j (zu ρ 0 4 ((((((ρ 0 4).toInt64) * (lN 1103515245)) + (lN 12345)) &&& (lN 2147483647)).toInt32)) l)) : Ev d c s 81 0 [some (zr (some (2, j, 0)))] [] (OM X 2 j ρ l) Q := by
  refine Ew.ld f81_0 rfl rfl rfl rfl ?_
  refine Ew.ld f81_1 rfl rfl rfl rfl ?_
  refine Ew.getiO f81_2 (by rw [zsj2 _ hj]; rfl) rfl ?_
  refine Ew.op (st' := zl ((ρ 0 4).toInt64) :: _) f81_5 rfl rfl ?_
  refine Ew.op (st' := zl (lN 1103515245) :: _) f81_6 rfl rfl ?_
  refine Ew.op (st' := zl (((ρ 0 4).toInt64) * (lN 1103515245)) :: _) f81_9 rfl rfl ?_
  refine Ew.op (st' := zl (lN 12345) :: _) f81_10 rfl rfl ?_
  refine Ew.op (st' := zl ((((ρ 0 4).toInt64) * (lN 1103515245)) + (lN 12345)) :: _) f81_13 rfl rfl ?_
  refine Ew.op (st' := zl (lN 2147483647) :: _) f81_14 rfl rfl ?_
  refine Ew.op (st' := zl (((((ρ 0 4).toInt64) * (lN 1103515245)) + (lN 12345)) &&& (lN 2147483647)) :: _) f81_17 rfl rfl ?_
  refine Ew.op (st' := zi ((((((ρ 0 4).toInt64) * (lN 1103515245)) + (lN 12345)) &&& (lN 2147483647)).toInt32) :: _) f81_18 rfl rfl ?_
  refine Ew.putiO f81_19 (by rw [zsj2 _ hj]; rfl) rfl ?_
  refine Ew.ld f81_22 rfl rfl rfl rfl ?_
  refine Ew.getiO f81_23 (by rw [zsj2 _ hj]; rfl) rfl ?_
  refine Ew.op (st' := zi (nI 65536) :: _) f81_26 rfl rfl ?_
  refine Ew.idiv f81_28 (by decide) rfl ?_
  refine Ew.ireti f81_29 ?_
  exact h1
theorem zu_e {f : Nat → Nat → Int32} {q n : Nat} {v : Int32} : zu f q n v q n = v := by rw [zu_i, if_pos rfl]
theorem cAddL_q (T : tT) (y : Int32) (ρ : Nat → Nat → Int32) {q : Nat} (hq : ¬ q = 3) (u i : Nat) : cAddL T y ρ u q i = ρ q i := by
  induction u with
  | zero => rfl
  | succ u ih => unfold cAddL; rw [zu_q _ _ _ _ hq]; exact ih
theorem cAddL_w {T : tT} {y : Int32} {ρ τ : Nat → Nat → Int32} {w : Nat → Int32} {t : Nat} (hT : tOk T) (hz : zTrR τ t T) (h : ∀ g, g < 6 → ρ 3 g = w (4 + g)) : ∀ u, u ≤ T.n → ∀ g, g < 6 → cAddL T y ρ u 3 g = rComeW τ t y w u (4 + g) := by
  intro u
  induction u with
  | zero => intro _ g hg; exact h g hg
  | succ u ih =>
    intro hu g hg
    obtain ⟨G, hG, eG⟩ := hT.gate (k := u) (by omega)
    obtain ⟨_, e1, e2⟩ := hz.2.1 u (by omega)
    have eR : rG τ t u = G := by unfold rG; rw [e1, eG]; exact nI_clamp (by omega)
    unfold cAddL rComeW
    rw [eR, e2, eG, nI_clamp (by omega), zu_i]
    by_cases e : g = G
    · subst e
      rw [if_pos rfl, zup_s, ih (by omega) g hg]
    · rw [if_neg e, zup_n _ _ (by omega), ih (by omega) g hg]
theorem cFreeL_q (t : Nat) (ρ : Nat → Nat → Int32) {q : Nat} (h4 : ¬ q = 4) (h5 : ¬ q = 5) (n i : Nat) : cFreeL t ρ n q i = ρ q i := by
  induction n with
  | zero => rfl
  | succ n ih =>
    unfold cFreeL
    split
    · rw [zu_q _ _ _ _ h5, zu_q _ _ _ _ h4]; exact ih
    · exact ih
theorem cFreeL_45 (t : Nat) (ρ : Nat → Nat → Int32) : ∀ n g, cFreeL t ρ n 4 g = (if g < n ∧ ρ 4 g = nI t then -4 else ρ 4 g) ∧ cFreeL t ρ n 5 g = (if g < n ∧ ρ 4 g = nI t then nI 0 else ρ 5 g) := by
  intro n
  induction n with
  | zero => intro g; rw [if_neg (by omega), if_neg (by omega)]; exact ⟨rfl, rfl⟩
  | succ n ih =>
    intro g
    have en : cFreeL t ρ n 4 n = ρ 4 n := by rw [(ih n).1, if_neg (by omega)]
    unfold cFreeL
    rw [en]
    by_cases h : ρ 4 n = nI t
    · rw [if_pos h]
      by_cases e : g = n
      · subst e
        rw [if_pos ⟨by omega, h⟩, if_pos ⟨by omega, h⟩, zu_e, zu_q _ _ _ _ (by decide), zu_e]
        exact ⟨rfl, rfl⟩
      · have e' : (g < n + 1 ∧ ρ 4 g = nI t) ↔ (g < n ∧ ρ 4 g = nI t) := ⟨fun q => ⟨by omega, q.2⟩, fun q => ⟨by omega, q.2⟩⟩
        rw [zu_q _ _ _ _ (by decide), zu_i, if_neg e, zu_i, if_neg e, zu_q _ _ _ _ (by decide), (ih g).1, (ih g).2]
        simp only [e', and_self]
    · rw [if_neg h, (ih g).1, (ih g).2]
      have e' : (g < n + 1 ∧ ρ 4 g = nI t) ↔ (g < n ∧ ρ 4 g = nI t) := ⟨fun q => ⟨by
        have : ¬ g = n := fun e => h (by rw [← e]; exact q.2)
        omega, q.2⟩, fun q => ⟨by omega, q.2⟩⟩
      simp only [e', and_self]
