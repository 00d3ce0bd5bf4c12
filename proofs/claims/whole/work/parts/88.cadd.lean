/-! the class: the player adds -/
theorem g28_0 {d c s : Nat} {n bb : Nat} {A : List Nat} {a g m : Nat} {X : zM} {ρ : Nat → Nat → Int32} {l : Nat → Nat → Int64} {Q : Option zV → zM → Prop} (hc : cSc X.1 X.2.2.1 X.2.2.2.1 bb n A) (ps : X.2.2.1 0 0 4 0 = some (3, n, 0)) (hm : ρ 9 g = nI m)  (nb_m : m < 5000)
    (b1 : g < 6)
    (b2 : (¬ m = 0) → cSc X.1 X.2.2.1 X.2.2.2.1 bb n A)
    (b3 : (¬ m = 0) → a + 2 < 5000)
    (b4 : (¬ m = 0) → cSc X.1 X.2.2.1 X.2.2.2.1 bb n A)
    (b5 : (¬ m = 0) → a + 1 < 5000)
    (h1 : (¬ m = 0) → (¬ (nI (pF A (a + 1))) = (nI 45)) → Ev d 0 0 35 0 [some (zr (some (0, 0, 4))), some (zi (nI 2)), some (zi (nI g)), some (zi ((nI (pF A (a + 2))) - (nI 48)))] [] (OM X 0 0 ρ l) (fun r M' => Ev (d + 1) c s 28 61 [some (zr (some (0, 0, 4))), some (zi (nI a)), some (zi (nI g)), some (zi ((nI (pF A (a + 2))) - (nI 48))), some (zi ((nI (pF A (a + 2))) - (nI 48)))] (zpush r []) M' Q))
    (h2 : (¬ m = 0) → ((nI (pF A (a + 1))) = (nI 45)) → Ev d 0 0 35 0 [some (zr (some (0, 0, 4))), some (zi (nI 2)), some (zi (nI g)), some (zi (-((nI (pF A (a + 2))) - (nI 48))))] [] (OM X 0 0 ρ l) (fun r M' => Ev (d + 1) c s 28 61 [some (zr (some (0, 0, 4))), some (zi (nI a)), some (zi (nI g)), some (zi ((nI (pF A (a + 2))) - (nI 48))), some (zi (-((nI (pF A (a + 2))) - (nI 48))))] (zpush r []) M' Q))
    (h3 : (m = 0) → Q (some (zi ((-1)))) (OM X 0 0 (zu (zu ρ 4 14 (nI 1)) 4 15 (nI g)) l)) : Ev (d + 1) c s 28 0 [some (zr (some (0, 0, 4))), some (zi (nI a)), some (zi (nI g)), none, none] [] (OM X 0 0 ρ l) Q := by
  refine Ew.ld f28_0 rfl rfl rfl rfl ?_
  refine Ew.getp (v := some (0, 0, 9)) f28_1 rfl rfl rfl ?_
  refine Ew.ld f28_4 rfl rfl rfl rfl ?_
  refine Ew.ialdnV (v := nI m) f28_5 rfl b1 (Nat.le_of_ble_eq_true rfl) rfl (so_v hm) ?_
  refine Ew.ifc f28_6 rfl rfl (fun c1 => ?_) (fun c1 => ?_)
  · refine Ew.ld f28_16 rfl rfl rfl rfl ?_
    refine Ew.getp (v := some (3, n, 0)) f28_17 rfl (show zpj X.2.2.1 0 0 4 0 = _ from ps) rfl ?_
    refine Ew.ld f28_20 rfl rfl rfl rfl ?_
    refine Ew.op (st' := zi (nI 2) :: _) f28_21 rfl rfl ?_
    refine Ew.addn f28_22 rfl ?_
    refine Ew.call0 (ls0 := [some (zr (some (3, n, 0))), some (zi (nI (a + 2)))]) f28_23 rfl (Nat.le_of_ble_eq_true rfl) rfl rfl (Nat.le_of_ble_eq_true rfl) (by show (X.2.2.2.1 3 n 0).1 = _; rw [hc.sh]) (Nat.le_of_ble_eq_true rfl) rfl rfl ?_
    refine sp_sLet (b2 (fun e => c1 ((zeq nb_m (by decide)).mpr e))) (b3 (fun e => c1 ((zeq nb_m (by decide)).mpr e))) ?_
    show Ev (d + 1) c s 28 26 [some (zr (some (0, 0, 4))), some (zi (nI a)), some (zi (nI g)), none, none] [zi (nI (pF A (a + 2)))] (OM X 0 0 ρ l) Q
    refine Ew.op (st' := zi (nI 48) :: _) f28_26 rfl rfl ?_
    refine Ew.op (st' := zi ((nI (pF A (a + 2))) - (nI 48)) :: _) f28_28 rfl rfl ?_
    refine Ew.sr (ls' := [some (zr (some (0, 0, 4))), some (zi (nI a)), some (zi (nI g)), some (zi ((nI (pF A (a + 2))) - (nI 48))), none]) f28_29 rfl rfl (Nat.le_of_ble_eq_true rfl) rfl rfl ?_
    refine Ew.ld f28_30 rfl rfl rfl rfl ?_
    refine Ew.getp (v := some (3, n, 0)) f28_31 rfl (show zpj X.2.2.1 0 0 4 0 = _ from ps) rfl ?_
    refine Ew.ld f28_34 rfl rfl rfl rfl ?_
    refine Ew.op (st' := zi (nI 1) :: _) f28_35 rfl rfl ?_
    refine Ew.addn f28_36 rfl ?_
    refine Ew.call0 (ls0 := [some (zr (some (3, n, 0))), some (zi (nI (a + 1)))]) f28_37 rfl (Nat.le_of_ble_eq_true rfl) rfl rfl (Nat.le_of_ble_eq_true rfl) (by show (X.2.2.2.1 3 n 0).1 = _; rw [hc.sh]) (Nat.le_of_ble_eq_true rfl) rfl rfl ?_
    refine sp_sLet (b4 (fun e => c1 ((zeq nb_m (by decide)).mpr e))) (b5 (fun e => c1 ((zeq nb_m (by decide)).mpr e))) ?_
    show Ev (d + 1) c s 28 40 [some (zr (some (0, 0, 4))), some (zi (nI a)), some (zi (nI g)), some (zi ((nI (pF A (a + 2))) - (nI 48))), none] [zi (nI (pF A (a + 1)))] (OM X 0 0 ρ l) Q
    refine Ew.op (st' := zi (nI 45) :: _) f28_40 rfl rfl ?_
    refine Ew.icmp f28_42 rfl rfl (fun c2 => ?_) (fun c2 => ?_)
    · refine Ew.ld f28_50 rfl rfl rfl rfl ?_
      refine Ew.sr (ls' := [some (zr (some (0, 0, 4))), some (zi (nI a)), some (zi (nI g)), some (zi ((nI (pF A (a + 2))) - (nI 48))), some (zi ((nI (pF A (a + 2))) - (nI 48)))]) f28_51 rfl rfl (Nat.le_of_ble_eq_true rfl) rfl rfl ?_
      refine Ew.ld f28_53 rfl rfl rfl rfl ?_
      refine Ew.op (st' := zi (nI 2) :: _) f28_54 rfl rfl ?_
      refine Ew.ld f28_55 rfl rfl rfl rfl ?_
      refine Ew.ld f28_56 rfl rfl rfl rfl ?_
      refine Ew.call0 (ls0 := [some (zr (some (0, 0, 4))), some (zi (nI 2)), some (zi (nI g)), some (zi ((nI (pF A (a + 2))) - (nI 48)))]) f28_58 rfl (Nat.le_of_ble_eq_true rfl) rfl rfl (Nat.le_of_ble_eq_true rfl) rfl (Nat.le_of_ble_eq_true rfl) rfl rfl ?_
      exact h1 (fun e => c1 ((zeq nb_m (by decide)).mpr e)) c2
    · refine Ew.ld f28_45 rfl rfl rfl rfl ?_
      refine Ew.op (st' := zi (-((nI (pF A (a + 2))) - (nI 48))) :: _) f28_46 rfl rfl ?_
      refine Ew.goto f28_47 rfl ?_
      refine Ew.sr (ls' := [some (zr (some (0, 0, 4))), some (zi (nI a)), some (zi (nI g)), some (zi ((nI (pF A (a + 2))) - (nI 48))), some (zi (-((nI (pF A (a + 2))) - (nI 48))))]) f28_51 rfl rfl (Nat.le_of_ble_eq_true rfl) rfl rfl ?_
      refine Ew.ld f28_53 rfl rfl rfl rfl ?_
      refine Ew.op (st' := zi (nI 2) :: _) f28_54 rfl rfl ?_
      refine Ew.ld f28_55 rfl rfl rfl rfl ?_
      refine Ew.ld f28_56 rfl rfl rfl rfl ?_
      refine Ew.call0 (ls0 := [some (zr (some (0, 0, 4))), some (zi (nI 2)), some (zi (nI g)), some (zi (-((nI (pF A (a + 2))) - (nI 48))))]) f28_58 rfl (Nat.le_of_ble_eq_true rfl) rfl rfl (Nat.le_of_ble_eq_true rfl) rfl (Nat.le_of_ble_eq_true rfl) rfl rfl ?_
      exact h2 (fun e => c1 ((zeq nb_m (by decide)).mpr e)) (Classical.not_not.mp c2)
  · refine Ew.ld f28_9 rfl rfl rfl rfl ?_
    refine Ew.op (st' := zi (nI 1) :: _) f28_10 rfl rfl ?_
    refine Ew.ld f28_11 rfl rfl rfl rfl ?_
    refine Ew.call0 (ls0 := [some (zr (some (0, 0, 4))), some (zi (nI 1)), some (zi (nI g))]) f28_12 rfl (Nat.le_of_ble_eq_true rfl) rfl rfl (Nat.le_of_ble_eq_true rfl) rfl (Nat.le_of_ble_eq_true rfl) rfl rfl ?_
    refine Ew.ld f31_0 rfl rfl rfl rfl ?_
    refine Ew.ld f31_1 rfl rfl rfl rfl ?_
    refine Ew.putiO f31_2 rfl rfl ?_
    refine Ew.ld f31_5 rfl rfl rfl rfl ?_
    refine Ew.ld f31_6 rfl rfl rfl rfl ?_
    refine Ew.putiO f31_7 rfl rfl ?_
    refine Ew.op (st' := zi ((-1)) :: _) f31_10 rfl rfl ?_
    refine Ew.ireti f31_11 ?_
    show Ev (d + 1) c s 28 15 [some (zr (some (0, 0, 4))), some (zi (nI a)), some (zi (nI g)), none, none] [zi ((-1))] (OM X 0 0 (zu (zu ρ 4 14 (nI 1)) 4 15 (nI g)) l) Q
    refine Ew.ireti f28_15 ?_
    exact h3 ((zeq nb_m (by decide)).mp (Classical.not_not.mp c1))
theorem g28_61 {d c s : Nat} {a g u m : Nat} {x y : Int32} {X : zM} {ρ : Nat → Nat → Int32} {l : Nat → Nat → Int64} {Q : Option zV → zM → Prop} (hu : ρ 4 13 = nI u) (hm : ρ 4 6 = nI (m + 1))  (nb_u : u < 5000)
    (h1 : (¬ (ρ 4 7) = 0) → Q (some (zi ((-1)))) (OM X 0 0 ρ l))
    (b1 : ((ρ 4 7) = 0) → (u < 30) → u < 30)
    (h2 : ((ρ 4 7) = 0) → (u < 30) → Q (some (zi (nI (a + 3)))) (OM X 0 0 (zu (zu ρ 10 u ((nI (m + 1)) - (nI 1))) 4 13 (nI (u + 1))) l))
    (h3 : ((ρ 4 7) = 0) → (30 ≤ u) → Q (some (zi ((-1)))) (OM X 0 0 ρ l)) : Ev d c s 28 61 [some (zr (some (0, 0, 4))), some (zi (nI a)), some (zi (nI g)), some (zi x), some (zi y)] [] (OM X 0 0 ρ l) Q := by
  refine Ew.ld f28_61 rfl rfl rfl rfl ?_
  refine Ew.getbO f28_62 rfl rfl ?_
  refine Ew.ifc f28_65 rfl rfl (fun c1 => ?_) (fun c1 => ?_)
  · refine Ew.op (st' := zi ((-1)) :: _) f28_77 rfl rfl ?_
    refine Ew.ireti f28_78 ?_
    exact h1 c1
  · refine Ew.ld f28_68 rfl rfl rfl rfl ?_
    refine Ew.getiV (v := nI u) f28_69 rfl (so_v hu) rfl ?_
    refine Ew.op (st' := zi (nI 30) :: _) f28_72 rfl rfl ?_
    refine Ew.icmp f28_74 rfl rfl (fun c2 => ?_) (fun c2 => ?_)
    · refine Ew.ld f28_79 rfl rfl rfl rfl ?_
      refine Ew.getp (v := some (0, 0, 10)) f28_80 rfl rfl rfl ?_
      refine Ew.ld f28_83 rfl rfl rfl rfl ?_
      refine Ew.getiV (v := nI u) f28_84 rfl (so_v hu) rfl ?_
      refine Ew.ld f28_87 rfl rfl rfl rfl ?_
      refine Ew.getiV (v := nI (m + 1)) f28_88 rfl (so_v hm) rfl ?_
      refine Ew.op (st' := zi (nI 1) :: _) f28_91 rfl rfl ?_
      refine Ew.op (st' := zi ((nI (m + 1)) - (nI 1)) :: _) f28_92 rfl rfl ?_
      refine Ew.iastnO f28_93 (by decide) rfl (b1 (Classical.not_not.mp c1) ((zlt_iff nb_u (by decide)).mp c2)) (Nat.le_of_ble_eq_true rfl) rfl ?_
      refine Ew.ld f28_94 rfl rfl rfl rfl ?_
      refine Ew.op (st' := zr (some (0, 0, 4)) :: zr (some (0, 0, 4)) :: _) f28_95 rfl rfl ?_
      refine Ew.getiV (v := nI u) f28_96 rfl (so_v hu) rfl ?_
      refine Ew.op (st' := zi (nI 1) :: _) f28_99 rfl rfl ?_
      refine Ew.addn f28_100 rfl ?_
      refine Ew.putiO f28_101 rfl rfl ?_
      refine Ew.ld f28_104 rfl rfl rfl rfl ?_
      refine Ew.op (st' := zi (nI 3) :: _) f28_105 rfl rfl ?_
      refine Ew.addn f28_106 rfl ?_
      refine Ew.ireti f28_107 ?_
      exact h2 (Classical.not_not.mp c1) ((zlt_iff nb_u (by decide)).mp c2)
    · refine Ew.op (st' := zi ((-1)) :: _) f28_77 rfl rfl ?_
      refine Ew.ireti f28_78 ?_
      exact h3 (Classical.not_not.mp c1) (Nat.not_lt.mp fun e => c2 ((zlt_iff nb_u (by decide)).mpr e))
/-- what the player leaves as it is, whether it breaks or not -/
def cPg (ρ ρ' : Nat → Nat → Int32) : Prop := (∀ q i, (q < 4 ∨ 11 ≤ q) → ρ' q i = ρ q i) ∧ ρ' 4 1 = ρ 4 1
theorem cPf.g {ρ ρ' : Nat → Nat → Int32} (h : cPf ρ ρ') : cPg ρ ρ' := ⟨h.1, h.2.1⟩
theorem cPg.trans {ρ ρ' ρ'' : Nat → Nat → Int32} (h : cPg ρ ρ') (h' : cPg ρ' ρ'') : cPg ρ ρ'' := ⟨fun q i hq => (h'.1 q i hq).trans (h.1 q i hq), h'.2.trans h.2⟩
/-- how a piece comes out in the player -/
def cOu (ρ : Nat → Nat → Int32) (r : pO) (ρ' : Nat → Nat → Int32) (x : Int32) : Prop := cPl ρ' r.1 ∧ cPg ρ ρ' ∧ match r.2 with
  | Sum.inl e => x = nI e
  | Sum.inr b => x = -1 ∧ (r.1.2.1 10 = 0 → ρ' 4 14 = nI b.1 ∧ ρ' 4 15 = b.2)
/-- a reason is written -/
theorem cPl_why {ρ : Nat → Nat → Int32} {z : pS} (h : cPl ρ z) (x y : Int32) : cPl (zu (zu ρ 4 14 x) 4 15 y) z ∧ cPg ρ (zu (zu ρ 4 14 x) 4 15 y) := by
  have e : ∀ q i, ¬ (q = 4 ∧ (i = 14 ∨ i = 15)) → zu (zu ρ 4 14 x) 4 15 y q i = ρ q i := fun q i g => by rw [zu_i_ne (by omega), zu_i_ne (by omega)]
  obtain ⟨⟨h30, h6, h7⟩, hr, hs, ⟨h10, h11, h17, h16⟩, ⟨h13, hu⟩, h9, h8⟩ := h
  refine ⟨⟨⟨h30, ?_, ?_⟩, fun k hk => ?_, fun g hg => ?_, ⟨?_, ?_, ?_, ?_⟩, ⟨?_, fun i hi => ?_⟩, ?_, fun e0 k hk => ?_⟩, fun q i hq => e q i (by omega), e 4 1 (by omega)⟩
  · rw [e _ _ (by omega)]; exact h6
  · rw [e _ _ (by omega)]; exact h7
  · rw [e _ _ (by omega), e _ _ (by omega), e _ _ (by omega)]; exact hr k hk
  · rw [e _ _ (by omega)]; exact hs g hg
  · rw [e _ _ (by omega)]; exact h10
  · rw [e _ _ (by omega)]; exact h11
  · rw [e _ _ (by omega)]; exact h17
  · rw [e _ _ (by omega)]; exact h16
  · rw [e _ _ (by omega)]; exact h13
  · obtain ⟨p, hp, e1, e2, e3⟩ := hu i hi
    exact ⟨p, hp, by rw [e _ _ (by omega)]; exact e1, e2, e3⟩
  · rw [e _ _ (by omega)]; exact h9
  · rw [e _ _ (by omega)]; exact h8 e0 k hk
/-- one more that is not sealed -/
theorem cPl_push {ρ : Nat → Nat → Int32} {T : tT} {c : Nat → Nat} {u : List (Nat × Int32)} {g p : Nat} {b : Int32} (h : cPl ρ (T, c, u)) (hp : p < T.1) (e1 : T.2 1 p = nI g) (e2 : T.2 2 p = b) : cPl (zu (zu ρ 10 u.length (nI p)) 4 13 (nI (u.length + 1))) (T, c, (g, b) :: u) := by
  obtain ⟨⟨h30, h6, h7⟩, hr, hs, ⟨h10, h11, h17, h16⟩, ⟨h13, hu⟩, h9, h8⟩ := h
  refine ⟨⟨h30, ?_, ?_⟩, fun k hk => ?_, fun g hg => ?_, ⟨?_, ?_, ?_, ?_⟩, ⟨zu_e, fun i hi => ?_⟩, ?_, fun e k hk => ?_⟩
  · rw [zu_i_ne (by omega), zu_i_ne (by omega)]; exact h6
  · rw [zu_i_ne (by omega), zu_i_ne (by omega)]; exact h7
  · rw [zu_i_ne (by omega), zu_i_ne (by omega), zu_i_ne (by omega), zu_i_ne (by omega), zu_i_ne (by omega), zu_i_ne (by omega)]; exact hr k hk
  · rw [zu_i_ne (by omega), zu_i_ne (by omega)]; exact hs g hg
  · rw [zu_i_ne (by omega), zu_i_ne (by omega)]; exact h10
  · rw [zu_i_ne (by omega), zu_i_ne (by omega)]; exact h11
  · rw [zu_i_ne (by omega), zu_i_ne (by omega)]; exact h17
  · rw [zu_i_ne (by omega), zu_i_ne (by omega)]; exact h16
  · have hi' : i < u.length + 1 := hi
    cases i with
    | zero =>
      refine ⟨p, hp, ?_, e1, e2⟩
      show zu (zu ρ 10 u.length (nI p)) 4 13 (nI (u.length + 1)) 10 (u.length + 1 - 1 - 0) = nI p
      rw [zu_i_ne (by omega), show u.length + 1 - 1 - 0 = u.length by omega, zu_e]
    | succ i =>
      obtain ⟨p', hp', a1, a2, a3⟩ := hu i (by show i < u.length; omega)
      refine ⟨p', hp', ?_, a2, a3⟩
      show zu (zu ρ 10 u.length (nI p)) 4 13 (nI (u.length + 1)) 10 (u.length + 1 - 1 - (i + 1)) = nI p'
      rw [zu_i_ne (by omega), zu_i_ne (by omega), show u.length + 1 - 1 - (i + 1) = u.length - 1 - i by omega]
      exact a1
  · rw [zu_i_ne (by omega), zu_i_ne (by omega)]; exact h9
  · rw [zu_i_ne (by omega), zu_i_ne (by omega)]; exact h8 e k hk
theorem sp_cAdd {d c s n bb a g : Nat} {A : List Nat} {z : pS} {X : zM} {ρ : Nat → Nat → Int32} {l : Nat → Nat → Int64} {Q : Option zV → zM → Prop} (hc : cSc X.1 X.2.2.1 X.2.2.2.1 bb n A) (ps : X.2.2.1 0 0 4 0 = some (3, n, 0)) (hl : cPl ρ z) (hok : pOk z) (hg : g < 6) (ha : a < 4000) (hd : 48 ≤ pF A (a + 2)) (hb : z.2.1 g < 4000) (k : ∀ ρ' x, cOu ρ (pAdd (pF A) a g z) ρ' x → Q (some (zi x)) (OM X 0 0 ρ' l)) : Ev (d + 1) c s 28 0 [some (zr (some (0, 0, 4))), some (zi (nI a)), some (zi (nI g)), none, none] [] (OM X 0 0 ρ l) Q := by
  have hF := pF_b hc.2.1 (a + 1)
  have e45 : nI (pF A (a + 1)) = nI 45 ↔ pF A (a + 1) = 45 := zeq (by omega) (by omega)
  have e48 : nI (pF A (a + 2)) - nI 48 = nI (pF A (a + 2) - 48) := pk_sub hd
  unfold pAdd at k
  have put : ¬ z.2.1 g = 0 → ∀ x y, y = pBy (pF A) a → Ev d 0 0 35 0 [some (zr (some (0, 0, 4))), some (zi (nI 2)), some (zi (nI g)), some (zi y)] [] (OM X 0 0 ρ l) (fun r M' => Ev (d + 1) c s 28 61 [some (zr (some (0, 0, 4))), some (zi (nI a)), some (zi (nI g)), some (zi x), some (zi y)] (zpush r []) M' Q) := by
    intro h0 x y ey
    rw [if_neg h0] at k
    subst ey
    have hput : pOk (pPut z 2 g (pBy (pF A) a)) := hok.put (c' := z.2.1) (by decide) hg (fun q => absurd rfl q) rfl (fun _ _ _ => rfl) (fun q => absurd q (by decide)) (fun q => absurd q (by decide)) (fun _ => rfl)
    refine sp_cPut hl hput (fun ρ' h2 f2 => ?_)
    have hun := pPut_un z 2 g (pBy (pF A) a)
    have hrow : (pPut z 2 g (pBy (pF A) a)).2.1 10 = 0 → z.1.1 < (pPut z 2 g (pBy (pF A) a)).1.1 ∧ (pPut z 2 g (pBy (pF A) a)).1.1 = z.1.1 + 1 ∧ (pPut z 2 g (pBy (pF A) a)).1.2 1 z.1.1 = nI g ∧ (pPut z 2 g (pBy (pF A) a)).1.2 2 z.1.1 = pBy (pF A) a := by
      intro q
      by_cases h : z.1.1 < 30
      · rw [pPut_n h]
        refine ⟨Nat.lt_succ_self _, rfl, ?_, ?_⟩
        · show zu (zu (zu z.1.2 0 z.1.1 (nI 2)) 1 z.1.1 (nI g)) 2 z.1.1 (pBy (pF A) a) 1 z.1.1 = nI g
          rw [zu_i_ne (by omega), zu_e]
        · show zu (zu (zu z.1.2 0 z.1.1 (nI 2)) 1 z.1.1 (nI g)) 2 z.1.1 (pBy (pF A) a) 2 z.1.1 = _
          exact zu_e
      · rw [pPut_o (by omega)] at q
        exact absurd ((zup_s z.2.1 10 1).symm.trans q) (by decide)
    have h1 : 1 ≤ (pPut z 2 g (pBy (pF A) a)).1.1 := by
      by_cases h : z.1.1 < 30
      · rw [pPut_n h]; exact Nat.succ_le_succ (Nat.zero_le _)
      · rw [pPut_o (by omega)]; show 1 ≤ z.1.1; omega
    generalize pPut z 2 g (pBy (pF A) a) = w at k h2 hput hun hrow h1
    obtain ⟨T, C, u⟩ := w
    have hu30 : u.length ≤ T.1 := hput.2.2.1.1
    have h30 : T.1 ≤ 30 := hput.1
    have h1 : 1 ≤ T.1 := h1
    have e6 : ρ' 4 6 = nI (T.1 - 1 + 1) := by rw [show T.1 - 1 + 1 = T.1 by omega]; exact h2.1.2.1
    have e7 : ρ' 4 7 = if C 10 = 0 then nI 0 else nI 1 := h2.1.2.2
    refine g28_61 (u := u.length) (m := T.1 - 1) h2.2.2.2.2.1.1 e6 (by omega) (fun q => k _ _ ?_) (fun _ q => q) (fun q1 q2 => k _ _ ?_) (fun q1 q2 => ?_)
    · have n0 : ¬ C 10 = 0 := fun e => q (by rw [e7, if_pos e]; rfl)
      show cOu ρ (if C 10 = 0 then _ else _) ρ' (-1)
      rw [if_neg n0]
      exact ⟨h2, f2.g, rfl, fun e => absurd e n0⟩
    · have y0 : C 10 = 0 := by
        by_cases e : C 10 = 0
        · exact e
        · rw [e7, if_neg e] at q1; exact absurd q1 (by decide)
      show cOu ρ (if C 10 = 0 then _ else _) _ _
      rw [if_pos y0]
      obtain ⟨r1, r2, r3, r4⟩ := hrow y0
      have r2 : T.1 = z.1.1 + 1 := r2
      have es : nI (T.1 - 1 + 1) - nI 1 = nI z.1.1 := by rw [show T.1 - 1 + 1 = z.1.1 + 1 by omega]; exact pk_sub (a := z.1.1 + 1) (b := 1) (by omega)
      rw [es]
      refine ⟨cPl_push h2 r1 r3 r4, f2.g.trans ⟨fun q i hq => ?_, ?_⟩, rfl⟩
      · rw [zu_i_ne (by omega), zu_i_ne (by omega)]
      · rw [zu_i_ne (by omega), zu_i_ne (by omega)]
    · have y0 : C 10 = 0 := by
        by_cases e : C 10 = 0
        · exact e
        · rw [e7, if_neg e] at q1; exact absurd q1 (by decide)
      have r2 : T.1 = z.1.1 + 1 := (hrow y0).2.1
      have : u.length ≤ z.1.1 := by
        have e : u = z.2.2 := hun
        rw [e]; exact hok.2.2.1.1
      omega
  refine g28_0 hc ps (hl.2.2.1 g hg) (by omega) hg (fun _ => hc) (fun _ => by omega) (fun _ => hc) (fun _ => by omega) (fun q1 q2 => put q1 _ _ ?_) (fun q1 q2 => put q1 _ _ ?_) (fun q => k _ _ ?_)
  · unfold pBy
    rw [if_neg (fun e => q2 (e45.mpr e)), e48]
  · unfold pBy
    rw [if_pos (e45.mp q2), e48]
  · rw [if_pos q]
    have w := cPl_why hl (nI 1) (nI g)
    refine ⟨w.1, w.2, rfl, fun _ => ⟨?_, zu_e⟩⟩
    rw [zu_i_ne (by omega), zu_e]
