/-! the class: the player, steps that it keeps -/
theorem g35_0 {d c s : Nat} {kd g n : Nat} {y : Int32} {X : zM} {ρ : Nat → Nat → Int32} {l : Nat → Nat → Int64} {Q : Option zV → zM → Prop} (hn : ρ 4 6 = nI n) (nb_n : n < 5000)
    (b1 : (n < 30) → n < 30)
    (b2 : (n < 30) → n < 30)
    (b3 : (n < 30) → n < 30)
    (b4 : (n < 30) → n + 1 < 31)
    (h1 : (n < 30) → Q none (OM X 0 0 (zu (zu (zu (zu (zu ρ 5 n (nI kd)) 6 n (nI g)) 7 n y) 4 6 (nI (n + 1))) 8 (n + 1) (ρ 4 9)) l))
    (h2 : (30 ≤ n) → Q none (OM X 0 0 (zu ρ 4 7 (nI 1)) l)) : Ev d c s 35 0 [some (zr (some (0, 0, 4))), some (zi (nI kd)), some (zi (nI g)), some (zi y)] [] (OM X 0 0 ρ l) Q := by
  refine Ew.ld f35_0 rfl rfl rfl rfl ?_
  refine Ew.getiV (v := nI n) f35_1 rfl (so_v hn) rfl ?_
  refine Ew.op (st' := zi (nI 30) :: _) f35_4 rfl rfl ?_
  refine Ew.icmp f35_6 rfl rfl (fun c1 => ?_) (fun c1 => ?_)
  · refine Ew.ld f35_15 rfl rfl rfl rfl ?_
    refine Ew.getp (v := some (0, 0, 5)) f35_16 rfl rfl rfl ?_
    refine Ew.ld f35_19 rfl rfl rfl rfl ?_
    refine Ew.getiV (v := nI n) f35_20 rfl (so_v hn) rfl ?_
    refine Ew.ld f35_23 rfl rfl rfl rfl ?_
    refine Ew.iastnO f35_24 (by decide) rfl (b1 ((zlt_iff nb_n (by decide)).mp c1)) (Nat.le_of_ble_eq_true rfl) rfl ?_
    refine Ew.ld f35_25 rfl rfl rfl rfl ?_
    refine Ew.getp (v := some (0, 0, 6)) f35_26 rfl rfl rfl ?_
    refine Ew.ld f35_29 rfl rfl rfl rfl ?_
    refine Ew.getiV (v := nI n) f35_30 rfl (so_v hn) rfl ?_
    refine Ew.ld f35_33 rfl rfl rfl rfl ?_
    refine Ew.iastnO f35_34 (by decide) rfl (b2 ((zlt_iff nb_n (by decide)).mp c1)) (Nat.le_of_ble_eq_true rfl) rfl ?_
    refine Ew.ld f35_35 rfl rfl rfl rfl ?_
    refine Ew.getp (v := some (0, 0, 7)) f35_36 rfl rfl rfl ?_
    refine Ew.ld f35_39 rfl rfl rfl rfl ?_
    refine Ew.getiV (v := nI n) f35_40 rfl (so_v hn) rfl ?_
    refine Ew.ld f35_43 rfl rfl rfl rfl ?_
    refine Ew.iastnO f35_44 (by decide) rfl (b3 ((zlt_iff nb_n (by decide)).mp c1)) (Nat.le_of_ble_eq_true rfl) rfl ?_
    refine Ew.ld f35_45 rfl rfl rfl rfl ?_
    refine Ew.op (st' := zr (some (0, 0, 4)) :: zr (some (0, 0, 4)) :: _) f35_46 rfl rfl ?_
    refine Ew.getiV (v := nI n) f35_47 rfl (so_v hn) rfl ?_
    refine Ew.op (st' := zi (nI 1) :: _) f35_50 rfl rfl ?_
    refine Ew.addn f35_51 rfl ?_
    refine Ew.putiO f35_52 rfl rfl ?_
    refine Ew.ld f35_55 rfl rfl rfl rfl ?_
    refine Ew.getp (v := some (0, 0, 8)) f35_56 rfl rfl rfl ?_
    refine Ew.ld f35_59 rfl rfl rfl rfl ?_
    refine Ew.getiV (v := nI (n + 1)) f35_60 rfl (so_v rfl) rfl ?_
    refine Ew.ld f35_63 rfl rfl rfl rfl ?_
    refine Ew.getiV (v := ρ 4 9) f35_64 rfl (so_v rfl) rfl ?_
    refine Ew.iastnO f35_67 (by decide) rfl (b4 ((zlt_iff nb_n (by decide)).mp c1)) (Nat.le_of_ble_eq_true rfl) rfl ?_
    refine Ew.vret f35_68 ?_
    exact h1 ((zlt_iff nb_n (by decide)).mp c1)
  · refine Ew.ld f35_9 rfl rfl rfl rfl ?_
    refine Ew.op (st' := zi (nI 1) :: _) f35_10 rfl rfl ?_
    refine Ew.putbO f35_11 rfl (Or.inr rfl) rfl ?_
    refine Ew.vret f35_14 ?_
    exact h2 (Nat.not_lt.mp fun e => c1 ((zlt_iff nb_n (by decide)).mpr e))
theorem g31_0 {d c s : Nat} {y : Nat} {z : Int32} {X : zM} {ρ : Nat → Nat → Int32} {l : Nat → Nat → Int64} {Q : Option zV → zM → Prop}
    (h1 : Q (some (zi ((-1)))) (OM X 0 0 (zu (zu ρ 4 14 (nI y)) 4 15 z) l)) : Ev d c s 31 0 [some (zr (some (0, 0, 4))), some (zi (nI y)), some (zi z)] [] (OM X 0 0 ρ l) Q := by
  refine Ew.ld f31_0 rfl rfl rfl rfl ?_
  refine Ew.ld f31_1 rfl rfl rfl rfl ?_
  refine Ew.putiO f31_2 rfl rfl ?_
  refine Ew.ld f31_5 rfl rfl rfl rfl ?_
  refine Ew.ld f31_6 rfl rfl rfl rfl ?_
  refine Ew.putiO f31_7 rfl rfl ?_
  refine Ew.op (st' := zi ((-1)) :: _) f31_10 rfl rfl ?_
  refine Ew.ireti f31_11 ?_
  exact h1
/-- the gates that one is in, by counts -/
def cInL (c : Nat → Nat) : Nat → Int32
  | 0 => nI 0
  | g + 1 => cInL c g ||| (if 0 < c g then nI 1 <<< (nI g &&& 31) else nI 0)
def cIn (c : Nat → Nat) : Int32 := cInL c 6
theorem tSet_c {T : tT} {k : Nat} {c : Nat → Nat} (h : ∀ g, g < 6 → tIns T.2 k (nI g) = nI (c g) ∧ c g < 5000) : tSet T k = cIn c := by
  have key : ∀ n, n ≤ 6 → tSetL T k n = cInL c n := by
    intro n
    induction n with
    | zero => intro _; rfl
    | succ n ih =>
      intro hn
      unfold tSetL cInL
      rw [ih (by omega), (h n (by omega)).1]
      by_cases e : 0 < c n
      · rw [if_pos e, if_pos ((nI_0lt (h n (by omega)).2).mpr e)]
      · rw [if_neg e, if_neg (fun q => e ((nI_0lt (h n (by omega)).2).mp q))]
  exact key 6 (Nat.le_refl 6)
theorem tSet_eq {T T' : tT} {k : Nat} (h : ∀ q i, i < k → T'.2 q i = T.2 q i) : tSet T' k = tSet T k := by
  have key : ∀ n, tSetL T' k n = tSetL T k n := by
    intro n
    induction n with
    | zero => rfl
    | succ n ih =>
      unfold tSetL
      rw [ih, tIns_eq h]
  exact key 6
theorem cIn_eq {c c' : Nat → Nat} (h : ∀ i, i < 6 → c' i = c i) : cIn c' = cIn c := by
  have key : ∀ n, n ≤ 6 → cInL c' n = cInL c n := by
    intro n
    induction n with
    | zero => intro _; rfl
    | succ n ih =>
      intro hn
      unfold cInL
      rw [ih (by omega), h n (by omega)]
  exact key 6 (Nat.le_refl 6)
/-- what is not sealed, in the player -/
def cUn (ρ : Nat → Nat → Int32) (T : tT) (u : List (Nat × Int32)) : Prop := ρ 4 13 = nI u.length ∧ ∀ i (h : i < u.length), ∃ p, p < T.1 ∧ ρ 10 (u.length - 1 - i) = nI p ∧ T.2 1 p = nI (u[i]).1 ∧ T.2 2 p = (u[i]).2
/-- the player tells what has been done -/
def cPl (ρ : Nat → Nat → Int32) (z : pS) : Prop := (z.1.1 ≤ 30 ∧ ρ 4 6 = nI z.1.1 ∧ ρ 4 7 = (if z.2.1 10 = 0 then nI 0 else nI 1)) ∧ (∀ k, k < z.1.1 → ρ 5 k = z.1.2 0 k ∧ ρ 6 k = z.1.2 1 k ∧ ρ 7 k = z.1.2 2 k) ∧ (∀ g, g < 6 → ρ 9 g = nI (z.2.1 g)) ∧ (ρ 4 10 = nI (z.2.1 6) ∧ ρ 4 11 = nI (z.2.1 7) ∧ ρ 4 17 = nI (z.2.1 8) ∧ ρ 4 16 = nI (z.2.1 9)) ∧ cUn ρ z.1 z.2.2 ∧ ρ 4 9 = cIn z.2.1 ∧ (z.2.1 10 = 0 → ∀ k, k ≤ z.1.1 → ρ 8 k = tSet z.1 k)
/-- what the player leaves as it is -/
def cPf (ρ ρ' : Nat → Nat → Int32) : Prop := (∀ q i, (q < 4 ∨ 11 ≤ q) → ρ' q i = ρ q i) ∧ ρ' 4 1 = ρ 4 1 ∧ ρ' 4 14 = ρ 4 14 ∧ ρ' 4 15 = ρ 4 15
theorem cPf.refl (ρ : Nat → Nat → Int32) : cPf ρ ρ := ⟨fun _ _ _ => rfl, rfl, rfl, rfl⟩
theorem cPf.trans {ρ ρ' ρ'' : Nat → Nat → Int32} (h : cPf ρ ρ') (h' : cPf ρ' ρ'') : cPf ρ ρ'' := ⟨fun q i hq => (h'.1 q i hq).trans (h.1 q i hq), h'.2.1.trans h.2.1, h'.2.2.1.trans h.2.2.1, h'.2.2.2.trans h.2.2.2⟩
theorem sp_cPut {d c s kd g : Nat} {b : Int32} {z : pS} {X : zM} {ρ : Nat → Nat → Int32} {l : Nat → Nat → Int64} {Q : Option zV → zM → Prop} (hl : cPl ρ z) (hok : pOk (pPut z kd g b)) (k : ∀ ρ', cPl ρ' (pPut z kd g b) → cPf ρ ρ' → Q none (OM X 0 0 ρ' l)) : Ev d c s 35 0 [some (zr (some (0, 0, 4))), some (zi (nI kd)), some (zi (nI g)), some (zi b)] [] (OM X 0 0 ρ l) Q := by
  obtain ⟨⟨h30, h6, h7⟩, hr, hs, ⟨h10, h11, h17, h16⟩, ⟨h13, hu⟩, h9, h8⟩ := hl
  refine g35_0 h6 (by omega) id id id (fun q => by omega) (fun q => k _ ?_ ?_) (fun q => k _ ?_ ?_)
  · rw [pPut_n q] at hok ⊢
    refine ⟨⟨?_, ?_, ?_⟩, fun i hi => ?_, fun i hi => ?_, ⟨?_, ?_, ?_, ?_⟩, ⟨?_, fun i hi => ?_⟩, ?_, fun e i hi => ?_⟩
    · exact q
    · rw [zu_i_ne (by omega), zu_e]
    · rw [zu_i_ne (by omega), zu_i_ne (by omega), zu_i_ne (by omega), zu_i_ne (by omega), zu_i_ne (by omega)]; exact h7
    · have hi : i < z.1.1 + 1 := hi
      by_cases e : i = z.1.1
      · subst e
        refine ⟨?_, ?_, ?_⟩
        · show _ = zu (zu (zu z.1.2 0 z.1.1 (nI kd)) 1 z.1.1 (nI g)) 2 z.1.1 b 0 z.1.1
          rw [zu_i_ne (by omega), zu_i_ne (by omega), zu_i_ne (by omega), zu_i_ne (by omega), zu_e, zu_i_ne (by omega), zu_i_ne (by omega), zu_e]
        · show _ = zu (zu (zu z.1.2 0 z.1.1 (nI kd)) 1 z.1.1 (nI g)) 2 z.1.1 b 1 z.1.1
          rw [zu_i_ne (by omega), zu_i_ne (by omega), zu_i_ne (by omega), zu_e, zu_i_ne (by omega), zu_e]
        · show _ = zu (zu (zu z.1.2 0 z.1.1 (nI kd)) 1 z.1.1 (nI g)) 2 z.1.1 b 2 z.1.1
          rw [zu_i_ne (by omega), zu_i_ne (by omega), zu_e, zu_e]
      · obtain ⟨a1, a2, a3⟩ := hr i (by omega)
        refine ⟨?_, ?_, ?_⟩
        · show _ = zu (zu (zu z.1.2 0 z.1.1 (nI kd)) 1 z.1.1 (nI g)) 2 z.1.1 b 0 i
          rw [zu_i_ne (by omega), zu_i_ne (by omega), zu_i_ne (by omega), zu_i_ne (by omega), zu_i_ne (by omega), zu_i_ne (by omega), zu_i_ne (by omega), zu_i_ne (by omega)]; exact a1
        · show _ = zu (zu (zu z.1.2 0 z.1.1 (nI kd)) 1 z.1.1 (nI g)) 2 z.1.1 b 1 i
          rw [zu_i_ne (by omega), zu_i_ne (by omega), zu_i_ne (by omega), zu_i_ne (by omega), zu_i_ne (by omega), zu_i_ne (by omega), zu_i_ne (by omega), zu_i_ne (by omega)]; exact a2
        · show _ = zu (zu (zu z.1.2 0 z.1.1 (nI kd)) 1 z.1.1 (nI g)) 2 z.1.1 b 2 i
          rw [zu_i_ne (by omega), zu_i_ne (by omega), zu_i_ne (by omega), zu_i_ne (by omega), zu_i_ne (by omega), zu_i_ne (by omega), zu_i_ne (by omega), zu_i_ne (by omega)]; exact a3
    · rw [zu_i_ne (by omega), zu_i_ne (by omega), zu_i_ne (by omega), zu_i_ne (by omega), zu_i_ne (by omega)]; exact hs i hi
    · rw [zu_i_ne (by omega), zu_i_ne (by omega), zu_i_ne (by omega), zu_i_ne (by omega), zu_i_ne (by omega)]; exact h10
    · rw [zu_i_ne (by omega), zu_i_ne (by omega), zu_i_ne (by omega), zu_i_ne (by omega), zu_i_ne (by omega)]; exact h11
    · rw [zu_i_ne (by omega), zu_i_ne (by omega), zu_i_ne (by omega), zu_i_ne (by omega), zu_i_ne (by omega)]; exact h17
    · rw [zu_i_ne (by omega), zu_i_ne (by omega), zu_i_ne (by omega), zu_i_ne (by omega), zu_i_ne (by omega)]; exact h16
    · rw [zu_i_ne (by omega), zu_i_ne (by omega), zu_i_ne (by omega), zu_i_ne (by omega), zu_i_ne (by omega)]; exact h13
    · obtain ⟨p, hp, e1, e2, e3⟩ := hu i hi
      refine ⟨p, Nat.lt_succ_of_lt hp, ?_, ?_, ?_⟩
      · rw [zu_i_ne (by omega), zu_i_ne (by omega), zu_i_ne (by omega), zu_i_ne (by omega), zu_i_ne (by omega)]; exact e1
      · show zu (zu (zu z.1.2 0 z.1.1 (nI kd)) 1 z.1.1 (nI g)) 2 z.1.1 b 1 p = _
        rw [zu_i_ne (by omega), zu_i_ne (by omega), zu_i_ne (by omega)]; exact e2
      · show zu (zu (zu z.1.2 0 z.1.1 (nI kd)) 1 z.1.1 (nI g)) 2 z.1.1 b 2 p = _
        rw [zu_i_ne (by omega), zu_i_ne (by omega), zu_i_ne (by omega)]; exact e3
    · rw [zu_i_ne (by omega), zu_i_ne (by omega), zu_i_ne (by omega), zu_i_ne (by omega), zu_i_ne (by omega)]; exact h9
    · have hi : i ≤ z.1.1 + 1 := hi
      by_cases ei : i = z.1.1 + 1
      · subst ei
        rw [zu_e, h9]
        exact (tSet_c fun g hg => ⟨((hok.2.2.2 e).1 g hg).1, by have q1 : z.2.1 g ≤ z.1.1 + 1 := ((hok.2.2.2 e).1 g hg).2; show z.2.1 g < 5000; omega⟩).symm
      · rw [zu_i_ne (by omega), zu_i_ne (by omega), zu_i_ne (by omega), zu_i_ne (by omega), zu_i_ne (by omega), h8 e i (by omega)]
        refine (tSet_eq fun q' i' hi' => ?_).symm
        show zu (zu (zu z.1.2 0 z.1.1 (nI kd)) 1 z.1.1 (nI g)) 2 z.1.1 b q' i' = z.1.2 q' i'
        rw [zu_i_ne (by omega), zu_i_ne (by omega), zu_i_ne (by omega)]
  · refine ⟨fun q' i hq => ?_, ?_, ?_, ?_⟩ <;> rw [zu_i_ne (by omega), zu_i_ne (by omega), zu_i_ne (by omega), zu_i_ne (by omega), zu_i_ne (by omega)]
  · rw [pPut_o q]
    have e10 : zup z.2.1 10 1 10 = 1 := zup_s _ _ _
    have en : ∀ i, ¬ i = 10 → zup z.2.1 10 1 i = z.2.1 i := fun i hi => zup_n _ _ hi
    refine ⟨⟨h30, ?_, ?_⟩, fun i hi => ?_, fun i hi => ?_, ⟨?_, ?_, ?_, ?_⟩, ⟨?_, fun i hi => ?_⟩, ?_, fun e => ?_⟩
    · rw [zu_i_ne (by omega)]; exact h6
    · show zu ρ 4 7 (nI 1) 4 7 = if zup z.2.1 10 1 10 = 0 then nI 0 else nI 1
      rw [zu_e, e10, if_neg (by decide)]
    · rw [zu_i_ne (by omega), zu_i_ne (by omega), zu_i_ne (by omega)]; exact hr i hi
    · show zu ρ 4 7 (nI 1) 9 i = nI (zup z.2.1 10 1 i)
      rw [zu_i_ne (by omega), en i (by omega)]; exact hs i hi
    · show zu ρ 4 7 (nI 1) 4 10 = nI (zup z.2.1 10 1 6)
      rw [zu_i_ne (by omega), en 6 (by omega)]; exact h10
    · show zu ρ 4 7 (nI 1) 4 11 = nI (zup z.2.1 10 1 7)
      rw [zu_i_ne (by omega), en 7 (by omega)]; exact h11
    · show zu ρ 4 7 (nI 1) 4 17 = nI (zup z.2.1 10 1 8)
      rw [zu_i_ne (by omega), en 8 (by omega)]; exact h17
    · show zu ρ 4 7 (nI 1) 4 16 = nI (zup z.2.1 10 1 9)
      rw [zu_i_ne (by omega), en 9 (by omega)]; exact h16
    · rw [zu_i_ne (by omega)]; exact h13
    · obtain ⟨p, hp, e1, e2, e3⟩ := hu i hi
      exact ⟨p, hp, by rw [zu_i_ne (by omega)]; exact e1, e2, e3⟩
    · rw [zu_i_ne (by omega), h9]
      exact (cIn_eq fun i hi => en i (by omega)).symm
    · exact absurd (e10.symm.trans e) (by decide)
  · refine ⟨fun q' i hq => ?_, ?_, ?_, ?_⟩ <;> rw [zu_i_ne (by omega)]
