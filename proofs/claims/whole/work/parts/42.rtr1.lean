/-! the reference: how a trace is made, letter by letter: the machine's states, small methods -/
/-- an open bracket: its kind (0 a stay, 1 a try, 2 often), its place, its gate or how often, what was added ahead of it -/
abbrev mF : Type := Nat × Nat × Nat × Nat
/-- steps, counters, what was added (0: sealed); what is open; the place; why and whereby it broke -/
abbrev mC : Type := pS × List mF × Nat × (Nat × Int32)
def mAds (ρ : Nat → Nat → Int32) : List (Nat × Int32) → Prop
  | [] => True
  | x :: u => ρ 23 u.length = nI x.1 ∧ ρ 24 u.length = x.2 ∧ mAds ρ u
def mStk (ρ : Nat → Nat → Int32) : List mF → Prop
  | [] => True
  | x :: u => ρ 19 u.length = nI x.1 ∧ ρ 20 u.length = nI x.2.1 ∧ ρ 21 u.length = nI x.2.2.1 ∧ ρ 22 u.length = nI x.2.2.2 ∧ mStk ρ u
def mScr (t q i : Nat) : Prop := (q = 0 ∧ (i = 21 ∨ i = 26 ∨ i = 29 ∨ i = 31 ∨ i = 32)) ∨ (19 ≤ q ∧ q ≤ 25) ∨ (10 ≤ q ∧ q ≤ 12 ∧ 30 * t ≤ i ∧ i < 30 * t + 30) ∨ (13 ≤ q ∧ q ≤ 18 ∧ i = t)
def mRs (t : Nat) (ρ : Nat → Nat → Int32) (s : Nat × (Nat → Nat → Int32)) : Prop := ρ 13 t = nI s.1 ∧ s.1 ≤ 30 ∧ ∀ k, k < s.1 → ρ 10 (30 * t + k) = s.2 0 k ∧ ρ 11 (30 * t + k) = s.2 1 k ∧ ρ 12 (30 * t + k) = s.2 2 k
def mRc (t : Nat) (ρ : Nat → Nat → Int32) (c : Nat → Nat) : Prop := (∀ g, g < 6 → ρ 25 g = nI (c g)) ∧ ρ 0 32 = nI (c 6) ∧ ρ 18 t = nI (c 7) ∧ ρ 17 t = nI (c 8) ∧ ρ 16 t = nI (c 9) ∧ ρ 0 21 = nI (c 10)
def mRa (ρ : Nat → Nat → Int32) (u : List (Nat × Int32)) : Prop := ρ 0 29 = nI u.length ∧ u.length ≤ 30 ∧ mAds ρ u
def mRo (ρ : Nat → Nat → Int32) (st : List mF) : Prop := ρ 0 26 = nI st.length ∧ st.length ≤ 6 ∧ mStk ρ st
def mRw (t : Nat) (ρ : Nat → Nat → Int32) (a : Nat) (w : Nat × Int32) : Prop := ρ 0 31 = nI a ∧ ρ 14 t = nI w.1 ∧ ρ 15 t = w.2
def mR (ρ0 : Nat → Nat → Int32) (t : Nat) (ρ : Nat → Nat → Int32) (x : mC) : Prop := mRs t ρ x.1.1 ∧ mRc t ρ x.1.2.1 ∧ mRa ρ x.1.2.2 ∧ mRo ρ x.2.1 ∧ mRw t ρ x.2.2.1 x.2.2.2 ∧ ∀ q i, ¬ mScr t q i → ρ q i = ρ0 q i
theorem mAds_ext {ρ ρ' : Nat → Nat → Int32} : ∀ {u : List (Nat × Int32)}, (∀ k, k < u.length → ρ' 23 k = ρ 23 k ∧ ρ' 24 k = ρ 24 k) → mAds ρ u → mAds ρ' u := by
  intro u
  induction u with
  | nil => intro _ _; trivial
  | cons x u ih =>
    intro h hu
    obtain ⟨e1, e2⟩ := h u.length (by rw [List.length_cons]; omega)
    exact ⟨e1.trans hu.1, e2.trans hu.2.1, ih (fun k hk => h k (by rw [List.length_cons]; omega)) hu.2.2⟩
theorem mStk_ext {ρ ρ' : Nat → Nat → Int32} : ∀ {u : List mF}, (∀ k, k < u.length → ρ' 19 k = ρ 19 k ∧ ρ' 20 k = ρ 20 k ∧ ρ' 21 k = ρ 21 k ∧ ρ' 22 k = ρ 22 k) → mStk ρ u → mStk ρ' u := by
  intro u
  induction u with
  | nil => intro _ _; trivial
  | cons x u ih =>
    intro h hu
    obtain ⟨e1, e2, e3, e4⟩ := h u.length (by rw [List.length_cons]; omega)
    exact ⟨e1.trans hu.1, e2.trans hu.2.1, e3.trans hu.2.2.1, e4.trans hu.2.2.2.1, ih (fun k hk => h k (by rw [List.length_cons]; omega)) hu.2.2.2.2⟩
/-- rows of what is open stay -/
def mKp (ρ ρ' : Nat → Nat → Int32) : Prop := ∀ q i, 19 ≤ q → q ≤ 22 → ρ' q i = ρ q i
theorem mKp.trans {ρ ρ' ρ'' : Nat → Nat → Int32} (h : mKp ρ ρ') (h' : mKp ρ' ρ'') : mKp ρ ρ'' := fun q i a b => (h' q i a b).trans (h q i a b)
theorem mKp.stk {ρ ρ' : Nat → Nat → Int32} (h : mKp ρ ρ') {u : List mF} (hu : mStk ρ u) : mStk ρ' u := mStk_ext (fun k _ => ⟨h _ _ (by decide) (by decide), h _ _ (by decide) (by decide), h _ _ (by decide) (by decide), h _ _ (by decide) (by decide)⟩) hu
theorem g158_0 {d c s : Nat} {t kd g m : Nat} {b : Int32} {X : zM} {ρ : Nat → Nat → Int32} {l : Nat → Nat → Int64} {Q : Option zV → zM → Prop} (e1 : ρ 13 t = nI m) (nb_m : m < 5000)
    (b1 : t < 4)
    (b2 : (¬ m = 30) → t < 4)
    (b3 : (¬ m = 30) → 30 * t + m < 120)
    (b4 : (¬ m = 30) → t < 4)
    (b5 : (¬ m = 30) → 30 * t + m < 120)
    (b6 : (¬ m = 30) → t < 4)
    (b7 : (¬ m = 30) → 30 * t + m < 120)
    (b8 : (¬ m = 30) → t < 4)
    (b9 : (¬ m = 30) → t < 4)
    (h1 : (¬ m = 30) → Q none (OM X 1 0 (zu (zu (zu (zu ρ 10 (30 * t + m) (nI kd)) 11 (30 * t + m) (nI g)) 12 (30 * t + m) b) 13 t (nI (m + 1))) l))
    (h2 : (m = 30) → Q none (OM X 1 0 (zu ρ 0 21 (nI 1)) l)) : Ev d c s 158 0 [some (zr (some (1, 0, 0))), some (zi (nI t)), some (zi (nI kd)), some (zi (nI g)), some (zi b)] [] (OM X 1 0 ρ l) Q := by
  refine Ew.ld f158_0 rfl rfl rfl rfl ?_
  refine Ew.getp (v := some (1, 0, 13)) f158_1 rfl rfl rfl ?_
  refine Ew.ld f158_4 rfl rfl rfl rfl ?_
  refine Ew.ialdnV (v := nI m) f158_5 rfl b1 (Nat.le_of_ble_eq_true rfl) rfl (so_v e1) ?_
  refine Ew.op (st' := zi (nI 30) :: _) f158_6 rfl rfl ?_
  refine Ew.icmp f158_8 rfl rfl (fun c1 => ?_) (fun c1 => ?_)
  · refine Ew.ld f158_19 rfl rfl rfl rfl ?_
    refine Ew.getp (v := some (1, 0, 10)) f158_20 rfl rfl rfl ?_
    refine Ew.op (st' := zi (nI 30) :: _) f158_23 rfl rfl ?_
    refine Ew.ld f158_25 rfl rfl rfl rfl ?_
    refine Ew.muln f158_26 rfl ?_
    refine Ew.ld f158_27 rfl rfl rfl rfl ?_
    refine Ew.getp (v := some (1, 0, 13)) f158_28 rfl rfl rfl ?_
    refine Ew.ld f158_31 rfl rfl rfl rfl ?_
    refine Ew.ialdnV (v := nI m) f158_32 rfl (b2 (fun e => c1 ((zeq nb_m (by decide)).mpr e))) (Nat.le_of_ble_eq_true rfl) rfl (so_v e1) ?_
    refine Ew.addn f158_33 rfl ?_
    refine Ew.ld f158_34 rfl rfl rfl rfl ?_
    refine Ew.iastnO f158_35 (by decide) rfl (b3 (fun e => c1 ((zeq nb_m (by decide)).mpr e))) (Nat.le_of_ble_eq_true rfl) rfl ?_
    refine Ew.ld f158_36 rfl rfl rfl rfl ?_
    refine Ew.getp (v := some (1, 0, 11)) f158_37 rfl rfl rfl ?_
    refine Ew.op (st' := zi (nI 30) :: _) f158_40 rfl rfl ?_
    refine Ew.ld f158_42 rfl rfl rfl rfl ?_
    refine Ew.muln f158_43 rfl ?_
    refine Ew.ld f158_44 rfl rfl rfl rfl ?_
    refine Ew.getp (v := some (1, 0, 13)) f158_45 rfl rfl rfl ?_
    refine Ew.ld f158_48 rfl rfl rfl rfl ?_
    refine Ew.ialdnV (v := nI m) f158_49 rfl (b4 (fun e => c1 ((zeq nb_m (by decide)).mpr e))) (Nat.le_of_ble_eq_true rfl) rfl (so_v e1) ?_
    refine Ew.addn f158_50 rfl ?_
    refine Ew.ld f158_51 rfl rfl rfl rfl ?_
    refine Ew.iastnO f158_52 (by decide) rfl (b5 (fun e => c1 ((zeq nb_m (by decide)).mpr e))) (Nat.le_of_ble_eq_true rfl) rfl ?_
    refine Ew.ld f158_53 rfl rfl rfl rfl ?_
    refine Ew.getp (v := some (1, 0, 12)) f158_54 rfl rfl rfl ?_
    refine Ew.op (st' := zi (nI 30) :: _) f158_57 rfl rfl ?_
    refine Ew.ld f158_59 rfl rfl rfl rfl ?_
    refine Ew.muln f158_60 rfl ?_
    refine Ew.ld f158_61 rfl rfl rfl rfl ?_
    refine Ew.getp (v := some (1, 0, 13)) f158_62 rfl rfl rfl ?_
    refine Ew.ld f158_65 rfl rfl rfl rfl ?_
    refine Ew.ialdnV (v := nI m) f158_66 rfl (b6 (fun e => c1 ((zeq nb_m (by decide)).mpr e))) (Nat.le_of_ble_eq_true rfl) rfl (so_v e1) ?_
    refine Ew.addn f158_67 rfl ?_
    refine Ew.ld f158_68 rfl rfl rfl rfl ?_
    refine Ew.iastnO f158_70 (by decide) rfl (b7 (fun e => c1 ((zeq nb_m (by decide)).mpr e))) (Nat.le_of_ble_eq_true rfl) rfl ?_
    refine Ew.ld f158_71 rfl rfl rfl rfl ?_
    refine Ew.getp (v := some (1, 0, 13)) f158_72 rfl rfl rfl ?_
    refine Ew.ld f158_75 rfl rfl rfl rfl ?_
    refine Ew.op (st' := zi (nI t) :: zr (some (1, 0, 13)) :: zi (nI t) :: zr (some (1, 0, 13)) :: _) f158_76 rfl rfl ?_
    refine Ew.ialdnV (v := nI m) f158_77 rfl (b8 (fun e => c1 ((zeq nb_m (by decide)).mpr e))) (Nat.le_of_ble_eq_true rfl) rfl (so_v e1) ?_
    refine Ew.op (st' := zi (nI 1) :: _) f158_78 rfl rfl ?_
    refine Ew.addn f158_79 rfl ?_
    refine Ew.iastnO f158_80 (by decide) rfl (b9 (fun e => c1 ((zeq nb_m (by decide)).mpr e))) (Nat.le_of_ble_eq_true rfl) rfl ?_
    refine Ew.vret f158_81 ?_
    exact h1 (fun e => c1 ((zeq nb_m (by decide)).mpr e))
  · refine Ew.ld f158_11 rfl rfl rfl rfl ?_
    refine Ew.op (st' := zi (nI 1) :: _) f158_12 rfl rfl ?_
    refine Ew.putbO f158_13 rfl (Or.inr rfl) rfl ?_
    refine Ew.goto f158_16 rfl ?_
    refine Ew.vret f158_81 ?_
    exact h2 ((zeq nb_m (by decide)).mp (Classical.not_not.mp c1))
theorem sp_writes {d c s t kd g : Nat} {b : Int32} {X : zM} {ρ0 ρ : Nat → Nat → Int32} {l : Nat → Nat → Int64} {Q : Option zV → zM → Prop} {x : mC} (ht : t < 4) (h : mR ρ0 t ρ x) (k : ∀ ρ', mR ρ0 t ρ' (pPut x.1 kd g b, x.2) → mKp ρ ρ' → Q none (OM X 1 0 ρ' l)) : Ev d c s 158 0 [some (zr (some (1, 0, 0))), some (zi (nI t)), some (zi (nI kd)), some (zi (nI g)), some (zi b)] [] (OM X 1 0 ρ l) Q := by
  obtain ⟨⟨s1, s2, s3⟩, ⟨c1, c2, c3, c4, c5, c6⟩, ⟨a1, a2, a3⟩, ⟨o1, o2, o3⟩, ⟨w1, w2, w3⟩, fr⟩ := h
  by_cases h30 : x.1.1.1 = 30
  · refine g158_0 s1 (by omega) ht (by omega) (by omega) (by omega) (by omega) (by omega) (by omega) (by omega) (by omega) (fun g => absurd h30 g) (fun _ => k _ ?_ ?_)
    · rw [pPut_o (by omega)]
      refine ⟨⟨?_, s2, fun k hk => ?_⟩, ⟨fun i hi => ?_, ?_, ?_, ?_, ?_, ?_⟩, ⟨?_, a2, mAds_ext (fun k hk => ⟨?_, ?_⟩) a3⟩, ⟨?_, o2, mStk_ext (fun k hk => ⟨?_, ?_, ?_, ?_⟩) o3⟩, ⟨?_, ?_, ?_⟩, fun q i hq => ?_⟩
      all_goals first
        | (rw [zu_i_ne (by omega)]; assumption)
        | (rw [zu_i_ne (by omega)]; done)
        | (rw [zu_i_ne (by omega), zu_i_ne (by omega), zu_i_ne (by omega)]; exact s3 k hk)
        | (rw [zu_s]; show nI 1 = nI (zup x.1.2.1 10 1 10); rw [zup_s])
        | (rw [zu_i_ne (by omega)]; show _ = nI (zup x.1.2.1 10 1 _); rw [zup_nn (by omega)]; first | assumption | exact c1 i hi)
        | (rw [zu_i_ne (by unfold mScr at hq; omega)]; exact fr q i hq)
    · intro q i h1 h2
      rw [zu_i_ne (by omega)]
  · have hlt : x.1.1.1 < 30 := by omega
    refine g158_0 s1 (by omega) ht (fun _ => ht) (fun _ => by omega) (fun _ => ht) (fun _ => by omega) (fun _ => ht) (fun _ => by omega) (fun _ => ht) (fun _ => ht) (fun _ => k _ ?_ ?_) (fun g => absurd g h30)
    · rw [pPut_n hlt]
      refine ⟨⟨?_, by show x.1.1.1 + 1 ≤ 30; omega, fun k hk => ?_⟩, ⟨fun i hi => ?_, ?_, ?_, ?_, ?_, ?_⟩, ⟨?_, a2, mAds_ext (fun k hk => ⟨?_, ?_⟩) a3⟩, ⟨?_, o2, mStk_ext (fun k hk => ⟨?_, ?_, ?_, ?_⟩) o3⟩, ⟨?_, ?_, ?_⟩, fun q i hq => ?_⟩
      · exact zu_s _ _ _ _
      · have hk : k < x.1.1.1 + 1 := hk
        show _ = zu (zu (zu x.1.1.2 0 x.1.1.1 (nI kd)) 1 x.1.1.1 (nI g)) 2 x.1.1.1 b 0 k ∧ _ = zu (zu (zu x.1.1.2 0 x.1.1.1 (nI kd)) 1 x.1.1.1 (nI g)) 2 x.1.1.1 b 1 k ∧ _ = zu (zu (zu x.1.1.2 0 x.1.1.1 (nI kd)) 1 x.1.1.1 (nI g)) 2 x.1.1.1 b 2 k
        by_cases e : k = x.1.1.1
        · subst e
          refine ⟨?_, ?_, ?_⟩
          · rw [zu_i_ne (by omega), zu_i_ne (by omega), zu_i_ne (by omega), zu_s, zu_i_ne (by omega), zu_i_ne (by omega), zu_s]
          · rw [zu_i_ne (by omega), zu_i_ne (by omega), zu_s, zu_i_ne (by omega), zu_s]
          · rw [zu_i_ne (by omega), zu_s, zu_s]
        · obtain ⟨r1, r2, r3⟩ := s3 k (by omega)
          refine ⟨?_, ?_, ?_⟩
          · rw [zu_i_ne (by omega), zu_i_ne (by omega), zu_i_ne (by omega), zu_i_ne (by omega), zu_i_ne (by omega), zu_i_ne (by omega), zu_i_ne (by omega)]; exact r1
          · rw [zu_i_ne (by omega), zu_i_ne (by omega), zu_i_ne (by omega), zu_i_ne (by omega), zu_i_ne (by omega), zu_i_ne (by omega), zu_i_ne (by omega)]; exact r2
          · rw [zu_i_ne (by omega), zu_i_ne (by omega), zu_i_ne (by omega), zu_i_ne (by omega), zu_i_ne (by omega), zu_i_ne (by omega), zu_i_ne (by omega)]; exact r3
      all_goals rw [zu_i_ne (by first | omega | (unfold mScr at hq; omega)), zu_i_ne (by first | omega | (unfold mScr at hq; omega)), zu_i_ne (by first | omega | (unfold mScr at hq; omega)), zu_i_ne (by first | omega | (unfold mScr at hq; omega))]
      all_goals first
        | assumption
        | exact c1 i hi
        | exact fr q i hq
    · intro q i h1 h2
      rw [zu_i_ne (by omega), zu_i_ne (by omega), zu_i_ne (by omega), zu_i_ne (by omega)]
theorem g159_0 {d c s : Nat} {kd x o : Nat} {X : zM} {ρ : Nat → Nat → Int32} {l : Nat → Nat → Int64} {Q : Option zV → zM → Prop} (e1 : ρ 0 26 = nI o)
    (b1 : o < 6)
    (b2 : o < 6)
    (b3 : o < 6)
    (b4 : o < 6)
    (h1 : Q none (OM X 1 0 (zu (zu (zu (zu (zu ρ 19 o (nI kd)) 20 o (ρ 0 31)) 21 o (nI x)) 22 o (ρ 0 29)) 0 26 (nI (o + 1))) l)) : Ev d c s 159 0 [some (zr (some (1, 0, 0))), some (zi (nI kd)), some (zi (nI x))] [] (OM X 1 0 ρ l) Q := by
  refine Ew.ld f159_0 rfl rfl rfl rfl ?_
  refine Ew.getp (v := some (1, 0, 19)) f159_1 rfl rfl rfl ?_
  refine Ew.ld f159_4 rfl rfl rfl rfl ?_
  refine Ew.getiV (v := nI o) f159_5 rfl (so_v e1) rfl ?_
  refine Ew.ld f159_8 rfl rfl rfl rfl ?_
  refine Ew.iastnO f159_9 (by decide) rfl b1 (Nat.le_of_ble_eq_true rfl) rfl ?_
  refine Ew.ld f159_10 rfl rfl rfl rfl ?_
  refine Ew.getp (v := some (1, 0, 20)) f159_11 rfl rfl rfl ?_
  refine Ew.ld f159_14 rfl rfl rfl rfl ?_
  refine Ew.getiV (v := nI o) f159_15 rfl (so_v e1) rfl ?_
  refine Ew.ld f159_18 rfl rfl rfl rfl ?_
  refine Ew.getiO f159_19 rfl rfl ?_
  refine Ew.iastnO f159_22 (by decide) rfl b2 (Nat.le_of_ble_eq_true rfl) rfl ?_
  refine Ew.ld f159_23 rfl rfl rfl rfl ?_
  refine Ew.getp (v := some (1, 0, 21)) f159_24 rfl rfl rfl ?_
  refine Ew.ld f159_27 rfl rfl rfl rfl ?_
  refine Ew.getiV (v := nI o) f159_28 rfl (so_v e1) rfl ?_
  refine Ew.ld f159_31 rfl rfl rfl rfl ?_
  refine Ew.iastnO f159_32 (by decide) rfl b3 (Nat.le_of_ble_eq_true rfl) rfl ?_
  refine Ew.ld f159_33 rfl rfl rfl rfl ?_
  refine Ew.getp (v := some (1, 0, 22)) f159_34 rfl rfl rfl ?_
  refine Ew.ld f159_37 rfl rfl rfl rfl ?_
  refine Ew.getiV (v := nI o) f159_38 rfl (so_v e1) rfl ?_
  refine Ew.ld f159_41 rfl rfl rfl rfl ?_
  refine Ew.getiO f159_42 rfl rfl ?_
  refine Ew.iastnO f159_45 (by decide) rfl b4 (Nat.le_of_ble_eq_true rfl) rfl ?_
  refine Ew.ld f159_46 rfl rfl rfl rfl ?_
  refine Ew.op (st' := zr (some (1, 0, 0)) :: zr (some (1, 0, 0)) :: _) f159_47 rfl rfl ?_
  refine Ew.getiV (v := nI o) f159_48 rfl (so_v e1) rfl ?_
  refine Ew.op (st' := zi (nI 1) :: _) f159_51 rfl rfl ?_
  refine Ew.addn f159_52 rfl ?_
  refine Ew.putiO f159_53 rfl rfl ?_
  refine Ew.vret f159_56 ?_
  exact h1
theorem sp_opens {d c s t kd y : Nat} {X : zM} {ρ0 ρ : Nat → Nat → Int32} {l : Nat → Nat → Int64} {Q : Option zV → zM → Prop} {x : mC} (h : mR ρ0 t ρ x) (h6 : x.2.1.length < 6) (k : ∀ ρ', mR ρ0 t ρ' (x.1, (kd, x.2.2.1, y, x.1.2.2.length) :: x.2.1, x.2.2) → Q none (OM X 1 0 ρ' l)) : Ev d c s 159 0 [some (zr (some (1, 0, 0))), some (zi (nI kd)), some (zi (nI y))] [] (OM X 1 0 ρ l) Q := by
  obtain ⟨⟨s1, s2, s3⟩, ⟨c1, c2, c3, c4, c5, c6⟩, ⟨a1, a2, a3⟩, ⟨o1, o2, o3⟩, ⟨w1, w2, w3⟩, fr⟩ := h
  refine g159_0 o1 h6 h6 h6 h6 (k _ ?_)
  refine ⟨⟨?_, s2, fun k hk => ?_⟩, ⟨fun i hi => ?_, ?_, ?_, ?_, ?_, ?_⟩, ⟨?_, a2, mAds_ext (fun k hk => ⟨?_, ?_⟩) a3⟩, ⟨?_, by show x.2.1.length + 1 ≤ 6; omega, ?_, ?_, ?_, ?_, mStk_ext (fun k hk => ⟨?_, ?_, ?_, ?_⟩) o3⟩, ⟨?_, ?_, ?_⟩, fun q i hq => ?_⟩
  all_goals first
    | (rw [zu_i_ne (by omega), zu_i_ne (by omega), zu_i_ne (by omega), zu_i_ne (by omega), zu_i_ne (by omega)]; first | assumption | exact c1 i hi | done)
    | (rw [zu_i_ne (by unfold mScr at hq; omega), zu_i_ne (by unfold mScr at hq; omega), zu_i_ne (by unfold mScr at hq; omega), zu_i_ne (by unfold mScr at hq; omega), zu_i_ne (by unfold mScr at hq; omega)]; exact fr q i hq)
    | (refine ⟨?_, ?_, ?_⟩ <;> (rw [zu_i_ne (by omega), zu_i_ne (by omega), zu_i_ne (by omega), zu_i_ne (by omega), zu_i_ne (by omega)]; first | exact (s3 k hk).1 | exact (s3 k hk).2.1 | exact (s3 k hk).2.2))
    | exact zu_s _ _ _ _
    | (rw [zu_i_ne (by omega), zu_s]; first | assumption | done)
    | (rw [zu_i_ne (by omega), zu_i_ne (by omega), zu_s]; first | assumption | done)
    | (rw [zu_i_ne (by omega), zu_i_ne (by omega), zu_i_ne (by omega), zu_s]; first | assumption | done)
    | (rw [zu_i_ne (by omega), zu_i_ne (by omega), zu_i_ne (by omega), zu_i_ne (by omega), zu_s]; first | assumption | done)
    | rfl
