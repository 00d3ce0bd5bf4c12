/-! letters done one by one do what bodies do -/
def mI (L : List Nat) (s : pS) (st : List mF) : Prop := pOk (mS s) ∧ s.2.1 10 = 0 ∧ mCs s.2.1 st ∧ (∀ f, f ∈ st → mFo L f) ∧ s.2.2.length ≤ s.1.1
def mOv (L : List Nat) (G : Nat) (x : mC) : Prop := ∃ n y, mRch L G n x y ∧ y.1.2.1 10 = 1 ∧ y.2.2.2.1 ≤ 3 ∧ y.2.2.1 ≤ 1000
def mRes (L : List Nat) (G : Nat) (s : pS) (st : List mF) (a : Nat) (w : Nat × Int32) (r : pO) (e : Nat) : Prop := (¬ r.1.2.1 10 = 0 → mOv L G (s, st, a, w)) ∧ (r.1.2.1 10 = 0 → match r.2 with
  | Sum.inl e' => e' = e ∧ ∃ n s', mRch L G n (s, st, a, w) (s', st, e, w) ∧ mS s' = r.1 ∧ (∃ v, s'.2.2 = v ++ s.2.2) ∧ mI L s' st
  | Sum.inr b => (1 ≤ b.1 ∧ b.1 ≤ 3) ∧ ∃ n s' a', mRch L G n (s, st, a, w) (mBrk L b st s' a' w) ∧ mS s' = r.1 ∧ (∃ v, s'.2.2 = v ++ s.2.2) ∧ mI L s' st ∧ a' ≤ 1000)
theorem mOv.pre {L : List Nat} {G n : Nat} {x x' : mC} (h : mRch L G n x x') (h' : mOv L G x') : mOv L G x := by
  obtain ⟨m, y, h1, h2⟩ := h'
  exact ⟨n + m, y, h.trans h1, h2⟩
theorem pLeave_U (s : pS) (g : Nat) (U : List (Nat × Int32)) : pLeave (s.1, s.2.1, U) g = ((pLeave s g).1, (pLeave s g).2.1, U) := by
  unfold pLeave
  by_cases h : s.1.1 < 30
  · rw [pPut_n (s := (s.1, pLc s.2.1 g, U)) h, pPut_n (s := (s.1, pLc s.2.1 g, s.2.2)) h]
  · rw [pPut_o (s := (s.1, pLc s.2.1 g, U)) (Nat.le_of_not_lt h), pPut_o (s := (s.1, pLc s.2.1 g, s.2.2)) (Nat.le_of_not_lt h)]
/-- one letter -/
theorem mRch.one {L : List Nat} {G : Nat} {x y : mC} (h1 : mGo L x) (h2 : mPre L x) (h3 : mStep L G x = y) : mRch L G 1 x y := ⟨h1, h2, h3⟩
theorem mBrk_ov {L : List Nat} {b : Nat × Int32} (hb : b.1 ≤ 3) {a : Nat} {w : Nat × Int32} (ha : a ≤ 1000) (hw : w.1 ≤ 3) : ∀ (st : List mF) (s : pS), (∀ f, f ∈ st → mFo L f) → s.2.1 10 = 1 → (mBrk L b st s a w).1.2.1 10 = 1 ∧ (mBrk L b st s a w).2.2.2.1 ≤ 3 ∧ (mBrk L b st s a w).2.2.1 ≤ 1000 := by
  intro st
  induction st with
  | nil => intro s _ h; exact ⟨h, hb, ha⟩
  | cons f u ih =>
    intro s hf h
    have hx := hf f List.mem_cons_self
    unfold mBrk
    split
    · rename_i h0
      exact ih _ (fun x hx => hf x (List.mem_cons_of_mem _ hx)) (pLeave_ov ((mTakeL_ov _ _ _ (by omega)).2 h) (hx.1 h0))
    · split
      · rename_i h1
        refine ⟨?_, hw, ?_⟩
        · show zup (mTake f.2.2.2 s).2.1 9 ((mTake f.2.2.2 s).2.1 9 + 1) 10 = 1
          rw [zup_nn (by decide)]
          exact (mTakeL_ov _ _ _ (by omega)).2 h
        · have := mSh_le (hx.2.2.2.1 h1)
          have := hx.2.2.1
          show pShut (pF L) 61 f.2.1 0 + 1 ≤ 1000
          omega
      · exact ih _ (fun x hx => hf x (List.mem_cons_of_mem _ hx)) h
theorem pKeep_c {s : pS} {r : pO} (h : pKeep s r) {i : Nat} (hi : i ≤ 6) : r.1.2.1 i = s.2.1 i := h.2.2.1 i hi
section
variable {L : List Nat} {G : Nat}
def mBd (L : List Nat) (G m : Nat) : Prop := ∀ k a e, isB (pF L) m k a e → e ≤ L.length → (pF L e = 41 ∨ pF L e = 93 ∨ pF L e = 125) → ∀ F, e - a < F → ∀ (s : pS) (st : List mF) (w : Nat × Int32), mI L s st → st.length + k ≤ 6 → w.1 = 0 → mRes L G s st a w (pB (pF L) G F a (mS s)) e
theorem mCs.push {c : Nat → Nat} {st : List mF} (h : mCs c st) {g : Nat} (hg : g < 6) (h6 : st.length < 6) (a m : Nat) {c' : Nat → Nat} (hc : ∀ i, i < 8 → c' i = pEc c g i) : mCs c' ((0, a, g, m) :: st) := by
  refine ⟨fun i hi => ?_, ?_, ?_⟩
  · rw [hc i (by omega), pEc_g _ hg hi]
    unfold mCg
    by_cases e : i = g
    · subst e
      rw [if_pos rfl, if_pos ⟨rfl, rfl⟩, h.1 i hi]
    · rw [if_neg e, if_neg (fun g => e g.2.symm), h.1 i hi]
      rfl
  · rw [hc 6 (by omega), pEc_6, h.2.1]
    rfl
  · rw [hc 7 (by omega)]
    have e7 : pEc c g 7 = max (c 7) (c 6 + 1) := by unfold pEc; exact zup_s _ _ _
    have := mCg_le g st
    have := h.2.1
    have := h.2.2
    rw [e7]
    omega
theorem mCs.more {c : Nat → Nat} {st : List mF} (h : mCs c st) {f : mF} (h0 : ¬ f.1 = 0) : mCs c (f :: st) := by
  refine ⟨fun i hi => ?_, ?_, h.2.2⟩
  · unfold mCg
    rw [if_neg (fun g => h0 g.1), h.1 i hi]
    rfl
  · unfold mC6
    rw [if_neg h0, h.2.1]
    rfl
theorem cons_all {f : mF} {st : List mF} {p : mF → Prop} (h : p f) (hs : ∀ x, x ∈ st → p x) : ∀ x, x ∈ f :: st → p x := by
  intro x hx
  rcases List.mem_cons.mp hx with rfl | hx
  · exact h
  · exact hs x hx

theorem it_stay (hN : L.length ≤ 60) {m F k a e : Nat} (ih : mBd L G m) (h1 : 97 ≤ pF L a) (h2 : pF L a ≤ 102) (h3 : pF L (a + 1) = 40) (hB : isB (pF L) m k (a + 2) e) (he : e < L.length) (hC : pF L e = 41) (hF : e - (a + 2) < F) {s : pS} {st : List mF} {w : Nat × Int32} (hi : mI L s st) (h6 : st.length + (k + 1) ≤ 6) (hw : w.1 = 0) : mRes L G s st a w (pStay (pB (pF L) G F) G a (pF L a - 97) (mS s)) (e + 1) := by
  obtain ⟨i1, i2, i3, i4, i5⟩ := hi
  have hle := isB_le hB
  have ea : pF L a = L.getD a 0 := pF_lt (by omega)
  have ea1 : pF L (a + 1) = L.getD (a + 1) 0 := pF_lt (by omega)
  have ee : pF L e = L.getD e 0 := pF_lt he
  have hg : pF L a - 97 < 6 := by omega
  have go : mGo L (s, st, a, w) := ⟨i2, hw, by show a < L.length; omega⟩
  have pre : mPre L (s, st, a, w) := ⟨i3, i4, i5, fun _ _ => ⟨fun _ => by show st.length < 6; omega, fun g => absurd (ea1 ▸ h3) g⟩, fun g => absurd g (by show ¬ (L.getD a 0 = 91 ∨ (50 ≤ L.getD a 0 ∧ L.getD a 0 ≤ 53)); omega), fun g => absurd ⟨by show 97 ≤ L.getD a 0; omega, by show L.getD a 0 ≤ 102; omega⟩ g⟩
  have stp : mStep L G (s, st, a, w) = if G.testBit (pF L a - 97) = true then mBrk L (3, nI (pF L a - 97)) st s a w else (pEnter s (pF L a - 97), (0, a + 1, pF L a - 97, s.2.2.length) :: st, a + 2, w) := by
    show (if 97 ≤ L.getD a 0 ∧ L.getD a 0 ≤ 102 then mVis L G a (L.getD a 0 - 97) s st w else _) = _
    rw [if_pos (by omega), ← ea]
    unfold mVis
    rw [if_pos (by omega)]
  have hKp := pKeep_stay (pKeep_B (pF L) G F) G a hg i1
  generalize hgg : pF L a - 97 = g at *
  by_cases hb : G.testBit g = true
  · rw [if_pos hb] at stp
    have er : pStay (pB (pF L) G F) G a g (mS s) = (mS s, Sum.inr (3, nI g)) := by unfold pStay; rw [if_pos hb]
    rw [er]
    refine ⟨fun h => absurd i2 h, fun _ => ⟨⟨show 1 ≤ 3 by decide, show 3 ≤ 3 by decide⟩, 1, s, a, mRch.one go pre stp, rfl, ⟨[], rfl⟩, ⟨i1, i2, i3, i4, i5⟩, by omega⟩⟩
  · rw [if_neg hb] at stp
    have r1 : mRch L G 1 (s, st, a, w) (pEnter s g, (0, a + 1, g, s.2.2.length) :: st, a + 2, w) := mRch.one go pre stp
    have hmE := mS_enter s g
    have o1 := i1.enter hg
    have hK := pKeep_B (pF L) G F (a + 2) (pEnter (mS s) g) o1
    have e10 : (pEnter s g).2.1 10 = (pEnter (mS s) g).2.1 10 := by rw [← hmE]; rfl
    have e01 : (pEnter s g).2.1 10 = 0 ∨ (pEnter s g).2.1 10 = 1 := pPut_01 (by show pEc s.2.1 g 10 ≤ 1; rw [pEc_9 _ hg (by omega)]; omega) _ _ _
    rcases e01 with e0 | e0
    case inr =>
      -- too long at once
      refine ⟨fun _ => mOv.pre r1 ⟨0, _, rfl, e0, by show w.1 ≤ 3; omega, by show a + 2 ≤ 1000; omega⟩, fun h => ?_⟩
      exfalso
      have ov : ¬ (pEnter (mS s) g).2.1 10 = 0 := by rw [← e10, e0]; decide
      have := hK.2.1.2.2 ov
      unfold pStay at h
      rw [if_neg hb] at h
      rcases hr : pB (pF L) G F (a + 2) (pEnter (mS s) g) with ⟨s2, e2 | b⟩
      · rw [hr] at h this
        exact (pLeave_le s2 hg).2.2 this h
      · rw [hr] at h this hK
        have l3 := (pTakeL_ok s2.2.2 (mS s).2.2.length s2 hK.1 (Eq.refl _)).2.1
        exact (pLeave_le _ hg).2.2 (l3.2.2 this) h
    case inl =>
    have hi1 : mI L (pEnter s g) ((0, a + 1, g, s.2.2.length) :: st) := by
      refine ⟨by rw [hmE]; exact o1, e0, i3.push hg (by omega) _ _ (fun i hi => pEnter_c _ _ (by omega)), cons_all ?_ i4, ?_⟩
      · refine ⟨fun _ => hg, by show 0 < 3; decide, by show a + 1 ≤ 100; omega, fun h => absurd h (by show ¬ 0 = 1; decide), fun h => absurd h (by show ¬ 0 = 2; decide), ?_⟩
        have := i1.1
        show s.2.2.length ≤ 30
        have : s.1.1 ≤ 30 := this
        omega
      · rw [pEnter_un]
        have := (pEnter_le s hg).1
        omega
    obtain ⟨ov, ok⟩ := ih k (a + 2) e hB (by omega) (Or.inl hC) F hF (pEnter s g) _ w hi1 (by show st.length + 1 + k ≤ 6; omega) hw
    rw [hmE] at ov ok
    -- the pure result
    rcases hr : pB (pF L) G F (a + 2) (pEnter (mS s) g) with ⟨s2, e2 | b⟩
    · rw [hr] at ov ok hK
      have er : pStay (pB (pF L) G F) G a g (mS s) = (((pLeave s2 g).1, (pLeave s2 g).2.1, (pLeave s2 g).2.2.drop ((pLeave s2 g).2.2.length - (mS s).2.2.length)), if (pLeave s2 g).2.1 10 = 0 then Sum.inl (e2 + 1) else Sum.inr (0, 0)) := by
        unfold pStay
        rw [if_neg hb, hr]
      rw [er] at hKp ⊢
      by_cases h10 : s2.2.1 10 = 0
      · obtain ⟨he2, n, s', q1, q2, ⟨v, q3⟩, q4⟩ := ok h10
        have he2 : e = e2 := Eq.symm he2
        subst he2
        have q3 : s'.2.2 = v ++ s.2.2 := by rw [q3, pEnter_un]
        have q2 : mS s' = s2 := q2
        obtain ⟨v', sv1, sv2⟩ := mSeal_app s.2.2 v
        have go2 : mGo L (s', (0, a + 1, g, s.2.2.length) :: st, e, w) := ⟨q4.2.1, hw, he⟩
        have pre2 : mPre L (s', (0, a + 1, g, s.2.2.length) :: st, e, w) := ⟨q4.2.2.1, q4.2.2.2.1, q4.2.2.2.2, fun g1 g2 => absurd g1 (by show ¬ 97 ≤ L.getD e 0; omega), fun g1 => absurd g1 (by show ¬ (L.getD e 0 = 91 ∨ (50 ≤ L.getD e 0 ∧ L.getD e 0 ≤ 53)); omega), fun _ _ _ _ => ⟨_, _, rfl, fun _ => rfl, fun g1 => absurd (by show L.getD e 0 = 41; omega) g1⟩⟩
        have stp2 : mStep L G (s', (0, a + 1, g, s.2.2.length) :: st, e, w) = (pLeave (s'.1, s'.2.1, v' ++ s.2.2) g, st, e + 1, w) := by
          show (if 97 ≤ L.getD e 0 ∧ L.getD e 0 ≤ 102 then _ else if L.getD e 0 = 33 then _ else if L.getD e 0 = 91 then _ else if 50 ≤ L.getD e 0 ∧ L.getD e 0 ≤ 53 then _ else mShuts (L.getD e 0) s' ((0, a + 1, g, s.2.2.length) :: st) e w) = _
          rw [if_neg (by omega), if_neg (by omega), if_neg (by omega), if_neg (by omega)]
          show (if L.getD e 0 = 41 then (pLeave (s'.1, s'.2.1, mSeal s'.2.2 s.2.2.length) g, st, e + 1, w) else _) = _
          rw [if_pos (by omega), q3, sv1]
        have r2 := (r1.trans q1).trans (mRch.one go2 pre2 stp2)
        have em : mS (pLeave (s'.1, s'.2.1, v' ++ s.2.2) g) = ((pLeave s2 g).1, (pLeave s2 g).2.1, (mS s).2.2) := by
          rw [mS_leave]
          have e1 : mS (s'.1, s'.2.1, v' ++ s.2.2) = (s2.1, s2.2.1, (mS s).2.2) := by
            rw [← q2]
            show (s'.1, s'.2.1, lv (v' ++ s.2.2)) = _
            rw [lv_app, sv2]
            rfl
          rw [e1]
          exact pLeave_U s2 g _
        have ed : (pLeave s2 g).2.2.drop ((pLeave s2 g).2.2.length - (mS s).2.2.length) = (mS s).2.2 := by
          obtain ⟨u, hu⟩ := hK.2.2.2.1
          have hu : s2.2.2 = u ++ (pEnter (mS s) g).2.2 := hu
          rw [pEnter_un] at hu
          rw [pLeave_un, hu]
          exact drop_mark
        rw [ed] at hKp ⊢
        have ec10 : (pLeave (s'.1, s'.2.1, v' ++ s.2.2) g).2.1 10 = (pLeave s2 g).2.1 10 := by
          have := congrArg (fun x : pS => x.2.1 10) em
          exact this
        have c01 : (pLeave (s'.1, s'.2.1, v' ++ s.2.2) g).2.1 10 ≤ 1 := pLeave_c10 (by show s'.2.1 10 ≤ 1; have := q4.2.1; omega) hg
        refine ⟨fun h => ⟨_, _, r2, ?_, by show w.1 ≤ 3; omega, by show e + 1 ≤ 1000; omega⟩, fun h => ?_⟩
        · have h : ¬ (pLeave s2 g).2.1 10 = 0 := h
          show (pLeave (s'.1, s'.2.1, v' ++ s.2.2) g).2.1 10 = 1
          omega
        · have h : (pLeave s2 g).2.1 10 = 0 := h
          rw [if_pos h]
          refine ⟨rfl, _, _, r2, em, ⟨v', by rw [pLeave_un]⟩, by rw [em]; exact hKp.1, by rw [ec10]; exact h, ?_, i4, ?_⟩
          · obtain ⟨_, _, p3⟩ := q4.2.2.1.pop (x := (0, a + 1, g, s.2.2.length)) rfl hg
            exact p3.eq fun i hi => pLeave_c _ _ (by omega)
          · rw [pLeave_un]
            have l1 : (v' ++ s.2.2).length = s'.2.2.length := by rw [← sv1, mSeal_len, ← q3]
            rw [l1]
            have := q4.2.2.2.2
            have := (pLeave_le (s'.1, s'.2.1, v' ++ s.2.2) hg).1
            have : s'.1.1 ≤ (pLeave (s'.1, s'.2.1, v' ++ s.2.2) g).1.1 := this
            omega
      · refine ⟨fun _ => mOv.pre r1 (ov h10), fun h => ?_⟩
        exfalso
        have h : (pLeave s2 g).2.1 10 = 0 := h
        exact (pLeave_le s2 hg).2.2 h10 h
    · rw [hr] at ov ok hK
      have er : pStay (pB (pF L) G F) G a g (mS s) = (pLeave (pTake (mS s).2.2.length s2) g, Sum.inr b) := by
        unfold pStay
        rw [if_neg hb, hr]
      rw [er] at hKp ⊢
      by_cases h10 : s2.2.1 10 = 0
      · obtain ⟨hb3, n, s', a', q1, q2, ⟨v, q3⟩, q4, q5⟩ := ok h10
        have q3 : s'.2.2 = v ++ s.2.2 := by rw [q3, pEnter_un]
        have q2 : mS s' = s2 := q2
        obtain ⟨t1, t2⟩ := mTake_lv q3
        have eb : mBrk L b ((0, a + 1, g, s.2.2.length) :: st) s' a' w = mBrk L b st (pLeave (mTake s.2.2.length s') g) a' w := by
          show (if (0 : Nat) = 0 then _ else _) = _
          rw [if_pos rfl]
        rw [eb] at q1
        have r2 := r1.trans q1
        have em : mS (pLeave (mTake s.2.2.length s') g) = pLeave (pTake (mS s).2.2.length s2) g := by
          rw [mS_leave, t1, q2]
          rfl
        have ec10 : (pLeave (mTake s.2.2.length s') g).2.1 10 = (pLeave (pTake (mS s).2.2.length s2) g).2.1 10 := by
          have := congrArg (fun x : pS => x.2.1 10) em
          exact this
        have c01 : (pLeave (mTake s.2.2.length s') g).2.1 10 ≤ 1 := pLeave_c10 ((mTakeL_ov _ _ _ (by have := q4.2.1; omega)).1) hg
        refine ⟨fun h => ⟨_, _, r2, mBrk_ov hb3.2 q5 (by omega) st _ i4 ?_⟩, fun h => ⟨hb3, _, _, a', r2, em, ⟨[], by rw [pLeave_un]; exact t2⟩, ⟨by rw [em]; exact hKp.1, by rw [ec10]; exact h, ?_, i4, ?_⟩, q5⟩⟩
        · have h : ¬ (pLeave (pTake (mS s).2.2.length s2) g).2.1 10 = 0 := h
          omega
        · obtain ⟨_, _, p3⟩ := q4.2.2.1.pop (x := (0, a + 1, g, s.2.2.length)) rfl hg
          refine p3.eq fun i hi => ?_
          rw [pLeave_c _ _ (by omega)]
          unfold pLc zup
          rw [mTake_c _ _ (by omega), mTake_c _ _ (by omega), mTake_c _ _ (by omega)]
        · rw [pLeave_un, t2]
          have hlp : pLe (mS s) (pLeave (pTake (mS s).2.2.length s2) g) := hKp.2.1
          have e1 : (pLeave (mTake s.2.2.length s') g).1 = (pLeave (pTake (mS s).2.2.length s2) g).1 := by
            have := congrArg (fun x : pS => x.1) em
            exact this
          rw [e1]
          have : s.1.1 ≤ (pLeave (pTake (mS s).2.2.length s2) g).1.1 := hlp.1
          omega
      · refine ⟨fun _ => mOv.pre r1 (ov h10), fun h => ?_⟩
        exfalso
        have h : (pLeave (pTake (mS s).2.2.length s2) g).2.1 10 = 0 := h
        have l3 := (pTakeL_ok s2.2.2 (mS s).2.2.length s2 hK.1 (Eq.refl _)).2.1
        exact (pLeave_le _ hg).2.2 (l3.2.2 h10) h
end
