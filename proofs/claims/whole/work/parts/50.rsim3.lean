/-! letters done one by one do what bodies do: adding, tries, often -/
section
variable {L : List Nat} {G : Nat}
theorem it_add (hN : L.length ≤ 60) {a : Nat} (h1 : 97 ≤ pF L a) (h2 : pF L a ≤ 102) (h3 : pF L (a + 1) = 43 ∨ pF L (a + 1) = 45) (h4 : 49 ≤ pF L (a + 2)) (h5 : pF L (a + 2) ≤ 57) (hl : a + 2 < L.length) {s : pS} {st : List mF} {w : Nat × Int32} (hi : mI L s st) (hw : w.1 = 0) : mRes L G s st a w (pAdd (pF L) a (pF L a - 97) (mS s)) (a + 3) := by
  have hi0 := hi
  obtain ⟨i1, i2, i3, i4, i5⟩ := hi
  have ea : pF L a = L.getD a 0 := pF_lt (by omega)
  have ea1 : pF L (a + 1) = L.getD (a + 1) 0 := pF_lt (by omega)
  have ea2 : pF L (a + 2) = L.getD (a + 2) 0 := pF_lt (by omega)
  have hg : pF L a - 97 < 6 := by omega
  have go : mGo L (s, st, a, w) := ⟨i2, hw, by show a < L.length; omega⟩
  have pre : mPre L (s, st, a, w) := ⟨i3, i4, i5, fun _ _ => ⟨fun g => absurd g (by show ¬ L.getD (a + 1) 0 = 40; omega), fun _ => by show 48 ≤ L.getD (a + 2) 0; omega⟩, fun g => absurd g (by show ¬ (L.getD a 0 = 91 ∨ (50 ≤ L.getD a 0 ∧ L.getD a 0 ≤ 53)); omega), fun g => absurd ⟨by show 97 ≤ L.getD a 0; omega, by show L.getD a 0 ≤ 102; omega⟩ g⟩
  have eby : mBy L a = pBy (pF L) a := by
    unfold mBy pBy
    rw [← ea1, ← ea2]
    rcases h3 with h3 | h3
    · rw [if_pos h3, if_neg (by omega)]
    · rw [if_neg (by omega), if_pos h3]
  have stp : mStep L G (s, st, a, w) = if s.2.1 (pF L a - 97) = 0 then mBrk L (1, nI (pF L a - 97)) st s a w else (if (pPut s 2 (pF L a - 97) (pBy (pF L) a)).2.1 10 = 0 then ((pPut s 2 (pF L a - 97) (pBy (pF L) a)).1, (pPut s 2 (pF L a - 97) (pBy (pF L) a)).2.1, (pF L a - 97, pBy (pF L) a) :: s.2.2) else pPut s 2 (pF L a - 97) (pBy (pF L) a), st, a + 3, w) := by
    show (if 97 ≤ L.getD a 0 ∧ L.getD a 0 ≤ 102 then mVis L G a (L.getD a 0 - 97) s st w else _) = _
    rw [if_pos (by omega), ← ea]
    unfold mVis
    rw [if_neg (by omega), eby]
  have hKp := pKeep_add (pF L) a hg i1
  have hb0 : ¬ pBy (pF L) a = 0 := by
    have key : ∀ n, n < 10 → 0 < n → ¬ nI n = 0 ∧ ¬ -(nI n) = 0 := by decide
    obtain ⟨k1, k2⟩ := key (pF L (a + 2) - 48) (by omega) (by omega)
    unfold pBy
    split
    · exact k2
    · exact k1
  generalize hgg : pF L a - 97 = g at stp hKp hg ⊢
  by_cases h0 : s.2.1 g = 0
  · rw [if_pos h0] at stp
    have er : pAdd (pF L) a g (mS s) = (mS s, Sum.inr (1, nI g)) := by unfold pAdd; rw [if_pos (show (mS s).2.1 g = 0 from h0)]
    rw [er]
    exact ⟨fun h => absurd i2 h, fun _ => ⟨⟨show 1 ≤ 1 by decide, show 1 ≤ 3 by decide⟩, 1, s, a, mRch.one go pre stp, rfl, ⟨[], rfl⟩, hi0, by omega⟩⟩
  · rw [if_neg h0] at stp
    have hsp : pPut (mS s) 2 g (pBy (pF L) a) = mS (pPut s 2 g (pBy (pF L) a)) := (mS_put _ _ _ _).symm
    by_cases h10 : (pPut s 2 g (pBy (pF L) a)).2.1 10 = 0
    · rw [if_pos h10] at stp
      have er : pAdd (pF L) a g (mS s) = (((mS (pPut s 2 g (pBy (pF L) a))).1, (mS (pPut s 2 g (pBy (pF L) a))).2.1, (g, pBy (pF L) a) :: (mS (pPut s 2 g (pBy (pF L) a))).2.2), Sum.inl (a + 3)) := by
        unfold pAdd
        rw [if_neg (show ¬ (mS s).2.1 g = 0 from h0), hsp]
        simp only []
        rw [if_pos (show (mS (pPut s 2 g (pBy (pF L) a))).2.1 10 = 0 from h10)]
      rw [er] at hKp ⊢
      refine ⟨fun h => absurd h10 h, fun _ => ⟨rfl, 1, _, mRch.one go pre stp, ?_, ⟨[(g, pBy (pF L) a)], rfl⟩, ?_⟩⟩
      · show (_, _, lv ((g, pBy (pF L) a) :: s.2.2)) = _
        rw [lv_1 hb0, ← pPut_un s 2 g (pBy (pF L) a)]
        rfl
      · have hn : s.1.1 < (pPut s 2 g (pBy (pF L) a)).1.1 := by
          rcases pPut_more s 2 g (pBy (pF L) a) with h | h
          · exact absurd h10 h
          · exact h
        have es : mS ((pPut s 2 g (pBy (pF L) a)).1, (pPut s 2 g (pBy (pF L) a)).2.1, (g, pBy (pF L) a) :: s.2.2) = ((mS (pPut s 2 g (pBy (pF L) a))).1, (mS (pPut s 2 g (pBy (pF L) a))).2.1, (g, pBy (pF L) a) :: (mS (pPut s 2 g (pBy (pF L) a))).2.2) := by
          show (_, _, lv ((g, pBy (pF L) a) :: s.2.2)) = _
          rw [lv_1 hb0, ← pPut_un s 2 g (pBy (pF L) a)]
          rfl
        refine ⟨by rw [es]; exact hKp.1, h10, i3.eq fun i hi => pPut_c _ _ _ _ (by omega), i4, ?_⟩
        show s.2.2.length + 1 ≤ (pPut s 2 g (pBy (pF L) a)).1.1
        omega
    · rw [if_neg h10] at stp
      have er : pAdd (pF L) a g (mS s) = (mS (pPut s 2 g (pBy (pF L) a)), Sum.inr (0, 0)) := by
        unfold pAdd
        rw [if_neg (show ¬ (mS s).2.1 g = 0 from h0), hsp]
        simp only []
        rw [if_neg (show ¬ (mS (pPut s 2 g (pBy (pF L) a))).2.1 10 = 0 from h10)]
      rw [er]
      refine ⟨fun _ => ⟨1, _, mRch.one go pre stp, ?_, by show w.1 ≤ 3; omega, by show a + 3 ≤ 1000; omega⟩, fun h => absurd h h10⟩
      have := pPut_c10 s 2 g (pBy (pF L) a) (by omega)
      show (pPut s 2 g (pBy (pF L) a)).2.1 10 = 1
      omega
theorem it_try (hN : L.length ≤ 60) {m F k a e : Nat} (ih : mBd L G m) (h1 : pF L a = 91) (hB : isB (pF L) m k (a + 1) e) (he : e < L.length) (hC : pF L e = 93) (hF : e - (a + 1) < F) {s : pS} {st : List mF} {w : Nat × Int32} (hi : mI L s st) (h6 : st.length + (k + 1) ≤ 6) (hw : w.1 = 0) : mRes L G s st a w (pTry (pB (pF L) G F) (pF L) a (mS s)) (e + 1) := by
  obtain ⟨i1, i2, i3, i4, i5⟩ := hi
  have hle := isB_le hB
  have ea : pF L a = L.getD a 0 := pF_lt (by omega)
  have ee : pF L e = L.getD e 0 := pF_lt he
  have hn30 : s.1.1 ≤ 30 := i1.1
  have sh1 : mSh (fun k => L.getD k 0) 61 a 0 e := sh_try (f := pF L) (N := L.length) (fun p hp => (pF_lt hp).symm) h1 hB he hN hC
  have sh2 : pShut (pF L) 61 a 0 = e := mSh_pShut (sh_try (f := pF L) (f' := pF L) (N := L.length) (fun p hp => rfl) h1 hB he hN hC)
  have go : mGo L (s, st, a, w) := ⟨i2, hw, by show a < L.length; omega⟩
  have pre : mPre L (s, st, a, w) := ⟨i3, i4, i5, fun g => absurd g (by show ¬ 97 ≤ L.getD a 0; omega), fun _ => by show st.length < 6; omega, fun _ _ g => absurd (by show L.getD a 0 = 91; omega) g⟩
  have stp : mStep L G (s, st, a, w) = (s, (1, a, 0, s.2.2.length) :: st, a + 1, w) := by
    show (if 97 ≤ L.getD a 0 ∧ L.getD a 0 ≤ 102 then _ else if L.getD a 0 = 33 then _ else if L.getD a 0 = 91 then (s, (1, a, 0, s.2.2.length) :: st, a + 1, w) else _) = _
    rw [if_neg (by omega), if_neg (by omega), if_pos (by omega)]
  have r1 : mRch L G 1 (s, st, a, w) (s, (1, a, 0, s.2.2.length) :: st, a + 1, w) := mRch.one go pre stp
  have hi1 : mI L s ((1, a, 0, s.2.2.length) :: st) := by
    refine ⟨i1, i2, i3.more (by show ¬ 1 = 0; decide), cons_all ?_ i4, i5⟩
    refine ⟨fun h => absurd h (by show ¬ 1 = 0; decide), by show 1 < 3; decide, by show a ≤ 100; omega, fun _ => ?_, fun h => absurd h (by show ¬ 1 = 2; decide), by show s.2.2.length ≤ 30; omega⟩
    show mSh (fun k => L.getD k 0) 61 a 0 (pShut (pF L) 61 a 0)
    rw [sh2]
    exact sh1
  obtain ⟨ov, ok⟩ := ih k (a + 1) e hB (by omega) (Or.inr (Or.inl hC)) F hF s _ w hi1 (by show st.length + 1 + k ≤ 6; omega) hw
  have hK := pKeep_B (pF L) G F (a + 1) (mS s) i1
  have hKp := pKeep_try (pKeep_B (pF L) G F) (pF L) a i1
  rcases hr : pB (pF L) G F (a + 1) (mS s) with ⟨s2, e2 | b⟩
  · rw [hr] at ov ok hK
    have er : pTry (pB (pF L) G F) (pF L) a (mS s) = (s2, Sum.inl (e2 + 1)) := by unfold pTry; rw [hr]
    rw [er]
    refine ⟨fun h => mOv.pre r1 (ov h), fun h => ?_⟩
    obtain ⟨he2, n, s', q1, q2, q3, q4⟩ := ok h
    have he2 : e = e2 := Eq.symm he2
    subst he2
    have go2 : mGo L (s', (1, a, 0, s.2.2.length) :: st, e, w) := ⟨q4.2.1, hw, he⟩
    have pre2 : mPre L (s', (1, a, 0, s.2.2.length) :: st, e, w) := ⟨q4.2.2.1, q4.2.2.2.1, q4.2.2.2.2, fun g1 g2 => absurd g1 (by show ¬ 97 ≤ L.getD e 0; omega), fun g1 => absurd g1 (by show ¬ (L.getD e 0 = 91 ∨ (50 ≤ L.getD e 0 ∧ L.getD e 0 ≤ 53)); omega), fun _ _ _ _ => ⟨_, _, rfl, fun g1 => absurd g1 (by show ¬ L.getD e 0 = 41; omega), fun _ g1 => absurd (by show L.getD e 0 = 93; omega) g1⟩⟩
    have stp2 : mStep L G (s', (1, a, 0, s.2.2.length) :: st, e, w) = (s', st, e + 1, w) := by
      show (if 97 ≤ L.getD e 0 ∧ L.getD e 0 ≤ 102 then _ else if L.getD e 0 = 33 then _ else if L.getD e 0 = 91 then _ else if 50 ≤ L.getD e 0 ∧ L.getD e 0 ≤ 53 then _ else mShuts (L.getD e 0) s' ((1, a, 0, s.2.2.length) :: st) e w) = _
      rw [if_neg (by omega), if_neg (by omega), if_neg (by omega), if_neg (by omega)]
      show (if L.getD e 0 = 41 then _ else if L.getD e 0 = 93 then (s', st, e + 1, w) else _) = _
      rw [if_neg (by omega), if_pos (by omega)]
    exact ⟨rfl, _, s', (r1.trans q1).trans (mRch.one go2 pre2 stp2), q2, q3, q4.1, q4.2.1, q4.2.2.1.skip (by show ¬ 1 = 0; decide), i4, q4.2.2.2.2⟩
  · rw [hr] at ov ok hK
    have er : pTry (pB (pF L) G F) (pF L) a (mS s) = (((pTake (mS s).2.2.length s2).1, zup (pTake (mS s).2.2.length s2).2.1 9 ((pTake (mS s).2.2.length s2).2.1 9 + 1), (pTake (mS s).2.2.length s2).2.2), if (pTake (mS s).2.2.length s2).2.1 10 = 0 then Sum.inl (e + 1) else Sum.inr b) := by
      unfold pTry
      rw [hr]
      simp only []
      rw [sh2]
    rw [er] at hKp ⊢
    by_cases h10 : s2.2.1 10 = 0
    · obtain ⟨hb3, n, s', a', q1, q2, ⟨v, q3⟩, q4, q5⟩ := ok h10
      have q2 : mS s' = s2 := q2
      obtain ⟨t1, t2⟩ := mTake_lv q3
      have eb : mBrk L b ((1, a, 0, s.2.2.length) :: st) s' a' w = (((mTake s.2.2.length s').1, zup (mTake s.2.2.length s').2.1 9 ((mTake s.2.2.length s').2.1 9 + 1), (mTake s.2.2.length s').2.2), st, e + 1, w) := by
        show (if (1 : Nat) = 0 then _ else if (1 : Nat) = 1 then (((mTake s.2.2.length s').1, zup (mTake s.2.2.length s').2.1 9 ((mTake s.2.2.length s').2.1 9 + 1), (mTake s.2.2.length s').2.2), st, pShut (pF L) 61 a 0 + 1, w) else _) = _
        rw [if_neg (by decide), if_pos rfl, sh2]
      rw [eb] at q1
      have r2 := r1.trans q1
      rw [q2] at t1
      have t1 : mS (mTake s.2.2.length s') = pTake (mS s).2.2.length s2 := t1
      generalize hs3 : mTake s.2.2.length s' = s3 at r2 t1 t2
      have hc3 : ∀ i, ¬ i = 10 → s3.2.1 i = s'.2.1 i := fun i hi => by rw [← hs3]; exact mTake_c _ _ hi
      have c01 : s3.2.1 10 ≤ 1 := by rw [← hs3]; exact (mTakeL_ov _ _ _ (by have := q4.2.1; omega)).1
      rw [← t1] at hKp ⊢
      have z10 : zup s3.2.1 9 (s3.2.1 9 + 1) 10 = s3.2.1 10 := zup_nn (by decide)
      refine ⟨fun h => ⟨_, _, r2, ?_, by show w.1 ≤ 3; omega, by show e + 1 ≤ 1000; omega⟩, fun h => ?_⟩
      · have h : ¬ zup s3.2.1 9 (s3.2.1 9 + 1) 10 = 0 := h
        show zup s3.2.1 9 (s3.2.1 9 + 1) 10 = 1
        omega
      · have h : zup s3.2.1 9 (s3.2.1 9 + 1) 10 = 0 := h
        rw [if_pos (show (mS s3).2.1 10 = 0 from z10.symm.trans h)]
        refine ⟨rfl, _, _, r2, rfl, ⟨[], t2⟩, hKp.1, h, ?_, i4, ?_⟩
        · refine (q4.2.2.1.skip (by show ¬ 1 = 0; decide)).eq fun i hi => ?_
          show zup s3.2.1 9 (s3.2.1 9 + 1) i = _
          by_cases e9 : i = 9
          · omega
          · rw [zup_nn e9]
            exact hc3 i (by omega)
        · show s3.2.2.length ≤ s3.1.1
          rw [t2]
          have : s.1.1 ≤ s3.1.1 := hKp.2.1.1
          omega
    · refine ⟨fun _ => mOv.pre r1 (ov h10), fun h => ?_⟩
      exfalso
      have h : zup (pTake (mS s).2.2.length s2).2.1 9 ((pTake (mS s).2.2.length s2).2.1 9 + 1) 10 = 0 := h
      rw [zup_nn (by decide)] at h
      exact (pTakeL_ok s2.2.2 (mS s).2.2.length s2 hK.1 (Eq.refl _)).2.1.2.2 h10 h
end
