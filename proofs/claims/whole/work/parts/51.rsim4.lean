/-! letters done one by one do what bodies do: often; bodies; the whole -/
section
variable {L : List Nat} {G : Nat}
theorem pOft_ov {f : Nat → Nat} {F a : Nat} {j : Nat} {s : pS} {e : Nat} (hs : pOk s) (h : ¬ s.2.1 10 = 0) : ¬ (pOft (pB f G F) a j s e).1.2.1 10 = 0 := (pKeep_oft (pKeep_B f G F) a j s e hs).2.1.2.2 h
/-- the times that are left -/
theorem it_oftJ {m F k a e mk : Nat} (ih : mBd L G m) (h1 : a + 1 ≤ 100) (hmk : mk ≤ 30) (hB : isB (pF L) m k (a + 2) e) (he : e < L.length) (he60 : e ≤ 60) (hC : pF L e = 125) (hF : e - (a + 2) < F) {st : List mF} {w : Nat × Int32} (hf : ∀ f, f ∈ st → mFo L f) (h6 : st.length + (k + 1) ≤ 6) (hw : w.1 = 0) {x0 : mC} {u0 : List (Nat × Int32)} : ∀ (j : Nat) (s : pS) (e0 n0 : Nat), j + 1 ≤ 5 → mI L s st → (∃ v, s.2.2 = v ++ u0) → mRch L G n0 x0 (s, (2, a + 1, j + 1, mk) :: st, a + 2, w) →
    (¬ (pOft (pB (pF L) G F) a (j + 1) (mS s) e0).1.2.1 10 = 0 → mOv L G x0) ∧ ((pOft (pB (pF L) G F) a (j + 1) (mS s) e0).1.2.1 10 = 0 → match (pOft (pB (pF L) G F) a (j + 1) (mS s) e0).2 with
  | Sum.inl e' => e' = e + 1 ∧ ∃ n s', mRch L G n x0 (s', st, e + 1, w) ∧ mS s' = (pOft (pB (pF L) G F) a (j + 1) (mS s) e0).1 ∧ (∃ v, s'.2.2 = v ++ u0) ∧ mI L s' st
  | Sum.inr b => (1 ≤ b.1 ∧ b.1 ≤ 3) ∧ ∃ n s' a', mRch L G n x0 (mBrk L b st s' a' w) ∧ mS s' = (pOft (pB (pF L) G F) a (j + 1) (mS s) e0).1 ∧ (∃ v, s'.2.2 = v ++ u0) ∧ mI L s' st ∧ a' ≤ 1000) := by
  have ee : pF L e = L.getD e 0 := pF_lt he
  intro j
  induction j with
  | zero =>
    intro s e0 n0 hj hi hv r1
    obtain ⟨v0, hv⟩ := hv
    obtain ⟨i1, i2, i3, i4, i5⟩ := hi
    have hi1 : mI L s ((2, a + 1, 0 + 1, mk) :: st) := by
      refine ⟨i1, i2, i3.more (by show ¬ 2 = 0; decide), cons_all ?_ i4, i5⟩
      exact ⟨fun h => absurd h (by show ¬ 2 = 0; decide), by show 2 < 3; decide, h1, fun h => absurd h (by show ¬ 2 = 1; decide), fun _ => ⟨by show 1 ≤ 0 + 1; omega, by show 0 + 1 ≤ 5; omega⟩, hmk⟩
    obtain ⟨ov, ok⟩ := ih k (a + 2) e hB (by omega) (Or.inr (Or.inr hC)) F hF s _ w hi1 (by show st.length + 1 + k ≤ 6; omega) hw
    rcases hr : pB (pF L) G F (a + 2) (mS s) with ⟨s2, e2 | b⟩
    · rw [hr] at ov ok
      have er : pOft (pB (pF L) G F) a (0 + 1) (mS s) e0 = (s2, Sum.inl (e2 + 1)) := by
        unfold pOft
        rw [hr]
        simp only []
        split
        · rw [Nat.mul_zero, Nat.add_zero, zup_id]
        · rfl
      rw [er]
      refine ⟨fun h => mOv.pre r1 (ov h), fun h => ?_⟩
      obtain ⟨he2, n, s', q1, q2, ⟨v, q3⟩, q4⟩ := ok h
      have he2 : e = e2 := Eq.symm he2
      subst he2
      have go2 : mGo L (s', (2, a + 1, 0 + 1, mk) :: st, e, w) := ⟨q4.2.1, hw, he⟩
      have pre2 : mPre L (s', (2, a + 1, 0 + 1, mk) :: st, e, w) := ⟨q4.2.2.1, q4.2.2.2.1, q4.2.2.2.2, fun _ g2 => absurd g2 (by show ¬ L.getD e 0 ≤ 102; omega), fun g1 => absurd g1 (by show ¬ (L.getD e 0 = 91 ∨ (50 ≤ L.getD e 0 ∧ L.getD e 0 ≤ 53)); omega), fun _ _ _ _ => ⟨_, _, rfl, fun g1 => absurd g1 (by show ¬ L.getD e 0 = 41; omega), fun _ _ => rfl⟩⟩
      have stp2 : mStep L G (s', (2, a + 1, 0 + 1, mk) :: st, e, w) = (s', st, e + 1, w) := by
        show (if 97 ≤ L.getD e 0 ∧ L.getD e 0 ≤ 102 then _ else if L.getD e 0 = 33 then _ else if L.getD e 0 = 91 then _ else if 50 ≤ L.getD e 0 ∧ L.getD e 0 ≤ 53 then _ else mShuts (L.getD e 0) s' ((2, a + 1, 0 + 1, mk) :: st) e w) = _
        rw [if_neg (by omega), if_neg (by omega), if_neg (by omega), if_neg (by omega)]
        show (if L.getD e 0 = 41 then _ else if L.getD e 0 = 93 then _ else if 1 < 0 + 1 then _ else (s', st, e + 1, w)) = _
        rw [if_neg (by omega), if_neg (by omega), if_neg (by omega)]
      exact ⟨rfl, _, s', (r1.trans q1).trans (mRch.one go2 pre2 stp2), q2, ⟨v ++ v0, by rw [q3, hv, List.append_assoc]⟩, q4.1, q4.2.1, q4.2.2.1.skip (by show ¬ 2 = 0; decide), i4, q4.2.2.2.2⟩
    · rw [hr] at ov ok
      have er : pOft (pB (pF L) G F) a (0 + 1) (mS s) e0 = (s2, Sum.inr b) := by
        unfold pOft
        rw [hr]
      rw [er]
      refine ⟨fun h => mOv.pre r1 (ov h), fun h => ?_⟩
      obtain ⟨hb3, n, s', a', q1, q2, ⟨v, q3⟩, q4, q5⟩ := ok h
      have eb : mBrk L b ((2, a + 1, 0 + 1, mk) :: st) s' a' w = mBrk L b st s' a' w := by
        show (if (2 : Nat) = 0 then _ else if (2 : Nat) = 1 then _ else mBrk L b st s' a' w) = _
        rw [if_neg (by decide), if_neg (by decide)]
      rw [eb] at q1
      exact ⟨hb3, _, s', a', r1.trans q1, q2, ⟨v ++ v0, by rw [q3, hv, List.append_assoc]⟩, ⟨q4.1, q4.2.1, q4.2.2.1.skip (by show ¬ 2 = 0; decide), i4, q4.2.2.2.2⟩, q5⟩
  | succ j ihj =>
    intro s e0 n0 hj hi hv r1
    obtain ⟨v0, hv⟩ := hv
    obtain ⟨i1, i2, i3, i4, i5⟩ := hi
    have hi1 : mI L s ((2, a + 1, j + 1 + 1, mk) :: st) := by
      refine ⟨i1, i2, i3.more (by show ¬ 2 = 0; decide), cons_all ?_ i4, i5⟩
      exact ⟨fun h => absurd h (by show ¬ 2 = 0; decide), by show 2 < 3; decide, h1, fun h => absurd h (by show ¬ 2 = 1; decide), fun _ => ⟨by show 1 ≤ j + 1 + 1; omega, by show j + 1 + 1 ≤ 5; omega⟩, hmk⟩
    obtain ⟨ov, ok⟩ := ih k (a + 2) e hB (by omega) (Or.inr (Or.inr hC)) F hF s _ w hi1 (by show st.length + 1 + k ≤ 6; omega) hw
    have hK := pKeep_B (pF L) G F (a + 2) (mS s) i1
    rcases hr : pB (pF L) G F (a + 2) (mS s) with ⟨s2, e2 | b⟩
    · rw [hr] at ov ok hK
      by_cases h10 : s2.2.1 10 = 0
      · obtain ⟨he2, n, s', q1, q2, ⟨v, q3⟩, q4⟩ := ok h10
        have he2 : e = e2 := Eq.symm he2
        subst he2
        have q2 : mS s' = s2 := q2
        have er : pOft (pB (pF L) G F) a (j + 1 + 1) (mS s) e0 = pOft (pB (pF L) G F) a (j + 1) (mS s') e := by
          rw [q2]
          rw [pOft.eq_2, hr]
          simp only []
          by_cases hn : s2.1.1 = (mS s).1.1
          · rw [if_pos hn, pOft_short i1 hr hn h10 (j + 1)]
          · rw [if_neg hn]
        rw [er]
        have go2 : mGo L (s', (2, a + 1, j + 1 + 1, mk) :: st, e, w) := ⟨q4.2.1, hw, he⟩
        have pre2 : mPre L (s', (2, a + 1, j + 1 + 1, mk) :: st, e, w) := ⟨q4.2.2.1, q4.2.2.2.1, q4.2.2.2.2, fun _ g2 => absurd g2 (by show ¬ L.getD e 0 ≤ 102; omega), fun g1 => absurd g1 (by show ¬ (L.getD e 0 = 91 ∨ (50 ≤ L.getD e 0 ∧ L.getD e 0 ≤ 53)); omega), fun _ _ _ _ => ⟨_, _, rfl, fun g1 => absurd g1 (by show ¬ L.getD e 0 = 41; omega), fun _ _ => rfl⟩⟩
        have stp2 : mStep L G (s', (2, a + 1, j + 1 + 1, mk) :: st, e, w) = (s', (2, a + 1, j + 1, mk) :: st, a + 2, w) := by
          show (if 97 ≤ L.getD e 0 ∧ L.getD e 0 ≤ 102 then _ else if L.getD e 0 = 33 then _ else if L.getD e 0 = 91 then _ else if 50 ≤ L.getD e 0 ∧ L.getD e 0 ≤ 53 then _ else mShuts (L.getD e 0) s' ((2, a + 1, j + 1 + 1, mk) :: st) e w) = _
          rw [if_neg (by omega), if_neg (by omega), if_neg (by omega), if_neg (by omega)]
          show (if L.getD e 0 = 41 then _ else if L.getD e 0 = 93 then _ else if 1 < j + 1 + 1 then (s', (2, a + 1, j + 1 + 1 - 1, mk) :: st, a + 1 + 1, w) else _) = _
          rw [if_neg (by omega), if_neg (by omega), if_pos (by omega)]
          rfl
        refine ihj s' e _ (by omega) ⟨q4.1, q4.2.1, q4.2.2.1.skip (by show ¬ 2 = 0; decide), i4, q4.2.2.2.2⟩ ⟨v ++ v0, by rw [q3, hv, List.append_assoc]⟩ ((r1.trans q1).trans (mRch.one go2 pre2 stp2))
      · refine ⟨fun _ => mOv.pre r1 (ov h10), fun h => ?_⟩
        exfalso
        rw [pOft.eq_2, hr] at h
        simp only [] at h
        by_cases hn : s2.1.1 = (mS s).1.1
        · rw [if_pos hn] at h
          have h : zup s2.2.1 9 (s2.2.1 9 + (s2.2.1 9 - (mS s).2.1 9) * (j + 1)) 10 = 0 := h
          rw [zup_nn (by decide)] at h
          exact h10 h
        · rw [if_neg hn] at h
          exact pOft_ov hK.1 h10 h
    · rw [hr] at ov ok
      have er : pOft (pB (pF L) G F) a (j + 1 + 1) (mS s) e0 = (s2, Sum.inr b) := by
        rw [pOft.eq_2, hr]
      rw [er]
      refine ⟨fun h => mOv.pre r1 (ov h), fun h => ?_⟩
      obtain ⟨hb3, n, s', a', q1, q2, ⟨v, q3⟩, q4, q5⟩ := ok h
      have eb : mBrk L b ((2, a + 1, j + 1 + 1, mk) :: st) s' a' w = mBrk L b st s' a' w := by
        show (if (2 : Nat) = 0 then _ else if (2 : Nat) = 1 then _ else mBrk L b st s' a' w) = _
        rw [if_neg (by decide), if_neg (by decide)]
      rw [eb] at q1
      exact ⟨hb3, _, s', a', r1.trans q1, q2, ⟨v ++ v0, by rw [q3, hv, List.append_assoc]⟩, ⟨q4.1, q4.2.1, q4.2.2.1.skip (by show ¬ 2 = 0; decide), i4, q4.2.2.2.2⟩, q5⟩
theorem it_oft (hN : L.length ≤ 60) {m F k a e : Nat} (ih : mBd L G m) (h1 : 50 ≤ pF L a) (h2 : pF L a ≤ 53) (h3 : pF L (a + 1) = 123) (hB : isB (pF L) m k (a + 2) e) (he : e < L.length) (hC : pF L e = 125) (hF : e - (a + 2) < F) {s : pS} {st : List mF} {w : Nat × Int32} (hi : mI L s st) (h6 : st.length + (k + 1) ≤ 6) (hw : w.1 = 0) : mRes L G s st a w (pOft (pB (pF L) G F) a (pF L a - 48) (mS s) 0) (e + 1) := by
  have hi0 := hi
  obtain ⟨i1, i2, i3, i4, i5⟩ := hi
  have hle := isB_le hB
  have ea : pF L a = L.getD a 0 := pF_lt (by omega)
  have hn30 : s.1.1 ≤ 30 := i1.1
  have go : mGo L (s, st, a, w) := ⟨i2, hw, by show a < L.length; omega⟩
  have pre : mPre L (s, st, a, w) := ⟨i3, i4, i5, fun g => absurd g (by show ¬ 97 ≤ L.getD a 0; omega), fun _ => by show st.length < 6; omega, fun _ _ _ g => absurd ⟨by show 50 ≤ L.getD a 0; omega, by show L.getD a 0 ≤ 53; omega⟩ g⟩
  obtain ⟨j, hj⟩ : ∃ j, pF L a - 48 = j + 1 := ⟨pF L a - 49, by omega⟩
  have stp : mStep L G (s, st, a, w) = (s, (2, a + 1, j + 1, s.2.2.length) :: st, a + 2, w) := by
    show (if 97 ≤ L.getD a 0 ∧ L.getD a 0 ≤ 102 then _ else if L.getD a 0 = 33 then _ else if L.getD a 0 = 91 then _ else if 50 ≤ L.getD a 0 ∧ L.getD a 0 ≤ 53 then (s, (2, a + 1, L.getD a 0 - 48, s.2.2.length) :: st, a + 2, w) else _) = _
    rw [if_neg (by omega), if_neg (by omega), if_neg (by omega), if_pos (by omega), ← ea, hj]
  rw [hj]
  exact it_oftJ ih (by omega) (by omega) hB he (by omega) hC hF i4 h6 hw j s 0 1 (by omega) hi0 ⟨[], rfl⟩ (mRch.one go pre stp)
theorem mRes.pre {s s' : pS} {st : List mF} {a b e n : Nat} {w : Nat × Int32} {r : pO} (h : mRch L G n (s, st, a, w) (s', st, b, w)) (hv : ∃ v, s'.2.2 = v ++ s.2.2) (h' : mRes L G s' st b w r e) : mRes L G s st a w r e := by
  obtain ⟨v0, hv⟩ := hv
  obtain ⟨ov, ok⟩ := h'
  refine ⟨fun g => mOv.pre h (ov g), fun g => ?_⟩
  have ok := ok g
  rcases hr : r.2 with e' | b'
  · rw [hr] at ok
    obtain ⟨he, m, t, q1, q2, ⟨v, q3⟩, q4⟩ := ok
    exact ⟨he, _, t, h.trans q1, q2, ⟨v ++ v0, by rw [q3, hv, List.append_assoc]⟩, q4⟩
  · rw [hr] at ok
    obtain ⟨hb, m, t, a', q1, q2, ⟨v, q3⟩, q4⟩ := ok
    exact ⟨hb, _, t, a', h.trans q1, q2, ⟨v ++ v0, by rw [q3, hv, List.append_assoc]⟩, q4⟩
theorem it_item (hN : L.length ≤ 60) {m F k a b : Nat} (ih : mBd L G m) (hI : isI (isB (pF L) m) k (pF L) a b) (hb : b ≤ L.length) (hF : b - a ≤ F) {s : pS} {st : List mF} {w : Nat × Int32} (hi : mI L s st) (h6 : st.length + k ≤ 6) (hw : w.1 = 0) : mRes L G s st a w (pI (pB (pF L) G F) (pF L) G a (mS s)) b ∧ a < b ∧ ¬ (pF L a = 41 ∨ pF L a = 93 ∨ pF L a = 125) := by
  rcases hI with ⟨i1, h⟩ | ⟨i1, i2, i3, i4, i5, h⟩ | ⟨j, e', i1, i2, i3, i4, hB, i5, h⟩ | ⟨j, e', i1, i2, hB, i5, h⟩ | ⟨j, e', i1, i2, i3, i4, hB, i5, h⟩
  · subst h
    refine ⟨?_, by omega, by omega⟩
    obtain ⟨q1, q2, q3, q4, q5⟩ := hi
    have ea : pF L a = L.getD a 0 := pF_lt (by omega)
    have go : mGo L (s, st, a, w) := ⟨q2, hw, by show a < L.length; omega⟩
    have pre : mPre L (s, st, a, w) := ⟨q3, q4, q5, fun g => absurd g (by show ¬ 97 ≤ L.getD a 0; omega), fun g => absurd g (by show ¬ (L.getD a 0 = 91 ∨ (50 ≤ L.getD a 0 ∧ L.getD a 0 ≤ 53)); omega), fun _ g => absurd (by show L.getD a 0 = 33; omega) g⟩
    have stp : mStep L G (s, st, a, w) = mBrk L (2, -4) st s a w := by
      show (if 97 ≤ L.getD a 0 ∧ L.getD a 0 ≤ 102 then _ else if L.getD a 0 = 33 then mBrk L (2, -4) st s a w else _) = _
      rw [if_neg (by omega), if_pos (by omega)]
    have er : pI (pB (pF L) G F) (pF L) G a (mS s) = (mS s, Sum.inr (2, -4)) := by
      unfold pI
      rw [if_pos i1]
    rw [er]
    exact ⟨fun h => absurd q2 h, fun _ => ⟨⟨show 1 ≤ 2 by decide, show 2 ≤ 3 by decide⟩, 1, s, a, mRch.one go pre stp, rfl, ⟨[], rfl⟩, ⟨q1, q2, q3, q4, q5⟩, by omega⟩⟩
  · subst h
    refine ⟨?_, by omega, by omega⟩
    have er : pI (pB (pF L) G F) (pF L) G a (mS s) = pAdd (pF L) a (pF L a - 97) (mS s) := by
      unfold pI
      rw [if_neg (by omega), if_neg (by omega), if_neg (by omega), if_pos ⟨i1, i2⟩, if_neg (by omega)]
    rw [er]
    exact it_add hN i1 i2 i3 i4 i5 (by omega) hi hw
  · subst h
    subst i1
    have hle := isB_le hB
    refine ⟨?_, by omega, by omega⟩
    have er : pI (pB (pF L) G F) (pF L) G a (mS s) = pStay (pB (pF L) G F) G a (pF L a - 97) (mS s) := by
      unfold pI
      rw [if_neg (by omega), if_neg (by omega), if_neg (by omega), if_pos ⟨i2, i3⟩, if_pos i4]
    rw [er]
    exact it_stay hN ih i2 i3 i4 hB (by omega) i5 (by omega) hi h6 hw
  · subst h
    subst i1
    have hle := isB_le hB
    refine ⟨?_, by omega, by omega⟩
    have er : pI (pB (pF L) G F) (pF L) G a (mS s) = pTry (pB (pF L) G F) (pF L) a (mS s) := by
      unfold pI
      rw [if_neg (by omega), if_pos i2]
    rw [er]
    exact it_try hN ih i2 hB (by omega) i5 (by omega) hi h6 hw
  · subst h
    subst i1
    have hle := isB_le hB
    refine ⟨?_, by omega, by omega⟩
    have er : pI (pB (pF L) G F) (pF L) G a (mS s) = pOft (pB (pF L) G F) a (pF L a - 48) (mS s) 0 := by
      unfold pI
      rw [if_neg (by omega), if_neg (by omega), if_pos ⟨i2, i3⟩]
    rw [er]
    exact it_oft hN ih i2 i3 i4 hB (by omega) i5 (by omega) hi h6 hw
theorem mBd_all (hN : L.length ≤ 60) : ∀ m, mBd L G m := by
  intro m
  have nil : ∀ (a F : Nat) (s : pS) (st : List mF) (w : Nat × Int32), 0 < F → (pF L a = 41 ∨ pF L a = 93 ∨ pF L a = 125) → mI L s st → mRes L G s st a w (pB (pF L) G F a (mS s)) a := by
    intro a F s st w hF hC hi
    obtain ⟨F, rfl⟩ : ∃ j, F = j + 1 := ⟨F - 1, by omega⟩
    have er : pB (pF L) G (F + 1) a (mS s) = (mS s, Sum.inl a) := by
      unfold pB
      rw [if_pos hC]
    rw [er]
    exact ⟨fun h => absurd hi.2.1 h, fun _ => ⟨rfl, 0, s, rfl, rfl, ⟨[], rfl⟩, hi⟩⟩
  induction m with
  | zero =>
    intro k a e hB he hC F hF s st w hi h6 hw
    have hB : a = e := hB
    subst hB
    exact nil a F s st w (by omega) hC hi
  | succ m ih =>
    intro k a e hB he hC F hF s st w hi h6 hw
    rcases hB with h | ⟨b, hI, hB⟩
    · subst h
      exact nil a F s st w (by omega) hC hi
    · have hbe := isB_le hB
      obtain ⟨F, rfl⟩ : ∃ j, F = j + 1 := ⟨F - 1, by omega⟩
      obtain ⟨hres, hab, hnc⟩ := it_item hN (F := F) ih hI (by omega) (by omega) hi h6 hw
      obtain ⟨ov, ok⟩ := hres
      have hK := pKeep_I (pKeep_B (pF L) G F) (pF L) G a hi.1
      rcases hr : pI (pB (pF L) G F) (pF L) G a (mS s) with ⟨s2, e2 | b2⟩
      · rw [hr] at ov ok hK
        have er : pB (pF L) G (F + 1) a (mS s) = pB (pF L) G F e2 s2 := by
          rw [pB.eq_2, if_neg hnc, hr]
        rw [er]
        by_cases h10 : s2.2.1 10 = 0
        · obtain ⟨he2, n, s', q1, q2, q3, q4⟩ := ok h10
          have he2 : b = e2 := Eq.symm he2
          subst he2
          have q2 : mS s' = s2 := q2
          rw [← q2]
          exact mRes.pre q1 q3 (ih k b e hB he hC F (by omega) s' st w q4 h6 hw)
        · refine ⟨fun _ => ov h10, fun h => ?_⟩
          exfalso
          exact (pKeep_B (pF L) G F e2 s2 hK.1).2.1.2.2 h10 h
      · rw [hr] at ov ok
        have er : pB (pF L) G (F + 1) a (mS s) = (s2, Sum.inr b2) := by
          rw [pB.eq_2, if_neg hnc, hr]
        rw [er]
        exact ⟨ov, ok⟩
/-- the whole text -/
theorem mRun (hb : isBody L) : ∃ n y, mRch L G n mX0 y ∧ ¬ mGo L y ∧ y.1.2.1 10 ≤ 1 ∧ y.2.2.2.1 ≤ 3 ∧ y.2.2.1 ≤ 1000 ∧ (pOver L G → y.1.2.1 10 = 1) ∧ (¬ pOver L G → y.1.2.1 10 = 0 ∧ y.1.1.1 = (pTrace L G).n ∧ (∀ k, k < y.1.1.1 → y.1.1.2 0 k = (pTrace L G).kind k ∧ y.1.1.2 1 k = (pTrace L G).gate k ∧ y.1.1.2 2 k = (pTrace L G).add k) ∧ nI y.2.2.2.1 = (pTrace L G).why ∧ y.2.2.2.2 = (pTrace L G).whyGate ∧ nI (y.1.2.1 9) = (pTrace L G).mended ∧ nI (y.1.2.1 8) = (pTrace L G).again ∧ nI (y.1.2.1 7) = (pTrace L G).deep) := by
  obtain ⟨hN, h32, hB⟩ := hb
  have hend : pF L L.length = 41 := by
    unfold pF
    rw [List.getD_eq_getElem?_getD, List.getElem?_eq_none (Nat.le_refl _)]
    rfl
  have hi0 : mI L pS0 [] := ⟨pOk0, rfl, ⟨fun g _ => rfl, rfl, by show 0 ≤ 6; omega⟩, (fun f hf => absurd hf List.not_mem_nil), Nat.le_refl 0⟩
  obtain ⟨ov, ok⟩ := mBd_all (G := G) hN 61 6 0 L.length hB (Nat.le_refl _) (Or.inl hend) 62 (by omega) pS0 [] (0, -4) hi0 (by show 0 + 6 ≤ 6; omega) rfl
  have er : pB (pF L) G 62 0 (mS pS0) = pRun (pF L) G := rfl
  rw [er] at ov ok
  by_cases h : (pRun (pF L) G).1.2.1 10 = 0
  · have hno : ¬ pOver L G := fun g => g h
    have ok := ok h
    rcases hr : (pRun (pF L) G).2 with e2 | b
    · rw [hr] at ok
      obtain ⟨_, n, s', q1, q2, _, q4⟩ := ok
      refine ⟨n, _, q1, fun g => ?_, by show s'.2.1 10 ≤ 1; rw [q4.2.1]; decide, by show 0 ≤ 3; decide, by show L.length ≤ 1000; omega, fun g => absurd g hno, fun _ => ?_⟩
      · have g : L.length < L.length := g.2.2
        omega
      · have e1 : s'.1 = (pRun (pF L) G).1.1 := (congrArg (fun x : pS => x.1) q2 : (mS s').1 = _)
        have e2 : s'.2.1 = (pRun (pF L) G).1.2.1 := (congrArg (fun x : pS => x.2.1) q2 : (mS s').2.1 = _)
        refine ⟨q4.2.1, (congrArg Prod.fst e1 : s'.1.1 = (pRun (pF L) G).1.1.1), fun k _ => ⟨(congrArg (fun x => x.2 0 k) e1 : s'.1.2 0 k = (pRun (pF L) G).1.1.2 0 k), (congrArg (fun x => x.2 1 k) e1 : s'.1.2 1 k = (pRun (pF L) G).1.1.2 1 k), (congrArg (fun x => x.2 2 k) e1 : s'.1.2 2 k = (pRun (pF L) G).1.1.2 2 k)⟩, ?_, ?_, ?_, ?_, ?_⟩
        · show _ = (match (pRun (pF L) G).2 with | Sum.inl _ => 0 | Sum.inr (y, _) => nI y)
          rw [hr]
          rfl
        · show _ = (match (pRun (pF L) G).2 with | Sum.inl _ => -4 | Sum.inr (_, g) => g)
          rw [hr]
        · show nI (s'.2.1 9) = nI ((pRun (pF L) G).1.2.1 9)
          rw [e2]
        · show nI (s'.2.1 8) = nI ((pRun (pF L) G).1.2.1 8)
          rw [e2]
        · show nI (s'.2.1 7) = nI ((pRun (pF L) G).1.2.1 7)
          rw [e2]
    · rw [hr] at ok
      obtain ⟨hb3, n, s', a', q1, q2, _, q4, q5⟩ := ok
      refine ⟨n, _, q1, fun g => ?_, by show s'.2.1 10 ≤ 1; rw [q4.2.1]; decide, hb3.2, q5, fun g => absurd g hno, fun _ => ?_⟩
      · have g : b.1 = 0 := g.2.1
        omega
      · have e1 : s'.1 = (pRun (pF L) G).1.1 := (congrArg (fun x : pS => x.1) q2 : (mS s').1 = _)
        have e2 : s'.2.1 = (pRun (pF L) G).1.2.1 := (congrArg (fun x : pS => x.2.1) q2 : (mS s').2.1 = _)
        refine ⟨q4.2.1, (congrArg Prod.fst e1 : s'.1.1 = (pRun (pF L) G).1.1.1), fun k _ => ⟨(congrArg (fun x => x.2 0 k) e1 : s'.1.2 0 k = (pRun (pF L) G).1.1.2 0 k), (congrArg (fun x => x.2 1 k) e1 : s'.1.2 1 k = (pRun (pF L) G).1.1.2 1 k), (congrArg (fun x => x.2 2 k) e1 : s'.1.2 2 k = (pRun (pF L) G).1.1.2 2 k)⟩, ?_, ?_, ?_, ?_, ?_⟩
        · show _ = (match (pRun (pF L) G).2 with | Sum.inl _ => 0 | Sum.inr (y, _) => nI y)
          rw [hr]
          rfl
        · show _ = (match (pRun (pF L) G).2 with | Sum.inl _ => -4 | Sum.inr (_, g) => g)
          rw [hr]
          rfl
        · show nI (s'.2.1 9) = nI ((pRun (pF L) G).1.2.1 9)
          rw [e2]
        · show nI (s'.2.1 8) = nI ((pRun (pF L) G).1.2.1 8)
          rw [e2]
        · show nI (s'.2.1 7) = nI ((pRun (pF L) G).1.2.1 7)
          rw [e2]
  · obtain ⟨n, y, q1, q2, q3, q4⟩ := ov h
    refine ⟨n, y, q1, fun g => ?_, by omega, q3, q4, fun _ => q2, fun g => absurd h g⟩
    have := g.1
    omega
end
