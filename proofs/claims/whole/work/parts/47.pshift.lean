/-! bodies that do no step: what is mended alone is counted -/
theorem zup_comm {α : Type} (f : Nat → α) {i j : Nat} (h : ¬ i = j) (v w : α) : zup (zup f i v) j w = zup (zup f j w) i v := by
  funext k
  by_cases e1 : k = i
  · subst e1
    rw [zup_n _ _ h, zup_s, zup_s]
  · by_cases e2 : k = j
    · subst e2
      rw [zup_s, zup_n _ _ e1, zup_s]
    · rw [zup_n _ _ e2, zup_n _ _ e1, zup_n _ _ e1, zup_n _ _ e2]
theorem zup_cg {f f' : Nat → Nat} {k a i : Nat} (h : f i = f' i) : zup f k a i = zup f' k a i := by
  unfold zup
  split
  · rfl
  · exact h
/-- so much more is mended -/
def pSh (x : Nat) (s : pS) : pS := (s.1, zup s.2.1 9 (s.2.1 9 + x), s.2.2)
theorem pSh_0 (s : pS) : pSh 0 s = s := by
  unfold pSh
  rw [Nat.add_zero, zup_id]
theorem pSh_add (x y : Nat) (s : pS) : pSh y (pSh x s) = pSh (x + y) s := by
  unfold pSh
  show (s.1, zup (zup s.2.1 9 _) 9 (zup s.2.1 9 (s.2.1 9 + x) 9 + y), s.2.2) = _
  rw [zup_zup, zup_s, Nat.add_assoc]
theorem pSh_c (x : Nat) (s : pS) {i : Nat} (h : ¬ i = 9) : (pSh x s).2.1 i = s.2.1 i := zup_nn h
theorem pPut_sh (x : Nat) (s : pS) (k g : Nat) (b : Int32) : pPut (pSh x s) k g b = pSh x (pPut s k g b) := by
  by_cases h : s.1.1 < 30
  · rw [pPut_n h, pPut_n (s := pSh x s) h]
    rfl
  · rw [pPut_o (s := s) (by omega), pPut_o (s := pSh x s) (by show 30 ≤ s.1.1; omega)]
    unfold pSh
    show (s.1, zup (zup s.2.1 9 _) 10 1, s.2.2) = (s.1, zup (zup s.2.1 10 1) 9 (zup s.2.1 10 1 9 + x), s.2.2)
    rw [zup_comm _ (by decide), zup_nn (show ¬ 9 = 10 by decide)]
theorem pEc_sh (c : Nat → Nat) {g : Nat} (hg : g < 6) (v : Nat) : pEc (zup c 9 v) g = zup (pEc c g) 9 v := by
  funext i
  by_cases hi : i = 9
  · subst hi
    rw [pEc_9 _ hg (by omega), zup_s, zup_s]
  · rw [zup_nn hi]
    unfold pEc
    rw [zup_nn (show ¬ 8 = 9 by decide), zup_nn (show ¬ g = 9 by omega), zup_nn (show ¬ 6 = 9 by decide), zup_nn (show ¬ 7 = 9 by decide)]
    exact zup_cg (zup_cg (zup_cg (zup_cg (zup_nn hi))))
theorem pLc_sh (c : Nat → Nat) {g : Nat} (hg : g < 6) (v : Nat) : pLc (zup c 9 v) g = zup (pLc c g) 9 v := by
  funext i
  by_cases hi : i = 9
  · subst hi
    rw [pLc_9 _ hg (by omega), zup_s, zup_s]
  · rw [zup_nn hi]
    unfold pLc
    rw [zup_nn (show ¬ g = 9 by omega), zup_nn (show ¬ 6 = 9 by decide)]
    exact zup_cg (zup_cg (zup_nn hi))
theorem pEnter_sh (x : Nat) (s : pS) {g : Nat} (hg : g < 6) : pEnter (pSh x s) g = pSh x (pEnter s g) := by
  have e : ((pSh x s).1, pEc (pSh x s).2.1 g, (pSh x s).2.2) = pSh x (s.1, pEc s.2.1 g, s.2.2) := by
    unfold pSh
    show (s.1, pEc (zup s.2.1 9 _) g, s.2.2) = (s.1, zup (pEc s.2.1 g) 9 (pEc s.2.1 g 9 + x), s.2.2)
    rw [pEc_sh _ hg, pEc_9 _ hg (by omega)]
  unfold pEnter
  rw [e, pPut_sh]
theorem pLeave_sh (x : Nat) (s : pS) {g : Nat} (hg : g < 6) : pLeave (pSh x s) g = pSh x (pLeave s g) := by
  have e : ((pSh x s).1, pLc (pSh x s).2.1 g, (pSh x s).2.2) = pSh x (s.1, pLc s.2.1 g, s.2.2) := by
    unfold pSh
    show (s.1, pLc (zup s.2.1 9 _) g, s.2.2) = (s.1, zup (pLc s.2.1 g) 9 (pLc s.2.1 g 9 + x), s.2.2)
    rw [pLc_sh _ hg, pLc_9 _ hg (by omega)]
  unfold pLeave
  rw [e, pPut_sh]
theorem pTakeL_sh (x : Nat) : ∀ (u : List (Nat × Int32)) (m : Nat) (s : pS), pTakeL u m (pSh x s) = pSh x (pTakeL u m s) := by
  intro u
  induction u with
  | nil => intro m s; rfl
  | cons y u ih =>
    intro m s
    obtain ⟨g, b⟩ := y
    unfold pTakeL
    split
    · rw [pPut_sh]
      exact ih m ((pPut s 2 g (-b)).1, (pPut s 2 g (-b)).2.1, u)
    · rfl
theorem pTake_sh (x m : Nat) (s : pS) : pTake m (pSh x s) = pSh x (pTake m s) := pTakeL_sh x _ _ _
def pRs (R : Nat → pS → pO) (x : Nat) : Prop := ∀ a s, R a (pSh x s) = (pSh x (R a s).1, (R a s).2)
theorem pStay_sh {R : Nat → pS → pO} {x : Nat} (hR : pRs R x) (G a : Nat) {g : Nat} (hg : g < 6) (s : pS) : pStay R G a g (pSh x s) = (pSh x (pStay R G a g s).1, (pStay R G a g s).2) := by
  unfold pStay
  by_cases hb : G.testBit g = true
  · rw [if_pos hb, if_pos hb]
  · rw [if_neg hb, if_neg hb, pEnter_sh x s hg, hR]
    rcases R (a + 2) (pEnter s g) with ⟨s2, e | b⟩
    · simp only []
      rw [pLeave_sh x s2 hg, pSh_c x (pLeave s2 g) (show ¬ 10 = 9 by decide)]
      rfl
    · simp only []
      rw [show (pSh x s).2.2 = s.2.2 from rfl, pTake_sh, pLeave_sh x _ hg]
theorem pAdd_sh (x : Nat) (f : Nat → Nat) (a : Nat) {g : Nat} (hg : g < 6) (s : pS) : pAdd f a g (pSh x s) = (pSh x (pAdd f a g s).1, (pAdd f a g s).2) := by
  unfold pAdd
  rw [pSh_c x s (show ¬ g = 9 by omega)]
  by_cases h0 : s.2.1 g = 0
  · rw [if_pos h0, if_pos h0]
  · rw [if_neg h0, if_neg h0, pPut_sh]
    simp only []
    rw [pSh_c x (pPut s 2 g (pBy f a)) (show ¬ 10 = 9 by decide)]
    by_cases h1 : (pPut s 2 g (pBy f a)).2.1 10 = 0
    · rw [if_pos h1, if_pos h1]
      rfl
    · rw [if_neg h1, if_neg h1]
theorem pTry_sh {R : Nat → pS → pO} {x : Nat} (hR : pRs R x) (f : Nat → Nat) (a : Nat) (s : pS) : pTry R f a (pSh x s) = (pSh x (pTry R f a s).1, (pTry R f a s).2) := by
  unfold pTry
  rw [hR]
  rcases R (a + 1) s with ⟨s2, e | b⟩
  · rfl
  · simp only []
    rw [show (pSh x s).2.2 = s.2.2 from rfl, pTake_sh, pSh_c x (pTake s.2.2.length s2) (show ¬ 10 = 9 by decide)]
    generalize pTake s.2.2.length s2 = s3
    refine Prod.ext ?_ rfl
    show (s3.1, zup (zup s3.2.1 9 (s3.2.1 9 + x)) 9 (zup s3.2.1 9 (s3.2.1 9 + x) 9 + 1), s3.2.2) = (s3.1, zup (zup s3.2.1 9 (s3.2.1 9 + 1)) 9 (zup s3.2.1 9 (s3.2.1 9 + 1) 9 + x), s3.2.2)
    rw [zup_zup, zup_zup, zup_s, zup_s, Nat.add_right_comm]
theorem pOft_sh {R : Nat → pS → pO} {x : Nat} (hR : pRs R x) (a : Nat) : ∀ (j : Nat) (s : pS) (e : Nat), pOft R a j (pSh x s) e = (pSh x (pOft R a j s e).1, (pOft R a j s e).2) := by
  intro j
  induction j with
  | zero => intro s e; rfl
  | succ j ih =>
    intro s e
    unfold pOft
    rw [hR]
    rcases R (a + 2) s with ⟨s2, e2 | b⟩
    · simp only []
      show (if s2.1.1 = s.1.1 then _ else _) = _
      by_cases hn : s2.1.1 = s.1.1
      · rw [if_pos hn, if_pos hn]
        refine Prod.ext ?_ rfl
        show (s2.1, zup (zup s2.2.1 9 (s2.2.1 9 + x)) 9 (zup s2.2.1 9 (s2.2.1 9 + x) 9 + (zup s2.2.1 9 (s2.2.1 9 + x) 9 - zup s.2.1 9 (s.2.1 9 + x) 9) * j), s2.2.2) = (s2.1, zup (zup s2.2.1 9 (s2.2.1 9 + (s2.2.1 9 - s.2.1 9) * j)) 9 (zup s2.2.1 9 (s2.2.1 9 + (s2.2.1 9 - s.2.1 9) * j) 9 + x), s2.2.2)
        rw [zup_zup, zup_zup, zup_s, zup_s, zup_s, Nat.add_sub_add_right, Nat.add_right_comm]
      · rw [if_neg hn, if_neg hn]
        exact ih s2 e2
    · rfl
theorem pI_sh {R : Nat → pS → pO} {x : Nat} (hR : pRs R x) (f : Nat → Nat) (G a : Nat) (s : pS) : pI R f G a (pSh x s) = (pSh x (pI R f G a s).1, (pI R f G a s).2) := by
  unfold pI
  by_cases h1 : f a = 33
  · rw [if_pos h1, if_pos h1]
  · rw [if_neg h1, if_neg h1]
    by_cases h2 : f a = 91
    · rw [if_pos h2, if_pos h2]
      exact pTry_sh hR f a s
    · rw [if_neg h2, if_neg h2]
      by_cases h3 : 50 ≤ f a ∧ f a ≤ 53
      · rw [if_pos h3, if_pos h3]
        exact pOft_sh hR a _ s 0
      · rw [if_neg h3, if_neg h3]
        by_cases h4 : 97 ≤ f a ∧ f a ≤ 102
        · rw [if_pos h4, if_pos h4]
          by_cases h5 : f (a + 1) = 40
          · rw [if_pos h5, if_pos h5]
            exact pStay_sh hR G a (by omega) s
          · rw [if_neg h5, if_neg h5]
            exact pAdd_sh x f a (by omega) s
        · rw [if_neg h4, if_neg h4]
theorem pB_sh (f : Nat → Nat) (G x : Nat) : ∀ m, pRs (pB f G m) x := by
  intro m
  induction m with
  | zero => intro a s; rfl
  | succ m ih =>
    intro a s
    unfold pB
    by_cases h1 : f a = 41 ∨ f a = 93 ∨ f a = 125
    · rw [if_pos h1, if_pos h1]
    · rw [if_neg h1, if_neg h1, pI_sh ih]
      rcases pI (pB f G m) f G a s with ⟨s2, e | b⟩
      · exact ih e s2
      · rfl
/-- too long, or steps more, or all is as it was, but for what is mended -/
def pQt (s r : pS) : Prop := ¬ r.2.1 10 = 0 ∨ s.1.1 < r.1.1 ∨ ∃ x, r = pSh x s
theorem pQt.rfl {s : pS} : pQt s s := Or.inr (Or.inr ⟨0, (pSh_0 s).symm⟩)
theorem pQt.trans {s s' s'' : pS} (h : pQt s s') (h' : pQt s' s'') (l : pLe s s') (l' : pLe s' s'') : pQt s s'' := by
  rcases h with h | h | ⟨x, rfl⟩
  · exact Or.inl (l'.2.2 h)
  · exact Or.inr (Or.inl (Nat.lt_of_lt_of_le h l'.1))
  · rcases h' with h' | h' | ⟨y, rfl⟩
    · exact Or.inl h'
    · exact Or.inr (Or.inl h')
    · exact Or.inr (Or.inr ⟨x + y, pSh_add x y s⟩)
theorem pTakeL_id : ∀ (u : List (Nat × Int32)) (s : pS), pTakeL u u.length s = s := by
  intro u s
  cases u with
  | nil => exact Eq.refl _
  | cons y u =>
    obtain ⟨g, b⟩ := y
    unfold pTakeL
    rw [if_neg (Nat.lt_irrefl _)]
theorem pPut_more (s : pS) (k g : Nat) (b : Int32) : ¬ (pPut s k g b).2.1 10 = 0 ∨ s.1.1 < (pPut s k g b).1.1 := by
  by_cases h : s.1.1 < 30
  · rw [pPut_n h]
    exact Or.inr (Nat.lt_succ_self _)
  · rw [pPut_o (by omega)]
    refine Or.inl ?_
    show ¬ zup s.2.1 10 1 10 = 0
    rw [zup_s]
    decide
theorem pQt_B (f : Nat → Nat) (G : Nat) : ∀ m a s, pOk s → pQt s (pB f G m a s).1 := by
  intro m
  induction m with
  | zero => intro a s _; exact pQt.rfl
  | succ m ih =>
    intro a s hs
    have hK := pKeep_B f G m
    have oft : ∀ j s e, pOk s → pQt s (pOft (pB f G m) a j s e).1 := by
      intro j
      induction j with
      | zero => intro s e _; exact pQt.rfl
      | succ j ihj =>
        intro s e hs
        unfold pOft
        have h1 := ih (a + 2) s hs
        have h2 := hK (a + 2) s hs
        rcases hr : pB f G m (a + 2) s with ⟨s2, e2 | b⟩
        · rw [hr] at h1 h2
          simp only []
          by_cases hn : s2.1.1 = s.1.1
          · rw [if_pos hn]
            rcases h1 with h1 | h1 | ⟨x, h1⟩
            · refine Or.inl ?_
              show ¬ zup s2.2.1 9 (s2.2.1 9 + (s2.2.1 9 - s.2.1 9) * j) 10 = 0
              rw [zup_nn (by decide)]
              exact h1
            · exact Or.inr (Or.inl h1)
            · have h1 : s2 = pSh x s := h1
              subst h1
              exact Or.inr (Or.inr ⟨_, pSh_add x _ s⟩)
          · rw [if_neg hn]
            exact h1.trans (ihj s2 e2 h2.1) h2.2.1 (pKeep_oft hK a j s2 e2 h2.1).2.1
        · rw [hr] at h1
          exact h1
    have item : pQt s (pI (pB f G m) f G a s).1 := by
      unfold pI
      split
      · exact pQt.rfl
      · split
        · unfold pTry
          have h1 := ih (a + 1) s hs
          have h2 := hK (a + 1) s hs
          rcases hr : pB f G m (a + 1) s with ⟨s2, e2 | b⟩
          · rw [hr] at h1
            exact h1
          · rw [hr] at h1 h2
            simp only []
            obtain ⟨t1, t2⟩ := h2.take (o' := Sum.inr b)
            have l3 : pLe s2 (pTake s.2.2.length s2) := (pTakeL_ok s2.2.2 s.2.2.length s2 h2.1 (Eq.refl _)).2.1
            rcases h1 with h1 | h1 | ⟨x, h1⟩
            · refine Or.inl ?_
              show ¬ zup (pTake s.2.2.length s2).2.1 9 ((pTake s.2.2.length s2).2.1 9 + 1) 10 = 0
              rw [zup_nn (by decide)]
              exact l3.2.2 h1
            · exact Or.inr (Or.inl (Nat.lt_of_lt_of_le h1 l3.1))
            · have h1 : s2 = pSh x s := h1
              subst h1
              have e : pTake s.2.2.length (pSh x s) = pSh x s := pTakeL_id s.2.2 (pSh x s)
              rw [e]
              exact Or.inr (Or.inr ⟨_, pSh_add x 1 s⟩)
        · split
          · exact oft _ s 0 hs
          · split
            · rename_i hg
              split
              · unfold pStay
                split
                · exact pQt.rfl
                · have hg6 : f a - 97 < 6 := by omega
                  have o1 := hs.enter hg6
                  have h2 := hK (a + 2) (pEnter s (f a - 97)) o1
                  have more : ∀ r : pS, pLe (pEnter s (f a - 97)) r → pQt s r := by
                    intro r hl
                    rcases pPut_more (s.1, pEc s.2.1 (f a - 97), s.2.2) 0 (f a - 97) 0 with h | h
                    · exact Or.inl (hl.2.2 h)
                    · exact Or.inr (Or.inl (Nat.lt_of_lt_of_le h hl.1))
                  rcases hr : pB f G m (a + 2) (pEnter s (f a - 97)) with ⟨s2, e2 | b⟩
                  · rw [hr] at h2
                    exact more _ (h2.2.1.trans (pLeave_le s2 hg6))
                  · rw [hr] at h2
                    have l3 := (pTakeL_ok s2.2.2 s.2.2.length s2 h2.1 (Eq.refl _)).2.1
                    exact more _ (h2.2.1.trans (l3.trans (pLeave_le _ hg6)))
              · unfold pAdd
                split
                · exact pQt.rfl
                · simp only []
                  split
                  · rcases pPut_more s 2 (f a - 97) (pBy f a) with h | h
                    · exact Or.inl h
                    · exact Or.inr (Or.inl h)
                  · rename_i h
                    exact Or.inl h
            · exact pQt.rfl
    unfold pB
    split
    · exact pQt.rfl
    · have h2 := pKeep_I hK f G a hs
      rcases hr : pI (pB f G m) f G a s with ⟨s2, e | b⟩
      · rw [hr] at item h2
        exact item.trans (ih e s2 h2.1) h2.2.1 (hK e s2 h2.1).2.1
      · rw [hr] at item
        exact item
/-- each time more does the same -/
theorem pOft_short {f : Nat → Nat} {G m a e : Nat} {s s2 : pS} (hs : pOk s) (h : pB f G m (a + 2) s = (s2, Sum.inl e)) (hn : s2.1.1 = s.1.1) (ho : s2.2.1 10 = 0) (j : Nat) : pOft (pB f G m) a j s2 e = ((s2.1, zup s2.2.1 9 (s2.2.1 9 + (s2.2.1 9 - s.2.1 9) * j), s2.2.2), Sum.inl (e + 1)) := by
  have hq := pQt_B f G m (a + 2) s hs
  rw [h] at hq
  rcases hq with hq | hq | ⟨x, hq⟩
  · exact absurd ho hq
  · have hq : s.1.1 < s2.1.1 := hq
    omega
  · have hq : s2 = pSh x s := hq
    have e9 : s2.2.1 9 = s.2.1 9 + x := by rw [hq]; show zup s.2.1 9 (s.2.1 9 + x) 9 = _; rw [zup_s]
    have hx : s2.2.1 9 - s.2.1 9 = x := by omega
    rw [hx]
    cases j with
    | zero =>
      rw [Nat.mul_zero, Nat.add_zero, zup_id]
      rfl
    | succ j =>
      have h2 : pB f G m (a + 2) s2 = (pSh x s2, Sum.inl e) := by
        have := pB_sh f G x m (a + 2) s
        rw [← hq, h] at this
        exact this
      unfold pOft
      rw [h2]
      simp only []
      rw [if_pos (show (pSh x s2).1.1 = s2.1.1 from rfl)]
      refine Prod.ext ?_ rfl
      show (s2.1, zup (zup s2.2.1 9 (s2.2.1 9 + x)) 9 (zup s2.2.1 9 (s2.2.1 9 + x) 9 + (zup s2.2.1 9 (s2.2.1 9 + x) 9 - s2.2.1 9) * j), s2.2.2) = _
      rw [zup_zup, zup_s, show s2.2.1 9 + x - s2.2.1 9 = x by omega, Nat.add_assoc, Nat.mul_succ, Nat.add_comm x]
