/-! letters done one by one, and bodies: small laws -/
def lv (u : List (Nat × Int32)) : List (Nat × Int32) := u.filter fun x => decide (¬ x.2 = 0)
def mS (s : pS) : pS := (s.1, s.2.1, lv s.2.2)
theorem lv_app (u v : List (Nat × Int32)) : lv (u ++ v) = lv u ++ lv v := List.filter_append _ _
theorem lv_0 (g : Nat) (u : List (Nat × Int32)) : lv ((g, 0) :: u) = lv u := by
  unfold lv
  rw [List.filter_cons_of_neg]
  simp
theorem lv_1 {x : Nat × Int32} (h : ¬ x.2 = 0) (u : List (Nat × Int32)) : lv (x :: u) = x :: lv u := by
  unfold lv
  rw [List.filter_cons_of_pos]
  simpa using h
theorem lv_00 {x : Nat × Int32} (h : x.2 = 0) (u : List (Nat × Int32)) : lv (x :: u) = lv u := by
  unfold lv
  rw [List.filter_cons_of_neg]
  simpa using h
theorem mS_put (s : pS) (k g : Nat) (b : Int32) : mS (pPut s k g b) = pPut (mS s) k g b := by
  unfold pPut
  by_cases h : 30 ≤ s.1.1
  · rw [if_pos h, if_pos (show 30 ≤ (mS s).1.1 from h)]
    rfl
  · rw [if_neg h, if_neg (show ¬ 30 ≤ (mS s).1.1 from h)]
    rfl
theorem mS_enter (s : pS) (g : Nat) : mS (pEnter s g) = pEnter (mS s) g := mS_put _ _ _ _
theorem mS_leave (s : pS) (g : Nat) : mS (pLeave s g) = pLeave (mS s) g := mS_put _ _ _ _
theorem mTakeL_lv (u0 : List (Nat × Int32)) : ∀ (v : List (Nat × Int32)) (s : pS), s.2.2 = v ++ u0 → mS (mTakeL (v ++ u0) u0.length s) = pTakeL (lv (v ++ u0)) (lv u0).length (mS s) ∧ (mTakeL (v ++ u0) u0.length s).2.2 = u0 := by
  intro v
  induction v with
  | nil =>
    intro s hs
    have e : mTakeL ([] ++ u0) u0.length s = s := by
      rw [List.nil_append]
      cases u0 with
      | nil => rfl
      | cons x u =>
        unfold mTakeL
        rw [if_neg (show ¬ (x :: u).length < u.length + 1 from Nat.lt_irrefl _)]
    rw [e, List.nil_append]
    exact ⟨(pTakeL_id _ _).symm, hs⟩
  | cons x v ih =>
    intro s hs
    have hl : u0.length < (v ++ u0).length + 1 := by rw [List.length_append]; omega
    rw [List.cons_append]
    unfold mTakeL
    rw [if_pos hl]
    by_cases h0 : x.2 = 0
    · rw [if_pos h0, lv_00 h0]
      have := ih (s.1, s.2.1, v ++ u0) rfl
      refine ⟨this.1.trans ?_, this.2⟩
      show pTakeL (lv (v ++ u0)) _ (s.1, s.2.1, lv (v ++ u0)) = _
      unfold mS
      rw [hs, List.cons_append, lv_00 h0]
    · rw [if_neg h0, lv_1 h0]
      have := ih ((pPut s 2 x.1 (-x.2)).1, (pPut s 2 x.1 (-x.2)).2.1, v ++ u0) rfl
      refine ⟨this.1.trans ?_, this.2⟩
      obtain ⟨g, b⟩ := x
      rw [pTakeL.eq_2, if_pos (by rw [List.length_cons, lv_app, List.length_append]; omega)]
      have e : pPut (mS s) 2 g (-b) = mS (pPut s 2 g (-b)) := (mS_put _ _ _ _).symm
      rw [e]
      rfl
theorem mTake_lv {s : pS} {v u0 : List (Nat × Int32)} (hs : s.2.2 = v ++ u0) : mS (mTake u0.length s) = pTake (lv u0).length (mS s) ∧ (mTake u0.length s).2.2 = u0 := by
  unfold mTake pTake
  have := mTakeL_lv u0 v s hs
  rw [← hs] at this
  exact this
theorem mSeal_app (u0 : List (Nat × Int32)) : ∀ v : List (Nat × Int32), ∃ v', mSeal (v ++ u0) u0.length = v' ++ u0 ∧ lv v' = [] := by
  intro v
  induction v with
  | nil =>
    refine ⟨[], ?_, rfl⟩
    rw [List.nil_append]
    cases u0 with
    | nil => rfl
    | cons x u =>
      unfold mSeal
      rw [if_neg (show ¬ (x :: u).length < u.length + 1 from Nat.lt_irrefl _)]
  | cons x v ih =>
    obtain ⟨v', e1, e2⟩ := ih
    refine ⟨(x.1, 0) :: v', ?_, ?_⟩
    · rw [List.cons_append]
      unfold mSeal
      rw [if_pos (by rw [List.length_append]; omega), e1]
      rfl
    · rw [lv_0, e2]
/-- too long stays so -/
theorem pPut_ov {s : pS} (h : s.2.1 10 = 1) (k g : Nat) (b : Int32) : (pPut s k g b).2.1 10 = 1 := by
  unfold pPut
  split
  · show zup s.2.1 10 1 10 = 1
    rw [zup_s]
  · exact h
theorem pPut_01 {s : pS} (h : s.2.1 10 ≤ 1) (k g : Nat) (b : Int32) : (pPut s k g b).2.1 10 = 0 ∨ (pPut s k g b).2.1 10 = 1 := by
  have := pPut_c10 s k g b h
  omega
theorem pLeave_ov {s : pS} (h : s.2.1 10 = 1) {g : Nat} (hg : g < 6) : (pLeave s g).2.1 10 = 1 := pPut_ov (by show pLc s.2.1 g 10 = 1; rw [pLc_9 _ hg (by omega)]; exact h) _ _ _
theorem pLeave_c10 {s : pS} (h : s.2.1 10 ≤ 1) {g : Nat} (hg : g < 6) : (pLeave s g).2.1 10 ≤ 1 := pPut_c10 _ _ _ _ (by show pLc s.2.1 g 10 ≤ 1; rw [pLc_9 _ hg (by omega)]; exact h)
theorem mTakeL_ov : ∀ (u : List (Nat × Int32)) (m : Nat) (s : pS), s.2.1 10 ≤ 1 → (mTakeL u m s).2.1 10 ≤ 1 ∧ (s.2.1 10 = 1 → (mTakeL u m s).2.1 10 = 1) := by
  intro u
  induction u with
  | nil => intro m s h; exact ⟨h, fun h => h⟩
  | cons x u ih =>
    intro m s h
    unfold mTakeL
    split
    · split
      · exact ih m (s.1, s.2.1, u) h
      · obtain ⟨r1, r2⟩ := ih m ((pPut s 2 x.1 (-x.2)).1, (pPut s 2 x.1 (-x.2)).2.1, u) (pPut_c10 _ _ _ _ h)
        exact ⟨r1, fun h => r2 (pPut_ov h _ _ _)⟩
    · exact ⟨h, fun h => h⟩
theorem mSh_le {f : Nat → Nat} : ∀ {m k D r : Nat}, mSh f m k D r → r ≤ k + m := by
  intro m
  induction m with
  | zero => intro k D r h; exact h.elim
  | succ m ih =>
    intro k D r h
    unfold mSh at h
    split at h
    · have := ih h; omega
    · split at h
      · split at h
        · omega
        · have := ih h; omega
      · split at h
        · omega
        · have := ih h; omega
theorem mSh_s {f : Nat → Nat} : ∀ {m k D r : Nat}, mSh f m k D r → mSh f (m + 1) k D r := by
  intro m
  induction m with
  | zero => intro k D r h; exact h.elim
  | succ m ih =>
    intro k D r h
    unfold mSh at h ⊢
    by_cases h1 : f k = 40 ∨ f k = 91 ∨ f k = 123
    · rw [if_pos h1] at h ⊢
      exact ih h
    · rw [if_neg h1] at h ⊢
      by_cases h2 : f k = 41 ∨ f k = 93 ∨ f k = 125
      · rw [if_pos h2] at h ⊢
        by_cases h3 : D ≤ 1
        · rw [if_pos h3] at h ⊢
          exact h
        · rw [if_neg h3] at h ⊢
          exact ih h
      · rw [if_neg h2] at h ⊢
        by_cases h3 : D = 0
        · rw [if_pos h3] at h ⊢
          exact h
        · rw [if_neg h3] at h ⊢
          exact ih h
theorem mSh_mono {f : Nat → Nat} {m m' k D r : Nat} (h : mSh f m k D r) (hm : m ≤ m') : mSh f m' k D r := by
  obtain ⟨j, rfl⟩ : ∃ j, m' = m + j := ⟨m' - m, by omega⟩
  clear hm
  induction j with
  | zero => exact h
  | succ j ih => exact mSh_s ih
theorem mSh_pShut {f : Nat → Nat} : ∀ {m k D r : Nat}, mSh f m k D r → pShut f m k D = r := by
  intro m
  induction m with
  | zero => intro k D r h; exact h.elim
  | succ m ih =>
    intro k D r h
    unfold mSh at h
    unfold pShut
    by_cases h1 : f k = 40 ∨ f k = 91 ∨ f k = 123
    · rw [if_pos h1] at h ⊢
      exact ih h
    · rw [if_neg h1] at h ⊢
      by_cases h2 : f k = 41 ∨ f k = 93 ∨ f k = 125
      · rw [if_pos h2] at h ⊢
        by_cases h3 : D ≤ 1
        · rw [if_pos h3] at h ⊢
          exact h.symm
        · rw [if_neg h3] at h ⊢
          exact ih h
      · rw [if_neg h2] at h ⊢
        by_cases h3 : D = 0
        · rw [if_pos h3] at h ⊢
          exact h.symm
        · rw [if_neg h3] at h ⊢
          exact ih h
theorem mSh_n {f : Nat → Nat} {F k D r : Nat} (h : ¬ (f k = 40 ∨ f k = 91 ∨ f k = 123)) (h' : ¬ (f k = 41 ∨ f k = 93 ∨ f k = 125)) (hD : 1 ≤ D) (k1 : mSh f F (k + 1) D r) : mSh f (F + 1) k D r := by
  unfold mSh
  rw [if_neg h, if_neg h', if_neg (by omega)]
  exact k1
theorem mSh_o {f : Nat → Nat} {F k D r : Nat} (h : f k = 40 ∨ f k = 91 ∨ f k = 123) (k1 : mSh f F (k + 1) (D + 1) r) : mSh f (F + 1) k D r := by
  unfold mSh
  rw [if_pos h]
  exact k1
theorem mSh_c {f : Nat → Nat} {F k D r : Nat} (h' : f k = 41 ∨ f k = 93 ∨ f k = 125) (hD : 1 ≤ D) (k1 : mSh f F (k + 1) D r) : mSh f (F + 1) k (D + 1) r := by
  unfold mSh
  rw [if_neg (by omega), if_pos h', if_neg (by omega)]
  exact k1
theorem isB_le {f : Nat → Nat} : ∀ {m k a e : Nat}, isB f m k a e → a ≤ e := by
  intro m
  induction m with
  | zero =>
    intro k a e h
    have h : a = e := h
    omega
  | succ m ih =>
    intro k a e h
    rcases h with h | ⟨b, hi, hb⟩
    · omega
    · have h2 := ih hb
      rcases hi with ⟨_, h⟩ | ⟨_, _, _, _, _, h⟩ | ⟨j, e', _, _, _, _, hB, _, h⟩ | ⟨j, e', _, _, hB, _, h⟩ | ⟨j, e', _, _, _, _, hB, _, h⟩
      · omega
      · omega
      · have := ih hB; omega
      · have := ih hB; omega
      · have := ih hB; omega
/-- a body is passed over -/
theorem sh_B {f f' : Nat → Nat} {N : Nat} (hf : ∀ p, p < N → f' p = f p) : ∀ {m k a e : Nat}, isB f m k a e → e ≤ N → ∀ F D r, 1 ≤ D → mSh f' F e D r → mSh f' (F + (e - a)) a D r := by
  intro m
  induction m with
  | zero =>
    intro k a e h he F D r hD hs
    have h : a = e := h
    subst h
    rw [Nat.sub_self]
    exact hs
  | succ m ih =>
    intro k a e h he F D r hD hs
    rcases h with h | ⟨b, hi, hb⟩
    · subst h
      rw [Nat.sub_self]
      exact hs
    · have hbe := isB_le hb
      have h1 := ih hb he F D r hD hs
      rcases hi with ⟨i1, h⟩ | ⟨i1, i2, i3, i4, i5, h⟩ | ⟨j, e', i1, i2, i3, i4, hB, i5, h⟩ | ⟨j, e', i1, i2, hB, i5, h⟩ | ⟨j, e', i1, i2, i3, i4, hB, i5, h⟩
      · subst h
        have e1 := hf a (by omega)
        rw [show F + (e - a) = F + (e - (a + 1)) + 1 by omega]
        exact mSh_n (by omega) (by omega) hD h1
      · subst h
        have e1 := hf a (by omega)
        have e2 := hf (a + 1) (by omega)
        have e3 : f' (a + 1 + 1) = f (a + 2) := hf (a + 2) (by omega)
        rw [show F + (e - a) = F + (e - (a + 3)) + 1 + 1 + 1 by omega]
        exact mSh_n (by omega) (by omega) hD (mSh_n (by omega) (by omega) hD (mSh_n (by omega) (by omega) hD h1))
      · subst h
        have hle := isB_le hB
        have e1 := hf a (by omega)
        have e2 := hf (a + 1) (by omega)
        have e3 := hf e' (by omega)
        have h2 := ih hB (by omega) (F + (e - (e' + 1)) + 1) (D + 1) r (by omega) (mSh_c (by omega) hD h1)
        rw [show F + (e - a) = F + (e - (e' + 1)) + 1 + (e' - (a + 2)) + 1 + 1 by omega]
        exact mSh_n (by omega) (by omega) hD (mSh_o (by omega) h2)
      · subst h
        have hle := isB_le hB
        have e1 := hf a (by omega)
        have e3 := hf e' (by omega)
        have h2 := ih hB (by omega) (F + (e - (e' + 1)) + 1) (D + 1) r (by omega) (mSh_c (by omega) hD h1)
        rw [show F + (e - a) = F + (e - (e' + 1)) + 1 + (e' - (a + 1)) + 1 by omega]
        exact mSh_o (by omega) h2
      · subst h
        have hle := isB_le hB
        have e1 := hf a (by omega)
        have e2 := hf (a + 1) (by omega)
        have e3 := hf e' (by omega)
        have h2 := ih hB (by omega) (F + (e - (e' + 1)) + 1) (D + 1) r (by omega) (mSh_c (by omega) hD h1)
        rw [show F + (e - a) = F + (e - (e' + 1)) + 1 + (e' - (a + 2)) + 1 + 1 by omega]
        exact mSh_n (by omega) (by omega) hD (mSh_o (by omega) h2)
/-- where a try's bracket is shut -/
theorem sh_try {f f' : Nat → Nat} {N : Nat} (hf : ∀ p, p < N → f' p = f p) {m k a e : Nat} (h91 : f a = 91) (hB : isB f m k (a + 1) e) (he : e < N) (hN : N ≤ 60) (hC : f e = 93) : mSh f' 61 a 0 e := by
  have hle := isB_le hB
  have e1 := hf a (by omega)
  have e2 := hf e he
  have h1 : mSh f' 1 e 1 e := by
    unfold mSh
    rw [if_neg (by omega), if_pos (by omega), if_pos (by omega)]
  have h2 := sh_B hf hB (by omega) 1 1 e (by omega) h1
  exact mSh_mono (mSh_o (D := 0) (by omega) h2) (by omega)
theorem pF_lt {L : List Nat} {p : Nat} (h : p < L.length) : pF L p = L.getD p 0 := by
  unfold pF
  rw [List.getD_eq_getElem?_getD, List.getD_eq_getElem?_getD, List.getElem?_eq_getElem h]
  rfl
