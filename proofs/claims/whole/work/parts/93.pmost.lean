/-! the most stays keep to a bound -/
def p7 (B n : Nat) (R : Nat → pS → pO) : Prop := ∀ a s, pOk s → s.2.1 6 + n ≤ B → s.2.1 7 ≤ B → (R a s).1.2.1 7 ≤ B
section
variable {B n : Nat} {R : Nat → pS → pO} {s : pS}
theorem p7_take (m : Nat) (h : pOk s) : (pTake m s).2.1 7 = s.2.1 7 := (pTakeL_ok s.2.2 m s h rfl).2.2.2.2 7 (by decide)
theorem p7_stay (hR : p7 B n R) (hK : ∀ a s, pOk s → pKeep s (R a s)) (gone a : Nat) {g : Nat} (hg : g < 6) (h : pOk s) (h6 : s.2.1 6 + (n + 1) ≤ B) (h7 : s.2.1 7 ≤ B) : (pStay R gone a g s).1.2.1 7 ≤ B := by
  unfold pStay
  split
  · exact h7
  · have h1 := h.enter hg
    have e6 : (pEnter s g).2.1 6 = s.2.1 6 + 1 := by rw [pEnter_c _ _ (by decide), pEc_6]
    have e7 : (pEnter s g).2.1 7 ≤ B := by
      rw [pEnter_c _ _ (by decide), pEc_7]
      exact Nat.max_le.mpr ⟨h7, by omega⟩
    have hb := hR (a + 2) (pEnter s g) h1 (by omega) e7
    have hk := hK (a + 2) (pEnter s g) h1
    rcases hr : R (a + 2) (pEnter s g) with ⟨s2, e | b⟩
    · rw [hr] at hb
      show (pLeave s2 g).2.1 7 ≤ B
      rw [pLeave_c _ _ (by decide), pLc_9 _ hg (by decide)]
      exact hb
    · rw [hr] at hb hk
      show (pLeave (pTake s.2.2.length s2) g).2.1 7 ≤ B
      rw [pLeave_c _ _ (by decide), pLc_9 _ hg (by decide), p7_take _ hk.1]
      exact hb
theorem p7_add (f : Nat → Nat) (a g : Nat) (h7 : s.2.1 7 ≤ B) : (pAdd f a g s).1.2.1 7 ≤ B := by
  have e : (pPut s 2 g (pBy f a)).2.1 7 ≤ B := by rw [pPut_c _ _ _ _ (by decide)]; exact h7
  unfold pAdd
  split
  · exact h7
  · simp only []
    split
    · exact e
    · exact e
theorem p7_try (hR : p7 B n R) (hK : ∀ a s, pOk s → pKeep s (R a s)) (f : Nat → Nat) (a : Nat) (h : pOk s) (h6 : s.2.1 6 + n ≤ B) (h7 : s.2.1 7 ≤ B) : (pTry R f a s).1.2.1 7 ≤ B := by
  unfold pTry
  have hb := hR (a + 1) s h h6 h7
  have hk := hK (a + 1) s h
  rcases hr : R (a + 1) s with ⟨s2, e | b⟩
  · rw [hr] at hb
    exact hb
  · rw [hr] at hb hk
    show zup (pTake s.2.2.length s2).2.1 9 ((pTake s.2.2.length s2).2.1 9 + 1) 7 ≤ B
    rw [zup_n _ _ (by decide), p7_take _ hk.1]
    exact hb
theorem p7_oft (hR : p7 B n R) (hK : ∀ a s, pOk s → pKeep s (R a s)) (a : Nat) : ∀ (j : Nat) (s : pS) (e : Nat), pOk s → s.2.1 6 + n ≤ B → s.2.1 7 ≤ B → (pOft R a j s e).1.2.1 7 ≤ B := by
  intro j
  induction j with
  | zero => intro s e _ _ h7; exact h7
  | succ j ih =>
    intro s e h h6 h7
    unfold pOft
    have hb := hR (a + 2) s h h6 h7
    have hk := hK (a + 2) s h
    rcases hr : R (a + 2) s with ⟨s2, e2 | b⟩
    · rw [hr] at hb hk
      simp only []
      split
      · show zup s2.2.1 9 (s2.2.1 9 + (s2.2.1 9 - s.2.1 9) * j) 7 ≤ B
        rw [zup_n _ _ (by decide)]
        exact hb
      · have e6 : s2.2.1 6 = s.2.1 6 := hk.2.2.1 6 (by decide)
        exact ih s2 e2 hk.1 (by omega) hb
    · rw [hr] at hb
      exact hb
end
theorem p7_B (f : Nat → Nat) (gone B : Nat) : ∀ n, p7 B n (pB f gone n) := by
  intro n
  induction n with
  | zero => intro a s _ _ h7; exact h7
  | succ n ih =>
    intro a s h h6 h7
    have hK := pKeep_B f gone n
    unfold pB
    split
    · exact h7
    · have hI : (pI (pB f gone n) f gone a s).1.2.1 7 ≤ B := by
        unfold pI
        split
        · exact h7
        · split
          · exact p7_try ih hK f a h (by omega) h7
          · split
            · exact p7_oft ih hK a _ s 0 h (by omega) h7
            · split
              · split
                · exact p7_stay ih hK gone a (by omega) h h6 h7
                · exact p7_add f a _ h7
              · exact h7
      have hk := pKeep_I hK f gone a h
      rcases hr : pI (pB f gone n) f gone a s with ⟨s2, e | b⟩
      · rw [hr] at hI hk
        have e6 : s2.2.1 6 = s.2.1 6 := hk.2.2.1 6 (by decide)
        exact ih e s2 hk.1 (by omega) hI
      · rw [hr] at hI
        exact hI
