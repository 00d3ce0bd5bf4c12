/-! a tape that can stand is a body -/
def kAll : List Nat → kSt → Option kSt
  | [], x => some x
  | c :: L, x => match kStep x c with
    | none => none
    | some y => kAll L y
theorem kScan_all : ∀ (T : List Nat) (k : Nat) (x y : kSt), kScan T k x = Sum.inr y → kAll (aDense T) x = some y := by
  intro T
  induction T with
  | nil =>
    intro k x y h
    have h : (Sum.inr x : Nat ⊕ kSt) = Sum.inr y := h
    injection h with h
    rw [← h]
    rfl
  | cons c T ih =>
    intro k x y h
    have h : (if c = 32 then kScan T (k + 1) x else match kStep x c with | none => Sum.inl k | some y => kScan T (k + 1) y) = Sum.inr y := h
    by_cases hc : c = 32
    · rw [if_pos hc] at h
      have e : aDense (c :: T) = aDense T := by
        unfold aDense
        rw [List.filter_cons_of_neg (by simpa using hc)]
      rw [e]
      exact ih _ _ _ h
    · rw [if_neg hc] at h
      have e : aDense (c :: T) = c :: aDense T := by
        unfold aDense
        rw [List.filter_cons_of_pos (by simpa using hc)]
      rw [e]
      show (match kStep x c with | none => none | some y => kAll (aDense T) y) = _
      rcases hs : kStep x c with _ | z
      · rw [hs] at h
        exact absurd h (by simp)
      · rw [hs] at h
        exact ih _ _ _ h
theorem kAll_c {L : List Nat} {a : Nat} (h : a < L.length) (x : kSt) : kAll (L.drop a) x = match kStep x (pF L a) with | none => none | some y => kAll (L.drop (a + 1)) y := by
  rw [drop_get h, pF_lt h]
  rfl
theorem kAll_e {L : List Nat} {a : Nat} (h : L.length ≤ a) {x y : kSt} (hk : kAll (L.drop a) x = some y) : x = y := by
  rw [List.drop_eq_nil_of_le h] at hk
  injection hk
def kTo (L O : List Nat) (e : Nat) : Prop := match O with
  | [] => e = L.length
  | d :: r => e < L.length ∧ pF L e = d ∧ kAll (L.drop (e + 1)) (0, r) = some (0, [])
theorem kGr {L : List Nat} : ∀ (n a : Nat) (O : List Nat), L.length - a < n → a ≤ L.length → O.length ≤ 6 → kAll (L.drop a) (0, O) = some (0, []) → ∃ e, (∀ m, L.length - a < m → isB (pF L) m (6 - O.length) a e) ∧ e ≤ L.length ∧ kTo L O e := by
  intro n
  induction n with
  | zero => intro a O h; omega
  | succ n ih =>
    intro a O hn ha h6 hk
    by_cases hlt : a < L.length
    case neg =>
      have e := kAll_e (by omega) hk
      injection e with _ e
      subst e
      exact ⟨a, fun m hm => by cases m with | zero => rfl | succ m => exact Or.inl rfl, ha, (show a = L.length by omega)⟩
    case pos =>
    -- an item, then the rest
    have item : ∀ b, a < b → b ≤ L.length → kAll (L.drop b) (0, O) = some (0, []) → (∀ m, L.length - a ≤ m → isI (isB (pF L) m) (6 - O.length) (pF L) a b) → ∃ e, (∀ m, L.length - a < m → isB (pF L) m (6 - O.length) a e) ∧ e ≤ L.length ∧ kTo L O e := by
      intro b hab hb hkb hI
      obtain ⟨e, e1, e2, e3⟩ := ih b O (by omega) hb h6 hkb
      refine ⟨e, fun m hm => ?_, e2, e3⟩
      obtain ⟨m, rfl⟩ : ∃ j, m = j + 1 := ⟨m - 1, by omega⟩
      exact Or.inr ⟨b, hI m (by omega), e1 m (by omega)⟩
    -- a bracket that opens at a place, what it holds
    have brk : ∀ b d, a < b → b ≤ L.length → O.length < 6 → kAll (L.drop b) (0, d :: O) = some (0, []) → ∃ e', b ≤ e' ∧ e' < L.length ∧ pF L e' = d ∧ kAll (L.drop (e' + 1)) (0, O) = some (0, []) ∧ (∀ m, L.length - b < m → isB (pF L) m (6 - (O.length + 1)) b e') := by
      intro b d hab hb h6' hkb
      obtain ⟨e, e1, e2, e3⟩ := ih b (d :: O) (by omega) hb (by rw [List.length_cons]; omega) hkb
      exact ⟨e, isB_le (e1 (L.length - b + 1) (by omega)), e3.1, e3.2.1, e3.2.2, e1⟩
    rw [kAll_c hlt] at hk
    by_cases c1 : 97 ≤ pF L a ∧ pF L a ≤ 102
    · rw [kS_l c1] at hk
      simp only [] at hk
      by_cases hlt1 : a + 1 < L.length
      case neg => exact absurd (kAll_e (by omega) hk) (by simp)
      case pos =>
      rw [kAll_c hlt1, kS_1] at hk
      by_cases s1 : pF L (a + 1) = 43 ∨ pF L (a + 1) = 45
      · rw [if_pos s1] at hk
        simp only [] at hk
        by_cases hlt2 : a + 1 + 1 < L.length
        case neg => exact absurd (kAll_e (by omega) hk) (by simp)
        case pos =>
        rw [kAll_c hlt2, kS_2] at hk
        by_cases s2 : 49 ≤ pF L (a + 1 + 1) ∧ pF L (a + 1 + 1) ≤ 57
        · rw [if_pos s2] at hk
          simp only [] at hk
          exact item (a + 3) (by omega) (by omega) hk (fun m _ => Or.inr (Or.inl ⟨c1.1, c1.2, s1, s2.1, s2.2, rfl⟩))
        · rw [if_neg s2] at hk
          exact absurd hk (by simp)
      · rw [if_neg s1] at hk
        by_cases s2 : pF L (a + 1) = 40 ∧ O.length < 6
        · rw [if_pos s2] at hk
          simp only [] at hk
          obtain ⟨e', b1, b2, b3, b4, b5⟩ := brk (a + 2) 41 (by omega) (by omega) s2.2 hk
          refine item (e' + 1) (by omega) (by omega) b4 (fun m hm => Or.inr (Or.inr (Or.inl ⟨6 - (O.length + 1), e', by omega, c1.1, c1.2, s2.1, b5 m (by omega), b3, rfl⟩)))
        · rw [if_neg s2] at hk
          exact absurd hk (by simp)
    · by_cases c2 : 50 ≤ pF L a ∧ pF L a ≤ 53
      · rw [kS_f c2] at hk
        simp only [] at hk
        by_cases hlt1 : a + 1 < L.length
        case neg => exact absurd (kAll_e (by omega) hk) (by simp)
        case pos =>
        rw [kAll_c hlt1, kS_3] at hk
        by_cases s2 : pF L (a + 1) = 123 ∧ O.length < 6
        · rw [if_pos s2] at hk
          simp only [] at hk
          obtain ⟨e', b1, b2, b3, b4, b5⟩ := brk (a + 2) 125 (by omega) (by omega) s2.2 hk
          refine item (e' + 1) (by omega) (by omega) b4 (fun m hm => Or.inr (Or.inr (Or.inr (Or.inr ⟨6 - (O.length + 1), e', by omega, c2.1, c2.2, s2.1, b5 m (by omega), b3, rfl⟩))))
        · rw [if_neg s2] at hk
          exact absurd hk (by simp)
      · by_cases c3 : pF L a = 91
        · rw [c3, kS_t] at hk
          by_cases s2 : O.length < 6
          · rw [if_pos s2] at hk
            simp only [] at hk
            obtain ⟨e', b1, b2, b3, b4, b5⟩ := brk (a + 1) 93 (by omega) (by omega) s2 hk
            refine item (e' + 1) (by omega) (by omega) b4 (fun m hm => Or.inr (Or.inr (Or.inr (Or.inl ⟨6 - (O.length + 1), e', by omega, c3, b5 m (by omega), b3, rfl⟩))))
          · rw [if_neg s2] at hk
            exact absurd hk (by simp)
        · by_cases c4 : pF L a = 33
          · rw [c4, kS_b] at hk
            simp only [] at hk
            exact item (a + 1) (by omega) (by omega) hk (fun m _ => Or.inl ⟨c4, rfl⟩)
          · rw [kS_c c1 c2 c3 c4] at hk
            cases O with
            | nil => exact absurd hk (by simp)
            | cons d r =>
              simp only [] at hk
              by_cases s2 : pF L a = d
              · rw [if_pos s2] at hk
                exact ⟨a, fun m hm => by cases m with | zero => rfl | succ m => exact Or.inl rfl, ha, hlt, s2, hk⟩
              · rw [if_neg s2] at hk
                exact absurd hk (by simp)
theorem aFlt_body {T : List Nat} (h : aFlt T = none) (h60 : T.length ≤ 60) (h32 : ∀ x, x ∈ T → 32 ≤ x ∧ x < 127) : isBody (aDense T) := by
  have hs : kScan T 0 (0, []) = Sum.inr (0, []) := by
    unfold aFlt at h
    rcases e : kScan T 0 (0, []) with k | x
    · rw [e] at h
      exact absurd h (by simp)
    · rw [e] at h
      simp only [] at h
      by_cases g : x.1 = 0 ∧ x.2 = []
      · obtain ⟨x1, x2⟩ := x
        obtain ⟨g1, g2⟩ := g
        have g1 : x1 = 0 := g1
        have g2 : x2 = [] := g2
        rw [g1, g2]
      · rw [if_neg g] at h
        exact absurd h (by simp)
  have hl := aDense_len T
  obtain ⟨e, e1, e2, e3⟩ := kGr (L := aDense T) ((aDense T).length + 1) 0 [] (by omega) (Nat.zero_le _) (Nat.zero_le _) (by rw [List.drop_zero]; exact kScan_all T 0 _ _ hs)
  have e3 : e = (aDense T).length := e3
  subst e3
  refine ⟨by omega, fun x hx => ?_, e1 61 (by omega)⟩
  have hx := List.mem_filter.mp hx
  have h1 := h32 x hx.1
  have h2 : ¬ x = 32 := by simpa using hx.2
  omega
