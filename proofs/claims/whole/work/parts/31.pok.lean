/-! what a program does alone keeps to: steps are few, what is entered is left -/
def tIns (r : Nat → Nat → Int32) : Nat → Int32 → Int32
  | 0, _ => nI 0
  | n + 1, g => tIns r n g + (if r 1 n = g then (if r 0 n = 0 then nI 1 else if r 0 n = nI 1 then -1 else nI 0) else nI 0)
theorem tIns_eq {r r' : Nat → Nat → Int32} {g : Int32} : ∀ {n : Nat}, (∀ q k, k < n → r' q k = r q k) → tIns r' n g = tIns r n g := by
  intro n
  induction n with
  | zero => intro _; rfl
  | succ n ih =>
    intro h
    unfold tIns
    rw [ih (fun q k hk => h q k (by omega)), h 0 n (by omega), h 1 n (by omega)]
/-- steps so far are steps -/
def pOk (s : pS) : Prop := s.1.1 ≤ 30 ∧ (∀ k, k < s.1.1 → ∃ kd g, kd < 3 ∧ g < 6 ∧ s.1.2 0 k = nI kd ∧ s.1.2 1 k = nI g ∧ (¬ kd = 2 → s.1.2 2 k = 0)) ∧ (s.2.2.length ≤ s.1.1 ∧ ∀ x, x ∈ s.2.2 → x.1 < 6) ∧ (s.2.1 10 = 0 → (∀ g, g < 6 → tIns s.1.2 s.1.1 (nI g) = nI (s.2.1 g) ∧ s.2.1 g ≤ s.1.1) ∧ ∀ k, k ≤ s.1.1 → ∀ g, g < 6 → ∃ m, m ≤ k ∧ tIns s.1.2 k (nI g) = nI m)
def pLe (s s' : pS) : Prop := s.1.1 ≤ s'.1.1 ∧ (∀ q k, k < s.1.1 → s'.1.2 q k = s.1.2 q k) ∧ (¬ s.2.1 10 = 0 → ¬ s'.2.1 10 = 0)
def pC (s s' : pS) : Prop := ∀ i, i ≤ 6 → s'.2.1 i = s.2.1 i
theorem pLe.rfl {s : pS} : pLe s s := ⟨Nat.le_refl _, fun _ _ _ => Eq.refl _, fun h => h⟩
theorem pLe.trans {s s' s'' : pS} (h : pLe s s') (h' : pLe s' s'') : pLe s s'' := ⟨Nat.le_trans h.1 h'.1, fun q k hk => (h'.2.1 q k (Nat.lt_of_lt_of_le hk h.1)).trans (h.2.1 q k hk), fun g => h'.2.2 (h.2.2 g)⟩
theorem pC.trans {s s' s'' : pS} (h : pC s s') (h' : pC s' s'') : pC s s'' := fun i hi => (h' i hi).trans (h i hi)
/-- a step is put -/
theorem pPut_n {s : pS} {k g : Nat} {b : Int32} (h : s.1.1 < 30) : pPut s k g b = ((s.1.1 + 1, zu (zu (zu s.1.2 0 s.1.1 (nI k)) 1 s.1.1 (nI g)) 2 s.1.1 b), s.2) := by
  unfold pPut
  rw [if_neg (by omega)]
theorem pPut_o {s : pS} {k g : Nat} {b : Int32} (h : 30 ≤ s.1.1) : pPut s k g b = (s.1, zup s.2.1 10 1, s.2.2) := by
  unfold pPut
  rw [if_pos h]
theorem pPut_le (s : pS) (k g : Nat) (b : Int32) : pLe s (pPut s k g b) := by
  by_cases h : s.1.1 < 30
  · rw [pPut_n h]
    refine ⟨Nat.le_succ _, fun q k hk => ?_, fun h => h⟩
    show zu (zu (zu s.1.2 0 s.1.1 _) 1 s.1.1 _) 2 s.1.1 b q k = _
    rw [zu_i_ne (by omega), zu_i_ne (by omega), zu_i_ne (by omega)]
  · rw [pPut_o (by omega)]
    refine ⟨Nat.le_refl _, fun _ _ _ => rfl, fun _ => ?_⟩
    show ¬ zup s.2.1 10 1 10 = 0
    rw [zup_s]
    decide
theorem pPut_un (s : pS) (k g : Nat) (b : Int32) : (pPut s k g b).2.2 = s.2.2 := by
  unfold pPut
  split <;> rfl
theorem pPut_c (s : pS) (k g : Nat) (b : Int32) {i : Nat} (h : ¬ i = 10) : (pPut s k g b).2.1 i = s.2.1 i := by
  unfold pPut
  split
  · exact zup_n _ _ h
  · rfl
/-- a put keeps all, if the counters (changed ahead of it) tell of it -/
theorem pOk.put {s : pS} (h : pOk s) {c' : Nat → Nat} {k g : Nat} {b : Int32} (hk : k < 3) (hg : g < 6) (hb : ¬ k = 2 → b = 0) (h10 : c' 10 = s.2.1 10) (ho : ∀ i, i < 6 → ¬ i = g → c' i = s.2.1 i) (h0 : k = 0 → c' g = s.2.1 g + 1) (h1 : k = 1 → 0 < s.2.1 g ∧ c' g = s.2.1 g - 1) (h2 : k = 2 → c' g = s.2.1 g) : pOk (pPut (s.1, c', s.2.2) k g b) := by
  obtain ⟨a1, a2, a3, a4⟩ := h
  by_cases h : s.1.1 < 30
  · rw [pPut_n (s := (s.1, c', s.2.2)) h]
    have old : ∀ q i, i < s.1.1 → zu (zu (zu s.1.2 0 s.1.1 (nI k)) 1 s.1.1 (nI g)) 2 s.1.1 b q i = s.1.2 q i := by
      intro q i hi
      rw [zu_i_ne (by omega), zu_i_ne (by omega), zu_i_ne (by omega)]
    have n0 : zu (zu (zu s.1.2 0 s.1.1 (nI k)) 1 s.1.1 (nI g)) 2 s.1.1 b 0 s.1.1 = nI k := by
      rw [zu_i_ne (by omega), zu_i_ne (by omega), zu_s]
    have n1 : zu (zu (zu s.1.2 0 s.1.1 (nI k)) 1 s.1.1 (nI g)) 2 s.1.1 b 1 s.1.1 = nI g := by
      rw [zu_i_ne (by omega), zu_s]
    have n2 : zu (zu (zu s.1.2 0 s.1.1 (nI k)) 1 s.1.1 (nI g)) 2 s.1.1 b 2 s.1.1 = b := zu_s _ _ _ _
    generalize zu (zu (zu s.1.2 0 s.1.1 (nI k)) 1 s.1.1 (nI g)) 2 s.1.1 b = r at old n0 n1 n2
    have cnt : s.2.1 10 = 0 → ∀ i, i < 6 → tIns r (s.1.1 + 1) (nI i) = nI (c' i) ∧ c' i ≤ s.1.1 + 1 := by
      intro hc i hi
      obtain ⟨e, el⟩ := (a4 hc).1 i hi
      have l' : c' i ≤ s.1.1 + 1 := by
        by_cases hgi : i = g
        · subst hgi
          rcases (show k = 0 ∨ k = 1 ∨ k = 2 by omega) with h | h | h
          · have := h0 h; omega
          · have := h1 h; omega
          · have := h2 h; omega
        · have := ho i hi hgi; omega
      refine ⟨?_, l'⟩
      have e' : tIns r s.1.1 (nI i) = nI (s.2.1 i) := by rw [← e]; exact tIns_eq old
      unfold tIns
      rw [e', n0, n1]
      by_cases hgi : g = i
      · subst hgi
        rw [if_pos rfl]
        rcases (show k = 0 ∨ k = 1 ∨ k = 2 by omega) with rfl | rfl | rfl
        · rw [if_pos (by decide), h0 rfl, nI_add]
        · rw [if_neg (by decide), if_pos rfl, (h1 rfl).2]
          obtain ⟨m, hm⟩ : ∃ m, s.2.1 g = m + 1 := ⟨s.2.1 g - 1, by have := (h1 rfl).1; omega⟩
          rw [hm, ← nI_add, Int32.add_assoc, show (nI 1 + -1 : Int32) = 0 by decide, Int32.add_zero]
          rfl
        · rw [if_neg (by decide), if_neg (by decide), h2 rfl]
          exact Int32.add_zero _
      · have hne : ¬ nI g = nI i := fun e => hgi ((zeq (by omega) (by omega)).mp e)
        rw [if_neg hne, ho i hi (fun e => hgi e.symm)]
        exact Int32.add_zero _
    refine ⟨by show s.1.1 + 1 ≤ 30; omega, fun i hi => ?_, ⟨by show s.2.2.length ≤ s.1.1 + 1; omega, a3.2⟩, fun hc => ⟨cnt (h10 ▸ hc), fun i hi j hj => ?_⟩⟩
    · have hi : i < s.1.1 + 1 := hi
      by_cases e : i = s.1.1
      · subst e
        exact ⟨k, g, hk, hg, n0, n1, fun hk => n2.trans (hb hk)⟩
      · obtain ⟨kd, g', b1, b2, b3, b4, b5⟩ := a2 i (by omega)
        exact ⟨kd, g', b1, b2, (old 0 i (by omega)).trans b3, (old 1 i (by omega)).trans b4, fun h => (old 2 i (by omega)).trans (b5 h)⟩
    · have hi : i ≤ s.1.1 + 1 := hi
      have hc : s.2.1 10 = 0 := h10 ▸ hc
      by_cases e : i = s.1.1 + 1
      · subst e
        exact ⟨c' j, (cnt hc j hj).2, (cnt hc j hj).1⟩
      · obtain ⟨m, hm, e⟩ := (a4 hc).2 i (by omega) j hj
        exact ⟨m, hm, (tIns_eq fun q k' hk' => old q k' (by omega)).trans e⟩
  · rw [pPut_o (by show 30 ≤ s.1.1; omega)]
    refine ⟨a1, a2, a3, fun hc => ?_⟩
    have hc : zup c' 10 1 10 = 0 := hc
    rw [zup_s] at hc
    exact absurd hc (by decide)

theorem zup_nn {c : Nat → Nat} {k i v : Nat} (h : ¬ i = k) : zup c k v i = c i := zup_n _ _ h
/-- entering, leaving, taking back -/
theorem pEc_g (c : Nat → Nat) {g : Nat} (hg : g < 6) {i : Nat} (hi : i < 6) : pEc c g i = if i = g then c g + 1 else c i := by
  unfold pEc
  rw [zup_nn (by omega), zup_nn (by omega)]
  by_cases e : i = g
  · subst e
    rw [zup_s, if_pos rfl]
  · rw [zup_nn e, zup_nn (by omega), if_neg e]
theorem pEc_6 (c : Nat → Nat) (g : Nat) : pEc c g 6 = c 6 + 1 := by
  unfold pEc
  rw [zup_nn (by omega), zup_s]
theorem pEc_9 (c : Nat → Nat) {g : Nat} (hg : g < 6) {i : Nat} (hi : 9 ≤ i) : pEc c g i = c i := by
  unfold pEc
  rw [zup_nn (by omega), zup_nn (by omega), zup_nn (by omega), zup_nn (by omega)]
theorem pLc_g (c : Nat → Nat) {g : Nat} (hg : g < 6) {i : Nat} (hi : i < 6) : pLc c g i = if i = g then c g - 1 else c i := by
  unfold pLc
  rw [zup_nn (by omega)]
  by_cases e : i = g
  · subst e
    rw [zup_s, if_pos rfl]
  · rw [zup_nn e, if_neg e]
theorem pLc_6 (c : Nat → Nat) (g : Nat) : pLc c g 6 = c 6 - 1 := by
  unfold pLc
  rw [zup_s]
theorem pLc_9 (c : Nat → Nat) {g : Nat} (hg : g < 6) {i : Nat} (hi : 7 ≤ i) : pLc c g i = c i := by
  unfold pLc
  rw [zup_nn (by omega), zup_nn (by omega)]
theorem pEnter_un (s : pS) (g : Nat) : (pEnter s g).2.2 = s.2.2 := by
  unfold pEnter
  rw [pPut_un]
theorem pEnter_c (s : pS) (g : Nat) {i : Nat} (h : ¬ i = 10) : (pEnter s g).2.1 i = pEc s.2.1 g i := pPut_c _ _ _ _ h
theorem pLeave_c (s : pS) (g : Nat) {i : Nat} (h : ¬ i = 10) : (pLeave s g).2.1 i = pLc s.2.1 g i := pPut_c _ _ _ _ h
theorem pLeave_un (s : pS) (g : Nat) : (pLeave s g).2.2 = s.2.2 := by
  unfold pLeave
  rw [pPut_un]
theorem pOk.enter {s : pS} (h : pOk s) {g : Nat} (hg : g < 6) : pOk (pEnter s g) := by
  refine h.put (by decide) hg (fun _ => rfl) (pEc_9 _ hg (by omega)) (fun i hi hne => ?_) (fun _ => ?_) (fun h => absurd h (by decide)) (fun h => absurd h (by decide))
  · rw [pEc_g _ hg hi, if_neg hne]
  · rw [pEc_g _ hg hg, if_pos rfl]
theorem pEnter_le (s : pS) {g : Nat} (hg : g < 6) : pLe s (pEnter s g) := by
  have h1 : pLe s (s.1, pEc s.2.1 g, s.2.2) := ⟨Nat.le_refl _, fun _ _ _ => rfl, fun h => by show ¬ pEc s.2.1 g 10 = 0; rw [pEc_9 _ hg (by omega)]; exact h⟩
  exact h1.trans (pPut_le _ _ _ _)
theorem pOk.leave {s : pS} (h : pOk s) {g : Nat} (hg : g < 6) (h0 : 0 < s.2.1 g) : pOk (pLeave s g) := by
  refine h.put (by decide) hg (fun _ => rfl) (pLc_9 _ hg (by omega)) (fun i hi hne => ?_) (fun h => absurd h (by decide)) (fun _ => ⟨h0, ?_⟩) (fun h => absurd h (by decide))
  · rw [pLc_g _ hg hi, if_neg hne]
  · rw [pLc_g _ hg hg, if_pos rfl]
theorem pLeave_le (s : pS) {g : Nat} (hg : g < 6) : pLe s (pLeave s g) := by
  have h1 : pLe s (s.1, pLc s.2.1 g, s.2.2) := ⟨Nat.le_refl _, fun _ _ _ => rfl, fun h => by show ¬ pLc s.2.1 g 10 = 0; rw [pLc_9 _ hg (by omega)]; exact h⟩
  exact h1.trans (pPut_le _ _ _ _)
theorem pOk.un {s : pS} (h : pOk s) {u : List (Nat × Int32)} (hl : u.length ≤ s.1.1) (hu : ∀ x, x ∈ u → x.1 < 6) : pOk (s.1, s.2.1, u) := ⟨h.1, h.2.1, ⟨hl, hu⟩, h.2.2.2⟩
/-- taking back: all is kept, the list comes down to the mark -/
theorem pTakeL_ok : ∀ (u : List (Nat × Int32)) (m : Nat) (s : pS), pOk s → s.2.2 = u → pOk (pTakeL u m s) ∧ pLe s (pTakeL u m s) ∧ pC s (pTakeL u m s) ∧ (pTakeL u m s).2.2 = u.drop (u.length - m) ∧ (∀ i, ¬ i = 10 → (pTakeL u m s).2.1 i = s.2.1 i) := by
  intro u
  induction u with
  | nil =>
    intro m s h hu
    exact ⟨h, pLe.rfl, fun _ _ => rfl, by show s.2.2 = _; rw [hu, List.drop_nil], fun _ _ => rfl⟩
  | cons x u ih =>
    intro m s h hu
    obtain ⟨g, b⟩ := x
    have hg : g < 6 := h.2.2.1.2 (g, b) (by rw [hu]; exact List.mem_cons_self)
    unfold pTakeL
    by_cases hm : m < ((g, b) :: u).length
    · rw [if_pos hm]
      have h1 : pOk (pPut s 2 g (-b)) := h.put (c' := s.2.1) (by decide) hg (fun h => absurd rfl h) rfl (fun _ _ _ => rfl) (fun h => absurd h (by decide)) (fun h => absurd h (by decide)) (fun _ => rfl)
      have hl1 : pLe s (pPut s 2 g (-b)) := pPut_le _ _ _ _
      have hul : u.length ≤ (pPut s 2 g (-b)).1.1 := by
        have := h.2.2.1.1
        rw [hu, List.length_cons] at this
        have := hl1.1
        omega
      have h2 : pOk ((pPut s 2 g (-b)).1, (pPut s 2 g (-b)).2.1, u) := h1.un hul (fun x hx => h.2.2.1.2 x (by rw [hu]; exact List.mem_cons_of_mem _ hx))
      obtain ⟨r1, r2, r3, r4, r5⟩ := ih m _ h2 rfl
      refine ⟨r1, hl1.trans r2, fun i hi => (r3 i hi).trans (pPut_c _ _ _ _ (by omega)), ?_, fun i hi => (r5 i hi).trans (pPut_c _ _ _ _ hi)⟩
      rw [r4, List.length_cons]
      rw [List.length_cons] at hm
      rw [show u.length + 1 - m = (u.length - m) + 1 by omega, List.drop_succ_cons]
    · rw [if_neg hm]
      refine ⟨h, pLe.rfl, fun _ _ => rfl, ?_, fun _ _ => rfl⟩
      rw [hu, show ((g, b) :: u).length - m = 0 by omega, List.drop_zero]
/-- what a body's doing keeps to -/
def pKeep (s : pS) (r : pO) : Prop := pOk r.1 ∧ pLe s r.1 ∧ pC s r.1 ∧ (∃ u, r.1.2.2 = u ++ s.2.2) ∧ s.2.1 9 ≤ r.1.2.1 9
theorem pKeep.rfl {s : pS} (h : pOk s) {o : Nat ⊕ (Nat × Int32)} : pKeep s (s, o) := ⟨h, pLe.rfl, fun _ _ => Eq.refl _, ⟨[], Eq.refl _⟩, Nat.le_refl _⟩
theorem pKeep.out {s s' : pS} {o o' : Nat ⊕ (Nat × Int32)} (h : pKeep s (s', o)) : pKeep s (s', o') := h
theorem pKeep.trans {s s' : pS} {o : Nat ⊕ (Nat × Int32)} {r : pO} (h : pKeep s (s', o)) (h' : pKeep s' r) : pKeep s r := by
  obtain ⟨a1, a2, a3, ⟨u, a4⟩, a5⟩ := h
  obtain ⟨b1, b2, b3, ⟨v, b4⟩, b5⟩ := h'
  exact ⟨b1, a2.trans b2, pC.trans a3 b3, ⟨v ++ u, by rw [b4, List.append_assoc]; exact congrArg _ a4⟩, Nat.le_trans a5 b5⟩
/-- down to the mark -/
theorem drop_mark {u v : List (Nat × Int32)} : (u ++ v).drop ((u ++ v).length - v.length) = v := by
  rw [List.length_append, Nat.add_sub_cancel]
  exact List.drop_left
theorem pKeep.mend {s s' : pS} {o : Nat ⊕ (Nat × Int32)} (h : pKeep s (s', o)) {x : Nat} (hx : s'.2.1 9 ≤ x) {o' : Nat ⊕ (Nat × Int32)} : pKeep s ((s'.1, zup s'.2.1 9 x, s'.2.2), o') := by
  obtain ⟨a1, a2, a3, a4, a5⟩ := h
  refine ⟨⟨a1.1, a1.2.1, a1.2.2.1, fun hc => ?_⟩, ⟨a2.1, a2.2.1, fun hc => ?_⟩, fun i hi => ?_, a4, ?_⟩
  · have hc : zup s'.2.1 9 x 10 = 0 := hc
    rw [zup_nn (by omega)] at hc
    refine ⟨fun g hg => ?_, (a1.2.2.2 hc).2⟩
    show tIns s'.1.2 s'.1.1 (nI g) = nI (zup s'.2.1 9 x g) ∧ zup s'.2.1 9 x g ≤ s'.1.1
    rw [zup_nn (by omega)]
    exact (a1.2.2.2 hc).1 g hg
  · show ¬ zup s'.2.1 9 x 10 = 0
    rw [zup_nn (by omega)]
    exact a2.2.2 hc
  · show zup s'.2.1 9 x i = _
    rw [zup_nn (by omega)]
    exact a3 i hi
  · show s.2.1 9 ≤ zup s'.2.1 9 x 9
    rw [zup_s]
    exact Nat.le_trans a5 hx
theorem pKeep.take {s s' : pS} {o o' : Nat ⊕ (Nat × Int32)} (h : pKeep s (s', o)) : pKeep s (pTake s.2.2.length s', o') ∧ (pTake s.2.2.length s').2.2 = s.2.2 := by
  obtain ⟨a1, a2, a3, ⟨u, a4⟩, a5⟩ := h
  obtain ⟨b1, b2, b3, b4, b5⟩ := pTakeL_ok s'.2.2 s.2.2.length s' a1 (Eq.refl _)
  have e : (pTake s.2.2.length s').2.2 = s.2.2 := by
    show (pTakeL s'.2.2 s.2.2.length s').2.2 = _
    rw [b4, show s'.2.2 = u ++ s.2.2 from a4]
    exact drop_mark
  refine ⟨⟨b1, a2.trans b2, pC.trans a3 b3, ⟨[], e⟩, ?_⟩, e⟩
  show _ ≤ (pTakeL s'.2.2 s.2.2.length s').2.1 9
  rw [b5 9 (by omega)]
  exact a5
theorem pKeep_stay {R : Nat → pS → pO} (hR : ∀ a s, pOk s → pKeep s (R a s)) (gone a : Nat) {g : Nat} (hg : g < 6) {s : pS} (h : pOk s) : pKeep s (pStay R gone a g s) := by
  unfold pStay
  split
  · exact pKeep.rfl h
  · have h1 := h.enter hg
    have hb := hR (a + 2) (pEnter s g) h1
    have hl := pEnter_le s hg
    have back : ∀ s2 : pS, pOk s2 → pLe s s2 → (∀ i, i ≤ 6 → s2.2.1 i = (pEnter s g).2.1 i) → s.2.1 9 ≤ s2.2.1 9 → pOk (pLeave s2 g) ∧ pLe s (pLeave s2 g) ∧ pC s (pLeave s2 g) ∧ s.2.1 9 ≤ (pLeave s2 g).2.1 9 := by
      intro s2 k1 k2 k3 k4
      have eg : s2.2.1 g = s.2.1 g + 1 := by rw [k3 g (by omega), pEnter_c _ _ (by omega), pEc_g _ hg hg, if_pos rfl]
      refine ⟨k1.leave hg (by omega), k2.trans (pLeave_le s2 hg), fun i hi => ?_, ?_⟩
      · rw [pLeave_c _ _ (by omega)]
        by_cases e6 : i = 6
        · subst e6
          rw [pLc_6, k3 6 (by omega), pEnter_c _ _ (by omega), pEc_6, Nat.add_sub_cancel]
        · rw [pLc_g _ hg (by omega)]
          by_cases e : i = g
          · subst e
            rw [if_pos rfl, eg, Nat.add_sub_cancel]
          · rw [if_neg e, k3 i hi, pEnter_c _ _ (by omega), pEc_g _ hg (by omega), if_neg e]
      · rw [pLeave_c _ _ (by omega), pLc_9 _ hg (by omega)]
        exact k4
    have e9 : (pEnter s g).2.1 9 = s.2.1 9 := by rw [pEnter_c _ _ (by omega), pEc_9 _ hg (by omega)]
    rcases hr : R (a + 2) (pEnter s g) with ⟨s2, e | b⟩
    · rw [hr] at hb
      obtain ⟨b1, b2, b3, ⟨u, b4⟩, b5⟩ := hb
      obtain ⟨c1, c2, c3, c4⟩ := back s2 b1 (hl.trans b2) b3 (by rw [e9] at b5; exact b5)
      have eu : (pLeave s2 g).2.2 = u ++ s.2.2 := by rw [pLeave_un, ← pEnter_un s g]; exact b4
      simp only []
      have ed : (pLeave s2 g).2.2.drop ((pLeave s2 g).2.2.length - s.2.2.length) = s.2.2 := by rw [eu]; exact drop_mark
      rw [ed]
      refine ⟨c1.un ?_ h.2.2.1.2, c2, c3, ⟨[], rfl⟩, c4⟩
      have := h.2.2.1.1
      have := c2.1
      omega
    · rw [hr] at hb
      obtain ⟨t1, t2⟩ := hb.take (o' := Sum.inr b)
      rw [pEnter_un] at t1 t2
      obtain ⟨b1, b2, b3, ⟨u, b4⟩, b5⟩ := t1
      obtain ⟨c1, c2, c3, c4⟩ := back _ b1 (hl.trans b2) b3 (by rw [e9] at b5; exact b5)
      exact ⟨c1, c2, c3, ⟨[], by show (pLeave _ g).2.2 = _; rw [pLeave_un]; exact t2⟩, c4⟩
theorem pKeep_add (f : Nat → Nat) (a : Nat) {g : Nat} (hg : g < 6) {s : pS} (h : pOk s) : pKeep s (pAdd f a g s) := by
  unfold pAdd
  split
  · exact pKeep.rfl h
  · have h1 : pOk (pPut s 2 g (pBy f a)) := h.put (c' := s.2.1) (by decide) hg (fun h => absurd rfl h) rfl (fun _ _ _ => rfl) (fun h => absurd h (by decide)) (fun h => absurd h (by decide)) (fun _ => rfl)
    have hl1 : pLe s (pPut s 2 g (pBy f a)) := pPut_le _ _ _ _
    have hc : pC s (pPut s 2 g (pBy f a)) := fun i hi => pPut_c _ _ _ _ (by omega)
    have h9 : s.2.1 9 ≤ (pPut s 2 g (pBy f a)).2.1 9 := by rw [pPut_c _ _ _ _ (by omega)]; exact Nat.le_refl _
    simp only []
    split
    · rename_i h10
      refine ⟨h1.un ?_ ?_, hl1, hc, ⟨[(g, pBy f a)], by show (g, pBy f a) :: (pPut s 2 g (pBy f a)).2.2 = _; rw [pPut_un]; rfl⟩, h9⟩
      · rw [List.length_cons, pPut_un]
        have hs := h.2.2.1.1
        by_cases hn : s.1.1 < 30
        · rw [pPut_n hn]; show _ ≤ s.1.1 + 1; omega
        · exfalso
          rw [pPut_o (by omega)] at h10
          have h10 : zup s.2.1 10 1 10 = 0 := h10
          rw [zup_s] at h10
          exact absurd h10 (by decide)
      · intro x hx
        rcases List.mem_cons.mp hx with rfl | hx
        · exact hg
        · rw [pPut_un] at hx
          exact h.2.2.1.2 x hx
    · exact ⟨h1, hl1, hc, ⟨[], pPut_un _ _ _ _⟩, h9⟩
theorem pKeep_try {R : Nat → pS → pO} (hR : ∀ a s, pOk s → pKeep s (R a s)) (f : Nat → Nat) (a : Nat) {s : pS} (h : pOk s) : pKeep s (pTry R f a s) := by
  unfold pTry
  have hb := hR (a + 1) s h
  rcases hr : R (a + 1) s with ⟨s2, e | b⟩
  · rw [hr] at hb
    exact hb
  · rw [hr] at hb
    exact (hb.take (o' := Sum.inr b)).1.mend (Nat.le_succ _)
theorem pKeep_oft {R : Nat → pS → pO} (hR : ∀ a s, pOk s → pKeep s (R a s)) (a : Nat) : ∀ (j : Nat) (s : pS) (e : Nat), pOk s → pKeep s (pOft R a j s e) := by
  intro j
  induction j with
  | zero => intro s e h; exact pKeep.rfl h
  | succ j ih =>
    intro s e h
    unfold pOft
    have hb := hR (a + 2) s h
    rcases hr : R (a + 2) s with ⟨s2, e2 | b⟩
    · rw [hr] at hb
      simp only []
      split
      · exact hb.mend (Nat.le_add_right _ _)
      · exact hb.trans (ih s2 e2 hb.1)
    · rw [hr] at hb
      exact hb
theorem pKeep_I {R : Nat → pS → pO} (hR : ∀ a s, pOk s → pKeep s (R a s)) (f : Nat → Nat) (gone a : Nat) {s : pS} (h : pOk s) : pKeep s (pI R f gone a s) := by
  unfold pI
  split
  · exact pKeep.rfl h
  · split
    · exact pKeep_try hR f a h
    · split
      · exact pKeep_oft hR a _ s 0 h
      · split
        · split
          · exact pKeep_stay hR gone a (by omega) h
          · exact pKeep_add f a (by omega) h
        · exact pKeep.rfl h
theorem pKeep_B (f : Nat → Nat) (gone : Nat) : ∀ (m a : Nat) (s : pS), pOk s → pKeep s (pB f gone m a s) := by
  intro m
  induction m with
  | zero => intro a s h; exact pKeep.rfl h
  | succ m ih =>
    intro a s h
    unfold pB
    split
    · exact pKeep.rfl h
    · have hI := pKeep_I ih f gone a h
      rcases hr : pI (pB f gone m) f gone a s with ⟨s2, e | b⟩
      · rw [hr] at hI
        exact hI.trans (ih e s2 hI.1)
      · rw [hr] at hI
        exact hI
theorem pOk0 : pOk pS0 := ⟨by decide, fun k hk => absurd hk (Nat.not_lt_zero k), ⟨by decide, fun x hx => by cases hx⟩, fun _ => ⟨fun g _ => ⟨rfl, Nat.le_refl 0⟩, fun k hk g _ => ⟨0, Nat.zero_le k, by have hk : k ≤ 0 := hk; rw [show k = 0 by omega]; rfl⟩⟩⟩
/-- a trace that is not too long -/
def tOk (T : tT) : Prop := T.n ≤ 30 ∧ (∀ k, k < T.n → ∃ kd g, kd < 3 ∧ g < 6 ∧ T.kind k = nI kd ∧ T.gate k = nI g ∧ (¬ kd = 2 → T.add k = 0)) ∧ (∀ g, g < 6 → tIns T.2 T.n (nI g) = nI 0) ∧ ∀ k, k ≤ T.n → ∀ g, g < 6 → ∃ m, m ≤ k ∧ tIns T.2 k (nI g) = nI m
theorem tIns_01 {r r' : Nat → Nat → Int32} (h0 : r' 0 = r 0) (h1 : r' 1 = r 1) (g : Int32) (n : Nat) : tIns r' n g = tIns r n g := by
  induction n with
  | zero => rfl
  | succ n ih => unfold tIns; rw [ih, h0, h1]
theorem pTrace_ok {L : List Nat} {g : Nat} (h : ¬ pOver L g) : tOk (pTrace L g) := by
  obtain ⟨⟨a1, a2, a3, a4⟩, _, c, _, _⟩ := pKeep_B (pF L) g 62 0 pS0 pOk0
  have h : (pB (pF L) g 62 0 pS0).1.2.1 10 = 0 := Classical.not_not.mp h
  have e : ∀ n x, tIns (pTrace L g).2 n x = tIns (pB (pF L) g 62 0 pS0).1.1.2 n x := fun n x => tIns_01 (r' := (pTrace L g).2) (r := (pB (pF L) g 62 0 pS0).1.1.2) (by funext k; rfl) (by funext k; rfl) x n
  refine ⟨a1, fun k hk => ?_, fun i hi => ?_, fun k hk i hi => ?_⟩
  · obtain ⟨kd, g', b1, b2, b3, b4, b5⟩ := a2 k hk
    exact ⟨kd, g', b1, b2, b3, b4, b5⟩
  · rw [e]
    have e1 := ((a4 h).1 i hi).1
    rw [c i (by omega)] at e1
    exact e1
  · rw [e]
    exact (a4 h).2 k hk i hi
