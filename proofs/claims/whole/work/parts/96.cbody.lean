/-! the class: the player does a body -/
section
variable {B n : Nat} {R : Nat → pS → pO} {s : pS}
theorem p7_I (hR : p7 B n R) (hK : ∀ a s, pOk s → pKeep s (R a s)) (f : Nat → Nat) (gone a : Nat) (h : pOk s) (h6 : s.2.1 6 + (n + 1) ≤ B) (h7 : s.2.1 7 ≤ B) : (pI R f gone a s).1.2.1 7 ≤ B := by
  unfold pI
  split
  · exact h7
  · split
    · exact p7_try hR hK f a h (by omega) h7
    · split
      · exact p7_oft hR hK a _ s 0 h (by omega) h7
      · split
        · split
          · exact p7_stay hR hK gone a (by omega) h h6 h7
          · exact p7_add f a _ h7
        · exact h7
end
theorem pB_cl {f : Nat → Nat} {G F a : Nat} {s : pS} (h : pIsC (f a)) : pB f G (F + 1) a s = (s, Sum.inl a) := by
  rw [pB.eq_2]
  exact if_pos h
theorem pB_it {f : Nat → Nat} {G F a : Nat} {s : pS} (h : ¬ pIsC (f a)) : pB f G (F + 1) a s = match pI (pB f G F) f G a s with
    | (s', Sum.inl b) => pB f G F b s'
    | (s', Sum.inr b) => (s', Sum.inr b) := by
  rw [pB.eq_2]
  exact if_neg h
/-- where a body ends -/
def pEn (L : List Nat) (G m : Nat) : Prop := ∀ k a e, isB (pF L) m k a e → e ≤ L.length → pIsC (pF L e) → ∀ F, e - a < F → ∀ (s : pS) (e' : Nat), (pB (pF L) G F a s).2 = Sum.inl e' → e' = e
section
variable {L : List Nat} {G : Nat}
theorem en_stay {R : Nat → pS → pO} {a g e : Nat} (hR : ∀ s e', (R (a + 2) s).2 = Sum.inl e' → e' = e) {s : pS} {b' : Nat} (h : (pStay R G a g s).2 = Sum.inl b') : b' = e + 1 := by
  unfold pStay at h
  split at h
  · cases h
  · rcases hr : R (a + 2) (pEnter s g) with ⟨s2, e' | b⟩
    · rw [hr] at h
      have he := hR (pEnter s g) e' (by rw [hr])
      simp only [] at h
      split at h
      · have := Sum.inl.inj h; omega
      · cases h
    · rw [hr] at h
      cases h
theorem en_try {R : Nat → pS → pO} {f : Nat → Nat} {a e : Nat} (hR : ∀ s e', (R (a + 1) s).2 = Sum.inl e' → e' = e) (hs : pShut f 61 a 0 = e) {s : pS} {b' : Nat} (h : (pTry R f a s).2 = Sum.inl b') : b' = e + 1 := by
  unfold pTry at h
  rcases hr : R (a + 1) s with ⟨s2, e' | b⟩
  · rw [hr] at h
    have he := hR s e' (by rw [hr])
    have := Sum.inl.inj h; omega
  · rw [hr] at h
    simp only [] at h
    split at h
    · have := Sum.inl.inj h; omega
    · cases h
theorem en_oft {R : Nat → pS → pO} {a e : Nat} (hR : ∀ s e', (R (a + 2) s).2 = Sum.inl e' → e' = e) : ∀ (j : Nat) (s : pS) (e0 b' : Nat), (j = 0 → e0 = e) → (pOft R a j s e0).2 = Sum.inl b' → b' = e + 1 := by
  intro j
  induction j with
  | zero =>
    intro s e0 b' h0 h
    have : e0 + 1 = b' := Sum.inl.inj h
    have := h0 rfl
    omega
  | succ j ih =>
    intro s e0 b' _ h
    unfold pOft at h
    rcases hr : R (a + 2) s with ⟨s2, e' | b⟩
    · rw [hr] at h
      have he := hR s e' (by rw [hr])
      simp only [] at h
      split at h
      · have := Sum.inl.inj h; omega
      · exact ih s2 e' b' (fun _ => he) h
    · rw [hr] at h
      cases h
theorem en_add {f : Nat → Nat} {a g : Nat} {s : pS} {b' : Nat} (h : (pAdd f a g s).2 = Sum.inl b') : b' = a + 3 := by
  unfold pAdd at h
  split at h
  · cases h
  · simp only [] at h
    split at h
    · have := Sum.inl.inj h; omega
    · cases h
theorem en_item (hN : L.length ≤ 60) {m F k a b : Nat} (ih : pEn L G m) (hI : isI (isB (pF L) m) k (pF L) a b) (hb : b ≤ L.length) (hF : b - a ≤ F) : (∀ (s : pS) (b' : Nat), (pI (pB (pF L) G F) (pF L) G a s).2 = Sum.inl b' → b' = b) ∧ a < b ∧ ¬ pIsC (pF L a) := by
  unfold pIsC
  rcases hI with ⟨i1, h⟩ | ⟨i1, i2, i3, i4, i5, h⟩ | ⟨j, e', i1, i2, i3, i4, hB, i5, h⟩ | ⟨j, e', i1, i2, hB, i5, h⟩ | ⟨j, e', i1, i2, i3, i4, hB, i5, h⟩
  · subst h
    refine ⟨fun s b' h => ?_, by omega, by omega⟩
    unfold pI at h
    rw [if_pos i1] at h
    cases h
  · subst h
    refine ⟨fun s b' h => ?_, by omega, by omega⟩
    unfold pI at h
    rw [if_neg (by omega), if_neg (by omega), if_neg (by omega), if_pos ⟨i1, i2⟩, if_neg (by omega)] at h
    exact en_add h
  · subst h
    subst i1
    have hle := isB_le hB
    refine ⟨fun s b' h => ?_, by omega, by omega⟩
    unfold pI at h
    rw [if_neg (by omega), if_neg (by omega), if_neg (by omega), if_pos ⟨i2, i3⟩, if_pos i4] at h
    exact en_stay (fun s e1 => ih _ _ _ hB (by omega) (Or.inl i5) F (by omega) s e1) h
  · subst h
    subst i1
    have hle := isB_le hB
    refine ⟨fun s b' h => ?_, by omega, by omega⟩
    unfold pI at h
    rw [if_neg (by omega), if_pos i2] at h
    exact en_try (fun s e1 => ih _ _ _ hB (by omega) (Or.inr (Or.inl i5)) F (by omega) s e1) (mSh_pShut (sh_try (N := L.length) (fun _ _ => rfl) i2 hB (by omega) hN i5)) h
  · subst h
    subst i1
    have hle := isB_le hB
    refine ⟨fun s b' h => ?_, by omega, by omega⟩
    unfold pI at h
    rw [if_neg (by omega), if_neg (by omega), if_pos ⟨i2, i3⟩] at h
    exact en_oft (fun s e1 => ih _ _ _ hB (by omega) (Or.inr (Or.inr i5)) F (by omega) s e1) _ s 0 b' (fun e => by omega) h
theorem en_all (hN : L.length ≤ 60) : ∀ m, pEn L G m := by
  intro m
  have nil : ∀ (a F : Nat) (s : pS) (e' : Nat), 0 < F → pIsC (pF L a) → (pB (pF L) G F a s).2 = Sum.inl e' → e' = a := by
    intro a F s e' hF hC h
    obtain ⟨F, rfl⟩ : ∃ j, F = j + 1 := ⟨F - 1, by omega⟩
    rw [pB_cl hC] at h
    exact (Sum.inl.inj h).symm
  induction m with
  | zero =>
    intro k a e hB he hC F hF s e' h
    have hB : a = e := hB
    subst hB
    exact nil a F s e' (by omega) hC h
  | succ m ih =>
    intro k a e hB he hC F hF s e' h
    rcases hB with hB | ⟨b, hI, hB⟩
    · subst hB
      exact nil a F s e' (by omega) hC h
    · have hbe := isB_le hB
      obtain ⟨F, rfl⟩ : ∃ j, F = j + 1 := ⟨F - 1, by omega⟩
      obtain ⟨hres, hab, hnc⟩ := en_item hN (F := F) ih hI (by omega) (by omega)
      rcases hr : pI (pB (pF L) G F) (pF L) G a s with ⟨s2, e2 | b2⟩
      · have h2 := hres s e2 (by rw [hr])
        subst h2
        rw [pB_it hnc, hr] at h
        exact ih k e2 e hB he hC F (by omega) s2 e' h
      · rw [pB_it hnc, hr] at h
        cases h
end
theorem cDp_of {D F : Nat} {z z' : pS} (hD : D ≤ 6) (hF : F ≤ 62) (h : cDp D z) (hc : pC z z') (h7 : z.2.1 6 + F ≤ 100 → z'.2.1 7 ≤ 100) : cDp D z' := ⟨fun g hg => by rw [hc g (by omega)]; exact h.1 g hg, by rw [hc 6 (by omega)]; exact h.2.1, h7 (by have := h.2.1; omega)⟩
theorem cDp_en {D g : Nat} {z : pS} (hD : D ≤ 6) (hg : g < 6) (h : cDp D z) : cDp (D + 1) (pEnter z g) := by
  obtain ⟨h1, h2, h3⟩ := h
  refine ⟨fun q hq => ?_, ?_, ?_⟩
  · rw [pEnter_c _ _ (by omega)]
    have := h1 q hq
    have := h1 g hg
    unfold pEc
    rw [zup_n _ _ (by omega), zup_n _ _ (by omega)]
    by_cases e : q = g
    · subst e; rw [zup_s]; omega
    · rw [zup_n _ _ e, zup_n _ _ (by omega)]; omega
  · rw [pEnter_c _ _ (by decide), pEc_6]; omega
  · rw [pEnter_c _ _ (by decide), pEc_7]
    exact Nat.max_le.mpr ⟨h3, by omega⟩
/-- a body in the player, from its loop on -/
def cBd (X : zM) (l : Nat → Nat → Int64) (A : List Nat) (G m : Nat) : Prop := ∀ d k a e, isB (pF A) m k a e → e ≤ A.length → pIsC (pF A e) → ∀ F, e - a < F → F ≤ 62 → ∀ D i b, D + k ≤ 6 → i + (e - a) ≤ 60 → ∀ (ρ : Nat → Nat → Int32) (z : pS), cPl ρ z → pOk z → cDp D z → ρ 4 1 = nI G → ∀ (c s : Nat) (Q : Option zV → zM → Prop), (∀ ρ' x, cOu ρ (pB (pF A) G F a z) ρ' x → (∀ e', (pB (pF A) G F a z).2 = Sum.inl e' → e' < 4000) → Q (some (zi x)) (OM X 0 0 ρ' l)) → Ev (d + 3 * k + 5) c s 25 13 [some (zr (some (0, 0, 4))), some (zi (nI b)), some (zi (nI D)), some (zi (nI a)), some (zi (nI i))] [] (OM X 0 0 ρ l) Q
theorem cBd_b {X : zM} {l : Nat → Nat → Int64} {A : List Nat} {G m n bb : Nat} (hc : cSc X.1 X.2.2.1 X.2.2.2.1 bb n A) (ps : X.2.2.1 0 0 4 0 = some (3, n, 0)) (h : cBd X l A G m) {d k a e F D c s : Nat} (hB : isB (pF A) m k a e) (he : e ≤ A.length) (hC : pIsC (pF A e)) (hF : e - a < F) (hF2 : F ≤ 62) (hD : D + k ≤ 6) {ρ : Nat → Nat → Int32} {z : pS} (hl : cPl ρ z) (hok : pOk z) (hz : cDp D z) (hG : ρ 4 1 = nI G) {Q : Option zV → zM → Prop} (hq : ∀ ρ' x, cOu ρ (pB (pF A) G F a z) ρ' x → (∀ e', (pB (pF A) G F a z).2 = Sum.inl e' → e' < 4000) → Q (some (zi x)) (OM X 0 0 ρ' l)) : Ev (d + 3 * k + 5) c s 25 0 [some (zr (some (0, 0, 4))), some (zi (nI a)), some (zi (nI D)), none, none] [] (OM X 0 0 ρ l) Q := by
  have := hc.1
  exact g25_0 hc ps (by omega) (fun _ => h d k a e hB he hC F hF hF2 D 0 a hD (by omega) ρ z hl hok hz hG c s Q hq) (fun q => by omega)
theorem cBd_all {X : zM} {l : Nat → Nat → Int64} {A : List Nat} {G n bb : Nat} (hc : cSc X.1 X.2.2.1 X.2.2.2.1 bb n A) (ps : X.2.2.1 0 0 4 0 = some (3, n, 0)) (hG6 : G < 64) : ∀ m, cBd X l A G m := by
  intro m
  have hN := hc.1
  induction m with
  | zero =>
    intro d k a e hB he hC F hF hF2 D i b hD hi ρ z hl hok hz hG c s Q hq
    have hB : a = e := hB
    subst hB
    obtain ⟨F, rfl⟩ : ∃ j, F = j + 1 := ⟨F - 1, by omega⟩
    have er : pB (pF A) G (F + 1) a z = (z, Sum.inl a) := by rw [pB_cl hC]
    rw [er] at hq
    have ret : Q (some (zi (nI a))) (OM X 0 0 ρ l) := hq ρ (nI a) ⟨hl, ⟨fun _ _ _ => rfl, rfl⟩, rfl⟩ (fun e' h => by have := Sum.inl.inj h; omega)
    exact g25_13 (d := d + 3 * k + 3) hc ps (by omega) (fun _ => ret) (fun _ => hc) (fun _ => by omega) (fun _ _ => ret) (fun _ q => absurd hC q)
  | succ m ih =>
    intro d k a e hB he hC F hF hF2 D i b hD hi ρ z hl hok hz hG c s Q hq
    obtain ⟨F, rfl⟩ : ∃ j, F = j + 1 := ⟨F - 1, by omega⟩
    rcases hB with h | ⟨b1, hI, hB⟩
    · subst h
      have er : pB (pF A) G (F + 1) a z = (z, Sum.inl a) := by rw [pB_cl hC]
      rw [er] at hq
      have ret : Q (some (zi (nI a))) (OM X 0 0 ρ l) := hq ρ (nI a) ⟨hl, ⟨fun _ _ _ => rfl, rfl⟩, rfl⟩ (fun e' h => by have := Sum.inl.inj h; omega)
      exact g25_13 (d := d + 3 * k + 3) hc ps (by omega) (fun _ => ret) (fun _ => hc) (fun _ => by omega) (fun _ _ => ret) (fun _ q => absurd hC q)
    · have hbe := isB_le hB
      obtain ⟨hen, hab, hnc⟩ := en_item (G := G) hN (F := F) (en_all hN m) hI (by omega) (by omega)
      have hKB := pKeep_B (pF A) G F
      have hKI := pKeep_I hKB (pF A) G a hok
      have h7I : z.2.1 6 + (F + 1) ≤ 100 → (pI (pB (pF A) G F) (pF A) G a z).1.2.1 7 ≤ 100 := fun q => p7_I (p7_B (pF A) G 100 F) hKB (pF A) G a hok q hz.2.2
      -- what comes behind the item
      have aft : ∀ ρ' x, cOu ρ (pI (pB (pF A) G F) (pF A) G a z) ρ' x → Ev (d + 3 * k + 5) c s 25 37 [some (zr (some (0, 0, 4))), some (zi (nI b)), some (zi (nI D)), some (zi (nI a)), some (zi (nI i))] [zi x] (OM X 0 0 ρ' l) Q := by
        intro ρ' x ho
        have dz := cDp_of (by omega) hF2 hz hKI.2.2.1 h7I
        have hok2 := hKI.1
        rcases hr : pI (pB (pF A) G F) (pF A) G a z with ⟨z2, e2 | w⟩
        · have h2 := hen z e2 (by rw [hr])
          subst h2
          rw [hr] at ho dz hok2
          have er : pB (pF A) G (F + 1) a z = pB (pF A) G F e2 z2 := by rw [pB_it hnc, hr]
          rw [er] at hq
          obtain ⟨o1, o2, o3⟩ := ho
          have o3 : x = nI e2 := o3
          subst o3
          refine g25_37 (fun _ => ih d k e2 e hB he hC F (by omega) (by omega) D (i + 1) b hD (by omega) ρ' z2 o1 hok2 dz (o2.2.trans hG) c s Q (fun ρ2 x2 w1 w2 => hq ρ2 x2 ⟨w1.1, o2.trans w1.2.1, w1.2.2⟩ w2)) (fun q => absurd q (nI_nem1 (by omega)))
        · have er : pB (pF A) G (F + 1) a z = (z2, Sum.inr w) := by rw [pB_it hnc, hr]
          rw [er] at hq
          rw [hr] at ho
          have o3 : x = -1 := ho.2.2.1
          subst o3
          exact g25_37m (hq ρ' (-1) ho (fun e' q => by cases q))
      refine g25_13 (d := d + 3 * k + 3) hc ps (by omega) (fun q => by omega) (fun _ => hc) (fun _ => by omega) (fun _ q => absurd q hnc) (fun _ _ => ?_)
      have h4 := pF_b hc.2.1 a
      have hx : pF A a = 33 ∨ pF A a = 91 ∨ (50 ≤ pF A a ∧ pF A a ≤ 53) ∨ (97 ≤ pF A a ∧ pF A a ≤ 102) := by
        rcases hI with ⟨i1, _⟩ | ⟨i1, i2, _⟩ | ⟨j, e', _, i1, i2, _⟩ | ⟨j, e', _, i1, _⟩ | ⟨j, e', _, i1, i2, _⟩
        · exact Or.inl i1
        · exact Or.inr (Or.inr (Or.inr ⟨i1, i2⟩))
        · exact Or.inr (Or.inr (Or.inr ⟨i1, i2⟩))
        · exact Or.inr (Or.inl i1)
        · exact Or.inr (Or.inr (Or.inl ⟨i1, i2⟩))
      refine sp_cOne (d := d + 3 * k + 3) (G := G) (R := pB (pF A) G F) hc ps hl (by omega) hx ?_ ?_ ?_ ?_ aft
      · intro q Q' hq'
        rcases hI with ⟨i1, _⟩ | ⟨i1, i2, _⟩ | ⟨j, e', _, i1, i2, _⟩ | ⟨j, e', hk, i1, hBi, i5, h⟩ | ⟨j, e', _, i1, i2, _⟩
        · omega
        · omega
        · omega
        · subst hk
          have hle := isB_le hBi
          have hsh := sh_try (f := pF A) (f' := fun k => A.getD k 0) (N := A.length) (fun p hp => (pF_lt hp).symm) q hBi (by omega) hN i5
          have es : pShut (pF A) 61 a 0 = e' := mSh_pShut (sh_try (f := pF A) (f' := pF A) (N := A.length) (fun _ _ => rfl) q hBi (by omega) hN i5)
          refine sp_cTry (d := d + 3 * j + 3) hc ps hl hok (by rw [← pF_lt (by omega)]; exact q) (by omega) (by rw [es]; exact hsh) hKB (fun Q1 hq1 => ?_) hq'
          exact cBd_b hc ps ih hBi (by omega) (Or.inr (Or.inl i5)) (by omega) (by omega) (by omega) hl hok ⟨fun g hg => Nat.le_succ_of_le (hz.1 g hg), Nat.le_succ_of_le hz.2.1, hz.2.2⟩ hG hq1
        · omega
      · intro q q2 Q' hq'
        rcases hI with ⟨i1, _⟩ | ⟨i1, i2, _⟩ | ⟨j, e', _, i1, i2, _⟩ | ⟨j, e', hk, i1, hBi, i5, h⟩ | ⟨j, e', hk, i1, i2, i3, hBi, i5, h⟩
        · omega
        · omega
        · omega
        · omega
        · subst hk
          have hle := isB_le hBi
          refine sp_cOft (d := d + 3 * j + 5) (Pz := cDp (D + 1)) (by omega) hl hok ⟨fun g hg => Nat.le_succ_of_le (hz.1 g hg), Nat.le_succ_of_le hz.2.1, hz.2.2⟩ hKB (fun z1 ok1 dz1 => cDp_of (by omega) (by omega) dz1 (hKB (a + 2) z1 ok1).2.2.1 (fun g => p7_B (pF A) G 100 F (a + 2) z1 ok1 g dz1.2.2)) (fun ρ1 z1 Q1 c1 ok1 dz1 g1 hq1 => ?_) hq'
          exact cBd_b hc ps ih hBi (by omega) (Or.inr (Or.inr i5)) (by omega) (by omega) (by omega) c1 ok1 dz1 (g1.2.trans hG) hq1
      · intro q q2 q3 Q' hq'
        rcases hI with ⟨i1, _⟩ | ⟨i1, i2, i3, _⟩ | ⟨j, e', hk, i1, i2, i3, hBi, i5, h⟩ | ⟨j, e', hk, i1, hBi, i5, h⟩ | ⟨j, e', hk, i1, i2, i3, hBi, i5, h⟩
        · omega
        · omega
        · subst hk
          have hle := isB_le hBi
          refine sp_cStay (d := d + 3 * j + 4) hc ps hl hok (by omega) (by omega) hz hG hG6 hKB (fun ρ1 Q1 c1 f1 hq1 => ?_) hq'
          exact cBd_b hc ps ih hBi (by omega) (Or.inl i5) (by omega) (by omega) (by omega) c1 (hok.enter (by omega)) (cDp_en (by omega) (by omega) hz) (f1.2.1.trans hG) hq1
        · omega
        · omega
      · intro q q2 q3 Q' hq'
        rcases hI with ⟨i1, _⟩ | ⟨i1, i2, i3, i4, i5, _⟩ | ⟨j, e', hk, i1, i2, i3, hBi, i5, h⟩ | ⟨j, e', hk, i1, hBi, i5, h⟩ | ⟨j, e', hk, i1, i2, i3, hBi, i5, h⟩
        · omega
        · have := hz.1 (pF A a - 97) (by omega)
          exact sp_cAdd (d := d + 3 * k + 2) hc ps hl hok (by omega) (by omega) (by omega) (by omega) hq'
        · exact absurd i3 q3
        · omega
        · omega
