/-! rows of traces that agree give the same turns -/
/-- a trace -/
abbrev tT : Type := Nat × (Nat → Nat → Int32)
def tT.n (T : tT) : Nat := T.1
def tT.kind (T : tT) : Nat → Int32 := T.2 0
def tT.gate (T : tT) : Nat → Int32 := T.2 1
def tT.add (T : tT) : Nat → Int32 := T.2 2
def tT.why (T : tT) : Int32 := T.2 3 0
def tT.whyGate (T : tT) : Int32 := T.2 3 1
def tT.mended (T : tT) : Int32 := T.2 3 2
def tT.again (T : tT) : Int32 := T.2 3 3
def tT.deep (T : tT) : Int32 := T.2 3 4
/-- a task's rows in the reference tell a trace -/
def zTrR (ρ : Nat → Nat → Int32) (t : Nat) (T : tT) : Prop := ρ 13 t = nI T.n ∧ (∀ k, k < T.n → ρ 10 (30 * t + k) = T.kind k ∧ ρ 11 (30 * t + k) = T.gate k ∧ ρ 12 (30 * t + k) = T.add k) ∧ ρ 14 t = T.why ∧ ρ 15 t = T.whyGate ∧ ρ 16 t = T.mended ∧ ρ 17 t = T.again ∧ ρ 18 t = T.deep
def zTau (T : Nat → tT) : Nat → Nat → Int32 := fun q i => if q = 10 then (T (i / 30)).kind (i % 30) else if q = 11 then (T (i / 30)).gate (i % 30) else if q = 12 then (T (i / 30)).add (i % 30) else if q = 13 then nI (T i).n else if q = 14 then (T i).why else if q = 15 then (T i).whyGate else if q = 16 then (T i).mended else if q = 17 then (T i).again else if q = 18 then (T i).deep else 0
theorem zTau_10 (T : Nat → tT) {t k : Nat} (h : k < 30) : zTau T 10 (30 * t + k) = (T t).kind k := by
  show (T ((30 * t + k) / 30)).kind ((30 * t + k) % 30) = _
  rw [show (30 * t + k) / 30 = t by omega, show (30 * t + k) % 30 = k by omega]
theorem zTau_11 (T : Nat → tT) {t k : Nat} (h : k < 30) : zTau T 11 (30 * t + k) = (T t).gate k := by
  show (T ((30 * t + k) / 30)).gate ((30 * t + k) % 30) = _
  rw [show (30 * t + k) / 30 = t by omega, show (30 * t + k) % 30 = k by omega]
theorem zTau_12 (T : Nat → tT) {t k : Nat} (h : k < 30) : zTau T 12 (30 * t + k) = (T t).add k := by
  show (T ((30 * t + k) / 30)).add ((30 * t + k) % 30) = _
  rw [show (30 * t + k) / 30 = t by omega, show (30 * t + k) % 30 = k by omega]
/-- rows agree on traces -/
def rAg (ρ ρ' : Nat → Nat → Int32) : Prop := ∀ t, t < 4 → rM ρ t ≤ 30 ∧ rM ρ' t = rM ρ t ∧ (∀ k, k < rM ρ t → ρ' 10 (30 * t + k) = ρ 10 (30 * t + k) ∧ ρ' 11 (30 * t + k) = ρ 11 (30 * t + k) ∧ ρ' 12 (30 * t + k) = ρ 12 (30 * t + k)) ∧ ρ' 14 t = ρ 14 t
theorem rAg_of {ρ : Nat → Nat → Int32} {T : Nat → tT} (h : ∀ t, t < 4 → zTrR ρ t (T t) ∧ (T t).n ≤ 30) : rAg ρ (zTau T) := by
  intro t ht
  obtain ⟨⟨e, hk, hy, _⟩, hn⟩ := h t ht
  have eM : rM ρ t = (T t).n := by unfold rM; rw [e]; exact nI_clamp (by omega)
  have eM' : rM (zTau T) t = (T t).n := nI_clamp (by omega)
  refine ⟨by omega, by rw [eM, eM'], fun k hk' => ?_, ?_⟩
  · rw [eM] at hk'
    obtain ⟨a, b, c⟩ := hk k hk'
    exact ⟨(zTau_10 T (by omega)).trans a.symm, (zTau_11 T (by omega)).trans b.symm, (zTau_12 T (by omega)).trans c.symm⟩
  · exact hy.symm
theorem rIns_ag {ρ ρ' : Nat → Nat → Int32} (h : rAg ρ ρ') {t : Nat} (ht : t < 4) (g : Int32) : ∀ u, u ≤ rM ρ t → rIns ρ' t u g = rIns ρ t u g := by
  intro u
  induction u with
  | zero => intro _; rfl
  | succ u ih =>
    intro hu
    obtain ⟨a, b, _⟩ := (h t ht).2.2.1 u (by omega)
    unfold rIns
    rw [ih (by omega), a, b]
theorem rIns_zw (ρ : Nat → Nat → Int32) (w : Nat → Int32) (t u : Nat) (g : Int32) : rIns (zw ρ w) t u g = rIns ρ t u g := by
  induction u with
  | zero => rfl
  | succ u ih =>
    unfold rIns
    rw [ih]
    rfl
theorem rAg_zw {ρ ρ' : Nat → Nat → Int32} (h : rAg ρ ρ') (w : Nat → Int32) : rAg (zw ρ w) (zw ρ' w) := h
theorem rSetL_ag {ρ ρ' : Nat → Nat → Int32} (h : rAg ρ ρ') {t : Nat} (ht : t < 4) {u : Nat} (hu : u ≤ rM ρ t) (g : Nat) : rSetL ρ' t u g = rSetL ρ t u g := by
  induction g with
  | zero => rfl
  | succ g ih =>
    unfold rSetL
    rw [ih, rIns_ag h ht _ u hu]
theorem rHoldL_ag {ρ ρ' : Nat → Nat → Int32} (h : rAg ρ ρ') {w : Nat → Int32} (hR : rRw ρ w) (g : Int32) : ∀ n, n ≤ 4 → rHoldL (zw ρ' w) g n = rHoldL (zw ρ w) g n := by
  intro n
  induction n with
  | zero => intro _; rfl
  | succ n ih =>
    intro hn
    unfold rHoldL
    rw [ih (by omega), show rD (zw ρ' w) n = rD (zw ρ w) n from rfl, rIns_ag (rAg_zw h w) (by omega) g _ (hR n (by omega)).2.1]
theorem rHold_ag {ρ ρ' : Nat → Nat → Int32} (h : rAg ρ ρ') {w : Nat → Int32} (hR : rRw ρ w) (g : Int32) : rHold (zw ρ' w) g = rHold (zw ρ w) g := rHoldL_ag h hR g 4 (Nat.le_refl 4)
theorem zm4 : (-4 : Int32) < 0 := by decide
theorem rWait_ag {ρ ρ' : Nat → Nat → Int32} (h : rAg ρ ρ') {w : Nat → Int32} (hR : rRw ρ w) {t : Nat} (ht : t < 4) : rWait (zw ρ' w) t = rWait (zw ρ w) t := by
  unfold rWait
  show (if w (10 + 4 * t) = nI 2 then ρ' 11 (30 * t + rD (zw ρ w) t) else -4) = (if w (10 + 4 * t) = nI 2 then ρ 11 (30 * t + rD (zw ρ w) t) else -4)
  by_cases e : w (10 + 4 * t) = nI 2
  · rw [if_pos e, if_pos e]
    exact ((h t ht).2.2.1 _ ((hR t ht).2.2.1 e)).2.1
  · rw [if_neg e, if_neg e]
theorem rNext_ag {ρ ρ' : Nat → Nat → Int32} (h : rAg ρ ρ') {w : Nat → Int32} (hR : rRw ρ w) {t : Nat} (ht : t < 4) : rNext (zw ρ' w) t = rNext (zw ρ w) t := by
  unfold rNext
  rw [rWait_ag h hR ht, rHold_ag h hR]
theorem rRingL_ag {ρ ρ' : Nat → Nat → Int32} (h : rAg ρ ρ') {w : Nat → Int32} (hR : rRw ρ w) (t : Nat) : ∀ n z x, (x = -4 ∨ ∃ u, u < 4 ∧ x = nI u) → rRingL (zw ρ' w) t n z x = rRingL (zw ρ w) t n z x := by
  intro n
  induction n with
  | zero => intro z x _; rfl
  | succ n ih =>
    intro z x hx
    rcases hx with rfl | ⟨u, hu, rfl⟩
    · simp only [rRingL, if_pos zm4]
    · have e1 : (nI u).toNatClampNeg = u := nI_clamp (by omega)
      simp only [rRingL, e1, rNext_ag h hR hu]
      rw [ih _ _ (rNext_cases (zw ρ w) u)]
theorem rRing_ag {ρ ρ' : Nat → Nat → Int32} (h : rAg ρ ρ') {w : Nat → Int32} (hR : rRw ρ w) {t : Nat} (ht : t < 4) : rRing (zw ρ' w) t = rRing (zw ρ w) t := rRingL_ag h hR t 4 _ _ (Or.inr ⟨t, ht, rfl⟩)
theorem rWeight_ag {ρ ρ' : Nat → Nat → Int32} (h : rAg ρ ρ') {w : Nat → Int32} (hR : rRw ρ w) {t : Nat} (ht : t < 4) : rWeight (zw ρ' w) t = rWeight (zw ρ w) t := by
  unfold rWeight
  have e : rSet (zw ρ' w) t (rD (zw ρ' w) t) = rSet (zw ρ w) t (rD (zw ρ w) t) := rSetL_ag (rAg_zw h w) ht (hR t ht).2.1 6
  rw [e]
  rfl
theorem rVicL_ag {ρ ρ' : Nat → Nat → Int32} (h : rAg ρ ρ') {w : Nat → Int32} (hR : rRw ρ w) (r : Int32) : ∀ n, n ≤ 4 → rVicL (zw ρ' w) r n = rVicL (zw ρ w) r n := by
  intro n
  induction n with
  | zero => intro _; rfl
  | succ n ih =>
    intro hn
    unfold rVicL
    rw [ih (by omega), rWeight_ag h hR (show n < 4 by omega)]
    rcases rVicL_cases (zw ρ w) r n with e | ⟨f, hf, e⟩
    · simp only [e, if_pos zm4]
    · rw [e, nI_clamp (by omega), rWeight_ag h hR (show f < 4 by omega)]
theorem rG_ag {ρ ρ' : Nat → Nat → Int32} (h : rAg ρ ρ') {t : Nat} (ht : t < 4) {k : Nat} (hk : k < rM ρ t) : rG ρ' t k = rG ρ t k := by
  unfold rG
  rw [((h t ht).2.2.1 k hk).2.1]
theorem rComeW_ag {ρ ρ' : Nat → Nat → Int32} (h : rAg ρ ρ') {t : Nat} (ht : t < 4) (x : Int32) (w : Nat → Int32) : ∀ u, u ≤ rM ρ t → rComeW ρ' t x w u = rComeW ρ t x w u := by
  intro u
  induction u with
  | zero => intro _; rfl
  | succ u ih =>
    intro hu
    unfold rComeW
    rw [ih (by omega), rG_ag h ht (by omega), ((h t ht).2.2.1 u (by omega)).2.2]
theorem rFallW_ag {ρ ρ' : Nat → Nat → Int32} (h : rAg ρ ρ') {w : Nat → Int32} (hR : rRw ρ w) {t : Nat} (ht : t < 4) : rFallW ρ' t w = rFallW ρ t w := by
  unfold rFallW
  rw [show rD (zw ρ' w) t = rD (zw ρ w) t from rfl, rComeW_ag h ht _ _ _ (hR t ht).2.1]
theorem rTr_ag {ρ ρ' : Nat → Nat → Int32} (h : rAg ρ ρ') (hT : rTr ρ) (h13 : ∀ t, t < 4 → ρ' 13 t = nI (rM ρ' t)) : rTr ρ' := by
  intro t ht
  obtain ⟨h1, h2, h3, _⟩ := h t ht
  refine ⟨h13 t ht, by omega, fun k hk => ?_⟩
  rw [h2] at hk
  have := (hT t ht).2.2 k hk
  rw [(h3 k hk).2.1, rG_ag h ht hk]
  exact this
theorem rRw_ag {ρ ρ' : Nat → Nat → Int32} (h : rAg ρ ρ') {w : Nat → Int32} (hR : rRw ρ w) : rRw ρ' w := by
  intro t ht
  have := hR t ht
  rw [(h t ht).2.1]
  exact this
theorem rWaits_ag {ρ ρ' : Nat → Nat → Int32} (h : rAg ρ ρ') (hT : rTr ρ) {w : Nat → Int32} (hR : rRw ρ w) {t : Nat} (ht : t < 4) (hD : rD (zw ρ w) t < rM ρ t) : rWaitsR ρ' t w = rWaitsR ρ t w ∧ rWaitsW ρ' t w = rWaitsW ρ t w := by
  have hW := hR.wait hT ht hD
  unfold rWaitsR rWaitsW
  rw [rRing_ag h hW ht]
  by_cases e : rRing (zw ρ (rWw t w)) t = 0
  · rw [if_pos e, if_pos e, if_pos e, if_pos e]
    exact ⟨rfl, rfl⟩
  · rw [if_neg e, if_neg e, if_neg e, if_neg e]
    have ev : rVic (zw ρ' (rWw t w)) (rRing (zw ρ (rWw t w)) t) = rVic (zw ρ (rWw t w)) (rRing (zw ρ (rWw t w)) t) := rVicL_ag h hW _ 4 (Nat.le_refl 4)
    rw [ev]
    obtain ⟨v, hv, e2⟩ := rVic_some (zw ρ (rWw t w)) ht e
    rw [e2, nI_clamp (by omega), rFallW_ag h hW hv]
    exact ⟨rfl, rfl⟩
theorem rTurn_ag {ρ ρ' : Nat → Nat → Int32} (h : rAg ρ ρ') (hT : rTr ρ) {w : Nat → Int32} (hR : rRw ρ w) {t : Nat} (ht : t < 4) : rTurnR ρ' t w = rTurnR ρ t w ∧ rTurnW ρ' t w = rTurnW ρ t w := by
  have hB := hR.beg t
  unfold rTurnR rTurnW
  generalize rBegW t w = v at hB ⊢
  rw [show rD (zw ρ' v) t = rD (zw ρ v) t from rfl, (h t ht).2.1]
  have eR : rEndR ρ' t = rEndR ρ t := by unfold rEndR; rw [(h t ht).2.2.2]
  have eW : ∀ u, rEndW ρ' t u = rEndW ρ t u := by intro u; unfold rEndW; rw [(h t ht).2.2.2]
  by_cases hD : rD (zw ρ v) t < rM ρ t
  · rw [if_pos hD, if_pos hD, if_pos hD, if_pos hD]
    have eh : rHldr ρ' t v (rD (zw ρ v) t) = rHldr ρ t v (rD (zw ρ v) t) := by
      unfold rHldr
      rw [((h t ht).2.2.1 _ hD).1, ((h t ht).2.2.1 _ hD).2.1]
      rw [rHold_ag h hB]
    have es : rStepW ρ' t v (rD (zw ρ v) t) = rStepW ρ t v (rD (zw ρ v) t) := by
      unfold rStepW
      rw [rG_ag h ht hD, ((h t ht).2.2.1 _ hD).2.2]
    rw [eh, es, eR, eW, (rWaits_ag h hT hB ht hD).1, (rWaits_ag h hT hB ht hD).2]
    exact ⟨rfl, rfl⟩
  · rw [if_neg hD, if_neg hD, if_neg hD, if_neg hD, eR, eW]
    exact ⟨rfl, rfl⟩
