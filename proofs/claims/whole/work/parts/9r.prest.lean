/-! tables at rest -/
theorem aBusy_no {w : Nat → Int32} (h : aBusy w = 0) : ∀ u, u < 4 → ¬ w (10 + 4 * u) = nI 1 ∧ ¬ w (10 + 4 * u) = nI 2 := by
  have key : ∀ n, rBusyL (zw zO w) n = 0 → ∀ u, u < n → ¬ w (10 + 4 * u) = nI 1 ∧ ¬ w (10 + 4 * u) = nI 2 := by
    intro n
    induction n with
    | zero => intro _ u hu; exact absurd hu (Nat.not_lt_zero u)
    | succ n ih =>
      intro h u hu
      have h : (if ¬ rBusyL (zw zO w) n = 0 then nI 1 else if w (10 + 4 * n) = nI 1 then nI 1 else if w (10 + 4 * n) = nI 2 then nI 1 else nI 0) = 0 := h
      by_cases a : rBusyL (zw zO w) n = 0
      · rw [if_neg (fun g => g a)] at h
        by_cases b : w (10 + 4 * n) = nI 1
        · rw [if_pos b] at h; exact absurd h (by decide)
        · rw [if_neg b] at h
          by_cases c : w (10 + 4 * n) = nI 2
          · rw [if_pos c] at h; exact absurd h (by decide)
          · by_cases e : u = n
            · subst e; exact ⟨b, c⟩
            · exact ih a u (by omega)
      · rw [if_pos a] at h; exact absurd h (by decide)
  exact key 4 h
def tRest (w : Nat → Int32) : Prop := ∀ u, u < 4 → (w (10 + 4 * u) = nI 0 ∧ w (10 + 4 * u + 1) = nI 0) ∨ ∃ s, 3 ≤ s ∧ s ≤ 4 ∧ w (10 + 4 * u) = nI s ∧ w (10 + 4 * u + 1) = nI (tTr w u).n
theorem tRest_of {B : Nat} {w : Nat → Int32} (h : tRow B w) (hb : aBusy w = 0) : tRest w := by
  intro u hu
  obtain ⟨_, hx, hR, hS, _⟩ := h
  obtain ⟨r1, r2, r3, s, hs, es⟩ := hR u hu
  have nb := aBusy_no hb u hu
  have s1 := hS.1 u hu
  by_cases s0 : s = 0
  · subst s0
    exact Or.inl ⟨es, s1.1 es⟩
  · have s1' : ¬ s = 1 := fun e => nb.1 (by rw [es, e])
    have s2' : ¬ s = 2 := fun e => nb.2 (by rw [es, e])
    refine Or.inr ⟨s, by omega, hs, es, ?_⟩
    rw [r1, s1.2 (by rw [es]; exact (zle_iff (by decide) (by omega)).mpr (by omega))]
theorem rIns_none {τ : Nat → Nat → Int32} {t : Nat} {x : Int32} : ∀ n, (∀ k, k < n → ¬ τ 11 (30 * t + k) = x) → rIns τ t n x = nI 0 := by
  intro n
  induction n with
  | zero => intro _; rfl
  | succ n ih =>
    intro h
    unfold rIns
    rw [ih (fun k hk => h k (by omega)), if_neg (h n (by omega))]
    rfl
/-- nobody is in a gate -/
theorem rest_free {w : Nat → Int32} (hx : tTx w) (hr : tRest w) {u : Nat} (hu : u < 4) (x : Int32) : ¬ 0 < rIns (tτ w) u (rD (zw (tτ w) w) u) x := by
  have ok := tTr_ok hx hu
  have zt := rTrs_τ hx u hu
  have h30 := ok.1
  rcases hr u hu with ⟨_, e⟩ | ⟨s, _, _, _, e⟩
  · have : rD (zw (tτ w) w) u = 0 := by rw [rD_zw, e]; rfl
    rw [this]
    show ¬ (0 : Int32) < nI 0
    decide
  · have eD : rD (zw (tτ w) w) u = (tTr w u).n := by rw [rD_zw, e]; exact nI_clamp (by omega)
    rw [eD]
    by_cases g : ∃ g, g < 6 ∧ x = nI g
    · obtain ⟨g, hg, ex⟩ := g
      subst ex
      rw [rIns_t zt (nI g) _ (Nat.le_refl _), ok.2.2.1 g hg]
      exact fun q => absurd q (by decide)
    · rw [rIns_none _ (fun k hk e => ?_)]
      · exact fun q => absurd q (by decide)
      · obtain ⟨kd, G, _, hG, _, eg, _⟩ := ok.2.1 k hk
        rw [(zt.2.1 k hk).2.1] at e
        exact g ⟨G, hG, e.symm.trans eg⟩
theorem rest_wait {w : Nat → Int32} (hr : tRest w) {u : Nat} (hu : u < 4) : ¬ w (10 + 4 * u) = nI 2 := by
  rcases hr u hu with ⟨e, _⟩ | ⟨s, h3, h4, e, _⟩
  · rw [e]; decide
  · rw [e]; intro g; have := (zeq (by omega) (by decide)).mp g; omega
theorem rest_row {B : Nat} {w : Nat → Int32} (hz : zEnd w) (hx : tTx w) (hr : tRest w) (hn : tNm B w) : tRow B w := by
  refine tRow.mk hz hx ⟨fun u hu => ?_, fun u hu => ?_, hn⟩ (fun g t u ht _ h1 _ => absurd h1 (rest_free hx hr ht _))
  · have eM := rM_of hx (rTrs_τ hx) hu
    have h30 := (tTr_ok hx hu).1
    rw [eM]
    rcases hr u hu with ⟨e1, e2⟩ | ⟨s, h3, h4, e1, e2⟩
    · have : rD (zw (tτ w) w) u = 0 := by rw [rD_zw, e2]; rfl
      rw [this, e1, e2]
      exact ⟨rfl, Nat.zero_le _, fun g => absurd g (by decide), 0, by decide, rfl⟩
    · have eD : rD (zw (tτ w) w) u = (tTr w u).n := by rw [rD_zw, e2]; exact nI_clamp (by omega)
      rw [eD, e1, e2]
      exact ⟨rfl, Nat.le_refl _, fun g => by have := (zeq (by omega) (by decide)).mp g; omega, s, h4, rfl⟩
  · have eM := rM_of hx (rTrs_τ hx) hu
    have h30 := (tTr_ok hx hu).1
    rw [eM]
    rcases hr u hu with ⟨e1, e2⟩ | ⟨s, h3, h4, e1, e2⟩
    · rw [e1, e2]
      exact ⟨fun _ => rfl, fun g => absurd g (by decide)⟩
    · have eD : rD (zw (tτ w) w) u = (tTr w u).n := by rw [rD_zw, e2]; exact nI_clamp (by omega)
      rw [eD, e1]
      exact ⟨fun g => by have := (zeq (b := 0) (by omega) (by decide)).mp g; omega, fun _ => rfl⟩
/-- what a table at rest tells -/
def cE (ρ : Nat → Nat → Int32) (w : Nat → Int32) : Prop := (ρ 0 2 = w 0 ∧ ρ 0 3 = w 1 ∧ ρ 0 4 = w 3 ∧ ρ 0 5 = w 2) ∧ (∀ g, g < 6 → ρ 3 g = w (4 + g) ∧ ρ 4 g = -4 ∧ ρ 5 g = nI 0) ∧ ∀ t, t < 4 → ρ 6 t = w (10 + 4 * t) ∧ ρ 7 t = w (10 + 4 * t + 1) ∧ ρ 8 t = -4 ∧ ρ 9 t = w (10 + 4 * t + 2) ∧ ρ 10 t = w (10 + 4 * t + 3)
theorem cE_iff {ρ : Nat → Nat → Int32} {w : Nat → Int32} (hx : tTx w) (hr : tRest w) : cTI (tτ w) ρ w ↔ cE ρ w := by
  have hu : cUq (tτ w) w := fun g t u ht _ h1 _ => absurd h1 (rest_free hx hr ht _)
  have hh : ∀ g, rHold (zw (tτ w) w) (nI g) = -4 ∧ aDeep (tτ w) w (nI g) = nI 0 := fun g => by
    have := cHd_of hu (g := g) (x := -4) (y := nI 0) (Or.inr ⟨rfl, rfl, fun t ht => rest_free hx hr ht _⟩)
    exact ⟨this.1.symm, this.2.symm⟩
  have hw : ∀ t, t < 4 → rWait (zw (tτ w) w) t = -4 := fun t ht => rWait_n (rest_wait hr ht)
  unfold cTI cE
  constructor
  · intro ⟨a, b, c⟩
    exact ⟨a, fun g hg => by rw [← (hh g).1, ← (hh g).2]; exact b g hg, fun t ht => by rw [← hw t ht]; exact c t ht⟩
  · intro ⟨a, b, c⟩
    exact ⟨a, fun g hg => by rw [(hh g).1, (hh g).2]; exact b g hg, fun t ht => by rw [hw t ht]; exact c t ht⟩
/-- a task rests -/
theorem cE_idle {ρ : Nat → Nat → Int32} {w w' : Nat → Int32} {t : Nat} (ht : t < 4) (h : cE ρ w) (ho : ∀ i, i < 26 → ¬ (10 + 4 * t ≤ i ∧ i ≤ 10 + 4 * t + 2) → w' i = w i) (h0 : w' (10 + 4 * t) = nI 0) (h1 : w' (10 + 4 * t + 1) = nI 0) (h2 : w' (10 + 4 * t + 2) = -4) : cE (cIdR t ρ) w' := by
  obtain ⟨⟨a1, a2, a3, a4⟩, b, c⟩ := h
  have e : ∀ q i, cIdR t ρ q i = if i = t ∧ q = 9 then -4 else if i = t ∧ q = 8 then -4 else if i = t ∧ q = 7 then nI 0 else if i = t ∧ q = 6 then nI 0 else ρ q i := by
    intro q i
    unfold cIdR
    simp only [zu_v, and_comm]
  refine ⟨?_, fun g hg => ?_, fun u hu => ?_⟩
  · rw [e, e, e, e]
    simp
    rw [ho 0 (by omega) (by omega), ho 1 (by omega) (by omega), ho 2 (by omega) (by omega), ho 3 (by omega) (by omega)]
    exact ⟨a1, a2, a3, a4⟩
  · rw [e, e, e]
    simp
    rw [ho _ (by omega) (by omega)]
    exact b g hg
  · by_cases eu : u = t
    · subst eu
      have e6 : cIdR u ρ 6 u = nI 0 := by rw [e]; simp
      have e7 : cIdR u ρ 7 u = nI 0 := by rw [e]; simp
      have e8 : cIdR u ρ 8 u = -4 := by rw [e]; simp
      have e9 : cIdR u ρ 9 u = -4 := by rw [e]; simp
      have e10 : cIdR u ρ 10 u = ρ 10 u := by rw [e]; simp
      rw [e6, e7, e8, e9, e10, h0, h1, h2, ho (10 + 4 * u + 3) (by omega) (by omega)]
      exact ⟨rfl, rfl, rfl, rfl, (c u hu).2.2.2.2⟩
    · have eo : ∀ q, cIdR t ρ q u = ρ q u := fun q => by rw [e]; simp [eu]
      rw [eo, eo, eo, eo, eo, ho _ (by omega) (by omega), ho _ (by omega) (by omega), ho _ (by omega) (by omega), ho _ (by omega) (by omega)]
      exact c u hu
theorem aProgW_lo {t : Nat} (D : List Nat) (w : Nat → Int32) {i : Nat} (hi : i < 26) (hn : ¬ (10 + 4 * t ≤ i ∧ i ≤ 10 + 4 * t + 2)) : aProgW t D w i = w i := by
  unfold aProgW
  rw [rIdleW_at _ (by omega)]
  unfold aTxtW
  rw [if_neg (by omega), if_neg (by omega)]
theorem aProgW_t {t : Nat} (D : List Nat) (w : Nat → Int32) : aProgW t D w (10 + 4 * t) = nI 0 ∧ aProgW t D w (10 + 4 * t + 1) = nI 0 ∧ aProgW t D w (10 + 4 * t + 2) = -4 := by
  unfold aProgW rIdleW
  refine ⟨?_, ?_, zup_s _ _ _⟩
  · rw [zup_n _ _ (by omega), zup_n _ _ (by omega), zup_s]
  · rw [zup_n _ _ (by omega), zup_s]
theorem aProgW_o {t u : Nat} {w : Nat → Int32} (h : tTx w) (ht : t < 4) (hu : u < 4) (hne : ¬ u = t) (D : List Nat) : tL (aProgW t D w) u = tL w u := by
  obtain ⟨⟨a1, a2⟩, a3, _⟩ := h.2 u hu
  have l60 := a3.1
  have eh : ∀ k, k ≤ 60 → aProgW t D w (26 + 61 * u + k) = w (26 + 61 * u + k) := by
    intro k hk
    rw [aProgW_hi ht _ _ (by omega)]
    unfold aTxtW
    rw [if_neg (by omega), if_neg (by omega)]
  have q0 : aProgW t D w (26 + 61 * u) = w (26 + 61 * u) := eh 0 (by omega)
  unfold tL
  rw [q0]
  apply List.map_congr_left
  intro k hk
  have hk := List.mem_range.mp hk
  rw [a1, nI_clamp (by omega)] at hk
  have := eh (1 + k) (by omega)
  rw [← Nat.add_assoc] at this
  rw [this]
theorem aProgW_G {t : Nat} (D : List Nat) (w : Nat → Int32) : tG (aProgW t D w) = tG w := by
  unfold tG
  rw [aProgW_lo D w (by omega) (by omega)]
theorem aProgW_Tr {t u : Nat} {w : Nat → Int32} (h : tTx w) (ht : t < 4) (hu : u < 4) {D : List Nat} (hD : isBody D) : tTr (aProgW t D w) u = if u = t then pTrace D (tG w) else tTr w u := by
  unfold tTr
  rw [aProgW_G]
  by_cases e : u = t
  · subst e
    rw [if_pos rfl, aProgW_tL ht hD.1 (fun x hx => (hD.2.1 x hx).2)]
  · rw [if_neg e, aProgW_o h ht hu e]
theorem prog_ov {t : Nat} {w : Nat → Int32} (h : tTx w) (ht : t < 4) {D : List Nat} (hD : isBody D) : tOv (aProgW t D w) ↔ pOver D (tG w) := by
  have eL := aProgW_tL ht hD.1 (fun x hx => (hD.2.1 x hx).2) w
  constructor
  · intro ⟨u, hu, g⟩
    rw [aProgW_G] at g
    by_cases e : u = t
    · subst e; rw [eL] at g; exact g
    · rw [aProgW_o h ht hu e] at g
      exact absurd g (h.2 u hu).2.2
  · intro g
    exact ⟨t, ht, by rw [aProgW_G, eL]; exact g⟩
theorem prog_row {B t : Nat} {w : Nat → Int32} (h : tRow B w) (hb : aBusy w = 0) (ht : t < 4) {D : List Nat} (hD : isBody D) (ho : ¬ pOver D (tG w)) : tRow B (aProgW t D w) ∧ tTx (aProgW t D w) ∧ tRest (aProgW t D w) := by
  have hx := h.2.1
  have hx' : tTx (aProgW t D w) := (aProgW_tb hx ht hD).tx (fun g => ho ((prog_ov hx ht hD).mp g))
  have hr := tRest_of h hb
  have l60 := hD.1
  have hr' : tRest (aProgW t D w) := by
    intro u hu
    by_cases e : u = t
    · subst e; exact Or.inl ⟨(aProgW_t D w).1, (aProgW_t D w).2.1⟩
    · rw [aProgW_lo D w (by omega) (by omega), aProgW_lo D w (by omega) (by omega), aProgW_Tr hx ht hu hD, if_neg e]
      exact hr u hu
  refine ⟨rest_row (fun i hi => ?_) hx' hr' ?_, hx', hr'⟩
  · rw [aProgW_hi ht D w (by omega)]
    unfold aTxtW
    rw [if_neg (by omega), if_neg (by omega)]
    exact h.1 i hi
  · obtain ⟨n1, n2, n3, n4⟩ := h.2.2.2.2
    refine ⟨by rw [aProgW_lo D w (by omega) (by omega)]; exact n1, by rw [aProgW_lo D w (by omega) (by omega)]; exact n2, by rw [aProgW_lo D w (by omega) (by omega)]; exact n3, fun u hu => ?_⟩
    by_cases e : u = t
    · subst e; exact Or.inl (aProgW_t D w).2.2
    · rw [aProgW_lo D w (by omega) (by omega)]; exact n4 u hu
/-- gates are gone -/
theorem rIdL_t (w : Nat → Int32) : ∀ n, n ≤ 4 → ∀ u, u < n → rIdL w n (10 + 4 * u) = nI 0 ∧ rIdL w n (10 + 4 * u + 1) = nI 0 ∧ rIdL w n (10 + 4 * u + 2) = -4 := by
  intro n
  induction n with
  | zero => intro _ u hu; exact absurd hu (Nat.not_lt_zero u)
  | succ n ih =>
    intro hn u hu
    show rIdleW n (rIdL w n) _ = _ ∧ rIdleW n (rIdL w n) _ = _ ∧ rIdleW n (rIdL w n) _ = _
    by_cases e : u = n
    · subst e
      unfold rIdleW
      refine ⟨?_, ?_, zup_s _ _ _⟩
      · rw [zup_n _ _ (by omega), zup_n _ _ (by omega), zup_s]
      · rw [zup_n _ _ (by omega), zup_s]
    · rw [rIdleW_at _ (by omega), rIdleW_at _ (by omega), rIdleW_at _ (by omega)]
      exact ih (by omega) u (by omega)
theorem rIdL_3 (w : Nat → Int32) (u : Nat) (hu : u < 4) : ∀ n, n ≤ 4 → rIdL w n (10 + 4 * u + 3) = w (10 + 4 * u + 3) := by
  intro n
  induction n with
  | zero => intro _; rfl
  | succ n ih =>
    intro hn
    show rIdleW n (rIdL w n) _ = _
    rw [rIdleW_at _ (by omega)]
    exact ih (by omega)
theorem gone_row {B g : Nat} {w : Nat → Int32} (h : tRow B w) (hg : g < 6) (ho : ¬ tOv (aGoneW g w)) : tRow B (aGoneW g w) ∧ tTx (aGoneW g w) ∧ tRest (aGoneW g w) := by
  have hx' : tTx (aGoneW g w) := (aGoneW_tb h.2.1 hg).tx ho
  have hr' : tRest (aGoneW g w) := fun u hu => Or.inl ⟨(rIdL_t _ 4 (Nat.le_refl _) u hu).1, (rIdL_t _ 4 (Nat.le_refl _) u hu).2.1⟩
  refine ⟨rest_row (fun i hi => ?_) hx' hr' ?_, hx', hr'⟩
  · unfold aGoneW
    rw [rIdL_at _ (by omega) 4 (Nat.le_refl _), zup_n _ _ (by omega)]
    exact h.1 i hi
  · obtain ⟨n1, n2, n3, n4⟩ := h.2.2.2.2
    have at' : ∀ i, 0 < i → i < 10 → aGoneW g w i = w i := fun i h0 h1 => by
      unfold aGoneW
      rw [rIdL_at _ (by omega) 4 (Nat.le_refl _), zup_n _ _ (by omega)]
    exact ⟨by rw [at' 1 (by omega) (by omega)]; exact n1, by rw [at' 2 (by omega) (by omega)]; exact n2, by rw [at' 3 (by omega) (by omega)]; exact n3, fun u hu => Or.inl (rIdL_t _ 4 (Nat.le_refl _) u hu).2.2⟩
theorem aGoneW_tr {g u : Nat} {w : Nat → Int32} : tL (aGoneW g w) u = tL w u := by
  refine tL_eq (fun i hi => ?_) u
  unfold aGoneW
  rw [rIdL_at _ (by omega) 4 (Nat.le_refl _), zup_n _ _ (by omega)]
theorem aGoneW_0 {g : Nat} {w : Nat → Int32} (hx : tTx w) (hg : g < 6) : aGoneW g w 0 = nI (tG w ^^^ 2 ^ g) ∧ tG (aGoneW g w) = tG w ^^^ 2 ^ g ∧ tG w ^^^ 2 ^ g < 64 := by
  have z := zxor6 hg hx.1.2
  have e : aGoneW g w 0 = nI (tG w ^^^ 2 ^ g) := by
    unfold aGoneW
    rw [rIdL_at _ (by omega) 4 (Nat.le_refl _), zup_s, hx.1.1]
    exact z.1
  refine ⟨e, ?_, z.2⟩
  show (aGoneW g w 0).toNatClampNeg = _
  rw [e]; exact nI_clamp (by omega)
