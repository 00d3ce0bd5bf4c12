/-! rows stay rows -/
def tI (B : Nat) (τ : Nat → Nat → Int32) (w : Nat → Int32) : Prop := rRw τ w ∧ cSd τ w ∧ tNm B w
section
variable {B B' t : Nat} {τ : Nat → Nat → Int32} {w w' : Nat → Int32}
theorem tNm.mono (h : tNm B w) (hb : B ≤ B') : tNm B' w := by
  obtain ⟨h1, ⟨b, hb1, e⟩, h3, h4⟩ := h
  refine ⟨h1, ⟨b, by omega, e⟩, h3, fun t ht => ?_⟩
  rcases h4 t ht with g | ⟨b, g1, g2⟩
  · exact Or.inl g
  · exact Or.inr ⟨b, by omega, g2⟩
theorem tI.mono (h : tI B τ w) (hb : B ≤ B') : tI B' τ w := ⟨h.1, h.2.1, h.2.2.mono hb⟩
theorem tI.ag (h : tI B τ w) (hB : B < 2 ^ 30) : cAg w := by
  have ne : ∀ b, b ≤ B → ¬ nI b = Int32.minValue := fun b hb e => by
    have := nI_pos (n := b) (by omega)
    rw [e] at this
    exact this (by decide)
  obtain ⟨_, _, _, ⟨b, hb, e⟩, _, h4⟩ := h
  refine ⟨by rw [e]; exact ne b hb, fun t ht => ?_⟩
  rcases h4 t ht with g | ⟨b, g1, g2⟩
  · rw [g]; decide
  · rw [g2]; exact ne b g1
/-- one task's part changes -/
theorem tI.one (h : tI B τ w) (ht : t < 4) (hM : rM τ t ≤ 30) (ho : ∀ i, (i < 4 ∨ 10 ≤ i) → (i < 10 + 4 * t ∨ 14 + 4 * t ≤ i) → w' i = w i) {D st : Nat} (hD : w' (10 + 4 * t + 1) = nI D) (hDm : D ≤ rM τ t) (hst : w' (10 + 4 * t) = nI st) (h4 : st ≤ 4) (hw : st = 2 → D < rM τ t) (h0 : st = 0 → D = 0) (h3 : 3 ≤ st → D = rM τ t) (ha : w' (10 + 4 * t + 2) = -4 ∨ ∃ b, b ≤ B ∧ w' (10 + 4 * t + 2) = nI b) : tI B τ w' := by
  obtain ⟨r, c, ⟨n1, n2, n3, n4⟩⟩ := h
  refine ⟨r.one t (fun u hu hne => ⟨ho _ (by omega) (by omega), ho _ (by omega) (by omega)⟩) hD hDm hM hst h4 hw, fun u hu => ?_, ?_, ?_, ?_, fun u hu => ?_⟩
  · by_cases e : u = t
    · subst e
      have eD : rD (zw τ w') u = D := by rw [rD_zw, hD]; exact nI_clamp (by omega)
      rw [hst, hD, eD]
      exact ⟨fun g => by rw [h0 ((zeq (by omega) (by decide)).mp g)]; rfl, fun g => h3 ((zle_iff (by decide) (by omega)).mp g)⟩
    · have e1 := ho (10 + 4 * u) (by omega) (by omega)
      have e2 := ho (10 + 4 * u + 1) (by omega) (by omega)
      have eD : rD (zw τ w') u = rD (zw τ w) u := by rw [rD_zw, rD_zw, e2]
      rw [e1, e2, eD]
      exact c u hu
  · rw [ho 1 (by omega) (by omega)]; exact n1
  · rw [ho 2 (by omega) (by omega)]; exact n2
  · rw [ho 3 (by omega) (by omega)]; exact n3
  · by_cases e : u = t
    · subst e; exact ha
    · rw [ho _ (by omega) (by omega)]; exact n4 u hu
/-- nothing of states and steps changes -/
theorem tI.same (h : tI B τ w) (ho : ∀ i, 10 ≤ i → w' i = w i) (h1 : ∃ r, r < 5 ∧ w' 1 = nI r) (h2 : ∃ b, b ≤ B ∧ w' 2 = nI b) (h3 : 0 ≤ w' 3) : tI B τ w' := by
  obtain ⟨r, c, ⟨n1, n2, n3, n4⟩⟩ := h
  refine ⟨r.agree (fun u hu => ⟨ho _ (by omega), ho _ (by omega)⟩), fun u hu => ?_, h1, h2, h3, fun u hu => by rw [ho _ (by omega)]; exact n4 u hu⟩
  have e1 := ho (10 + 4 * u) (by omega)
  have e2 := ho (10 + 4 * u + 1) (by omega)
  have eD : rD (zw τ w') u = rD (zw τ w) u := by rw [rD_zw, rD_zw, e2]
  rw [e1, e2, eD]
  exact c u hu
theorem tI.beg (h : tI B τ w) (ht : t < 4) : tI (B + 1) τ (rBegW t w) := by
  unfold rBegW
  by_cases e : w (10 + 4 * t) = 0
  · rw [if_pos e]
    obtain ⟨r, c, ⟨n1, ⟨b, hb, eb⟩, n3, n4⟩⟩ := h
    have at' : ∀ i, ¬ i = 2 → ¬ i = 10 + 4 * t + 2 → zup (zup w (10 + 4 * t + 2) (w 2)) 2 (w 2 + nI 1) i = w i := fun i g1 g2 => by rw [zup_n _ _ g1, zup_n _ _ g2]
    refine ⟨r.agree (fun u hu => ⟨at' _ (by omega) (by omega), at' _ (by omega) (by omega)⟩), fun u hu => ?_, ?_, ⟨b + 1, by omega, ?_⟩, ?_, fun u hu => ?_⟩
    · have e1 := at' (10 + 4 * u) (by omega) (by omega)
      have e2 := at' (10 + 4 * u + 1) (by omega) (by omega)
      have eD : rD (zw τ (zup (zup w (10 + 4 * t + 2) (w 2)) 2 (w 2 + nI 1))) u = rD (zw τ w) u := by rw [rD_zw, rD_zw, e2]
      rw [e1, e2, eD]
      exact c u hu
    · rw [at' 1 (by omega) (by omega)]; exact n1
    · rw [zup_s, eb]; exact nI_add b 1
    · rw [at' 3 (by omega) (by omega)]; exact n3
    · by_cases g : u = t
      · subst g
        rw [zup_n _ _ (by omega), zup_s]
        exact Or.inr ⟨b, by omega, eb⟩
      · rw [at' _ (by omega) (by omega)]
        rcases n4 u hu with g | ⟨b, g1, g2⟩
        · exact Or.inl g
        · exact Or.inr ⟨b, by omega, g2⟩
  · rw [if_neg e]
    exact h.mono (by omega)
theorem tI.fall (hT : rTr τ) (h : tI B τ w) (ht : t < 4) : tI B τ (rFallW τ t w) := by
  have hg := rGall_of hT h.1 t ht
  refine h.one ht (hT t ht).2.1 (fun i h1 h2 => ?_) (D := 0) (st := 0) ?_ (by omega) ?_ (by omega) (fun g => absurd g (by decide)) (fun _ => rfl) (fun g => absurd g (by decide)) (Or.inl ?_)
  · unfold rFallW rIdleW
    rw [zup_n _ _ (by omega), zup_n _ _ (by omega), zup_n _ _ (by omega), zup_n _ _ (by omega)]
    exact rComeW_at _ _ h1 _ hg
  · unfold rFallW rIdleW
    rw [zup_n _ _ (by omega), zup_s]
  · unfold rFallW rIdleW
    rw [zup_n _ _ (by omega), zup_n _ _ (by omega), zup_s]
  · unfold rFallW rIdleW
    rw [zup_s]
theorem tI.wait (hT : rTr τ) (h : tI B τ w) (ht : t < 4) (hD : rD (zw τ w) t < rM τ t) : tI B τ (rWw t w) := by
  refine h.one ht (hT t ht).2.1 (fun i h1 h2 => ?_) (D := rD (zw τ w) t) (st := 2) ?_ (by omega) ?_ (by omega) (fun _ => hD) (fun g => absurd g (by decide)) (fun g => absurd g (by decide)) ?_
  · unfold rWw; exact zup_n _ _ (by omega)
  · unfold rWw; rw [zup_n _ _ (by omega)]; exact (h.1 t ht).1
  · unfold rWw; exact zup_s _ _ _
  · unfold rWw; rw [zup_n _ _ (by omega)]; exact h.2.2.2.2.2 t ht
theorem tI.waits (hT : rTr τ) (h : tI B τ w) (ht : t < 4) (hD : rD (zw τ w) t < rM τ t) : tI B τ (rWaitsW τ t w) := by
  have hW := h.wait hT ht hD
  unfold rWaitsW
  split
  · exact hW
  · split
    · exact hW
    · rename_i g _
      obtain ⟨v, hv, e2⟩ := rVic_some (zw τ (rWw t w)) ht g
      rw [e2, nI_clamp (by omega)]
      exact hW.fall hT hv
theorem tI.turn (hT : rTr τ) (h : tI B τ w) (ht : t < 4) : tI (B + 1) τ (rTurnW τ t w) := by
  have hB := h.beg ht
  have hm := hT t ht
  unfold rTurnW
  generalize rBegW t w = v at hB ⊢
  have ends : ∀ v', tI (B + 1) τ v' → rD (zw τ v') t = rM τ t → tI (B + 1) τ (rEndW τ t v') := by
    intro v' h' e'
    have hd := h'.1 t ht
    refine h'.one ht hm.2.1 (fun i h1 h2 => ?_) (D := rD (zw τ v') t) (st := if τ 14 t = 0 then 3 else 4) ?_ hd.2.1 ?_ (by split <;> omega) (fun g => ?_) (fun g => ?_) (fun _ => e') ?_
    · unfold rEndW; exact zup_n _ _ (by omega)
    · unfold rEndW; rw [zup_n _ _ (by omega)]; exact hd.1
    · unfold rEndW
      rw [zup_s]
      split <;> rfl
    · exfalso
      by_cases e : τ 14 t = 0
      · rw [if_pos e] at g; omega
      · rw [if_neg e] at g; omega
    · exfalso
      by_cases e : τ 14 t = 0
      · rw [if_pos e] at g; omega
      · rw [if_neg e] at g; omega
    · unfold rEndW; rw [zup_n _ _ (by omega)]; exact h'.2.2.2.2.2 t ht
  split
  · rename_i hD
    have hg := (hm.2.2 _ hD).2
    have eD1 : rStepW τ t v (rD (zw τ v) t) (10 + 4 * t + 1) = nI (rD (zw τ v) t + 1) := by
      unfold rStepW
      rw [zup_n _ _ (by omega), zup_s]
    have stp : ∀ st, (st = 1 ∨ (3 ≤ st ∧ st ≤ 4 ∧ rD (zw τ v) t + 1 = rM τ t)) → ∀ v', (∀ i, ¬ i = 10 + 4 * t → v' i = rStepW τ t v (rD (zw τ v) t) i) → v' (10 + 4 * t) = nI st → tI (B + 1) τ v' := by
      intro st hs v' f1 f2
      refine hB.one ht hm.2.1 (fun i h1 h2 => ?_) (D := rD (zw τ v) t + 1) (st := st) ?_ (by omega) f2 (by omega) (fun g => by omega) (fun g => by omega) (fun g => by omega) ?_
      · rw [f1 i (by omega)]
        unfold rStepW
        rw [zup_n _ _ (by omega), zup_n _ _ (by omega), zup_n _ _ (by omega)]
      · rw [f1 _ (by omega)]; exact eD1
      · rw [f1 _ (by omega)]
        unfold rStepW
        rw [zup_n _ _ (by omega), zup_n _ _ (by omega), zup_n _ _ (by omega)]
        exact hB.2.2.2.2.2 t ht
    split
    · exact hB.waits hT ht hD
    · split
      · refine stp 1 (Or.inl rfl) _ (fun _ _ => rfl) ?_
        unfold rStepW
        rw [zup_n _ _ (by omega), zup_n _ _ (by omega), zup_s]
      · rename_i h1
        by_cases e : τ 14 t = 0
        · refine stp 3 (Or.inr ⟨by omega, by omega, by omega⟩) _ (fun i g => ?_) ?_
          · unfold rEndW; exact zup_n _ _ g
          · unfold rEndW; rw [zup_s, if_pos e]
        · refine stp 4 (Or.inr ⟨by omega, by omega, by omega⟩) _ (fun i g => ?_) ?_
          · unfold rEndW; exact zup_n _ _ g
          · unfold rEndW; rw [zup_s, if_neg e]
  · rename_i hD
    have := (hB.1 t ht).2.1
    exact ends v hB (by omega)
theorem tI.drw (h : tI B τ w) : tI B τ (rDrwW w) := by
  obtain ⟨_, _, ⟨n1, n2, n3, n4⟩⟩ := id h
  refine h.same (fun i g => rDrwW_at w (by omega)) (by rw [rDrwW_at w (by omega)]; exact n1) (by rw [rDrwW_at w (by omega)]; exact n2) ?_
  obtain ⟨m, hm, e⟩ := rDrw_nat w
  unfold rDrwW
  rw [zup_s, e]
  exact Int32.not_lt.mp (nI_pos (by omega))
theorem tI.layL (hT : rTr τ) (h : tI B τ w) : ∀ n, n ≤ 4 → tI B τ (rLayL τ w n) := by
  intro n
  induction n with
  | zero => exact fun _ => h
  | succ n ih =>
    intro hn
    have h1 := ih (by omega)
    have hg := rGall_of hT h1.1 n (by omega)
    refine h1.one (by omega) (hT n (by omega)).2.1 (fun i g1 g2 => rLay1_at hg g1 g2) (D := 0) (st := 0) ?_ (by omega) ?_ (by omega) (fun g => absurd g (by decide)) (fun _ => rfl) (fun g => absurd g (by decide)) (Or.inl ?_)
    · show rLay1 τ n _ _ = _
      unfold rLay1 rIdleW
      rw [zup_n _ _ (by omega), zup_n _ _ (by omega), zup_s]
    · show rLay1 τ n _ _ = _
      unfold rLay1 rIdleW
      rw [zup_n _ _ (by omega), zup_n _ _ (by omega), zup_n _ _ (by omega), zup_s]
    · show rLay1 τ n _ _ = _
      unfold rLay1 rIdleW
      rw [zup_n _ _ (by omega), zup_s]
theorem tI.lay (hT : rTr τ) (h : tI B τ w) : tI B τ (zup (rLayL τ w 4) 2 (nI 0)) := by
  have h1 := h.layL hT 4 (Nat.le_refl _)
  obtain ⟨_, _, ⟨n1, n2, n3, n4⟩⟩ := id h1
  exact h1.same (fun i g => zup_n _ _ (by omega)) (by rw [zup_n _ _ (by omega)]; exact n1) ⟨0, by omega, zup_s _ _ _⟩ (by rw [zup_n _ _ (by omega)]; exact n3)
theorem tI.rule (h : tI B τ w) {r : Nat} (hr : r < 5) : tI B τ (zup w 1 (nI r)) := by
  obtain ⟨_, _, ⟨n1, n2, n3, n4⟩⟩ := id h
  exact h.same (fun i g => zup_n _ _ (by omega)) ⟨r, hr, zup_s _ _ _⟩ (by rw [zup_n _ _ (by omega)]; exact n2) (by rw [zup_n _ _ (by omega)]; exact n3)
theorem tI.go1 (hT : rTr τ) (h : tI B τ w) (hl : aGoT w < 4) : tI (B + 1) τ (aGo1 τ w) := h.drw.turn hT hl
theorem tI.dr1 (hT : rTr τ) (h : tI B τ w) : tI (B + 1) τ (aDr1 τ w) := by
  unfold aDr1
  split
  · unfold rLaysW
    split
    · exact h.drw.mono (by omega)
    · exact (h.drw.lay hT).mono (by omega)
  · split
    · exact (h.drw.rule (Nat.mod_lt _ (by decide))).mono (by omega)
    · split
      · exact h.drw.mono (by omega)
      · exact h.drw.turn hT (Nat.mod_lt _ (by decide))
end
theorem tTx.to {w w' : Nat → Int32} (h : tTx w) (hx : ∀ i, (i = 0 ∨ 26 ≤ i) → w' i = w i) : tTx w' := by
  have eL : ∀ t, tL w' t = tL w t := tL_eq fun i g => hx i (Or.inr g)
  have eG : tG w' = tG w := by unfold tG; rw [hx 0 (Or.inl rfl)]
  unfold tTx
  rw [eG, hx 0 (Or.inl rfl)]
  refine ⟨h.1, fun t ht => ?_⟩
  rw [eL t, hx _ (Or.inr (by omega))]
  have := h.2 t ht
  exact ⟨⟨this.1.1, fun k hk => by rw [hx _ (Or.inr (by omega))]; exact this.1.2 k hk⟩, this.2⟩
theorem tτ_eq {w w' : Nat → Int32} (hx : ∀ i, (i = 0 ∨ 26 ≤ i) → w' i = w i) : tτ w' = tτ w := by
  unfold tτ
  congr 1
  funext t
  exact tTr_eq hx t
theorem tRow.ti {B : Nat} {w : Nat → Int32} (h : tRow B w) : tI B (tτ w) w ∧ cUq (tτ w) w := by
  obtain ⟨_, hx, hR, hS, hN⟩ := h
  refine ⟨⟨hR, fun t ht => ⟨(hS.1 t ht).1, fun g => ?_⟩, hN⟩, hS.2⟩
  rw [(hS.1 t ht).2 g, rM_of hx (rTrs_τ hx) ht]
theorem tRow.mk {B : Nat} {w : Nat → Int32} (hz : zEnd w) (hx : tTx w) (h : tI B (tτ w) w) (hu : cUq (tτ w) w) : tRow B w := by
  refine ⟨hz, hx, h.1, ⟨fun t ht => ⟨(h.2.1 t ht).1, fun g => ?_⟩, hu⟩, h.2.2⟩
  rw [(h.2.1 t ht).2 g, rM_of hx (rTrs_τ hx) ht]
theorem tRow.to {B B' : Nat} {w w' : Nat → Int32} (h : tRow B w) (hx : ∀ i, (i = 0 ∨ 26 ≤ i) → w' i = w i) (hi : tI B' (tτ w) w') (hu : cUq (tτ w) w') : tRow B' w' := by
  have e := tτ_eq hx
  refine tRow.mk (fun i g => by rw [hx i (Or.inr (by omega))]; exact h.1 i g) (h.2.1.to hx) ?_ ?_
  · rw [e]; exact hi
  · rw [e]; exact hu
theorem tRow.mono {B B' : Nat} {w : Nat → Int32} (h : tRow B w) (hb : B ≤ B') : tRow B' w := ⟨h.1, h.2.1, h.2.2.1, h.2.2.2.1, h.2.2.2.2.mono hb⟩
theorem zGood.mono {B B' : Nat} {σ : zSt} (h : zGood B σ) (hb : B ≤ B') : zGood B' σ := ⟨h.1.mono hb, ⟨h.2.1.1, fun x hx => (h.2.1.2 x hx).mono hb⟩, fun k hk => ⟨(h.2.2.1 k hk).1.mono hb, (h.2.2.1 k hk).2.1, fun x hx => ((h.2.2.1 k hk).2.2 x hx).mono hb⟩, h.2.2.2⟩
/-- a row is kept, another comes -/
theorem zGood.note {B B' : Nat} {σ : zSt} {w' : Nat → Int32} (h : zGood B σ) (hb : B ≤ B') (hw : tRow B' w') : zGood B' (w', hNote σ.H σ.w, σ.2.2) := by
  obtain ⟨h1, ⟨h2, h3⟩, h4, h5⟩ := h.mono hb
  refine ⟨hw, ⟨hNote_len h2, fun x hx => ?_⟩, h4, h5⟩
  unfold hNote at hx
  have hx : x ∈ (if σ.H.length = 6 then σ.H.tail else σ.H) ++ [σ.w] := hx
  rcases List.mem_append.mp hx with g | g
  · split at g
    · exact h3 x (List.mem_of_mem_tail g)
    · exact h3 x g
  · rw [List.mem_singleton.mp g]; exact h1
