/-! the reference: a turn, whole -/
/-- traces are as traces are -/
def rTr (ρ : Nat → Nat → Int32) : Prop := ∀ t, t < 4 → ρ 13 t = nI (rM ρ t) ∧ rM ρ t ≤ 30 ∧ rGok ρ t (rM ρ t)
/-- a row is as rows are -/
def rRw (ρ : Nat → Nat → Int32) (w : Nat → Int32) : Prop := ∀ t, t < 4 → w (10 + 4 * t + 1) = nI (rD (zw ρ w) t) ∧ rD (zw ρ w) t ≤ rM ρ t ∧ (w (10 + 4 * t) = nI 2 → rD (zw ρ w) t < rM ρ t) ∧ ∃ s, s ≤ 4 ∧ w (10 + 4 * t) = nI s
theorem rD_zw (ρ : Nat → Nat → Int32) (w : Nat → Int32) (t : Nat) : rD (zw ρ w) t = (w (10 + 4 * t + 1)).toNatClampNeg := rfl
theorem rDok_of {ρ : Nat → Nat → Int32} {w : Nat → Int32} (hT : rTr ρ) (hR : rRw ρ w) : rDok (zw ρ w) := fun t ht => ⟨(hR t ht).1, by have := (hT t ht).2.1; have := (hR t ht).2.1; omega⟩
theorem rWok_of {ρ : Nat → Nat → Int32} {w : Nat → Int32} (hT : rTr ρ) (hR : rRw ρ w) : rWok (zw ρ w) := fun t ht h => by have := (hT t ht).2.1; have := (hR t ht).2.2.1 h; omega
theorem rGok.le {ρ : Nat → Nat → Int32} {t n m : Nat} (h : rGok ρ t n) (hm : m ≤ n) : rGok ρ t m := fun k hk => h k (by omega)
theorem rGall_of {ρ : Nat → Nat → Int32} {w : Nat → Int32} (hT : rTr ρ) (hR : rRw ρ w) : rGall ρ w := fun t ht => (hT t ht).2.2.le (hR t ht).2.1
theorem rBeg_at {t i : Nat} (w : Nat → Int32) (h1 : ¬ i = 10 + 4 * t + 2) (h2 : ¬ i = 2) : rBegW t w i = w i := by
  unfold rBegW
  split
  · rw [zup_n _ _ h2, zup_n _ _ h1]
  · rfl
/-- rows that agree where states and steps stand -/
theorem rRw.agree {ρ : Nat → Nat → Int32} {w w' : Nat → Int32} (hR : rRw ρ w) (h : ∀ t, t < 4 → w' (10 + 4 * t) = w (10 + 4 * t) ∧ w' (10 + 4 * t + 1) = w (10 + 4 * t + 1)) : rRw ρ w' := by
  intro t ht
  obtain ⟨e1, e2⟩ := h t ht
  have eD : rD (zw ρ w') t = rD (zw ρ w) t := by rw [rD_zw, rD_zw, e2]
  rw [e1, e2, eD]
  exact hR t ht
theorem rRw.beg {ρ : Nat → Nat → Int32} {w : Nat → Int32} (hR : rRw ρ w) (t : Nat) : rRw ρ (rBegW t w) := hR.agree fun u hu => ⟨rBeg_at w (by omega) (by omega), rBeg_at w (by omega) (by omega)⟩
/-- one task's state and steps change -/
theorem rRw.one {ρ : Nat → Nat → Int32} {w w' : Nat → Int32} (hR : rRw ρ w) (t : Nat) (h : ∀ u, u < 4 → ¬ u = t → w' (10 + 4 * u) = w (10 + 4 * u) ∧ w' (10 + 4 * u + 1) = w (10 + 4 * u + 1)) {D st : Nat} (hD : w' (10 + 4 * t + 1) = nI D) (hDm : D ≤ rM ρ t) (hM : rM ρ t ≤ 30) (hst : w' (10 + 4 * t) = nI st) (h4 : st ≤ 4) (hw : st = 2 → D < rM ρ t) : rRw ρ w' := by
  intro u hu
  by_cases e : u = t
  · subst e
    have eD : rD (zw ρ w') u = D := by rw [rD_zw, hD]; exact nI_clamp (by omega)
    rw [eD, hD, hst]
    refine ⟨rfl, hDm, fun h => hw ?_, st, h4, rfl⟩
    exact (zeq (by omega) (by omega)).mp h
  · obtain ⟨e1, e2⟩ := h u hu e
    have eD : rD (zw ρ w') u = rD (zw ρ w) u := by rw [rD_zw, rD_zw, e2]
    rw [e1, e2, eD]
    exact hR u hu
theorem rRw.wait {ρ : Nat → Nat → Int32} {w : Nat → Int32} (hT : rTr ρ) (hR : rRw ρ w) {t : Nat} (ht : t < 4) (hD : rD (zw ρ w) t < rM ρ t) : rRw ρ (rWw t w) := by
  refine hR.one t (fun u hu hne => ?_) (D := rD (zw ρ w) t) (st := 2) ?_ (by omega) (hT t ht).2.1 ?_ (by omega) (fun _ => hD)
  · unfold rWw
    exact ⟨zup_n _ _ (by omega), zup_n _ _ (by omega)⟩
  · unfold rWw
    rw [zup_n _ _ (by omega)]
    exact (hR t ht).1
  · unfold rWw
    exact zup_s _ _ _
theorem sp_turns {d c s t : Nat} {w : Nat → Int32} {X : zM} {ρ : Nat → Nat → Int32} {l : Nat → Nat → Int64} {Q : Option zV → zM → Prop} (ht : t < 4) (hT : rTr ρ) (hR : rRw ρ w) (k : Q (some (zi (rTurnR ρ t w))) (OM X 1 0 (zw ρ (rTurnW ρ t w)) l)) : Ev (d + 6) c s 202 0 [some (zr (some (1, 0, 0))), some (zi (nI t)), none, none] [] (OM X 1 0 (zw ρ w) l) Q := by
  have hB := hR.beg t
  have hm := hT t ht
  have goal2 : Ev (d + 6) c s 202 31 [some (zr (some (1, 0, 0))), some (zi (nI t)), none, none] [] (OM X 1 0 (zw ρ (rBegW t w)) l) Q := by
    unfold rTurnR rTurnW at k
    generalize rBegW t w = v at k hB ⊢
    have hd := hB t ht
    generalize hDe : rD (zw ρ v) t = D at k hd
    generalize hme : rM ρ t = m at k hd hm
    -- the end of a turn
    have fin : ∀ (h : Int32) (v' : Nat → Int32) (E D' : Nat), v' (10 + 4 * t + 1) = nI D' → D' < 5000 → Q (some (zi (if D' < m then nI 0 else rEndR ρ t))) (OM X 1 0 (zw ρ (if D' < m then v' else rEndW ρ t v')) l) → Ev (d + 6) c s 202 131 [some (zr (some (1, 0, 0))), some (zi (nI t)), some (zi (nI E)), some (zi h)] [] (OM X 1 0 (zw ρ v') l) Q ∧ Ev (d + 6) c s 202 131 [some (zr (some (1, 0, 0))), some (zi (nI t)), some (zi (nI E)), none] [] (OM X 1 0 (zw ρ v') l) Q := by
      intro h v' E D' hD' h5 hq
      unfold rEndR rEndW at hq
      by_cases hD2 : D' < m
      · rw [if_pos hD2, if_pos hD2] at hq
        refine ⟨?_, ?_⟩
        · apply g202_131h hD' hm.1 <;> intros <;> first | omega | exact hq
        · apply g202_131 hD' hm.1 <;> intros <;> first | omega | exact hq
      · rw [if_neg hD2, if_neg hD2] at hq
        by_cases h14 : ρ 14 t = 0
        · rw [if_pos h14, if_pos h14] at hq
          refine ⟨?_, ?_⟩
          · apply g202_131h hD' hm.1 <;> intros <;> first | omega | contradiction | exact hq
          · apply g202_131 hD' hm.1 <;> intros <;> first | omega | contradiction | exact hq
        · rw [if_neg h14, if_neg h14] at hq
          refine ⟨?_, ?_⟩
          · apply g202_131h hD' hm.1 <;> intros <;> first | omega | contradiction | exact hq
          · apply g202_131 hD' hm.1 <;> intros <;> first | omega | contradiction | exact hq
    by_cases hDm : D < m
    · rw [if_pos hDm, if_pos hDm] at k
      have hg := hm.2.2 D hDm
      have hW : rRw ρ (rWw t v) := hB.wait hT ht (by rw [hDe, hme]; exact hDm)
      have step : ∀ h : Int32, h = rHldr ρ t v D → Ev (d + 6) c s 202 73 [some (zr (some (1, 0, 0))), some (zi (nI t)), some (zi (nI D)), some (zi h)] [] (OM X 1 0 (zw ρ v) l) Q := by
        intro h he
        rw [← he] at k
        have stp : ¬ (0 ≤ h ∧ ¬ h = nI t) → Ev (d + 6) c s 202 131 [some (zr (some (1, 0, 0))), some (zi (nI t)), some (zi (nI D)), some (zi h)] [] (OM X 1 0 (zw ρ (rStepW ρ t v D)) l) Q := by
          intro hn
          rw [if_neg hn, if_neg hn] at k
          refine (fin h (rStepW ρ t v D) D (D + 1) ?_ (by omega) k).1
          unfold rStepW
          rw [zup_n _ _ (by omega)]
          exact zup_s _ _ _
        apply g202_73 (G := rG ρ t D) hg.1 <;> intros <;> first
          | omega
          | exact rDok_of hT hW
          | exact rWok_of hT hW
          | exact rGall_of hT hW
          | (rw [if_pos ⟨‹_›, ‹_›⟩, if_pos ⟨‹_›, ‹_›⟩] at k; exact k)
          | (exact stp (fun g => absurd g.1 (Int32.not_le.mpr ‹_›)))
          | (exact stp (fun g => g.2 ‹_›))
      apply g202_31 (D := D) hd.1 hm.1 <;> intros <;> first
        | omega
        | exact rDok_of hT hB
        | (refine step _ ?_; unfold rHldr; rw [if_neg ‹_›])
        | (refine step _ ?_; unfold rHldr; rw [if_pos ‹_›])
    · rw [if_neg hDm, if_neg hDm] at k
      apply g202_31 (D := D) hd.1 hm.1 <;> intros <;> first
        | omega
        | (refine (fin 0 v D D hd.1 (by omega) ?_).2; rw [if_neg hDm, if_neg hDm]; exact k)
        | exact rDok_of hT hB
  refine g202_0 (by omega) (fun h => ?_) (fun _ => by omega) (fun h => ?_)
  · have e : rBegW t w = w := by unfold rBegW; rw [if_neg h]
    rw [e] at goal2
    exact goal2
  · have e : rBegW t w = zup (zup w (10 + 4 * t + 2) (w 2)) 2 (w 2 + nI 1) := by unfold rBegW; rw [if_pos h]
    rw [e] at goal2
    rw [show (zup w (10 + 4 * t + 2) (w 2)) 2 = w 2 from zup_n _ _ (by omega)]
    exact goal2
