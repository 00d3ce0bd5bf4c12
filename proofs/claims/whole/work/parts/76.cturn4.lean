/-! the class: tables, a turn -/
/-- ages are no least numbers -/
def cAg (w : Nat → Int32) : Prop := (¬ w 2 = Int32.minValue) ∧ ∀ t, t < 4 → ¬ w (10 + 4 * t + 2) = Int32.minValue
theorem cNm_turn {τ : Nat → Nat → Int32} {w : Nat → Int32} {t : Nat} (ht : t < 4) (hO : cOk τ) (hR : rRw τ w) (ha : cAg w) : cNm (rWw t (rBegW t w)) := by
  intro u hu
  refine ⟨?_, rD (zw τ w) u, ?_, ?_⟩
  · unfold rWw rBegW
    rw [zup_n _ _ (by omega)]
    split
    · rw [zup_n _ _ (by omega)]
      by_cases e : u = t
      · subst e; rw [zup_s]; exact ha.1
      · rw [zup_n _ _ (by omega)]; exact ha.2 u hu
    · exact ha.2 u hu
  · have := (hR u hu).2.1
    have := (hO u hu).1
    omega
  · unfold rWw
    rw [zup_n _ _ (by omega), rBeg_at _ (by omega) (by omega)]
    exact (hR u hu).1
theorem cUq_beg {τ : Nat → Nat → Int32} {w : Nat → Int32} {t : Nat} (hu : cUq τ w) : cUq τ (rBegW t w) := cUq_same (fun u _ => rBeg_at _ (by omega) (by omega)) hu
theorem sp_cTurn {d c s j t bb : Nat} {τ : Nat → Nat → Int32} {w : Nat → Int32} {X : zM} {ρ : Nat → Nat → Int32} {l : Nat → Nat → Int64} {Q : Option zV → zM → Prop} (hj : j < 15) (ht : t < 4) (hP : cPs X j bb τ) (h : cTI τ ρ w) (hu : cUq τ w) (hR : rRw τ w) (ha : cAg w) (k : ∀ ρ', cTI τ ρ' (rTurnW τ t w) → cUq τ (rTurnW τ t w) → Q (some (zi (rTurnR τ t w))) (OM X 2 j ρ' l)) : Ev (d + 4) c s 80 0 [some (zr (some (2, j, 0))), some (zi (nI t)), none] [] (OM X 2 j ρ l) Q := by
  have hO := hP.ok
  have hN := cNm_turn ht hO hR ha
  have hB := hR.beg t
  have hUb : cUq τ (rBegW t w) := cUq_beg hu
  obtain ⟨n, T, pt, hc, hz, hT⟩ := hP t ht
  have eM : rM τ t = T.n := by unfold rM; rw [hz.1]; exact nI_clamp (by have := hT.1; omega)
  have eY : τ 14 t = T.why := hz.2.2.1
  have two : ∀ ρb, cTI τ ρb (rBegW t w) → Ev (d + 4) c s 80 29 [some (zr (some (2, j, 0))), some (zi (nI t)), none] [] (OM X 2 j ρb l) Q := by
    unfold rTurnR rTurnW at k
    generalize rBegW t w = v at k hB hUb hN ⊢
    intro ρb hb
    have hd := hB t ht
    have hk7 : ρb 7 t = nI (rD (zw τ v) t) := (hb.2.2 t ht).2.1.trans hd.1
    have hDm := hd.2.1
    have h30 := (hO t ht).1
    generalize eD : rD (zw τ v) t = D at k hk7 hDm
    rw [eM] at k hDm h30
    have fin : ∀ (ρ1 : Nat → Nat → Int32) (E : Nat) (g : Int32), ρ1 7 t = nI E → E < 5000 → Q (some (zi (if E < T.n then nI 0 else rEndR τ t))) (OM X 2 j (zu (zu ρ1 8 t (-4)) 6 t (if E < T.n then nI 1 else if τ 14 t = 0 then nI 3 else nI 4)) l) → Ev (d + 4) c s 80 84 [some (zr (some (2, j, 0))), some (zi (nI t)), some (zi g)] [] (OM X 2 j ρ1 l) Q := by
      intro ρ1 E g h7 hE hq
      unfold rEndR at hq
      rw [eY] at hq
      refine g80_84 hj hc pt h7 ht ht ht hc hE (fun _ => ht) (fun q => ?_) (fun _ => ht) (fun _ => hc) (fun _ _ => ht) (fun _ _ => ht) (fun q1 q2 q3 => ?_) (fun q1 q2 q3 => ?_) (fun _ _ => ht) (fun _ _ => ht) (fun q1 q2 q3 => ?_) (fun q1 q2 q3 => ?_)
      · rw [if_pos q, if_pos q] at hq; exact hq
      · rw [zu_e] at q3; exact absurd rfl q3
      · rw [if_neg q1, if_neg q1, if_neg q2, if_neg q2] at hq; exact hq
      · have q2 := Classical.not_not.mp q2
        rw [if_neg q1, if_neg q1, if_pos q2, if_pos q2] at hq; exact hq
      · rw [zu_e] at q3; exact absurd q3 (by decide)
    by_cases hDn : D < T.n
    · obtain ⟨kd, G, m, m', hs⟩ := cStp_of hO ht (show D < rM τ t by rw [eM]; exact hDn)
      obtain ⟨⟨k3, g6, e0, e1, e2⟩, _⟩ := id hs
      obtain ⟨z0, z1, z2⟩ := hz.2.1 D hDn
      have eT0 : T.kind D = τ 10 (30 * t + D) := z0.symm
      have eT1 : T.gate D = nI G := z1.symm.trans e1
      have eT2 : T.add D = τ 12 (30 * t + D) := z2.symm
      have hold : ρb 4 G = rHold (zw τ v) (nI G) := (hb.2.1 G g6).2.1
      rw [if_pos hDn, if_pos hDn] at k
      -- the step is done
      have go : (kd = 0 → ρb 4 G = -4 ∨ ρb 4 G = nI t) → ∀ g, Ev (d + 4) c s 80 79 [some (zr (some (2, j, 0))), some (zi (nI t)), some (zi g)] [] (OM X 2 j ρb l) Q := by
        intro hE g
        have hno : ¬ (0 ≤ rHldr τ t v D ∧ ¬ rHldr τ t v D = nI t) := by
          unfold rHldr
          rw [e0, e1]
          by_cases q : kd = 0
          · rw [if_pos (by rw [q]; rfl), ← hold]
            rcases hE q with e | e
            · rw [e]; exact fun g => absurd g.1 (by decide)
            · rw [e]; exact fun g => g.2 rfl
          · rw [if_neg (fun e => q ((zeq (by omega) (by omega)).mp (e.trans (show (0 : Int32) = nI 0 from rfl))))]
            exact fun g => absurd g.1 (by decide)
        rw [if_neg hno, if_neg hno] at k
        have eo : cDoR T t D ρb = cStR (τ 10 (30 * t + D)) G (τ 12 (30 * t + D)) t D ρb := by
          unfold cDoR
          rw [if_pos hDn, eT0, eT1, eT2, nI_clamp (by omega)]
        refine g80_79 (D := D) hj hc pt ht hc pt hk7 hT (by omega) ?_
        rw [eo]
        refine fin _ (D + 1) g (by unfold cStR; exact zu_e) (by omega) ?_
        by_cases hl : D + 1 < T.n
        · rw [if_pos hl, if_pos hl]
          rw [if_pos hl, if_pos hl] at k
          have r := cTI_step (st := 1) hb hUb ht hs eD (by omega) hE (by decide)
          have ew : zup (rStepW τ t v D) (10 + 4 * t) (nI 1) = rStepW τ t v D := by
            have : rStepW τ t v D (10 + 4 * t) = nI 1 := by
              unfold rStepW
              have eR : rG τ t D = G := by unfold rG; rw [e1]; exact nI_clamp (by omega)
              rw [eR, zup_n _ _ (by omega), zup_n _ _ (by omega), zup_s]
            rw [← this]
            exact zup_id _ _
          rw [ew] at r
          exact k _ r.1 r.2
        · rw [if_neg hl, if_neg hl]
          rw [if_neg hl, if_neg hl] at k
          unfold rEndW at k
          by_cases y0 : τ 14 t = 0
          · rw [if_pos y0] at k ⊢
            have r := cTI_step (st := 3) hb hUb ht hs eD (by omega) hE (by decide)
            exact k _ r.1 r.2
          · rw [if_neg y0] at k ⊢
            have r := cTI_step (st := 4) hb hUb ht hs eD (by omega) hE (by decide)
            exact k _ r.1 r.2
      by_cases hk0 : kd = 0
      · have eE : tEn T D = nI G := by
          unfold tEn
          rw [if_pos hDn, eT0, e0, hk0, if_pos (show nI 0 = 0 from rfl)]
          exact eT1
        refine g80_29 hj hc pt hk7 ht ht hc (by omega) (fun q => ?_) (fun _ => ?_) (fun _ q => ?_) (fun _ _ => ?_) (fun _ _ q => ?_) (fun _ q1 q2 => ?_)
        · rw [eE] at q; exact absurd q (nI_ne4 (by omega))
        · rw [eE]; exact zvin g6 (by decide)
        · rw [eE, nI_clamp (by omega)] at q
          exact go (fun _ => Or.inl q) _
        · rw [eE]; exact zvin g6 (by decide)
        · rw [eE, nI_clamp (by omega)] at q
          exact go (fun _ => Or.inr q) _
        · rw [eE, nI_clamp (by omega)] at q1 q2
          rw [eE]
          have hyes : 0 ≤ rHldr τ t v D ∧ ¬ rHldr τ t v D = nI t := by
            unfold rHldr
            rw [e0, e1, hk0, if_pos (show nI 0 = 0 from rfl), ← hold]
            refine ⟨?_, q2⟩
            rw [hold] at q1 ⊢
            rcases rHoldL_cases (zw τ v) (nI G) 4 with e | ⟨u, hu4, e⟩
            · exact absurd e q1
            · rw [show rHold (zw τ v) (nI G) = nI u from e]
              exact Int32.not_lt.mp (nI_pos (by omega))
          rw [if_pos hyes, if_pos hyes] at k
          refine sp_cAwait hj ht hP hb hUb hB (by rw [eD, eM]; exact hDn) (by rw [eD]; exact e1) hN (fun ρ' a b => ?_)
          exact g80_78 hj (k ρ' a b)
      · have eE : tEn T D = -4 := by
          unfold tEn
          rw [if_pos hDn, eT0, e0, if_neg (fun e => hk0 ((zeq (by omega) (by omega)).mp (e.trans (show (0 : Int32) = nI 0 from rfl))))]
        refine g80_29 hj hc pt hk7 ht ht hc (by omega) (fun q => go (fun q => absurd q hk0) _) (fun q => absurd eE q) (fun q => absurd eE q) (fun q => absurd eE q) (fun q => absurd eE q) (fun q => absurd eE q)
    · have eE : tEn T D = -4 := by
        unfold tEn
        rw [if_neg hDn]
      rw [if_neg hDn, if_neg hDn] at k
      unfold rEndW at k
      refine g80_29 hj hc pt hk7 ht ht hc (by omega) (fun q => ?_) (fun q => absurd eE q) (fun q => absurd eE q) (fun q => absurd eE q) (fun q => absurd eE q) (fun q => absurd eE q)
      refine g80_79 (D := D) hj hc pt ht hc pt hk7 hT (by omega) ?_
      rw [show cDoR T t D ρb = ρb from if_neg hDn]
      refine fin _ D _ hk7 (by omega) ?_
      rw [if_neg hDn, if_neg hDn]
      by_cases y0 : τ 14 t = 0
      · rw [if_pos y0] at k ⊢
        have r := cTI_stay (x := nI 3) (y := -4) (ρ' := zu (zu ρb 8 t (-4)) 6 t (nI 3)) hb hUb ht (by rw [rWait_n (by rw [zup_s]; decide)]) (fun q i => by rw [zu_if, zu_if])
        exact k _ r.1 r.2
      · rw [if_neg y0] at k ⊢
        have r := cTI_stay (x := nI 4) (y := -4) (ρ' := zu (zu ρb 8 t (-4)) 6 t (nI 4)) hb hUb ht (by rw [rWait_n (by rw [zup_s]; decide)]) (fun q i => by rw [zu_if, zu_if])
        exact k _ r.1 r.2
  have es := (h.2.2 t ht).1
  refine g80_0 hj ht (fun q => two ρ ?_) (fun _ => ht) (fun q => two _ ?_)
  · rw [es] at q
    unfold rBegW
    rw [if_neg q]
    exact h
  · rw [es] at q
    unfold rBegW
    rw [if_pos q]
    exact cTI_beg h hu ht
