/-! the class: tables are laid anew; draws -/
section
variable {d c s j t bb : Nat} {τ ρ : Nat → Nat → Int32} {v w : Nat → Int32} {T : tT} {X : zM} {l : Nat → Nat → Int64} {Q : Option zV → zM → Prop}
theorem rLay1_vals (x : Nat → Int32) : zup (rIdleW t x) (10 + 4 * t + 3) (nI 0) (10 + 4 * t) = nI 0 ∧ zup (rIdleW t x) (10 + 4 * t + 3) (nI 0) (10 + 4 * t + 1) = nI 0 ∧ zup (rIdleW t x) (10 + 4 * t + 3) (nI 0) (10 + 4 * t + 2) = -4 ∧ zup (rIdleW t x) (10 + 4 * t + 3) (nI 0) (10 + 4 * t + 3) = nI 0 ∧ ∀ i, (i < 10 + 4 * t ∨ 14 + 4 * t ≤ i) → zup (rIdleW t x) (10 + 4 * t + 3) (nI 0) i = x i := by
  unfold rIdleW
  refine ⟨?_, ?_, ?_, ?_, fun i hi => ?_⟩
  · rw [zup_n _ _ (by omega), zup_n _ _ (by omega), zup_n _ _ (by omega), zup_s]
  · rw [zup_n _ _ (by omega), zup_n _ _ (by omega), zup_s]
  · rw [zup_n _ _ (by omega), zup_s]
  · rw [zup_s]
  · rw [zup_n _ _ (by omega), zup_n _ _ (by omega), zup_n _ _ (by omega), zup_n _ _ (by omega)]
theorem cTI_lay1 (h : cTI τ ρ v) (hu : cUq τ v) (ht : t < 4) (hO : cOk τ) (hz : zTrR τ t T) (hT : tOk T) (hg : rGok τ t (rD (zw τ v) t)) (hn : rD (zw τ v) t ≤ T.n) (h0 : v (10 + 4 * t) = 0 → rD (zw τ v) t = 0) (h3 : nI 3 ≤ v (10 + 4 * t) → rD (zw τ v) t = rM τ t) : ((v (10 + 4 * t) = nI 1 ∨ v (10 + 4 * t) = nI 2) → cTI τ (zu (cIdR t (cWdR T t (rD (zw τ v) t) ρ)) 10 t (nI 0)) (rLay1 τ t v) ∧ cUq τ (rLay1 τ t v)) ∧ ((v (10 + 4 * t) = 0 ∨ nI 3 ≤ v (10 + 4 * t)) → cTI τ (zu (cIdR t ρ) 10 t (nI 0)) (rLay1 τ t v) ∧ cUq τ (rLay1 τ t v)) := by
  unfold rLay1
  refine ⟨fun h12 => ?_, fun h03 => ?_⟩
  · have hl : v (10 + 4 * t) < nI 3 := by
      rcases h12 with e | e <;> rw [e] <;> decide
    rw [if_pos hl]
    obtain ⟨a0, a1, a2, a3, ai⟩ := rLay1_vals (t := t) (rComeW τ t (-1) v (rD (zw τ v) t))
    refine cTI_idle h hu ht (fun g hg' => ?_) (cFree_all (τ := τ) (w := v)).2 (cFree_all (τ := τ) (w := v)).1 (fun i h1 h2 => ?_) a0 a1 a2 a3
    · rw [ai _ (by omega)]
      unfold cWdR
      rw [cFreeL_q _ _ (by omega) (by omega), cAddL_w hT hz (fun g hg => (h.2.1 g hg).1) _ hn g hg']
    · rw [ai _ h2, rComeW_at _ _ h1 _ hg]
  · have ex : (if v (10 + 4 * t) < nI 3 then rComeW τ t (-1) v (rD (zw τ v) t) else v) = v := by
      rcases h03 with e | e
      · rw [h0 e]
        show (if v (10 + 4 * t) < nI 3 then v else v) = v
        split <;> rfl
      · rw [if_neg (Int32.not_lt.mpr e)]
    rw [ex]
    obtain ⟨a0, a1, a2, a3, ai⟩ := rLay1_vals (t := t) v
    have no : ∀ g, g < 6 → ¬ ρ 4 g = nI t := by
      intro g hg' e
      rw [(h.2.1 g hg').2.1] at e
      have p := (rHold_iff hu g ht).mp e
      rcases h03 with q | q
      · rw [h0 q] at p; exact absurd p (show ¬ 0 < nI 0 by decide)
      · rw [h3 q, (hO t ht).2.2.2.1 g hg'] at p; exact absurd p (by decide)
    refine cTI_idle h hu ht (fun g hg' => ?_) (fun g hg' => ?_) (fun _ _ _ => rfl) (fun i h1 h2 => ai i h2) a0 a1 a2 a3
    · rw [ai _ (by omega)]; exact (h.2.1 g hg').1
    · rw [if_neg (no g hg'), if_neg (no g hg')]; exact ⟨rfl, rfl⟩
/-- fields change -/
theorem cTI_fld {ρ' : Nat → Nat → Int32} {w' : Nat → Int32} (h : cTI τ ρ w) (hu : cUq τ w) (f : ρ' 0 2 = w' 0 ∧ ρ' 0 3 = w' 1 ∧ ρ' 0 4 = w' 3 ∧ ρ' 0 5 = w' 2) (hq : ∀ q i, 3 ≤ q → ρ' q i = ρ q i) (hw : ∀ i, 4 ≤ i → w' i = w i) : cTI τ ρ' w' ∧ cUq τ w' := by
  have hu' : cUq τ w' := cUq_same (fun u _ => hw _ (by omega)) hu
  refine ⟨cTI_gen h hu' 0 f (fun g hg' => ⟨?_, ?_⟩) (fun u hu hne => ⟨fun q h1 h2 => hq q u (by omega), fun i hi => hw _ (by omega)⟩) ?_, hu'⟩
  · rw [hq _ _ (by omega), hw _ (by omega)]; exact (h.2.1 g hg').1
  · rw [hq _ _ (by omega), hq _ _ (by omega)]
    exact cHd_same (fun u _ => hw _ (by omega)) (h.hd hu hg')
  · obtain ⟨a, b, c', d', e⟩ := h.2.2 0 (by decide)
    rw [hq _ _ (by omega), hq _ _ (by omega), hq _ _ (by omega), hq _ _ (by omega), hq _ _ (by omega), hw _ (by omega), hw _ (by omega), hw _ (by omega), hw _ (by omega), rWait_s (w := w) (hw _ (by omega)) (hw _ (by omega))]
    exact ⟨a, b, c', d', e⟩
theorem sp_cDraw (hj : j < 15) (h : cTI τ ρ w) (hu : cUq τ w) (k : ∀ ρ', cTI τ ρ' (rDrwW w) → cUq τ (rDrwW w) → Q (some (zi (nI (rX w)))) (OM X 2 j ρ' l)) : Ev d c s 81 0 [some (zr (some (2, j, 0)))] [] (OM X 2 j ρ l) Q := by
  obtain ⟨f0, f1, f2, f3⟩ := h.1
  refine g81_0 hj ?_
  rw [zu_e, f2]
  have e := rX_eq w
  unfold rDrw at e
  rw [e]
  have r := cTI_fld (ρ' := zu ρ 0 4 (rDrw w)) (w' := rDrwW w) h hu ⟨?_, ?_, ?_, ?_⟩ (fun q i hq => zu_i_ne (by omega)) (fun i hi => by unfold rDrwW; rw [zup_n _ _ (by omega)])
  · exact k _ r.1 r.2
  · unfold rDrwW; rw [zu_i_ne (by omega), zup_n _ _ (by omega)]; exact f0
  · unfold rDrwW; rw [zu_i_ne (by omega), zup_n _ _ (by omega)]; exact f1
  · unfold rDrwW; rw [zu_e, zup_s]
  · unfold rDrwW; rw [zu_i_ne (by omega), zup_n _ _ (by omega)]; exact f3
end
theorem st_set4 (a b c d : Nat) (ha : a < 5) (hb : b < 5) (hc : c < 5) (hd : d < 5) : ∀ w : Nat → Int32, w 10 = nI a → w 14 = nI b → w 18 = nI c → w 22 = nI d → nI 4 - rSz (rThoseL (zw zO w) (nI 0) 4) = nI (rNot0 w 4) ∧ ∃ v, v < 64 ∧ rThoseL (zw zO w) (nI 0) 4 = nI v := by
  intro w e0 e1 e2 e3
  have q : ∀ t, zw zO w 1 t = w t := fun t => rfl
  simp only [rThoseL, rNot0, q, show 10 + 4 * 0 = 10 from rfl, show 10 + 4 * 1 = 14 from rfl, show 10 + 4 * 2 = 18 from rfl, show 10 + 4 * 3 = 22 from rfl, e0, e1, e2, e3]
  clear e0 e1 e2 e3 q w
  revert d
  revert c
  revert b
  revert a
  decide +kernel
theorem cSt.sets4 {w : Nat → Int32} (h : cSt w) : nI 4 - rSz (rThoseL (zw zO w) (nI 0) 4) = nI (rNot0 w 4) ∧ ∃ v, v < 64 ∧ rThoseL (zw zO w) (nI 0) 4 = nI v := by
  obtain ⟨a, ha, ea⟩ := h 0 (by decide)
  obtain ⟨b, hb, eb⟩ := h 1 (by decide)
  obtain ⟨c, hc, ec⟩ := h 2 (by decide)
  obtain ⟨d, hd, ed⟩ := h 3 (by decide)
  exact st_set4 a b c d (by omega) (by omega) (by omega) (by omega) w ea eb ec ed
theorem cSt_of {τ : Nat → Nat → Int32} {w : Nat → Int32} (h : rRw τ w) : cSt w := fun t ht => (h t ht).2.2.2
theorem g77_0 {d c s : Nat} {j : Nat} {τ : Nat → Nat → Int32} {w : Nat → Int32} {X : zM} {ρ : Nat → Nat → Int32} {l : Nat → Nat → Int64} {Q : Option zV → zM → Prop} (hj : j < 15)
    (b1 : cTI τ ρ w)
    (b2 : ∃ v, v < 64 ∧ (rThoseL (zw zO w) (nI 0) 4) = nI v)
    (h1 : Ev (d + 2) c s 77 13 [some (zr (some (2, j, 0))), some (zi ((nI 4) - (rSz (rThoseL (zw zO w) (nI 0) 4)))), some (zi (nI 0))] [] (OM X 2 j ρ l) Q) : Ev (d + 2) c s 77 0 [some (zr (some (2, j, 0))), none, none] [] (OM X 2 j ρ l) Q := by
  refine Ew.op (st' := zi (nI 4) :: _) f77_0 rfl rfl ?_
  refine Ew.ld f77_1 rfl rfl rfl rfl ?_
  refine Ew.op (st' := zi (nI 0) :: _) f77_2 rfl rfl ?_
  refine Ew.call0 (ls0 := [some (zr (some (2, j, 0))), some (zi (nI 0)), none, none]) f77_3 rfl (Nat.le_of_ble_eq_true rfl) rfl rfl (Nat.le_of_ble_eq_true rfl) (by show (zsj X.2.2.2.1 2 j 0).1 = _; rw [zsj2 _ hj]; rfl) (Nat.le_of_ble_eq_true rfl) rfl rfl ?_
  refine sp_cAre hj b1 ?_
  show Ev (d + 2) c s 77 6 [some (zr (some (2, j, 0))), none, none] [zi (rThoseL (zw zO w) (nI 0) 4), zi (nI 4)] (OM X 2 j ρ l) Q
  refine Ew.call0 (ls0 := [some (zi (rThoseL (zw zO w) (nI 0) 4))]) f77_6 rfl (Nat.le_of_ble_eq_true rfl) rfl rfl (Nat.le_of_ble_eq_true rfl) trivial (Nat.le_of_ble_eq_true rfl) rfl rfl ?_
  refine sp_bc b2 ?_
  show Ev (d + 2) c s 77 9 [some (zr (some (2, j, 0))), none, none] [zi (rSz (rThoseL (zw zO w) (nI 0) 4)), zi (nI 4)] (OM X 2 j ρ l) Q
  refine Ew.op (st' := zi ((nI 4) - (rSz (rThoseL (zw zO w) (nI 0) 4))) :: _) f77_9 rfl rfl ?_
  refine Ew.sr (ls' := [some (zr (some (2, j, 0))), some (zi ((nI 4) - (rSz (rThoseL (zw zO w) (nI 0) 4)))), none]) f77_10 rfl rfl (Nat.le_of_ble_eq_true rfl) rfl rfl ?_
  refine Ew.op (st' := zi (nI 0) :: _) f77_11 rfl rfl ?_
  refine Ew.sr (ls' := [some (zr (some (2, j, 0))), some (zi ((nI 4) - (rSz (rThoseL (zw zO w) (nI 0) 4)))), some (zi (nI 0))]) f77_12 rfl rfl (Nat.le_of_ble_eq_true rfl) rfl rfl ?_
  exact h1
theorem g77_13 {d c s : Nat} {j t n bb D : Nat} {T : tT} {b : Int32} {X : zM} {ρ : Nat → Nat → Int32} {l : Nat → Nat → Int64} {Q : Option zV → zM → Prop} (hj : j < 15) (nb_t : t < 5000)
    (h1 : (4 ≤ t) → Q (some (zi b)) (OM X 2 j (zu ρ 0 5 (nI 0)) l))
    (b1 : (t < 4) → t < 4)
    (b2 : (t < 4) → ((ρ 6 t) = (nI 1)) → t < 4)
    (b3 : (t < 4) → ((ρ 6 t) = (nI 1)) → cTr X.1 X.2.2.1 X.2.2.2.1 bb n T)
    (b4 : (t < 4) → ((ρ 6 t) = (nI 1)) → X.2.2.1 2 j 2 t = some (3, n, 0))
    (b5 : (t < 4) → ((ρ 6 t) = (nI 1)) → ρ 7 t = nI D)
    (b6 : (t < 4) → ((ρ 6 t) = (nI 1)) → tOk T)
    (b7 : (t < 4) → ((ρ 6 t) = (nI 1)) → D ≤ T.n)
    (b8 : (t < 4) → ((ρ 6 t) = (nI 1)) → t < 4)
    (b9 : (t < 4) → ((ρ 6 t) = (nI 1)) → t < 4)
    (h2 : (t < 4) → ((ρ 6 t) = (nI 1)) → Ev (d + 2) c s 77 13 [some (zr (some (2, j, 0))), some (zi b), some (zi (nI (t + 1)))] [] (OM X 2 j (zu (cIdR t (cWdR T t D ρ)) 10 t (nI 0)) l) Q)
    (b10 : (t < 4) → (¬ (ρ 6 t) = (nI 1)) → t < 4)
    (b11 : (t < 4) → (¬ (ρ 6 t) = (nI 1)) → (¬ (ρ 6 t) = (nI 2)) → t < 4)
    (b12 : (t < 4) → (¬ (ρ 6 t) = (nI 1)) → (¬ (ρ 6 t) = (nI 2)) → t < 4)
    (h3 : (t < 4) → (¬ (ρ 6 t) = (nI 1)) → (¬ (ρ 6 t) = (nI 2)) → Ev (d + 2) c s 77 13 [some (zr (some (2, j, 0))), some (zi b), some (zi (nI (t + 1)))] [] (OM X 2 j (zu (cIdR t ρ) 10 t (nI 0)) l) Q)
    (b13 : (t < 4) → (¬ (ρ 6 t) = (nI 1)) → ((ρ 6 t) = (nI 2)) → t < 4)
    (b14 : (t < 4) → (¬ (ρ 6 t) = (nI 1)) → ((ρ 6 t) = (nI 2)) → cTr X.1 X.2.2.1 X.2.2.2.1 bb n T)
    (b15 : (t < 4) → (¬ (ρ 6 t) = (nI 1)) → ((ρ 6 t) = (nI 2)) → X.2.2.1 2 j 2 t = some (3, n, 0))
    (b16 : (t < 4) → (¬ (ρ 6 t) = (nI 1)) → ((ρ 6 t) = (nI 2)) → ρ 7 t = nI D)
    (b17 : (t < 4) → (¬ (ρ 6 t) = (nI 1)) → ((ρ 6 t) = (nI 2)) → tOk T)
    (b18 : (t < 4) → (¬ (ρ 6 t) = (nI 1)) → ((ρ 6 t) = (nI 2)) → D ≤ T.n)
    (b19 : (t < 4) → (¬ (ρ 6 t) = (nI 1)) → ((ρ 6 t) = (nI 2)) → t < 4)
    (b20 : (t < 4) → (¬ (ρ 6 t) = (nI 1)) → ((ρ 6 t) = (nI 2)) → t < 4)
    (h4 : (t < 4) → (¬ (ρ 6 t) = (nI 1)) → ((ρ 6 t) = (nI 2)) → Ev (d + 2) c s 77 13 [some (zr (some (2, j, 0))), some (zi b), some (zi (nI (t + 1)))] [] (OM X 2 j (zu (cIdR t (cWdR T t D ρ)) 10 t (nI 0)) l) Q) : Ev (d + 2) c s 77 13 [some (zr (some (2, j, 0))), some (zi b), some (zi (nI t))] [] (OM X 2 j ρ l) Q := by
  refine Ew.ld f77_13 rfl rfl rfl rfl ?_
  refine Ew.op (st' := zi (nI 4) :: _) f77_14 rfl rfl ?_
  refine Ew.icmp f77_15 rfl rfl (fun c1 => ?_) (fun c1 => ?_)
  · refine Ew.ld f77_61 rfl rfl rfl rfl ?_
    refine Ew.op (st' := zi (nI 0) :: _) f77_62 rfl rfl ?_
    refine Ew.putiO f77_63 (by rw [zsj2 _ hj]; rfl) rfl ?_
    refine Ew.ld f77_66 rfl rfl rfl rfl ?_
    refine Ew.ireti f77_67 ?_
    exact h1 ((zle_iff (by decide) nb_t).mp c1)
  · refine Ew.ld f77_18 rfl rfl rfl rfl ?_
    refine Ew.getp (v := some (2, j, 6)) f77_19 (by rw [zsj2 _ hj]; rfl) rfl rfl ?_
    refine Ew.ld f77_22 rfl rfl rfl rfl ?_
    refine Ew.ialdnO f77_23 (by rw [zsj2 _ hj]; rfl) (by rw [zsj2 _ hj]; exact (b1 (Nat.not_le.mp fun e => c1 ((zle_iff (by decide) nb_t).mpr e)))) (by rw [zsj2 _ hj]; decide) rfl ?_
    refine Ew.op (st' := zi (nI 1) :: _) f77_24 rfl rfl ?_
    refine Ew.icmp f77_25 rfl rfl (fun c2 => ?_) (fun c2 => ?_)
    · refine Ew.ld f77_38 rfl rfl rfl rfl ?_
      refine Ew.ld f77_39 rfl rfl rfl rfl ?_
      refine Ew.call0 (ls0 := [some (zr (some (2, j, 0))), some (zi (nI t)), none]) f77_40 rfl (Nat.le_of_ble_eq_true rfl) rfl rfl (Nat.le_of_ble_eq_true rfl) (by show (zsj X.2.2.2.1 2 j 0).1 = _; rw [zsj2 _ hj]; rfl) (Nat.le_of_ble_eq_true rfl) rfl rfl ?_
      refine sp_cWdr hj (b2 (Nat.not_le.mp fun e => c1 ((zle_iff (by decide) nb_t).mpr e)) c2) (b3 (Nat.not_le.mp fun e => c1 ((zle_iff (by decide) nb_t).mpr e)) c2) (b4 (Nat.not_le.mp fun e => c1 ((zle_iff (by decide) nb_t).mpr e)) c2) (b5 (Nat.not_le.mp fun e => c1 ((zle_iff (by decide) nb_t).mpr e)) c2) (b6 (Nat.not_le.mp fun e => c1 ((zle_iff (by decide) nb_t).mpr e)) c2) (b7 (Nat.not_le.mp fun e => c1 ((zle_iff (by decide) nb_t).mpr e)) c2) ?_
      show Ev (d + 2) c s 77 43 [some (zr (some (2, j, 0))), some (zi b), some (zi (nI t))] [] (OM X 2 j (cWdR T t D ρ) l) Q
      refine Ew.ld f77_43 rfl rfl rfl rfl ?_
      refine Ew.ld f77_44 rfl rfl rfl rfl ?_
      refine Ew.call0 (ls0 := [some (zr (some (2, j, 0))), some (zi (nI t))]) f77_45 rfl (Nat.le_of_ble_eq_true rfl) rfl rfl (Nat.le_of_ble_eq_true rfl) (by show (zsj X.2.2.2.1 2 j 0).1 = _; rw [zsj2 _ hj]; rfl) (Nat.le_of_ble_eq_true rfl) rfl rfl ?_
      refine sp_cRest hj (b8 (Nat.not_le.mp fun e => c1 ((zle_iff (by decide) nb_t).mpr e)) c2) ?_
      show Ev (d + 2) c s 77 48 [some (zr (some (2, j, 0))), some (zi b), some (zi (nI t))] [] (OM X 2 j (cIdR t (cWdR T t D ρ)) l) Q
      refine Ew.ld f77_48 rfl rfl rfl rfl ?_
      refine Ew.getp (v := some (2, j, 10)) f77_49 (by rw [zsj2 _ hj]; rfl) rfl rfl ?_
      refine Ew.ld f77_52 rfl rfl rfl rfl ?_
      refine Ew.op (st' := zi (nI 0) :: _) f77_53 rfl rfl ?_
      refine Ew.iastnO f77_54 (by decide) (by rw [zsj2 _ hj]; rfl) (by rw [zsj2 _ hj]; exact (b9 (Nat.not_le.mp fun e => c1 ((zle_iff (by decide) nb_t).mpr e)) c2)) (by rw [zsj2 _ hj]; decide) rfl ?_
      refine Ew.iinc (v := nI (t + 1)) (ls' := [some (zr (some (2, j, 0))), some (zi b), some (zi (nI (t + 1)))]) f77_55 rfl (nI_1 _) rfl rfl ?_
      refine Ew.goto f77_58 rfl ?_
      exact h2 (Nat.not_le.mp fun e => c1 ((zle_iff (by decide) nb_t).mpr e)) c2
    · refine Ew.ld f77_28 rfl rfl rfl rfl ?_
      refine Ew.getp (v := some (2, j, 6)) f77_29 (by rw [zsj2 _ hj]; rfl) rfl rfl ?_
      refine Ew.ld f77_32 rfl rfl rfl rfl ?_
      refine Ew.ialdnO f77_33 (by rw [zsj2 _ hj]; rfl) (by rw [zsj2 _ hj]; exact (b10 (Nat.not_le.mp fun e => c1 ((zle_iff (by decide) nb_t).mpr e)) c2)) (by rw [zsj2 _ hj]; decide) rfl ?_
      refine Ew.op (st' := zi (nI 2) :: _) f77_34 rfl rfl ?_
      refine Ew.icmp f77_35 rfl rfl (fun c3 => ?_) (fun c3 => ?_)
      · refine Ew.ld f77_43 rfl rfl rfl rfl ?_
        refine Ew.ld f77_44 rfl rfl rfl rfl ?_
        refine Ew.call0 (ls0 := [some (zr (some (2, j, 0))), some (zi (nI t))]) f77_45 rfl (Nat.le_of_ble_eq_true rfl) rfl rfl (Nat.le_of_ble_eq_true rfl) (by show (zsj X.2.2.2.1 2 j 0).1 = _; rw [zsj2 _ hj]; rfl) (Nat.le_of_ble_eq_true rfl) rfl rfl ?_
        refine sp_cRest hj (b11 (Nat.not_le.mp fun e => c1 ((zle_iff (by decide) nb_t).mpr e)) c2 c3) ?_
        show Ev (d + 2) c s 77 48 [some (zr (some (2, j, 0))), some (zi b), some (zi (nI t))] [] (OM X 2 j (cIdR t ρ) l) Q
        refine Ew.ld f77_48 rfl rfl rfl rfl ?_
        refine Ew.getp (v := some (2, j, 10)) f77_49 (by rw [zsj2 _ hj]; rfl) rfl rfl ?_
        refine Ew.ld f77_52 rfl rfl rfl rfl ?_
        refine Ew.op (st' := zi (nI 0) :: _) f77_53 rfl rfl ?_
        refine Ew.iastnO f77_54 (by decide) (by rw [zsj2 _ hj]; rfl) (by rw [zsj2 _ hj]; exact (b12 (Nat.not_le.mp fun e => c1 ((zle_iff (by decide) nb_t).mpr e)) c2 c3)) (by rw [zsj2 _ hj]; decide) rfl ?_
        refine Ew.iinc (v := nI (t + 1)) (ls' := [some (zr (some (2, j, 0))), some (zi b), some (zi (nI (t + 1)))]) f77_55 rfl (nI_1 _) rfl rfl ?_
        refine Ew.goto f77_58 rfl ?_
        exact h3 (Nat.not_le.mp fun e => c1 ((zle_iff (by decide) nb_t).mpr e)) c2 c3
      · refine Ew.ld f77_38 rfl rfl rfl rfl ?_
        refine Ew.ld f77_39 rfl rfl rfl rfl ?_
        refine Ew.call0 (ls0 := [some (zr (some (2, j, 0))), some (zi (nI t)), none]) f77_40 rfl (Nat.le_of_ble_eq_true rfl) rfl rfl (Nat.le_of_ble_eq_true rfl) (by show (zsj X.2.2.2.1 2 j 0).1 = _; rw [zsj2 _ hj]; rfl) (Nat.le_of_ble_eq_true rfl) rfl rfl ?_
        refine sp_cWdr hj (b13 (Nat.not_le.mp fun e => c1 ((zle_iff (by decide) nb_t).mpr e)) c2 (Classical.not_not.mp c3)) (b14 (Nat.not_le.mp fun e => c1 ((zle_iff (by decide) nb_t).mpr e)) c2 (Classical.not_not.mp c3)) (b15 (Nat.not_le.mp fun e => c1 ((zle_iff (by decide) nb_t).mpr e)) c2 (Classical.not_not.mp c3)) (b16 (Nat.not_le.mp fun e => c1 ((zle_iff (by decide) nb_t).mpr e)) c2 (Classical.not_not.mp c3)) (b17 (Nat.not_le.mp fun e => c1 ((zle_iff (by decide) nb_t).mpr e)) c2 (Classical.not_not.mp c3)) (b18 (Nat.not_le.mp fun e => c1 ((zle_iff (by decide) nb_t).mpr e)) c2 (Classical.not_not.mp c3)) ?_
        show Ev (d + 2) c s 77 43 [some (zr (some (2, j, 0))), some (zi b), some (zi (nI t))] [] (OM X 2 j (cWdR T t D ρ) l) Q
        refine Ew.ld f77_43 rfl rfl rfl rfl ?_
        refine Ew.ld f77_44 rfl rfl rfl rfl ?_
        refine Ew.call0 (ls0 := [some (zr (some (2, j, 0))), some (zi (nI t))]) f77_45 rfl (Nat.le_of_ble_eq_true rfl) rfl rfl (Nat.le_of_ble_eq_true rfl) (by show (zsj X.2.2.2.1 2 j 0).1 = _; rw [zsj2 _ hj]; rfl) (Nat.le_of_ble_eq_true rfl) rfl rfl ?_
        refine sp_cRest hj (b19 (Nat.not_le.mp fun e => c1 ((zle_iff (by decide) nb_t).mpr e)) c2 (Classical.not_not.mp c3)) ?_
        show Ev (d + 2) c s 77 48 [some (zr (some (2, j, 0))), some (zi b), some (zi (nI t))] [] (OM X 2 j (cIdR t (cWdR T t D ρ)) l) Q
        refine Ew.ld f77_48 rfl rfl rfl rfl ?_
        refine Ew.getp (v := some (2, j, 10)) f77_49 (by rw [zsj2 _ hj]; rfl) rfl rfl ?_
        refine Ew.ld f77_52 rfl rfl rfl rfl ?_
        refine Ew.op (st' := zi (nI 0) :: _) f77_53 rfl rfl ?_
        refine Ew.iastnO f77_54 (by decide) (by rw [zsj2 _ hj]; rfl) (by rw [zsj2 _ hj]; exact (b20 (Nat.not_le.mp fun e => c1 ((zle_iff (by decide) nb_t).mpr e)) c2 (Classical.not_not.mp c3))) (by rw [zsj2 _ hj]; decide) rfl ?_
        refine Ew.iinc (v := nI (t + 1)) (ls' := [some (zr (some (2, j, 0))), some (zi b), some (zi (nI (t + 1)))]) f77_55 rfl (nI_1 _) rfl rfl ?_
        refine Ew.goto f77_58 rfl ?_
        exact h4 (Nat.not_le.mp fun e => c1 ((zle_iff (by decide) nb_t).mpr e)) c2 (Classical.not_not.mp c3)
/-- states and steps go together -/
def cSd (τ : Nat → Nat → Int32) (w : Nat → Int32) : Prop := ∀ t, t < 4 → (w (10 + 4 * t) = 0 → w (10 + 4 * t + 1) = 0) ∧ (nI 3 ≤ w (10 + 4 * t) → rD (zw τ w) t = rM τ t)
theorem sp_cLay {d c s j bb : Nat} {τ ρ : Nat → Nat → Int32} {w : Nat → Int32} {X : zM} {l : Nat → Nat → Int64} {Q : Option zV → zM → Prop} (hj : j < 15) (hP : cPs X j bb τ) (h : cTI τ ρ w) (hu : cUq τ w) (hR : rRw τ w) (hS : cSd τ w) (k : ∀ ρ', cTI τ ρ' (zup (rLayL τ w 4) 2 (nI 0)) → cUq τ (zup (rLayL τ w 4) 2 (nI 0)) → Q (some (zi (nI (rNot0 w 4)))) (OM X 2 j ρ' l)) : Ev (d + 2) c s 77 0 [some (zr (some (2, j, 0))), none, none] [] (OM X 2 j ρ l) Q := by
  have hO := hP.ok
  obtain ⟨e4, v4⟩ := (cSt_of hR).sets4
  refine g77_0 hj h v4 ?_
  rw [e4]
  have key : ∀ n, n ≤ 4 → ∀ ρ', cTI τ ρ' (rLayL τ w (4 - n)) → cUq τ (rLayL τ w (4 - n)) → Ev (d + 2) c s 77 13 [some (zr (some (2, j, 0))), some (zi (nI (rNot0 w 4))), some (zi (nI (4 - n)))] [] (OM X 2 j ρ' l) Q := by
    intro n
    induction n with
    | zero =>
      intro _ ρ' h1 h2
      obtain ⟨f0, f1, f2, f3⟩ := h1.1
      have h1 : cTI τ ρ' (rLayL τ w 4) := h1
      have r := cTI_fld (ρ' := zu ρ' 0 5 (nI 0)) (w' := zup (rLayL τ w 4) 2 (nI 0)) h1 h2 ⟨?_, ?_, ?_, ?_⟩ (fun q i hq => zu_i_ne (by omega)) (fun i hi => by rw [zup_n _ _ (by omega)])
      · refine g77_13 (t := 4) (n := 0) (bb := 0) (D := 0) (T := (0, fun _ _ => 0)) hj (by decide) (fun _ => k _ r.1 r.2) ?_ ?_ ?_ ?_ ?_ ?_ ?_ ?_ ?_ ?_ ?_ ?_ ?_ ?_ ?_ ?_ ?_ ?_ ?_ ?_ ?_ ?_ ?_ <;> intro q <;> omega
      · rw [zu_i_ne (by omega), zup_n _ _ (by omega)]; exact f0
      · rw [zu_i_ne (by omega), zup_n _ _ (by omega)]; exact f1
      · rw [zu_i_ne (by omega), zup_n _ _ (by omega)]; exact f2
      · rw [zu_e, zup_s]
    | succ n ih =>
      intro hn ρ' h1 h2
      have ht : 4 - (n + 1) < 4 := by omega
      have et : 4 - n = 4 - (n + 1) + 1 := by omega
      rw [et] at ih
      generalize 4 - (n + 1) = t at ht ih h1 h2 ⊢
      have ih := ih (by omega)
      have e0 : rLayL τ w t (10 + 4 * t) = w (10 + 4 * t) := rLayL_at hO.tr hR t (by omega) _ (by omega)
      have e1 : rLayL τ w t (10 + 4 * t + 1) = w (10 + 4 * t + 1) := rLayL_at hO.tr hR t (by omega) _ (by omega)
      have eD : rD (zw τ (rLayL τ w t)) t = rD (zw τ w) t := rD_s e1
      obtain ⟨n', T, pt, hc, hz, hT⟩ := hP t ht
      have eM : rM τ t = T.n := by unfold rM; rw [hz.1]; exact nI_clamp (by have := hT.1; omega)
      have hd := hR t ht
      have hn' : rD (zw τ (rLayL τ w t)) t ≤ T.n := by rw [eD, ← eM]; exact hd.2.1
      obtain ⟨s0, s3⟩ := hS t ht
      obtain ⟨p12, p03⟩ := cTI_lay1 h1 h2 ht hO hz hT (by rw [eD]; exact rGall_of hO.tr hR t ht) hn' (fun q => by rw [e0] at q; rw [eD, rD_zw, s0 q]; rfl) (fun q => by rw [e0] at q; rw [eD]; exact s3 q)
      have e6 : ρ' 6 t = rLayL τ w t (10 + 4 * t) := (h1.2.2 t ht).1
      have e7 : ρ' 7 t = nI (rD (zw τ (rLayL τ w t)) t) := by rw [(h1.2.2 t ht).2.1, e1, eD]; exact hd.1
      refine g77_13 (D := rD (zw τ (rLayL τ w t)) t) hj (by omega) (fun q => by omega) (fun _ => ht) (fun _ _ => ht) (fun _ _ => hc) (fun _ _ => pt) (fun _ _ => e7) (fun _ _ => hT) (fun _ _ => hn') (fun _ _ => ht) (fun _ _ => ht) (fun _ q => ?_) (fun _ _ => ht) (fun _ _ _ => ht) (fun _ _ _ => ht) (fun _ q1 q2 => ?_) (fun _ _ _ => ht) (fun _ _ _ => hc) (fun _ _ _ => pt) (fun _ _ _ => e7) (fun _ _ _ => hT) (fun _ _ _ => hn') (fun _ _ _ => ht) (fun _ _ _ => ht) (fun _ q1 q2 => ?_)
      · rw [e6] at q
        exact ih _ (p12 (Or.inl q)).1 (p12 (Or.inl q)).2
      · rw [e6] at q1 q2
        obtain ⟨st, hst, es⟩ := hd.2.2.2
        have q03 : rLayL τ w t (10 + 4 * t) = 0 ∨ nI 3 ≤ rLayL τ w t (10 + 4 * t) := by
          rw [e0, es] at q1 q2 ⊢
          rcases (show st = 0 ∨ st = 1 ∨ st = 2 ∨ st = 3 ∨ st = 4 by omega) with e | e | e | e | e
          · subst e; exact Or.inl rfl
          · subst e; exact absurd rfl q1
          · subst e; exact absurd rfl q2
          · subst e; exact Or.inr (by decide)
          · subst e; exact Or.inr (by decide)
        exact ih _ (p03 q03).1 (p03 q03).2
      · rw [e6] at q2
        exact ih _ (p12 (Or.inr q2)).1 (p12 (Or.inr q2)).2
  exact key 4 (Nat.le_refl 4) ρ h hu
