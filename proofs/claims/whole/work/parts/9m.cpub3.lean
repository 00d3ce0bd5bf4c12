/-! the class: drift, undo, image, restore, run (2) -/
section
variable {d c s t B : Nat} {x y z : Int32} {σ : zSt} {I : zI} {L : zL} {P : zP} {S : zS} {Q : Option zV → zM → Prop}
theorem gm_Are {τ : Nat → Nat → Int32} {w : Nat → Int32} {top : Nat} (h : cTI τ (I 2 0) w) (k : Q (some (zi (rThoseL (zw zO w) x 4))) (I, L, zpj P, zsj S, top)) : Ev (d + 1) c s 62 0 [some (zr (some (2, 0, 0))), some (zi x), none, none] [] (I, L, zpj P, zsj S, top) Q := ev_om 2 0 (sp_cAre (by decide) h (om_q (Q := Q) k))
theorem aDr1_tx {τ : Nat → Nat → Int32} {w : Nat → Int32} (hT : rTr τ) (hR : rRw τ w) : ∀ i, (i = 0 ∨ 26 ≤ i) → aDr1 τ w i = w i := (aDr1_ok hT hR).2
theorem cp_drift (hG : zGood B σ) (hB : B < 2 ^ 29) (hC : zCls I L P S t σ) (k : cK I L S B (aDrift σ x).2 (zi (aDrift σ x).1) Q) : Ev (d + 6) c s 130 0 [some (zr (some (0, 0, 0))), some (zi x), none] [] (I, L, zpj P, zsj S, 237 + t) Q := by
  unfold aDrift at k
  have bad : (aIx x 41 = none ∨ x = nI 0) → Q (some (zi (-1))) (I, L, zpj P, zsj S, 237 + t) := by
    intro h
    rcases h with h | h
    · rw [h] at k; exact k I L P S t hC (hG.mono (by omega)) zFm.refl
    · rw [h, aIx_some (by decide) (by decide)] at k
      exact k I L P S t hC (hG.mono (by omega)) zFm.refl
  by_cases e : aIx x 41 = none
  · have no : ¬ (0 ≤ x ∧ x < nI 41) := fun ⟨a, b⟩ => absurd e (aIx_in (by decide) a b)
    refine g130_0i (fun _ => bad (Or.inl e)) (fun a b => absurd ⟨?_, ?_⟩ no) (fun _ _ => bad (Or.inl e))
    · exact Int32.le_trans (by decide) a
    · exact Int32.lt_of_le_of_lt b (by decide)
  · obtain ⟨n, hn, ex, en⟩ := aIx_ex e
    subst ex
    by_cases n0 : n = 0
    · subst n0
      exact g130_0i (fun _ => bad (Or.inr rfl)) (fun a b => absurd a (by decide)) (fun a b => absurd a (by decide))
    · rw [en] at k
      simp only [if_neg n0] at k
      refine g130_0i (fun g => absurd ((zlt_iff (by omega) (by decide)).mp g) (by omega)) (fun _ _ => g130_13 ?_) (fun _ g => absurd ((zlt_iff (by decide) (by omega)).mp g) (by omega))
      have lp : ∀ m, m ≤ n → ∀ I2 P2 w H, zCls I2 L P2 S t (w, H, σ.2.2) → zFm I L S I2 L S → (∀ i, (i = 0 ∨ 26 ≤ i) → w i = σ.w i) → zGood (B + (n - m)) (w, H, σ.2.2) → aDrL (tτ σ.w) n σ.w σ.H = aDrL (tτ σ.w) m w H → Ev (d + 6) c s 130 15 [some (zr (some (0, 0, 0))), some (zi (nI n)), some (zi (nI (n - m)))] [] (I2, L, zpj P2, zsj S, 237 + t) Q := by
        intro m
        induction m with
        | zero =>
          intro hm I2 P2 w H h1 h2 h3 h4 h5
          have h5 : aDrL (tτ σ.w) n σ.w σ.H = (w, H) := h5
          simp only [h5] at k
          exact g130_15 (d := d + 5) (by omega) (by omega) (fun _ => gm_Are (d := d + 4) h1.1.1 (g130_52 (k _ _ _ _ _ h1 (h4.mono (by omega)) h2))) (fun g => by omega)
        | succ m ih =>
          intro hm I2 P2 w H h1 h2 h3 h4 h5
          refine g130_15 (d := d + 5) (by omega) (by omega) (fun g => by omega) (fun _ => cp_keep (d := d + 4) h1 (fun I3 P3 hC3 f3 => g130_31 (d := d + 5) ?_))
          obtain ⟨hx, ti, huq, hO, hst, _⟩ := zG_f h4
          have hT := hO.tr
          have eτ : tτ w = tτ σ.w := tτ_eq h3
          refine gm_Drift (d := d) (hC3.1.ps hx) hC3.1.1 huq ti.1 ti.2.1 (ti.ag (by omega)) (fun ρ' a b => g130_38 ?_)
          rw [show n - (m + 1) + 1 = n - m by omega]
          have tx := aDr1_tx hT ti.1
          have t2 : tI (B + (n - m)) (tτ w) (aDr1 (tτ w) w) := (ti.dr1 hT).mono (by omega)
          exact ih (by omega) _ _ _ _ (hC3.row tx a) (h2.trans (f3.trans (zFm_so (by decide) (by decide)))) (fun i hi => (tx i hi).trans (h3 i hi)) (h4.note (by omega) (h4.1.to tx t2 b)) (by
            rw [h5]
            show aDrL (tτ σ.w) m (aDr1 (tτ σ.w) w) (hNote H w) = aDrL (tτ σ.w) m (aDr1 (tτ w) w) (hNote H w)
            rw [eτ])
      have h0 := lp n (Nat.le_refl _) I P σ.w σ.H hC zFm.refl (fun _ _ => rfl) (hG.mono (by omega)) rfl
      rw [Nat.sub_self] at h0
      exact h0
theorem cp_undo (hG : zGood B σ) (hC : zCls I L P S t σ) (k : cK I L S B (aUndo σ).2 (zi (aUndo σ).1) Q) : Ev (d + 2) c s 131 0 [some (zr (some (0, 0, 0)))] [] (I, L, zpj P, zsj S, 237 + t) Q := by
  unfold aUndo at k
  have hl : σ.H.length ≤ 6 := hG.2.1.1
  have hs : I 4 0 0 1 = nI σ.H.length := hC.2.1.choose_spec.2.2.1
  have hz : I 4 0 0 1 = 0 ↔ σ.H = [] := by
    rw [hs]
    constructor
    · intro e; exact List.eq_nil_of_length_eq_zero ((zeq (by omega) (by decide)).mp e)
    · intro e; rw [e]; rfl
  refine g131_0 (d := d + 1) (fun g => ?_) (fun g => ?_)
  · have hne : σ.H ≠ [] := fun e => g (hz.mpr e)
    have eH : σ.H = σ.H.dropLast ++ [σ.H.getLast hne] := (List.dropLast_concat_getLast hne).symm
    rw [List.getLast?_eq_some_getLast hne] at k
    simp only [] at k
    obtain ⟨hT, hH, hK, hTp, hS⟩ := hC
    rw [eH] at hH
    refine sp_hGive (d := d) (by decide) ⟨by decide, by decide⟩ hH (fun I1 P1 hf h1 h2 => g131_24 (d := d + 1) ?_)
    have hs1 : I1 4 0 0 1 = nI (σ.H.length - 1) := by
      rw [h1.choose_spec.2.2.1, List.length_dropLast]
    rw [hs1]
    have ho : cOld (t + 9) I P S I1 P1 S := fun n _ => ⟨funext fun i => (hf 3 n 0 i (by omega)).1, funext fun i => (hf 3 n 0 i (by omega)).2, rfl⟩
    refine k _ _ _ _ _ ⟨h2, h1, hK.fr (Nat.le_refl _) (fun j q i g => hf 2 j q i (by omega)) (fun q i => hf 4 1 q i (by omega)) (hf 0 0 0 8 (by omega)).1 ho, ⟨(hf 0 0 1 1 (by omega)).1.trans hTp.1, fun k hk => (hf 0 0 2 k (by omega)).1.trans (hTp.2 k hk)⟩, fun j hj => ?_⟩ ?_ (fun r hr => ⟨funext fun j => funext fun q => funext fun i => (hf r j q i (by omega)).1, rfl, rfl⟩)
    · have := hS j hj
      split
      · rename_i g; rw [show σ.S j = none from g] at this; exact (hf 5 j 0 0 (by omega)).1.trans this
      · rename_i x g
        rw [show σ.S j = some x from g] at this
        exact ⟨(hf 5 j 0 0 (by omega)).1.trans this.1, (hf 5 j 0 1 (by omega)).1.trans this.2.1, this.2.2⟩
    · have hG2 := hG.mono (B' := B + 40) (by omega)
      refine ⟨hG2.2.1.2 _ (List.getLast_mem hne), ⟨by show (σ.H.dropLast).length ≤ 6; rw [List.length_dropLast]; omega, fun h hh => hG2.2.1.2 h (List.dropLast_subset _ hh)⟩, hG2.2.2⟩
  · have e := hz.mp g
    rw [e] at k
    exact k I L P S t hC (hG.mono (by omega)) zFm.refl
theorem cShe.fr {I' : zI} {L' : zL} {SS : Nat → Option (Nat × Nat × (Nat → Int64))} (h : cShe I L SS) (h5 : ∀ j q i, I' 5 j q i = I 5 j q i ∧ L' 5 j q i = L 5 j q i) : cShe I' L' SS := by
  intro j hj
  have := h j hj
  split
  · rename_i g; rw [g] at this; exact (h5 j 0 0).1.trans this
  · rename_i x g
    rw [g] at this
    exact ⟨(h5 j 0 0).1.trans this.1, (h5 j 0 1).1.trans this.2.1, fun i hi => (h5 j 1 i).2.trans (this.2.2 i hi)⟩
theorem cImg.hs {b : Nat} {K : Option ((Nat → Int32) × List (Nat → Int32))} (h : cImg I P S b K) : ∃ H, cHs I P S b 1 9 H := by
  cases K with
  | none => exact ⟨[], h.2⟩
  | some k => exact ⟨k.2, h.2.2⟩
theorem cp_image (hG : zGood B σ) (hC : zCls I L P S t σ) (k : cK I L S B (aImage σ).2 (zi (aImage σ).1) Q) : Ev (d + 2) c s 133 0 [some (zr (some (0, 0, 0)))] [] (I, L, zpj P, zsj S, 237 + t) Q := by
  unfold aImage at k
  obtain ⟨hT, hH, hK, hTp, hS⟩ := hC
  refine g133_0 (d := d + 1) (sp_cBec (by decide) (by decide) (by decide) hT.po (fun I1 P1 hB => g133_11 (d := d + 1) ?_))
  have f1 : ∀ r j' q i, ¬ (r = 2 ∧ j' = 8) → I1 r j' q i = I r j' q i ∧ P1 r j' q i = P r j' q i := fun r j' q i g => ⟨hB.1.1 r j' q i g, hB.1.2 r j' q i g⟩
  have o1 : cOld (t + 9) I P S I1 P1 S := cBe.old hB
  obtain ⟨H0, hH0⟩ := hK.hs
  have a0 : cHs I1 P1 S (t + 9) 1 9 H0 := hH0.fr (Nat.le_refl _) (fun q i => f1 4 1 q i (by omega)) (fun j' g1 _ q i => f1 2 j' q i (by omega)) o1
  have a1 : cHs I1 P1 S (t + 9) 0 2 σ.H := hH.fr (Nat.le_refl _) (fun q i => f1 4 0 q i (by omega)) (fun j' _ g1 q i => f1 2 j' q i (by omega)) o1
  have a2 : cTb I1 P1 S (t + 9) 8 σ.w := cTb.be hB hT
  refine sp_hBec (d := d) (by decide) (by decide) (by decide) (by decide) (by decide) (Or.inr (by decide)) a0 a1 (fun I2 P2 hf h2 => g133_22 ?_)
  have f2 : ∀ r j' q i, ¬ ((r = 4 ∧ j' = 1) ∨ (r = 2 ∧ 8 ≤ j')) → zup4 I2 0 0 0 8 (nI 1) r j' q i = (if r = 0 ∧ j' = 0 ∧ q = 0 ∧ i = 8 then nI 1 else I r j' q i) ∧ P2 r j' q i = P r j' q i := by
    intro r j' q i g
    have x1 := hf r j' q i (by omega)
    have x2 := f1 r j' q i (by omega)
    rw [zup4_if, x1.1, x2.1, x1.2, x2.2]
    exact ⟨rfl, rfl⟩
  have o2 : cOld (t + 9) I1 P1 S (zup4 I2 0 0 0 8 (nI 1)) P2 S := fun n _ => ⟨funext fun i => by rw [zu4n _ _ (by omega)]; exact (hf 3 n 0 i (by omega)).1, funext fun i => (hf 3 n 0 i (by omega)).2, rfl⟩
  have o3 : cOld (t + 9) I P S (zup4 I2 0 0 0 8 (nI 1)) P2 S := fun n hn => ⟨(o2 n hn).1.trans (o1 n hn).1, (o2 n hn).2.1.trans (o1 n hn).2.1, rfl⟩
  have g2 : ∀ r j' q i, ¬ r = 0 → ¬ ((r = 4 ∧ j' = 1) ∨ (r = 2 ∧ 8 ≤ j')) → zup4 I2 0 0 0 8 (nI 1) r j' q i = I r j' q i ∧ P2 r j' q i = P r j' q i := fun r j' q i n0 g => by
    have := f2 r j' q i g
    rw [if_neg (by omega)] at this
    exact this
  have g0 : ∀ q i, ¬ q = 0 → zup4 I2 0 0 0 8 (nI 1) 0 0 q i = I 0 0 q i := fun q i n0 => by
    have := (f2 0 0 q i (by omega)).1
    rw [if_neg (by omega)] at this
    exact this
  refine k _ _ _ _ _ ⟨hT.fr (Nat.le_refl _) (fun q i => (g2 2 0 q i (by omega) (by omega)).1) (fun q i => (g2 2 0 q i (by omega) (by omega)).2) o3, hH.fr (Nat.le_refl _) (fun q i => g2 4 0 q i (by omega) (by omega)) (fun j' _ g1 q i => g2 2 j' q i (by omega) (by omega)) o3, ⟨zu4s _ _ _ _ _ _, ?_, ?_⟩, ⟨(g0 1 1 (by omega)).trans hTp.1, fun k hk => (g0 2 k (by omega)).trans (hTp.2 k hk)⟩, hS.fr (fun j q i => ⟨(g2 5 j q i (by omega) (by omega)).1, rfl⟩)⟩ ?_ (fun r hr => ⟨funext fun j => funext fun q => funext fun i => (g2 r j q i (by omega) (by omega)).1, rfl, rfl⟩)
  · exact a2.fr (Nat.le_refl _) (fun q i => by rw [zu4n _ _ (by omega)]; exact (hf 2 8 q i (by omega)).1) (fun q i => (hf 2 8 q i (by omega)).2) o2
  · exact h2.fr (Nat.le_refl _) (fun q i => ⟨zu4n _ _ (by omega), rfl⟩) (fun j' _ _ q i => ⟨zu4n _ _ (by omega), rfl⟩) (fun n _ => ⟨funext fun i => zu4n _ _ (by omega), rfl, rfl⟩)
  · have hG2 := hG.mono (B' := B + 40) (by omega)
    exact ⟨hG2.1, hG2.2.1, fun k hk => by cases hk; exact ⟨hG2.1, hG2.2.1⟩, hG2.2.2.2⟩
theorem cp_restore (hG : zGood B σ) (hC : zCls I L P S t σ) (k : cK I L S B (aRestore σ).2 (zi (aRestore σ).1) Q) : Ev (d + 2) c s 134 0 [some (zr (some (0, 0, 0)))] [] (I, L, zpj P, zsj S, 237 + t) Q := by
  unfold aRestore at k
  obtain ⟨hT, hH, hK, hTp, hS⟩ := id hC
  rcases eK : σ.K with _ | kk
  · rw [eK] at k hK
    have h8 : I 0 0 0 8 = 0 := hK.1
    exact g134_0 (d := d + 1) (fun g => absurd h8 g) (fun _ => k I L P S t hC (hG.mono (by omega)) zFm.refl)
  · rw [eK] at k
    have hK0 := hK
    rw [eK] at hK
    obtain ⟨h8, k1, k2⟩ := hK
    refine g134_0 (d := d + 1) (fun _ => ?_) (fun g => by rw [h8] at g; exact absurd g (by decide))
    refine sp_cBec (by decide) (by decide) (by decide) k1.po (fun I1 P1 hB => g134_21 (d := d + 1) ?_)
    have f1 : ∀ r j' q i, ¬ (r = 2 ∧ j' = 0) → I1 r j' q i = I r j' q i ∧ P1 r j' q i = P r j' q i := fun r j' q i g => ⟨hB.1.1 r j' q i g, hB.1.2 r j' q i g⟩
    have o1 : cOld (t + 9) I P S I1 P1 S := cBe.old hB
    have a0 : cHs I1 P1 S (t + 9) 0 2 σ.H := hH.fr (Nat.le_refl _) (fun q i => f1 4 0 q i (by omega)) (fun j' g1 _ q i => f1 2 j' q i (by omega)) o1
    have a1 : cHs I1 P1 S (t + 9) 1 9 kk.2 := k2.fr (Nat.le_refl _) (fun q i => f1 4 1 q i (by omega)) (fun j' g1 _ q i => f1 2 j' q i (by omega)) o1
    have a2 : cTb I1 P1 S (t + 9) 0 kk.1 := cTb.be hB k1
    refine sp_hBec (d := d) (by decide) (by decide) (by decide) (by decide) (by decide) (Or.inl (by decide)) a0 a1 (fun I2 P2 hf h2 => g134_32 ?_)
    have f2 : ∀ r j' q i, ¬ ((r = 4 ∧ j' = 0) ∨ (r = 2 ∧ j' < 8)) → I2 r j' q i = I r j' q i ∧ P2 r j' q i = P r j' q i := by
      intro r j' q i g
      have x1 := hf r j' q i (by omega)
      have x2 := f1 r j' q i (by omega)
      exact ⟨x1.1.trans x2.1, x1.2.trans x2.2⟩
    have o2 : cOld (t + 9) I1 P1 S I2 P2 S := hf.old
    have o3 : cOld (t + 9) I P S I2 P2 S := fun n hn => ⟨(o2 n hn).1.trans (o1 n hn).1, (o2 n hn).2.1.trans (o1 n hn).2.1, rfl⟩
    refine k _ _ _ _ _ ⟨a2.fr (Nat.le_refl _) (fun q i => (hf 2 0 q i (by omega)).1) (fun q i => (hf 2 0 q i (by omega)).2) o2, h2, hK0.fr (Nat.le_refl _) (fun j q i g => f2 2 j q i (by omega)) (fun q i => f2 4 1 q i (by omega)) (f2 0 0 0 8 (by omega)).1 o3, ⟨(f2 0 0 1 1 (by omega)).1.trans hTp.1, fun k hk => (f2 0 0 2 k (by omega)).1.trans (hTp.2 k hk)⟩, hS.fr (fun j q i => ⟨(f2 5 j q i (by omega)).1, rfl⟩)⟩ ?_ (fun r hr => ⟨funext fun j => funext fun q => funext fun i => (f2 r j q i (by omega)).1, rfl, rfl⟩)
    have hG2 := hG.mono (B' := B + 40) (by omega)
    have hk := hG2.2.2.1 kk eK
    exact ⟨hk.1, hk.2, hG2.2.2⟩
theorem cTI_come {τ ρ : Nat → Nat → Int32} {w : Nat → Int32} {u n : Nat} {y : Int32} {T : tT} (h : cTI τ ρ w) (hu : cUq τ w) (hT : tOk T) (hz : zTrR τ u T) (hg : rGok τ u n) (hn : n ≤ T.n) : cTI τ (cAddL T y ρ n) (rComeW τ u y w n) ∧ cUq τ (rComeW τ u y w n) := by
  have at' : ∀ i, (i < 4 ∨ 10 ≤ i) → rComeW τ u y w n i = w i := fun i hi => rComeW_at y w hi n hg
  have hu' : cUq τ (rComeW τ u y w n) := cUq_same (fun v _ => at' _ (by omega)) hu
  refine ⟨cTI_gen h hu' 0 ?_ (fun g h6 => ⟨cAddL_w hT hz (fun g hg => (h.2.1 g hg).1) n hn g h6, ?_⟩) (fun v hv hne => ⟨fun q h1 h2 => cAddL_q T y ρ (by omega) n v, fun i hi => at' _ (by omega)⟩) ?_, hu'⟩
  · rw [cAddL_q _ _ _ (by omega), cAddL_q _ _ _ (by omega), cAddL_q _ _ _ (by omega), cAddL_q _ _ _ (by omega), at' 0 (by omega), at' 1 (by omega), at' 2 (by omega), at' 3 (by omega)]
    exact h.1
  · rw [cAddL_q _ _ _ (by omega), cAddL_q _ _ _ (by omega)]
    exact cHd_same (fun v _ => at' _ (by omega)) (h.hd hu h6)
  · rw [cAddL_q _ _ _ (by omega), cAddL_q _ _ _ (by omega), cAddL_q _ _ _ (by omega), cAddL_q _ _ _ (by omega), cAddL_q _ _ _ (by omega), at' _ (by omega), at' _ (by omega), at' _ (by omega), at' _ (by omega), rWait_s (at' _ (by omega)) (at' _ (by omega))]
    exact h.2.2 0 (by decide)
theorem cp_run (hG : zGood B σ) (hC : zCls I L P S t σ) (k : cK I L S B (aRun σ x).2 (zi (aRun σ x).1) Q) : Ev (d + 3) c s 115 0 [some (zr (some (0, 0, 0))), some (zi x)] [] (I, L, zpj P, zsj S, 237 + t) Q := by
  unfold aRun at k
  obtain ⟨hx, ti, huq, hO, hst, _⟩ := zG_f hG
  have hT := hO.tr
  by_cases e : aIx x 4 = none
  · rw [e] at k
    exact g115_0i (fun _ => k I L P S t hC (hG.mono (by omega)) zFm.refl) (fun q => absurd e q)
  · obtain ⟨u, hu, ex, eu⟩ := aIx_ex e
    rw [eu] at k
    subst ex
    refine g115_0i (fun q => absurd q e) (fun _ => g115_9 (d := d + 2) (gm_Busy (d := d) hC.1.1 hst (fun g => ?_) (fun g => ?_)))
    · simp only [if_neg g] at k
      exact g115_16b (k I L P S t hC (hG.mono (by omega)) zFm.refl)
    · simp only [if_pos g] at k
      refine g115_16a (d := d + 2) (cp_keep (d := d + 1) hC (fun I1 P1 hC1 f1 => g115_33 (d := d + 2) ?_))
      obtain ⟨_, n, pn, cn⟩ := hC1.1.2 u hu
      have ok := tTr_ok hx hu
      have zt := rTrs_τ hx u hu
      have eM := rM_of hx (rTrs_τ hx) hu
      have gk : rGok (tτ σ.w) u (tTr σ.w u).n := by rw [← eM]; exact (hT u hu).2.2
      have cc := cTI_come (y := nI 1) hC1.1.1 huq ok zt gk (Nat.le_refl _)
      refine ev_om 2 0 (g76_0 (d := d + 1) (bb := t + 9) pn cn hu hu cn (sp_cAddTo (by decide) cn ok (Nat.le_refl _) (g76_23 (om_t (Q := fun r M' => Ev (d + 3) c s 115 41 [some (zr (some (0, 0, 0))), some (zi (nI u))] (zpush r []) M' Q) ?_))))
      have tx : ∀ i, (i = 0 ∨ 26 ≤ i) → rComeW (tτ σ.w) u (nI 1) σ.w (tTr σ.w u).n i = σ.w i := fun i hi => rComeW_at _ _ (by omega) _ gk
      have hC2 := hC1.row tx cc.1
      obtain ⟨_, n2, pn2, cn2⟩ := hC2.1.2 u hu
      have e2 : tTr (rComeW (tτ σ.w) u (nI 1) σ.w (tTr σ.w u).n) u = tTr σ.w u := tTr_eq tx u
      rw [show tTr (zSt.w (rComeW (tτ σ.w) u (nI 1) σ.w (tTr σ.w u).n, hNote σ.H σ.w, σ.2.2)) u = tTr σ.w u from e2] at cn2
      refine g115_41 (d := d + 2) pn2 cn2 hu cn2 ?_
      obtain ⟨_, _, ⟨n1, n2', n3, n4⟩⟩ := id ti
      have at' : ∀ i, (i < 4 ∨ 10 ≤ i) → rComeW (tτ σ.w) u (nI 1) σ.w (tTr σ.w u).n i = σ.w i := fun i hi => rComeW_at _ _ hi _ gk
      have t2 : tI B (tτ σ.w) (rComeW (tτ σ.w) u (nI 1) σ.w (tTr σ.w u).n) := ti.same (fun i g => at' i (by omega)) (by rw [at' 1 (by omega)]; exact n1) (by rw [at' 2 (by omega)]; exact n2') (by rw [at' 3 (by omega)]; exact n3)
      exact k _ _ _ _ _ hC2 (hG.note (by omega) (hG.1.to tx (t2.mono (by omega)) cc.2)) (f1.trans (zFm_so (by decide) (by decide)))
end
