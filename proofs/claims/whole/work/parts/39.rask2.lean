/-! the reference: questions of gates and tasks -/
theorem rWtrL_ag {ρ ρ' : Nat → Nat → Int32} (h : rAg ρ ρ') {w : Nat → Int32} (hR : rRw ρ w) (x : Int32) : ∀ n, n ≤ 4 → rWtrL (zw ρ' w) x n = rWtrL (zw ρ w) x n := by
  intro n
  induction n with
  | zero => intro _; rfl
  | succ n ih =>
    intro hn
    unfold rWtrL
    rw [ih (by omega), rWait_ag h hR (by omega)]
theorem rSetL_zw (ρ : Nat → Nat → Int32) (w : Nat → Int32) (t u g : Nat) : rSetL (zw ρ w) t u g = rSetL ρ t u g := by
  induction g with
  | zero => rfl
  | succ g ih =>
    unfold rSetL
    rw [ih, rIns_zw]
/-- how often the one that holds a gate is in it -/
def aDeep (τ : Nat → Nat → Int32) (w : Nat → Int32) (g : Int32) : Int32 := if rHold (zw τ w) g < 0 then nI 0 else rIns τ (rHold (zw τ w) g).toNatClampNeg (rD (zw τ w) (rHold (zw τ w) g).toNatClampNeg) g
def aGate (σ : zSt) (x y : Int32) : Int32 := match aIx x 6 with
  | none => -1
  | some g => if y = nI 0 then σ.w (4 + g) + nI 1000000 else if y = nI 1 then rHold (zw (tτ σ.w) σ.w) (nI g) else if y = nI 2 then aDeep (tτ σ.w) σ.w (nI g) else if y = nI 3 then (if (σ.w 0 >>> (nI g &&& 31)) &&& nI 1 = nI 1 then nI 1 else nI 0) else if y = nI 4 then rWtrL (zw (tτ σ.w) σ.w) (nI g) 4 else -1
theorem aDeep_ag {ρ ρ' : Nat → Nat → Int32} (h : rAg ρ ρ') {w : Nat → Int32} (hR : rRw ρ w) (g : Int32) : aDeep ρ' w g = aDeep ρ w g := by
  unfold aDeep
  rw [rHold_ag h hR]
  rcases rHoldL_cases (zw ρ w) g 4 with e | ⟨t, ht, e⟩
  · rw [show rHold (zw ρ w) g = -4 from e, if_pos zm4, if_pos zm4]
  · rw [show rHold (zw ρ w) g = nI t from e, nI_clamp (by omega), show rD (zw ρ' w) t = rD (zw ρ w) t from rfl, rIns_ag h ht _ _ (hR t ht).2.1]
theorem rp_gate {d c s B : Nat} {x y : Int32} {σ : zSt} {X : zM} {ρ : Nat → Nat → Int32} {l : Nat → Nat → Int64} {Q : Option zV → zM → Prop} (hG : zGood B σ) (hR : zRef ρ l σ) (k : Q (some (zi (aGate σ x y))) (OM X 1 0 ρ l)) : Ev (d + 3) c s 214 0 [some (zr (some (1, 0, 0))), some (zi x), some (zi y), none] [] (OM X 1 0 ρ l) Q := by
  have hTx := hG.1.2.1
  have hT := rTr_of hTx hR.2.2.2.2.2
  have hW := rRw_of hTx hR.2.2.2.2.2 hG.1.2.2.1
  have hA := rAg_τ hTx hR.2.2.2.2.2
  rw [← hR.zw] at k ⊢
  unfold aGate at k
  refine g214_0 (fun h => ?_) (fun h => ?_)
  · obtain ⟨g, hg, rfl⟩ := zrangeL (by decide) h
    have hg : g < 6 := hg
    rw [aIx_some hg (by decide)] at k
    simp only [] at k
    rw [rHold_ag hA hW, aDeep_ag hA hW, rWtrL_ag hA hW _ 4 (Nat.le_refl 4)] at k
    refine g214_9 (rDok_of hT hW) (fun _ => by omega) (fun h0 => ?_) (fun h0 h1 => ?_) (fun h0 h1 h2 hh => ?_) (fun h0 h1 h2 hh => ?_) (fun h0 h1 h2 h3 hh => ?_) (fun h0 h1 h2 h3 hh => ?_) (fun _ _ _ _ _ => rDok_of hT hW) (fun _ _ _ _ _ => rWok_of hT hW) (fun h0 h1 h2 h3 h4 => ?_) (fun h0 h1 h2 h3 h4 => ?_)
    · rw [if_pos h0] at k; exact k
    · rw [if_neg h0, if_pos h1] at k; exact k
    · rw [if_neg h0, if_neg h1, if_pos h2] at k
      unfold aDeep at k
      rw [if_neg (Int32.not_lt.mpr hh)] at k
      rcases rHoldL_cases (zw ρ σ.w) (nI g) 4 with e | ⟨t, ht, e⟩
      · rw [show rHold (zw ρ σ.w) (nI g) = -4 from e] at hh
        exact absurd hh (by decide)
      · rw [show rHold (zw ρ σ.w) (nI g) = nI t from e, nI_clamp (by omega)] at k
        rw [show rHold (zw ρ σ.w) (nI g) = nI t from e]
        have hd := rDok_of hT hW t ht
        refine g214_75 (D := rD (zw ρ σ.w) t) hd.1 (by omega) ht hd.2 ?_
        rw [rIns_zw]
        exact k
    · rw [if_neg h0, if_neg h1, if_pos h2] at k
      unfold aDeep at k
      rw [if_pos hh] at k
      exact k
    · rw [if_neg h0, if_neg h1, if_neg h2, if_pos h3, if_neg hh] at k; exact k
    · rw [if_neg h0, if_neg h1, if_neg h2, if_pos h3, if_pos hh] at k; exact k
    · rw [if_neg h0, if_neg h1, if_neg h2, if_neg h3, if_pos h4] at k; exact k
    · rw [if_neg h0, if_neg h1, if_neg h2, if_neg h3, if_neg h4] at k; exact k
  · rw [zrangeN (by decide) h] at k
    exact k
def aTask (σ : zSt) (x y : Int32) : Int32 := match aIx x 4 with
  | none => -1
  | some t => if y = nI 0 then σ.w (10 + 4 * t) else if y = nI 1 then σ.w (10 + 4 * t + 1) else if y = nI 2 then rSet (tτ σ.w) t (rD (zw (tτ σ.w) σ.w) t) else if y = nI 3 then rWait (zw (tτ σ.w) σ.w) t else if y = nI 4 then σ.w (10 + 4 * t + 2) else if y = nI 5 then σ.w (10 + 4 * t + 3) else if y = nI 6 then (if rRing (zw (tτ σ.w) σ.w) t = 0 then nI 0 else nI 1) else -1
theorem rp_task {d c s B : Nat} {x y : Int32} {σ : zSt} {X : zM} {ρ : Nat → Nat → Int32} {l : Nat → Nat → Int64} {Q : Option zV → zM → Prop} (hG : zGood B σ) (hR : zRef ρ l σ) (k : Q (some (zi (aTask σ x y))) (OM X 1 0 ρ l)) : Ev (d + 5) c s 215 0 [some (zr (some (1, 0, 0))), some (zi x), some (zi y)] [] (OM X 1 0 ρ l) Q := by
  have hTx := hG.1.2.1
  have hT := rTr_of hTx hR.2.2.2.2.2
  have hW := rRw_of hTx hR.2.2.2.2.2 hG.1.2.2.1
  have hA := rAg_τ hTx hR.2.2.2.2.2
  rw [← hR.zw] at k ⊢
  unfold aTask at k
  refine g215_0 (fun h => ?_) (fun h => ?_)
  · obtain ⟨t, ht, rfl⟩ := zrangeL (by decide) h
    have ht : t < 4 := ht
    rw [aIx_some ht (by decide)] at k
    simp only [] at k
    have hd := rDok_of hT hW t ht
    have eS : rSet (tτ σ.w) t (rD (zw (tτ σ.w) σ.w) t) = rSet (zw ρ σ.w) t (rD (zw ρ σ.w) t) := (rSetL_ag hA ht (hW t ht).2.1 6).trans (rSetL_zw ρ σ.w t _ 6).symm
    rw [eS, rWait_ag hA hW ht, rRing_ag hA hW ht] at k
    refine g215_10 (D := rD (zw ρ σ.w) t) hd.1 (fun h0 => ?_) (fun h0 h1 => ?_) (fun _ _ _ => by omega) (fun _ _ _ => ht) (fun _ _ _ => hd.2) (fun h0 h1 h2 => ?_) (fun _ _ _ _ => ht) (fun _ _ _ _ => rDok_of hT hW) (fun _ _ _ _ => rWok_of hT hW) (fun h0 h1 h2 h3 => ?_) (fun _ _ _ _ _ => by omega) (fun h0 h1 h2 h3 h4 => ?_) (fun _ _ _ _ _ _ => by omega) (fun h0 h1 h2 h3 h4 h5 => ?_) (fun _ _ _ _ _ _ _ => ht) (fun _ _ _ _ _ _ _ => rDok_of hT hW) (fun _ _ _ _ _ _ _ => rWok_of hT hW) (fun h0 h1 h2 h3 h4 h5 h6 hr => ?_) (fun h0 h1 h2 h3 h4 h5 h6 hr => ?_) (fun h0 h1 h2 h3 h4 h5 h6 => ?_)
    · rw [if_pos h0] at k
      subst h0
      exact g215_52 (by omega) k
    · rw [if_neg h0, if_pos h1] at k
      subst h1
      exact g215_52 (by omega) k
    · rw [if_neg h0, if_neg h1, if_pos h2] at k; exact k
    · rw [if_neg h0, if_neg h1, if_neg h2, if_pos h3] at k; exact k
    · rw [if_neg h0, if_neg h1, if_neg h2, if_neg h3, if_pos h4] at k; exact k
    · rw [if_neg h0, if_neg h1, if_neg h2, if_neg h3, if_neg h4, if_pos h5] at k; exact k
    · rw [if_neg h0, if_neg h1, if_neg h2, if_neg h3, if_neg h4, if_neg h5, if_pos h6, if_pos hr] at k; exact k
    · rw [if_neg h0, if_neg h1, if_neg h2, if_neg h3, if_neg h4, if_neg h5, if_pos h6, if_neg hr] at k; exact k
    · rw [if_neg h0, if_neg h1, if_neg h2, if_neg h3, if_neg h4, if_neg h5, if_neg h6] at k; exact k
  · rw [zrangeN (by decide) h] at k
    exact k
