/-! the reference: drift -/
def aDr1 (τ : Nat → Nat → Int32) (w : Nat → Int32) : Nat → Int32 := if rX w % 8 = 6 then rLaysW τ (rDrwW w) else if rX w % 8 = 7 then zup (rDrwW w) 1 (nI (rX w / 8 % 5)) else if nI 3 ≤ rDrwW w (10 + 4 * (rX w / 8 % 4)) then rDrwW w else rTurnW τ (rX w / 8 % 4) (rDrwW w)
def aDrL (τ : Nat → Nat → Int32) : Nat → (Nat → Int32) → List (Nat → Int32) → (Nat → Int32) × List (Nat → Int32)
  | 0, w, H => (w, H)
  | n + 1, w, H => aDrL τ n (aDr1 τ w) (hNote H w)
def aDrift (σ : zSt) (x : Int32) : Int32 × zSt := match aIx x 41 with
  | none => (-1, σ)
  | some n => if n = 0 then (-1, σ) else (rThoseL (zw zO (aDrL (tτ σ.w) n σ.w σ.H).1) (nI 0) 4, ((aDrL (tτ σ.w) n σ.w σ.H).1, (aDrL (tτ σ.w) n σ.w σ.H).2, σ.2.2))
theorem rDrwW_at (w : Nat → Int32) {i : Nat} (h : ¬ i = 3) : rDrwW w i = w i := zup_n _ _ h
theorem rRw.lays {ρ : Nat → Nat → Int32} {w : Nat → Int32} (hT : rTr ρ) (hR : rRw ρ w) : rRw ρ (rLaysW ρ w) := by
  unfold rLaysW
  split
  · exact hR
  · exact (hR.lay hT 4 (Nat.le_refl 4)).agree fun t ht => ⟨zup_n _ _ (by omega), zup_n _ _ (by omega)⟩
theorem rLaysW_ag {ρ ρ' : Nat → Nat → Int32} (h : rAg ρ ρ') (hT : rTr ρ) {w : Nat → Int32} (hR : rRw ρ w) : rLaysW ρ' w = rLaysW ρ w := by
  unfold rLaysW
  rw [rLayL_ag h hT hR 4 (Nat.le_refl 4)]
theorem aDr1_ok {ρ : Nat → Nat → Int32} {w : Nat → Int32} (hT : rTr ρ) (hR : rRw ρ w) : rRw ρ (aDr1 ρ w) ∧ ∀ i, (i = 0 ∨ 26 ≤ i) → aDr1 ρ w i = w i := by
  have hd := hR.drw
  have ht : rX w / 8 % 4 < 4 := Nat.mod_lt _ (by decide)
  have e : ∀ i, (i = 0 ∨ 26 ≤ i) → rDrwW w i = w i := fun i hi => rDrwW_at w (by omega)
  unfold aDr1
  split
  · exact ⟨hd.lays hT, fun i hi => (rLaysW_tx hT hd hi).trans (e i hi)⟩
  · split
    · exact ⟨hd.agree fun t ht => ⟨zup_n _ _ (by omega), zup_n _ _ (by omega)⟩, fun i hi => (zup_n _ _ (by omega)).trans (e i hi)⟩
    · split
      · exact ⟨hd, e⟩
      · exact ⟨hd.turn hT ht, fun i hi => (rTurnW_tx hT ht hd hi).trans (e i hi)⟩
theorem aDr1_ag {ρ ρ' : Nat → Nat → Int32} (h : rAg ρ ρ') (hT : rTr ρ) {w : Nat → Int32} (hR : rRw ρ w) : aDr1 ρ' w = aDr1 ρ w := by
  unfold aDr1
  rw [rLaysW_ag h hT hR.drw, (rTurn_ag h hT hR.drw (Nat.mod_lt _ (by decide))).2]
theorem rp_drift {d c s B : Nat} {x : Int32} {σ : zSt} {X : zM} {ρ : Nat → Nat → Int32} {l : Nat → Nat → Int64} {Q : Option zV → zM → Prop} (hG : zGood B σ) (hR : zRef ρ l σ) (k : ∀ ρ' l', zRef ρ' l' (aDrift σ x).2 → Q (some (zi (aDrift σ x).1)) (OM X 1 0 ρ' l')) : Ev (d + 7) c s 230 0 [some (zr (some (1, 0, 0))), some (zi x), none, none, none, none] [] (OM X 1 0 ρ l) Q := by
  have hTx := hG.1.2.1
  have hag : ∀ ρ2, rFr ρ ρ2 → rTr ρ2 ∧ rAg ρ2 (tτ σ.w) ∧ rRw ρ2 σ.w := by
    intro ρ2 hf
    have h2 := rTrs_fr hR.2.2.2.2.2 hf
    exact ⟨rTr_of hTx h2, rAg_τ hTx h2, rRw_of hTx h2 hG.1.2.2.1⟩
  have loop : ∀ m g (n : Nat) (w : Nat → Int32) (H : List (Nat → Int32)) (ρ' : Nat → Nat → Int32) (o3 o4 o5 : Option zV), n = g + m → n < 5000 → rFr ρ ρ' → rHs ρ' H → rRw ρ' w → (∀ i, (i = 0 ∨ 26 ≤ i) → w i = σ.w i) → (∀ ρ2, rFr ρ ρ2 → rHs ρ2 (aDrL (tτ σ.w) m w H).2 → (∀ i, (i = 0 ∨ 26 ≤ i) → (aDrL (tτ σ.w) m w H).1 i = σ.w i) → Q (some (zi (rThose (zw ρ2 (aDrL (tτ σ.w) m w H).1) (nI 0)))) (OM X 1 0 (zw ρ2 (aDrL (tτ σ.w) m w H).1) l)) → Ev (d + 7) c s 230 16 [some (zr (some (1, 0, 0))), some (zi (nI n)), some (zi (nI g)), o3, o4, o5] [] (OM X 1 0 (zw ρ' w) l) Q := by
    intro m
    induction m with
    | zero =>
      intro g n w H ρ' o3 o4 o5 hn h5 hf hH hw htx hk
      exact g230_16 (H := H) (v := w) (by omega) h5 (fun _ => hk ρ' hf hH htx) (fun h => by omega) (fun h => by omega) (fun h => by omega)
    | succ m ih =>
      intro g n w H ρ' o3 o4 o5 hn h5 hf hH hw htx hk
      unfold aDrL at hk
      refine g230_16 (H := H) (v := w) (by omega) h5 (fun h => by omega) (fun _ ρ1 hd => rHs_hd hH hd) (fun _ ρ1 hd => hd.2.2.2) (fun _ ρ1 hd ρ2 hn2 => ?_)
      have hf2 : rFr ρ ρ2 := hf.trans (hd.1.trans hn2.1)
      obtain ⟨g1, g2, _⟩ := hag ρ2 hf2
      have hw2 : rRw ρ2 w := by
        intro t ht
        have h1 := hw t ht
        have e1 : rM ρ2 t = rM ρ' t := by
          unfold rM
          rw [(hd.1.trans hn2.1).row (by decide) (by decide) (by decide) (by decide)]
        rw [e1]
        exact h1
      obtain ⟨o1, o2⟩ := aDr1_ok g1 hw2
      have eA := aDr1_ag g2 g1 hw2
      rw [eA] at hk
      have hx := rX_lt w
      -- the next time
      have nxt : ∀ (y : Int32) (o3 o4 o5 : Option zV), Ev (d + 7) c s 230 16 [some (zr (some (1, 0, 0))), some (zi (nI n)), some (zi (nI (g + 1))), o3, o4, o5] [] (OM X 1 0 (zw (zu ρ2 0 37 y) (aDr1 ρ2 w)) l) Q := by
        intro y o3 o4 o5
        refine ih (g + 1) n _ (hNote H w) _ _ _ _ (by omega) h5 (zu37 hf2 _) (rHs37 hn2.2 _) o1 (fun i hi => (o2 i hi).trans (htx i hi)) hk
      refine g230_34 (v := w) ?_
      rw [pk_rem (by omega) (by decide) (by decide), pk_div (by omega) (by decide) (by decide), pk_rem (by omega) (by decide) (by decide)]
      have hm8 : rX w % 8 < 8 := Nat.mod_lt _ (by decide)
      have ht4 : rX w / 8 % 4 < 4 := Nat.mod_lt _ (by decide)
      have hr5 : rX w / 8 % 5 < 5 := Nat.mod_lt _ (by decide)
      refine g230_48 (v := w) (by omega) (fun _ _ => by omega) (fun _ _ _ => ht4) (fun _ _ _ => g1) (fun _ _ _ => hw2.drw) (fun h6 h7 h3 => ?_) (fun h6 h7 h3 => ?_) (fun h6 h7 => ?_) (fun _ => g1) (fun _ => hw2.drw) (fun h6 => ?_)
      · have e : aDr1 ρ2 w = rTurnW ρ2 (rX w / 8 % 4) (rDrwW w) := by unfold aDr1; rw [if_neg h6, if_neg h7, if_neg (Int32.not_le.mpr h3)]
        rw [← e]
        exact nxt _ _ _ _
      · have e : aDr1 ρ2 w = rDrwW w := by unfold aDr1; rw [if_neg h6, if_neg h7, if_pos h3]
        rw [← e]
        exact nxt _ _ _ _
      · rw [pk_div (by omega) (by decide) (by decide), pk_rem (by omega) (by decide) (by decide)]
        have e : aDr1 ρ2 w = zup (rDrwW w) 1 (nI (rX w / 8 % 5)) := by unfold aDr1; rw [if_neg h6, if_pos h7]
        refine sp_rules (fun j hj ej => ?_) (fun h => absurd ((zrange _ 4 (by decide)).mpr ⟨_, by omega, rfl⟩) h)
        refine g230_80 (v := w) ?_
        rw [← e]
        exact nxt _ _ _ _
      · have e : aDr1 ρ2 w = rLaysW ρ2 (rDrwW w) := by unfold aDr1; rw [if_pos h6]
        rw [← e]
        exact nxt _ _ _ _
  rw [← hR.zw]
  refine g230_0 (fun h => ?_) (fun h => ?_)
  · obtain ⟨n, hn1, hn2, rfl⟩ := (zrange1 x 40 (by decide)).mp h
    unfold aDrift at k
    rw [aIx_some (show n < 41 by omega) (by decide)] at k
    simp only [] at k
    rw [if_neg (by omega)] at k
    refine loop n 0 n σ.w σ.H ρ _ _ _ (by omega) (by omega) rFr.rfl hR.2.1 (hag ρ rFr.rfl).2.2 (fun _ _ => rfl) (fun ρ2 k1 k2 k3 => ?_)
    rw [show rThose (zw ρ2 (aDrL (tτ σ.w) n σ.w σ.H).1) (nI 0) = _ from rThoseL_zw ρ2 zO _ _ 4]
    exact k _ _ (hR.step k1 k2 k3)
  · unfold aDrift at k
    rw [hR.zw]
    rcases ha : aIx x 41 with _ | n
    · rw [ha] at k
      exact k _ _ hR
    · rw [ha] at k
      simp only [] at k
      have e : n = 0 := by
        unfold aIx at ha
        by_cases h0 : x < 0
        · rw [if_pos h0] at ha; cases ha
        · rw [if_neg h0] at ha
          obtain ⟨j, hj, ej⟩ := nI_of h0
          rw [ej, nI_clamp hj] at ha
          by_cases hn : 41 ≤ j
          · rw [if_pos hn] at ha; cases ha
          · rw [if_neg hn] at ha
            injection ha with ha
            by_cases hz : n = 0
            · exact hz
            · exact absurd ((zrange1 x 40 (by decide)).mpr ⟨j, by omega, by omega, ej⟩) h
      rw [if_pos e] at k
      exact k _ _ hR
