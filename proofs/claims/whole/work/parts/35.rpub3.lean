/-! the reference: rule, run, seed -/
theorem g212_0 {d c s : Nat} {x : Int32} {w : Nat → Int32} {X : zM} {ρ : Nat → Nat → Int32} {l : Nat → Nat → Int64} {Q : Option zV → zM → Prop}
    (h1 : ∀ ρ1 : Nat → Nat → Int32, (rHd ρ w ρ1) → Ev d 0 0 210 0 [some (zr (some (1, 0, 0))), some (zi x), none] [] (OM X 1 0 (zw ρ1 w) l) (fun r M' => Ev (d + 1) c s 212 9 [some (zr (some (1, 0, 0))), some (zi x), none] (zpush r []) M' Q)) : Ev (d + 1) c s 212 0 [some (zr (some (1, 0, 0))), some (zi x), none] [] (OM X 1 0 (zw ρ w) l) Q := by
  refine Ew.ld f212_0 rfl rfl rfl rfl ?_
  refine Ew.call0 (ls0 := [some (zr (some (1, 0, 0))), none]) f212_1 rfl (Nat.le_of_ble_eq_true rfl) rfl rfl (Nat.le_of_ble_eq_true rfl) rfl (Nat.le_of_ble_eq_true rfl) rfl rfl ?_
  refine sp_holds' (fun ρ1 f1 => ?_)
  show Ev (d + 1) c s 212 4 [some (zr (some (1, 0, 0))), some (zi x), none] [] (OM X 1 0 (zw ρ1 w) l) Q
  refine Ew.ld f212_4 rfl rfl rfl rfl ?_
  refine Ew.ld f212_5 rfl rfl rfl rfl ?_
  refine Ew.call0 (ls0 := [some (zr (some (1, 0, 0))), some (zi x), none]) f212_6 rfl (Nat.le_of_ble_eq_true rfl) rfl rfl (Nat.le_of_ble_eq_true rfl) rfl (Nat.le_of_ble_eq_true rfl) rfl rfl ?_
  exact h1 ρ1 f1
theorem g212_9 {d c s : Nat} {x y : Int32} {H : List (Nat → Int32)} {w v : Nat → Int32} {X : zM} {ρ : Nat → Nat → Int32} {l : Nat → Nat → Int64} {Q : Option zV → zM → Prop}
    (h1 : (y < 0) → Q (some (zi y)) (OM X 1 0 (zw ρ w) l))
    (b1 : (0 ≤ y) → rHs ρ H)
    (b2 : (0 ≤ y) → ∀ i, i < 270 → ρ 26 i = v i)
    (h2 : (0 ≤ y) → ∀ ρ1 : Nat → Nat → Int32, (rNo ρ ρ1 (hNote H v)) → Q (some (zi y)) (OM X 1 0 (zw ρ1 w) l)) : Ev (d + 1) c s 212 9 [some (zr (some (1, 0, 0))), some (zi x), none] [zi y] (OM X 1 0 (zw ρ w) l) Q := by
  refine Ew.sr (ls' := [some (zr (some (1, 0, 0))), some (zi x), some (zi y)]) f212_9 rfl rfl (Nat.le_of_ble_eq_true rfl) rfl rfl ?_
  refine Ew.ld f212_10 rfl rfl rfl rfl ?_
  refine Ew.ifc f212_11 rfl rfl (fun c1 => ?_) (fun c1 => ?_)
  · refine Ew.ld f212_18 rfl rfl rfl rfl ?_
    refine Ew.ireti f212_19 ?_
    exact h1 c1
  · refine Ew.ld f212_14 rfl rfl rfl rfl ?_
    refine Ew.call0 (ls0 := [some (zr (some (1, 0, 0))), none]) f212_15 rfl (Nat.le_of_ble_eq_true rfl) rfl rfl (Nat.le_of_ble_eq_true rfl) rfl (Nat.le_of_ble_eq_true rfl) rfl rfl ?_
    refine sp_notes' (b1 (Int32.not_lt.mp c1)) (b2 (Int32.not_lt.mp c1)) (fun ρ1 f1 => ?_)
    show Ev (d + 1) c s 212 18 [some (zr (some (1, 0, 0))), some (zi x), some (zi y)] [] (OM X 1 0 (zw ρ1 w) l) Q
    refine Ew.ld f212_18 rfl rfl rfl rfl ?_
    refine Ew.ireti f212_19 ?_
    exact h2 (Int32.not_lt.mp c1) ρ1 f1
theorem g191_0 {d c s : Nat} {x : Int32} {w : Nat → Int32} {X : zM} {ρ : Nat → Nat → Int32} {l : Nat → Nat → Int64} {Q : Option zV → zM → Prop}
    (h1 : (lN 0 ≤ x.toInt64 ∧ x.toInt64 ≤ lN 3) → Ev (d + 2) c s 191 10 [some (zr (some (1, 0, 0))), some (zi x)] [] (OM X 1 0 (zw ρ w) l) Q)
    (h2 : (¬ (lN 0 ≤ x.toInt64 ∧ x.toInt64 ≤ lN 3)) → Q (some (zi ((-1)))) (OM X 1 0 (zw ρ w) l)) : Ev (d + 2) c s 191 0 [some (zr (some (1, 0, 0))), some (zi x)] [] (OM X 1 0 (zw ρ w) l) Q := by
  refine Ew.ld f191_0 rfl rfl rfl rfl ?_
  refine Ew.op (st' := zl x.toInt64 :: _) f191_1 rfl rfl ?_
  refine Ew.call0 (ls0 := [some (zl x.toInt64), none]) f191_2 rfl (Nat.le_of_ble_eq_true rfl) rfl rfl (Nat.le_of_ble_eq_true rfl) trivial (Nat.le_of_ble_eq_true rfl) rfl rfl ?_
  refine sp_isTask (fun c1 => ?_) (fun c1 => ?_)
  · refine Ew.ifc f191_5 rfl rfl (fun _ => ?_) (fun h => absurd (show ¬ ((nI 1) : Int32) = 0 by decide) h)
    exact h1 c1
  · refine Ew.ifc f191_5 rfl rfl (fun h => absurd h (show ¬ (¬ ((nI 0) : Int32) = 0) by decide)) (fun _ => ?_)
    refine Ew.op (st' := zi ((-1)) :: _) f191_8 rfl rfl ?_
    refine Ew.ireti f191_9 ?_
    exact h2 c1
theorem g191_10 {d c s : Nat} {t m : Nat} {H : List (Nat → Int32)} {w v : Nat → Int32} {X : zM} {ρ : Nat → Nat → Int32} {l : Nat → Nat → Int64} {Q : Option zV → zM → Prop}
    (b1 : ((rBusy (zw ρ w)) = 0) → ∀ ρ1 : Nat → Nat → Int32, (rHd ρ w ρ1) → rHs ρ1 H)
    (b2 : ((rBusy (zw ρ w)) = 0) → ∀ ρ1 : Nat → Nat → Int32, (rHd ρ w ρ1) → ∀ i, i < 270 → ρ1 26 i = v i)
    (h1 : ((rBusy (zw ρ w)) = 0) → ∀ ρ1 : Nat → Nat → Int32, (rHd ρ w ρ1) → ∀ ρ2 : Nat → Nat → Int32, (rNo ρ1 ρ2 (hNote H v)) → Ev (d + 2) c s 191 28 [some (zr (some (1, 0, 0))), some (zi (nI t))] [] (OM X 1 0 (zw ρ2 w) l) Q)
    (h2 : (¬ (rBusy (zw ρ w)) = 0) → Q (some (zi ((-2)))) (OM X 1 0 (zw ρ w) l)) : Ev (d + 2) c s 191 10 [some (zr (some (1, 0, 0))), some (zi (nI t))] [] (OM X 1 0 (zw ρ w) l) Q := by
  refine Ew.ld f191_10 rfl rfl rfl rfl ?_
  refine Ew.call0 (ls0 := [some (zr (some (1, 0, 0))), none, none]) f191_11 rfl (Nat.le_of_ble_eq_true rfl) rfl rfl (Nat.le_of_ble_eq_true rfl) rfl (Nat.le_of_ble_eq_true rfl) rfl rfl ?_
  refine sp_isBusy ?_
  show Ev (d + 2) c s 191 14 [some (zr (some (1, 0, 0))), some (zi (nI t))] [zi (rBusy (zw ρ w))] (OM X 1 0 (zw ρ w) l) Q
  refine Ew.ifc f191_14 rfl rfl (fun c1 => ?_) (fun c1 => ?_)
  · refine Ew.ld f191_20 rfl rfl rfl rfl ?_
    refine Ew.call0 (ls0 := [some (zr (some (1, 0, 0))), none]) f191_21 rfl (Nat.le_of_ble_eq_true rfl) rfl rfl (Nat.le_of_ble_eq_true rfl) rfl (Nat.le_of_ble_eq_true rfl) rfl rfl ?_
    refine sp_holds' (fun ρ1 f1 => ?_)
    show Ev (d + 2) c s 191 24 [some (zr (some (1, 0, 0))), some (zi (nI t))] [] (OM X 1 0 (zw ρ1 w) l) Q
    refine Ew.ld f191_24 rfl rfl rfl rfl ?_
    refine Ew.call0 (ls0 := [some (zr (some (1, 0, 0))), none]) f191_25 rfl (Nat.le_of_ble_eq_true rfl) rfl rfl (Nat.le_of_ble_eq_true rfl) rfl (Nat.le_of_ble_eq_true rfl) rfl rfl ?_
    refine sp_notes' (b1 c1 ρ1 f1) (b2 c1 ρ1 f1) (fun ρ2 f2 => ?_)
    show Ev (d + 2) c s 191 28 [some (zr (some (1, 0, 0))), some (zi (nI t))] [] (OM X 1 0 (zw ρ2 w) l) Q
    exact h1 c1 ρ1 f1 ρ2 f2
  · refine Ew.op (st' := zi ((-2)) :: _) f191_17 rfl rfl ?_
    refine Ew.ireti f191_19 ?_
    exact h2 c1
theorem g191_28 {d c s : Nat} {t m : Nat} {w : Nat → Int32} {X : zM} {ρ : Nat → Nat → Int32} {l : Nat → Nat → Int64} {Q : Option zV → zM → Prop} (hm : ρ 13 t = nI m)
    (b1 : t < 4)
    (b2 : t < 4)
    (b3 : m ≤ 30)
    (b4 : rGok ρ t m)
    (b5 : t < 4)
    (h1 : Q (some (zi (nI m))) (OM X 1 0 (zw ρ (rComeW ρ t (nI 1) w m)) l)) : Ev (d + 2) c s 191 28 [some (zr (some (1, 0, 0))), some (zi (nI t))] [] (OM X 1 0 (zw ρ w) l) Q := by
  refine Ew.ld f191_28 rfl rfl rfl rfl ?_
  refine Ew.ld f191_29 rfl rfl rfl rfl ?_
  refine Ew.ld f191_30 rfl rfl rfl rfl ?_
  refine Ew.getp (v := some (1, 0, 13)) f191_31 rfl rfl rfl ?_
  refine Ew.ld f191_34 rfl rfl rfl rfl ?_
  refine Ew.ialdnV (v := nI m) f191_35 rfl b1 (Nat.le_of_ble_eq_true rfl) rfl (so_v hm) ?_
  refine Ew.op (st' := zi (nI 1) :: _) f191_36 rfl rfl ?_
  refine Ew.call0 (ls0 := [some (zr (some (1, 0, 0))), some (zi (nI t)), some (zi (nI m)), some (zi (nI 1)), none]) f191_37 rfl (Nat.le_of_ble_eq_true rfl) rfl rfl (Nat.le_of_ble_eq_true rfl) rfl (Nat.le_of_ble_eq_true rfl) rfl rfl ?_
  refine sp_comes b2 b3 b4 ?_
  show Ev (d + 2) c s 191 40 [some (zr (some (1, 0, 0))), some (zi (nI t))] [] (OM X 1 0 (zw ρ (rComeW ρ t (nI 1) w m)) l) Q
  refine Ew.ld f191_40 rfl rfl rfl rfl ?_
  refine Ew.getp (v := some (1, 0, 13)) f191_41 rfl rfl rfl ?_
  refine Ew.ld f191_44 rfl rfl rfl rfl ?_
  refine Ew.ialdnV (v := nI m) f191_45 rfl b5 (Nat.le_of_ble_eq_true rfl) rfl (so_v hm) ?_
  refine Ew.ireti f191_46 ?_
  exact h1
theorem g232_0 {d c s : Nat} {x : Int32} {w : Nat → Int32} {X : zM} {ρ : Nat → Nat → Int32} {l : Nat → Nat → Int64} {Q : Option zV → zM → Prop}
    (h1 : (0 ≤ x) → Q (some (zi (w 3))) (OM X 1 0 (zw ρ (zup w 3 x)) l))
    (h2 : (x < 0) → Q (some (zi ((-1)))) (OM X 1 0 (zw ρ w) l)) : Ev d c s 232 0 [some (zr (some (1, 0, 0))), some (zi x), none] [] (OM X 1 0 (zw ρ w) l) Q := by
  refine Ew.ld f232_0 rfl rfl rfl rfl ?_
  refine Ew.ifc f232_1 rfl rfl (fun c1 => ?_) (fun c1 => ?_)
  · refine Ew.ld f232_6 rfl rfl rfl rfl ?_
    refine Ew.getp (v := some (1, 0, 1)) f232_7 rfl rfl rfl ?_
    refine Ew.op (st' := zi (nI 3) :: _) f232_10 rfl rfl ?_
    refine Ew.ialdnO f232_11 rfl (show 3 < 270 by decide) (Nat.le_of_ble_eq_true rfl) rfl ?_
    refine Ew.sr (ls' := [some (zr (some (1, 0, 0))), some (zi x), some (zi (w 3))]) f232_12 rfl rfl (Nat.le_of_ble_eq_true rfl) rfl rfl ?_
    refine Ew.ld f232_13 rfl rfl rfl rfl ?_
    refine Ew.getp (v := some (1, 0, 1)) f232_14 rfl rfl rfl ?_
    refine Ew.op (st' := zi (nI 3) :: _) f232_17 rfl rfl ?_
    refine Ew.ld f232_18 rfl rfl rfl rfl ?_
    refine Ew.iastnO f232_19 (by decide) rfl (show 3 < 270 by decide) (Nat.le_of_ble_eq_true rfl) rfl ?_
    rw [zw_up]
    refine Ew.ld f232_20 rfl rfl rfl rfl ?_
    refine Ew.ireti f232_21 ?_
    exact h1 c1
  · refine Ew.op (st' := zi ((-1)) :: _) f232_4 rfl rfl ?_
    refine Ew.ireti f232_5 ?_
    exact h2 (Int32.not_le.mp c1)

def aRule (σ : zSt) (x : Int32) : Int32 × zSt := match aIx x 5 with
  | none => (-1, σ)
  | some _ => if σ.w 1 = x then (-2, σ) else (σ.w 1, (zup σ.w 1 x, hNote σ.H σ.w, σ.2.2))
theorem rp_rule {d c s B : Nat} {x : Int32} {σ : zSt} {X : zM} {ρ : Nat → Nat → Int32} {l : Nat → Nat → Int64} {Q : Option zV → zM → Prop} (hG : zGood B σ) (hR : zRef ρ l σ) (k : ∀ ρ' l', zRef ρ' l' (aRule σ x).2 → Q (some (zi (aRule σ x).1)) (OM X 1 0 ρ' l')) : Ev (d + 2) c s 212 0 [some (zr (some (1, 0, 0))), some (zi x), none] [] (OM X 1 0 ρ l) Q := by
  rw [← hR.zw]
  refine g212_0 (fun ρ1 hd => sp_rules (fun j hj e => ?_) (fun h => ?_))
  · subst e
    show Ev (d + 1 + 1) c s 212 9 [some (zr (some (1, 0, 0))), some (zi (nI j)), none] [zi (rRuR σ.w (nI j))] (OM X 1 0 (zw ρ1 (zup σ.w 1 (nI j))) l) Q
    unfold aRule at k
    rw [aIx_some hj (by decide)] at k
    simp only [] at k
    refine g212_9 (H := σ.H) (v := σ.w) (fun h => ?_) (fun _ => rHs_hd hR.2.1 hd) (fun _ => hd.2.2.2) (fun h ρ2 hn => ?_)
    · by_cases e : σ.w 1 = nI j
      · have e1 : rRuR σ.w (nI j) = -2 := by unfold rRuR; rw [if_pos e]
        rw [if_pos e] at k
        rw [e1, ← e, zup_id]
        exact k _ _ (hR.step hd.1 (rHs_hd hR.2.1 hd) (fun _ _ => rfl))
      · unfold rRuR at h
        rw [if_neg e] at h
        obtain ⟨r, hr, er⟩ := hG.1.2.2.2.2.1
        rw [er] at h
        exact absurd h (nI_pos (by omega))
    · by_cases e : σ.w 1 = nI j
      · unfold rRuR at h
        rw [if_pos e] at h
        exact absurd h (by decide)
      · have e1 : rRuR σ.w (nI j) = σ.w 1 := by unfold rRuR; rw [if_neg e]
        rw [if_neg e] at k
        rw [e1]
        exact k _ _ (hR.step (hd.1.trans hn.1) hn.2 (fun i hi => zup_n _ _ (by omega)))
  · show Ev (d + 1 + 1) c s 212 9 [some (zr (some (1, 0, 0))), some (zi x), none] [zi (-1)] (OM X 1 0 (zw ρ1 σ.w) l) Q
    unfold aRule at k
    rw [zrangeN (m := 4) (by decide) h] at k
    refine g212_9 (H := σ.H) (v := σ.w) (fun _ => ?_) (fun h => absurd h (by decide)) (fun h => absurd h (by decide)) (fun h => absurd h (by decide))
    exact k _ _ (hR.step hd.1 (rHs_hd hR.2.1 hd) (fun _ _ => rfl))
/-- questions of states ask the row alone -/
def zO : Nat → Nat → Int32 := fun _ _ => 0
theorem rBusyL_zw (ρ ρ' : Nat → Nat → Int32) (w : Nat → Int32) (n : Nat) : rBusyL (zw ρ w) n = rBusyL (zw ρ' w) n := by
  induction n with
  | zero => rfl
  | succ n ih => unfold rBusyL; rw [ih]; rfl
theorem rLeftL_zw (ρ ρ' : Nat → Nat → Int32) (w : Nat → Int32) (n : Nat) : rLeftL (zw ρ w) n = rLeftL (zw ρ' w) n := by
  induction n with
  | zero => rfl
  | succ n ih => unfold rLeftL; rw [ih]; rfl
theorem rThoseL_zw (ρ ρ' : Nat → Nat → Int32) (w : Nat → Int32) (x : Int32) (n : Nat) : rThoseL (zw ρ w) x n = rThoseL (zw ρ' w) x n := by
  induction n with
  | zero => rfl
  | succ n ih => unfold rThoseL; rw [ih]; rfl
def aBusy (w : Nat → Int32) : Int32 := rBusyL (zw zO w) 4
def aRun (σ : zSt) (x : Int32) : Int32 × zSt := match aIx x 4 with
  | none => (-1, σ)
  | some t => if aBusy σ.w = 0 then (nI (tTr σ.w t).n, (rComeW (tτ σ.w) t (nI 1) σ.w (tTr σ.w t).n, hNote σ.H σ.w, σ.2.2)) else (-2, σ)
theorem rp_run {d c s B : Nat} {x : Int32} {σ : zSt} {X : zM} {ρ : Nat → Nat → Int32} {l : Nat → Nat → Int64} {Q : Option zV → zM → Prop} (hG : zGood B σ) (hR : zRef ρ l σ) (k : ∀ ρ' l', zRef ρ' l' (aRun σ x).2 → Q (some (zi (aRun σ x).1)) (OM X 1 0 ρ' l')) : Ev (d + 2) c s 191 0 [some (zr (some (1, 0, 0))), some (zi x)] [] (OM X 1 0 ρ l) Q := by
  have hTx := hG.1.2.1
  rw [← hR.zw]
  refine g191_0 (fun h => ?_) (fun h => ?_)
  · obtain ⟨t, ht, rfl⟩ := zrangeL (by decide) h
    have ht : t < 4 := ht
    unfold aRun at k
    rw [aIx_some ht (by decide)] at k
    simp only [] at k
    have eB : rBusy (zw ρ σ.w) = aBusy σ.w := rBusyL_zw _ _ _ _
    refine g191_10 (m := 0) (H := σ.H) (v := σ.w) (fun _ ρ1 hd => rHs_hd hR.2.1 hd) (fun _ ρ1 hd => hd.2.2.2) (fun hb ρ1 hd ρ2 hn => ?_) (fun hb => ?_)
    · rw [eB] at hb
      rw [if_pos hb] at k
      have h2 := rTrs_fr hR.2.2.2.2.2 (hd.1.trans hn.1)
      have h3 := rTr_of hTx h2
      have eM := rM_of hTx h2 ht
      have h5 := h3 t ht
      rw [eM] at h5
      refine g191_28 (m := (tTr σ.w t).n) (h2 t ht).1 ht ht h5.2.1 h5.2.2 ht ?_
      rw [rComeW_ag (rAg_τ hTx h2) ht _ _ _ (by rw [eM]; exact Nat.le_refl _)] at k
      exact k _ _ (hR.step (hd.1.trans hn.1) hn.2 (fun i hi => rComeW_at _ _ (by omega) _ h5.2.2))
    · rw [eB] at hb
      rw [if_neg hb] at k
      rw [hR.zw]
      exact k _ _ hR
  · unfold aRun at k
    rw [zrangeN (by decide) h] at k
    rw [hR.zw]
    exact k _ _ hR
def aSeed (σ : zSt) (x : Int32) : Int32 × zSt := if x < 0 then (-1, σ) else (σ.w 3, (zup σ.w 3 x, σ.2))
theorem rp_seed {d c s B : Nat} {x : Int32} {σ : zSt} {X : zM} {ρ : Nat → Nat → Int32} {l : Nat → Nat → Int64} {Q : Option zV → zM → Prop} (hG : zGood B σ) (hR : zRef ρ l σ) (k : ∀ ρ' l', zRef ρ' l' (aSeed σ x).2 → Q (some (zi (aSeed σ x).1)) (OM X 1 0 ρ' l')) : Ev d c s 232 0 [some (zr (some (1, 0, 0))), some (zi x), none] [] (OM X 1 0 ρ l) Q := by
  rw [← hR.zw]
  unfold aSeed at k
  refine g232_0 (fun h => ?_) (fun h => ?_)
  · rw [if_neg (Int32.not_lt.mpr h)] at k
    exact k _ _ (hR.step rFr.rfl hR.2.1 (fun i hi => zup_n _ _ (by omega)))
  · rw [if_pos h] at k
    rw [hR.zw]
    exact k _ _ hR
