/-! the reference: all traces laid; undo, image, restore, gone -/
def tTb (w : Nat → Int32) : Prop := (w 0 = nI (tG w) ∧ tG w < 64) ∧ ∀ t, t < 4 → (w (26 + 61 * t) = nI (tL w t).length ∧ ∀ k (h : k < (tL w t).length), w (26 + 61 * t + 1 + k) = nI ((tL w t)[k])) ∧ isBody (tL w t)
def tOv (w : Nat → Int32) : Prop := ∃ t, t < 4 ∧ pOver (tL w t) (tG w)
theorem tTx.tb {w : Nat → Int32} (h : tTx w) : tTb w := ⟨h.1, fun t ht => ⟨(h.2 t ht).1, (h.2 t ht).2.1⟩⟩
theorem tTx.no {w : Nat → Int32} (h : tTx w) : ¬ tOv w := fun ⟨t, ht, g⟩ => (h.2 t ht).2.2 g
theorem tTb.tx {w : Nat → Int32} (h : tTb w) (h' : ¬ tOv w) : tTx w := ⟨h.1, fun t ht => ⟨(h.2 t ht).1, (h.2 t ht).2, fun g => h' ⟨t, ht, g⟩⟩⟩
def lFr (ρ ρ' : Nat → Nat → Int32) : Prop := ∀ q i, ¬ q = 1 → ¬ (10 ≤ q ∧ q ≤ 25) → ¬ (q = 0 ∧ (i = 21 ∨ i = 26 ∨ i = 29 ∨ i = 31 ∨ i = 32)) → ρ' q i = ρ q i
theorem lFr.trans {ρ ρ' ρ'' : Nat → Nat → Int32} (h : lFr ρ ρ') (h' : lFr ρ' ρ'') : lFr ρ ρ'' := fun q i a b c => (h' q i a b c).trans (h q i a b c)
theorem lFr.row {ρ ρ' : Nat → Nat → Int32} (h : lFr ρ ρ') {q : Nat} (h0 : ¬ q = 0) (h1 : ¬ q = 1) (h2 : ¬ (10 ≤ q ∧ q ≤ 25)) : ρ' q = ρ q := funext fun i => h q i h1 h2 (fun e => h0 e.1)
theorem g169_0 {d c s : Nat} {X : zM} {ρ : Nat → Nat → Int32} {l : Nat → Nat → Int64} {Q : Option zV → zM → Prop}
    (h1 : Ev d c s 169 7 [some (zr (some (1, 0, 0))), some (zi (nI 0))] [] (OM X 1 0 (zu ρ 0 21 (nI 0)) l) Q) : Ev d c s 169 0 [some (zr (some (1, 0, 0))), none] [] (OM X 1 0 ρ l) Q := by
  refine Ew.ld f169_0 rfl rfl rfl rfl ?_
  refine Ew.op (st' := zi (nI 0) :: _) f169_1 rfl rfl ?_
  refine Ew.putbO f169_2 rfl (Or.inl rfl) rfl ?_
  refine Ew.op (st' := zi (nI 0) :: _) f169_5 rfl rfl ?_
  refine Ew.sr (ls' := [some (zr (some (1, 0, 0))), some (zi (nI 0))]) f169_6 rfl rfl (Nat.le_of_ble_eq_true rfl) rfl rfl ?_
  exact h1
theorem g169_7 {d c s : Nat} {t u : Nat} {X : zM} {ρ : Nat → Nat → Int32} {l : Nat → Nat → Int64} {Q : Option zV → zM → Prop} (e1 : ρ 0 21 = nI u) (nb_t : t < 5000) (nb_u : u < 5000)
    (h1 : (4 ≤ t) → (¬ u = 0) → Q (some (zi (nI 0))) (OM X 1 0 ρ l))
    (h2 : (4 ≤ t) → (u = 0) → Q (some (zi (nI 1))) (OM X 1 0 ρ l))
    (h3 : (t < 4) → (¬ u = 0) → (¬ u = 0) → Q (some (zi (nI 0))) (OM X 1 0 ρ l))
    (h4 : (t < 4) → (¬ u = 0) → (u = 0) → Q (some (zi (nI 1))) (OM X 1 0 ρ l))
    (h5 : (t < 4) → (u = 0) → Ev d 0 0 168 0 [some (zr (some (1, 0, 0))), some (zi (nI t)), none] [] (OM X 1 0 ρ l) (fun r M' => Ev (d + 1) c s 169 24 [some (zr (some (1, 0, 0))), some (zi (nI t))] (zpush r []) M' Q)) : Ev (d + 1) c s 169 7 [some (zr (some (1, 0, 0))), some (zi (nI t))] [] (OM X 1 0 ρ l) Q := by
  refine Ew.ld f169_7 rfl rfl rfl rfl ?_
  refine Ew.op (st' := zi (nI 4) :: _) f169_8 rfl rfl ?_
  refine Ew.icmp f169_9 rfl rfl (fun c1 => ?_) (fun c1 => ?_)
  · refine Ew.ld f169_30 rfl rfl rfl rfl ?_
    refine Ew.getbV (v := nI u) f169_31 rfl (so_v e1) rfl ?_
    refine Ew.ifc f169_34 rfl rfl (fun c2 => ?_) (fun c2 => ?_)
    · refine Ew.op (st' := zi (nI 0) :: _) f169_41 rfl rfl ?_
      refine Ew.iretb f169_42 (Or.inl rfl) ?_
      exact h1 ((zle_iff (by decide) nb_t).mp c1) (fun e => c2 ((zeq nb_u (by decide)).mpr e))
    · refine Ew.op (st' := zi (nI 1) :: _) f169_37 rfl rfl ?_
      refine Ew.goto f169_38 rfl ?_
      refine Ew.iretb f169_42 (Or.inr rfl) ?_
      exact h2 ((zle_iff (by decide) nb_t).mp c1) ((zeq nb_u (by decide)).mp (Classical.not_not.mp c2))
  · refine Ew.ld f169_12 rfl rfl rfl rfl ?_
    refine Ew.getbV (v := nI u) f169_13 rfl (so_v e1) rfl ?_
    refine Ew.ifc f169_16 rfl rfl (fun c3 => ?_) (fun c3 => ?_)
    · refine Ew.ld f169_30 rfl rfl rfl rfl ?_
      refine Ew.getbV (v := nI u) f169_31 rfl (so_v e1) rfl ?_
      refine Ew.ifc f169_34 rfl rfl (fun c4 => ?_) (fun c4 => ?_)
      · refine Ew.op (st' := zi (nI 0) :: _) f169_41 rfl rfl ?_
        refine Ew.iretb f169_42 (Or.inl rfl) ?_
        exact h3 (Nat.not_le.mp fun e => c1 ((zle_iff (by decide) nb_t).mpr e)) (fun e => c3 ((zeq nb_u (by decide)).mpr e)) (fun e => c4 ((zeq nb_u (by decide)).mpr e))
      · refine Ew.op (st' := zi (nI 1) :: _) f169_37 rfl rfl ?_
        refine Ew.goto f169_38 rfl ?_
        refine Ew.iretb f169_42 (Or.inr rfl) ?_
        exact h4 (Nat.not_le.mp fun e => c1 ((zle_iff (by decide) nb_t).mpr e)) (fun e => c3 ((zeq nb_u (by decide)).mpr e)) ((zeq nb_u (by decide)).mp (Classical.not_not.mp c4))
    · refine Ew.ld f169_19 rfl rfl rfl rfl ?_
      refine Ew.ld f169_20 rfl rfl rfl rfl ?_
      refine Ew.call0 (ls0 := [some (zr (some (1, 0, 0))), some (zi (nI t)), none]) f169_21 rfl (Nat.le_of_ble_eq_true rfl) rfl rfl (Nat.le_of_ble_eq_true rfl) rfl (Nat.le_of_ble_eq_true rfl) rfl rfl ?_
      exact h5 (Nat.not_le.mp fun e => c1 ((zle_iff (by decide) nb_t).mpr e)) ((zeq nb_u (by decide)).mp (Classical.not_not.mp c3))
theorem g169_24 {d c s : Nat} {t : Nat} {X : zM} {ρ : Nat → Nat → Int32} {l : Nat → Nat → Int64} {Q : Option zV → zM → Prop}
    (h1 : Ev d c s 169 7 [some (zr (some (1, 0, 0))), some (zi (nI (t + 1)))] [] (OM X 1 0 ρ l) Q) : Ev d c s 169 24 [some (zr (some (1, 0, 0))), some (zi (nI t))] [] (OM X 1 0 ρ l) Q := by
  refine Ew.iinc (v := nI (t + 1)) (ls' := [some (zr (some (1, 0, 0))), some (zi (nI (t + 1)))]) f169_24 rfl (nI_1 _) rfl rfl ?_
  refine Ew.goto f169_27 rfl ?_
  exact h1
theorem sp_laysTraces {d c s : Nat} {w : Nat → Int32} {X : zM} {ρ : Nat → Nat → Int32} {l : Nat → Nat → Int64} {Q : Option zV → zM → Prop} (hT : tTb w) (k1 : ¬ tOv w → ∀ ρ', lFr ρ ρ' → rTrs ρ' w → Q (some (zi (nI 1))) (OM X 1 0 (zw ρ' w) l)) (k0 : tOv w → ∀ ρ', lFr ρ ρ' → Q (some (zi (nI 0))) (OM X 1 0 (zw ρ' w) l)) : Ev (d + 5) c s 169 0 [some (zr (some (1, 0, 0))), none] [] (OM X 1 0 (zw ρ w) l) Q := by
  refine g169_0 ?_
  have key : ∀ j t (ρ1 : Nat → Nat → Int32), t + j = 4 → ρ1 1 = w → (∀ q i, ¬ q = 1 → ¬ (10 ≤ q ∧ q ≤ 25) → ¬ (q = 0 ∧ (i = 21 ∨ i = 26 ∨ i = 29 ∨ i = 31 ∨ i = 32)) → ρ1 q i = ρ q i) → ρ1 0 21 = nI 0 → (∀ u, u < t → zTrR ρ1 u (tTr w u) ∧ ¬ pOver (tL w u) (tG w)) → Ev (d + 5) c s 169 7 [some (zr (some (1, 0, 0))), some (zi (nI t))] [] (OM X 1 0 ρ1 l) Q := by
    intro j
    induction j with
    | zero =>
      intro t ρ1 ht h1 hfr h21 hu
      have e1 : zw ρ1 w = ρ1 := by rw [← h1]; exact zw_id ρ1
      refine g169_7 (u := 0) h21 (by omega) (by decide) (fun _ g => absurd rfl g) (fun _ _ => ?_) (fun g => by omega) (fun g => by omega) (fun g => by omega)
      rw [← e1]
      exact k1 (fun ⟨u, hu4, g⟩ => (hu u (by omega)).2 g) ρ1 hfr (fun u hu4 => (hu u (by omega)).1)
    | succ j ih =>
      intro t ρ1 ht h1 hfr h21 hu
      have ht4 : t < 4 := by omega
      obtain ⟨⟨tx1, tx2⟩, tb⟩ := hT.2 t ht4
      have hL : tTxt ρ1 t (tL w t) := by
        unfold tTxt
        rw [h1]
        exact ⟨tx1, tb.1, tx2⟩
      have hG : ρ1 1 0 = nI (tG w) := by rw [h1]; exact hT.1.1
      obtain ⟨n, y, r1, r2, r3, r4, r5, r6, r7⟩ := mRun (G := tG w) tb
      refine g169_7 (u := 0) h21 (by omega) (by decide) (fun g => by omega) (fun g => by omega) (fun _ g => absurd rfl g) (fun _ g => absurd rfl g) (fun _ _ => ?_)
      refine sp_laysTrace ht4 hL tb.2.1 hG hT.1.2 h21 r1 r2 r3 r4 r5 (fun ρ2 h2 => ?_)
      refine g169_24 ?_
      obtain ⟨⟨s1, s2, s3⟩, ⟨_, _, c7, c8, c9, c10⟩, _, _, ⟨_, w2, w3⟩, fr⟩ := h2
      have f1 : ρ2 1 = w := by
        rw [← h1]
        funext i
        exact fr 1 i (by unfold mScr; omega)
      have f2 : ∀ q i, ¬ q = 1 → ¬ (10 ≤ q ∧ q ≤ 25) → ¬ (q = 0 ∧ (i = 21 ∨ i = 26 ∨ i = 29 ∨ i = 31 ∨ i = 32)) → ρ2 q i = ρ q i := by
        intro q i a1 a2 a3
        rw [fr q i (by unfold mScr; omega)]
        exact hfr q i a1 a2 a3
      have e2 : zw ρ2 w = ρ2 := by rw [← f1]; exact zw_id ρ2
      by_cases hov : pOver (tL w t) (tG w)
      · have h10 : y.1.2.1 10 = 1 := r6 hov
        rw [h10] at c10
        have fin : ∀ ρ', lFr ρ ρ' → Q (some (zi (nI 0))) (OM X 1 0 (zw ρ' w) l) := k0 ⟨t, ht4, hov⟩
        have fin2 := fin ρ2 f2
        rw [e2] at fin2
        by_cases ht3 : t + 1 < 4
        · exact g169_7 (u := 1) c10 (by omega) (by decide) (fun _ _ => fin2) (fun _ g => absurd g (by decide)) (fun _ _ _ => fin2) (fun _ _ g => absurd g (by decide)) (fun _ g => absurd g (by decide))
        · exact g169_7 (u := 1) c10 (by omega) (by decide) (fun _ _ => fin2) (fun _ g => absurd g (by decide)) (fun _ _ _ => fin2) (fun _ _ g => absurd g (by decide)) (fun _ g => absurd g (by decide))
      · obtain ⟨h10, t1, t2, t3, t4, t5, t6, t7⟩ := r7 hov
        rw [h10] at c10
        refine ih (t + 1) ρ2 (by omega) f1 f2 c10 (fun u hu' => ?_)
        by_cases e : u = t
        · subst e
          refine ⟨⟨?_, fun k hk => ?_, w2.trans t3, w3.trans t4, c9.trans t5, c8.trans t6, c7.trans t7⟩, hov⟩
          · rw [s1, t1]
            rfl
          · have hk : k < (pTrace (tL w u) (tG w)).n := hk
            rw [← t1] at hk
            obtain ⟨a1, a2, a3⟩ := s3 k hk
            obtain ⟨b1, b2, b3⟩ := t2 k hk
            exact ⟨a1.trans b1, a2.trans b2, a3.trans b3⟩
        · obtain ⟨p1, p2⟩ := hu u (by omega)
          refine ⟨?_, p2⟩
          obtain ⟨z1, z2, z3, z4, z5, z6, z7⟩ := p1
          have hn30 : (tTr w u).n ≤ 30 := (pTrace_ok p2).1
          refine ⟨?_, fun k hk => ?_, ?_, ?_, ?_, ?_, ?_⟩
          · rw [fr 13 u (by unfold mScr; omega)]; exact z1
          · rw [fr 10 _ (by unfold mScr; omega), fr 11 _ (by unfold mScr; omega), fr 12 _ (by unfold mScr; omega)]; exact z2 k hk
          · rw [fr 14 u (by unfold mScr; omega)]; exact z3
          · rw [fr 15 u (by unfold mScr; omega)]; exact z4
          · rw [fr 16 u (by unfold mScr; omega)]; exact z5
          · rw [fr 17 u (by unfold mScr; omega)]; exact z6
          · rw [fr 18 u (by unfold mScr; omega)]; exact z7
  refine key 4 0 _ (by decide) ?_ (fun q i a1 a2 a3 => ?_) (zu_s _ _ _ _) (fun u hu => absurd hu (Nat.not_lt_zero u))
  · rw [zu_q _ _ _ _ (by decide)]
    exact zup_s _ _ _
  · rw [zu_i_ne (by omega)]
    show zup ρ 1 w q i = ρ q i
    rw [zup_n _ _ a1]
theorem zw_at (ρ : Nat → Nat → Int32) (w : Nat → Int32) {q : Nat} (h : ¬ q = 1) (i : Nat) : zw ρ w q i = ρ q i := by
  show zup ρ 1 w q i = ρ q i
  rw [zup_n _ _ h]
/-- what frames keep -/
theorem rImg_l {ρ ρ' : Nat → Nat → Int32} {K : Option ((Nat → Int32) × List (Nat → Int32))} (h : rImg ρ K) (hf : lFr ρ ρ') : rImg ρ' K := by
  have e3 : ρ' 3 = ρ 3 := hf.row (by decide) (by decide) (by decide)
  have e4 : ρ' 4 = ρ 4 := hf.row (by decide) (by decide) (by decide)
  have e5 : ρ' 0 5 = ρ 0 5 := hf 0 5 (by decide) (by decide) (by decide)
  unfold rImg at h ⊢
  rw [e3, e4, e5]
  exact h
theorem rTape_l {ρ ρ' : Nat → Nat → Int32} {T : List Nat} (h : rTape ρ T) (hf : lFr ρ ρ') : rTape ρ' T := by
  have e5 : ρ' 5 = ρ 5 := hf.row (by decide) (by decide) (by decide)
  have e7 : ρ' 0 7 = ρ 0 7 := hf 0 7 (by decide) (by decide) (by decide)
  unfold rTape at h ⊢
  rw [e5, e7]
  exact h
theorem rShe_l {ρ ρ' : Nat → Nat → Int32} {l : Nat → Nat → Int64} {S : Nat → Option (Nat × Nat × (Nat → Int64))} (h : rShe ρ l S) (hf : lFr ρ ρ') : rShe ρ' l S := by
  have e6 : ρ' 6 = ρ 6 := hf.row (by decide) (by decide) (by decide)
  have e7 : ρ' 7 = ρ 7 := hf.row (by decide) (by decide) (by decide)
  unfold rShe at h ⊢
  rw [e6, e7]
  exact h
theorem rHs_l {ρ ρ' : Nat → Nat → Int32} {H : List (Nat → Int32)} (h : rHs ρ H) (hf : lFr ρ ρ') : rHs ρ' H := by
  have e2 : ρ' 2 = ρ 2 := hf.row (by decide) (by decide) (by decide)
  have e0 : ρ' 0 2 = ρ 0 2 := hf 0 2 (by decide) (by decide) (by decide)
  unfold rHs at h ⊢
  rw [e2, e0]
  exact h
/-- parts that a frame under a row leaves -/
def rRest (ρ : Nat → Nat → Int32) (l : Nat → Nat → Int64) (σ : zSt) : Prop := rImg ρ σ.K ∧ rTape ρ σ.T ∧ rShe ρ l σ.S
theorem zRef.rest {ρ : Nat → Nat → Int32} {l : Nat → Nat → Int64} {σ : zSt} (h : zRef ρ l σ) : rRest ρ l σ := ⟨h.2.2.1, h.2.2.2.1, h.2.2.2.2.1⟩
theorem rRest.l {ρ ρ' : Nat → Nat → Int32} {l : Nat → Nat → Int64} {σ : zSt} (h : rRest ρ l σ) (hf : lFr ρ ρ') : rRest ρ' l σ := ⟨rImg_l h.1 hf, rTape_l h.2.1 hf, rShe_l h.2.2 hf⟩
theorem rRest.fr {ρ ρ' : Nat → Nat → Int32} {l : Nat → Nat → Int64} {σ : zSt} (h : rRest ρ l σ) (hf : rFr ρ ρ') : rRest ρ' l σ := ⟨rImg_fr h.1 hf, rTape_fr h.2.1 hf, rShe_fr h.2.2 hf⟩
theorem zRef_mk {ρ : Nat → Nat → Int32} {l : Nat → Nat → Int64} {σ : zSt} {w : Nat → Int32} {H : List (Nat → Int32)} (hr : rRest ρ l σ) (hH : rHs ρ H) (ht : rTrs ρ w) : zRef (zw ρ w) l (w, H, σ.2.2) := ⟨zup_s _ _ _, hH, hr.1, hr.2.1, hr.2.2, ht⟩
theorem g231_0 {d c s : Nat} {a : Nat} {w : Nat → Int32} {X : zM} {ρ : Nat → Nat → Int32} {l : Nat → Nat → Int64} {Q : Option zV → zM → Prop} (e1 : ρ 0 2 = nI a) (nb_a : a < 5000)
    (h1 : (¬ a = 0) → Ev d c s 231 22 [some (zr (some (1, 0, 0))), some (zi (nI 0))] [] (OM X 1 0 (zw (zu ρ 0 2 ((nI a) - (nI 1))) w) l) Q)
    (h2 : (a = 0) → Q (some (zi ((-4)))) (OM X 1 0 (zw ρ w) l)) : Ev d c s 231 0 [some (zr (some (1, 0, 0))), none] [] (OM X 1 0 (zw ρ w) l) Q := by
  refine Ew.ld f231_0 rfl rfl rfl rfl ?_
  refine Ew.getiV (v := nI a) f231_1 rfl (so_v e1) rfl ?_
  refine Ew.ifc f231_4 rfl rfl (fun c1 => ?_) (fun c1 => ?_)
  · refine Ew.ld f231_10 rfl rfl rfl rfl ?_
    refine Ew.op (st' := zr (some (1, 0, 0)) :: zr (some (1, 0, 0)) :: _) f231_11 rfl rfl ?_
    refine Ew.getiV (v := nI a) f231_12 rfl (so_v e1) rfl ?_
    refine Ew.op (st' := zi (nI 1) :: _) f231_15 rfl rfl ?_
    refine Ew.op (st' := zi ((nI a) - (nI 1)) :: _) f231_16 rfl rfl ?_
    refine Ew.putiO f231_17 rfl rfl ?_
    rw [zw_uq _ _ (by decide)]
    refine Ew.op (st' := zi (nI 0) :: _) f231_20 rfl rfl ?_
    refine Ew.sr (ls' := [some (zr (some (1, 0, 0))), some (zi (nI 0))]) f231_21 rfl rfl (Nat.le_of_ble_eq_true rfl) rfl rfl ?_
    exact h1 (fun e => c1 ((zeq nb_a (by decide)).mpr e))
  · refine Ew.op (st' := zi ((-4)) :: _) f231_7 rfl rfl ?_
    refine Ew.ireti f231_9 ?_
    exact h2 ((zeq nb_a (by decide)).mp (Classical.not_not.mp c1))
theorem g231_22 {d c s : Nat} {k a : Nat} {w : Nat → Int32} {X : zM} {ρ : Nat → Nat → Int32} {l : Nat → Nat → Int64} {Q : Option zV → zM → Prop} (e1 : ρ 0 2 = nI a) (nb_k : k < 5000)
    (h1 : (270 ≤ k) → Ev d 0 0 169 0 [some (zr (some (1, 0, 0))), none] [] (OM X 1 0 (zw ρ w) l) (fun r M' => Ev (d + 1) c s 231 60 [some (zr (some (1, 0, 0))), some (zi (nI k))] (zpush r []) M' Q))
    (b1 : (k < 270) → 270 * a + k < 1620)
    (b2 : (k < 270) → k < 270)
    (h2 : (k < 270) → Ev (d + 1) c s 231 22 [some (zr (some (1, 0, 0))), some (zi (nI (k + 1)))] [] (OM X 1 0 (zw ρ (zup w k (ρ 2 (270 * a + k)))) l) Q) : Ev (d + 1) c s 231 22 [some (zr (some (1, 0, 0))), some (zi (nI k))] [] (OM X 1 0 (zw ρ w) l) Q := by
  refine Ew.ld f231_22 rfl rfl rfl rfl ?_
  refine Ew.op (st' := zi (nI 270) :: _) f231_23 rfl rfl ?_
  refine Ew.icmp f231_26 rfl rfl (fun c1 => ?_) (fun c1 => ?_)
  · refine Ew.ld f231_56 rfl rfl rfl rfl ?_
    refine Ew.call0 (ls0 := [some (zr (some (1, 0, 0))), none]) f231_57 rfl (Nat.le_of_ble_eq_true rfl) rfl rfl (Nat.le_of_ble_eq_true rfl) rfl (Nat.le_of_ble_eq_true rfl) rfl rfl ?_
    exact h1 ((zle_iff (by decide) nb_k).mp c1)
  · refine Ew.ld f231_29 rfl rfl rfl rfl ?_
    refine Ew.getp (v := some (1, 0, 1)) f231_30 rfl rfl rfl ?_
    refine Ew.ld f231_33 rfl rfl rfl rfl ?_
    refine Ew.ld f231_34 rfl rfl rfl rfl ?_
    refine Ew.getp (v := some (1, 0, 2)) f231_35 rfl rfl rfl ?_
    refine Ew.op (st' := zi (nI 270) :: _) f231_38 rfl rfl ?_
    refine Ew.ld f231_41 rfl rfl rfl rfl ?_
    refine Ew.getiV (v := nI a) f231_42 rfl (so_v e1) rfl ?_
    refine Ew.muln f231_45 rfl ?_
    refine Ew.ld f231_46 rfl rfl rfl rfl ?_
    refine Ew.addn f231_47 rfl ?_
    refine Ew.ialdnO f231_48 rfl (b1 (Nat.not_le.mp fun e => c1 ((zle_iff (by decide) nb_k).mpr e))) (Nat.le_of_ble_eq_true rfl) rfl ?_
    refine Ew.iastnO f231_49 (by decide) rfl (b2 (Nat.not_le.mp fun e => c1 ((zle_iff (by decide) nb_k).mpr e))) (Nat.le_of_ble_eq_true rfl) rfl ?_
    rw [zw_up]
    refine Ew.iinc (v := nI (k + 1)) (ls' := [some (zr (some (1, 0, 0))), some (zi (nI (k + 1)))]) f231_50 rfl (nI_1 _) rfl rfl ?_
    refine Ew.goto f231_53 rfl ?_
    exact h2 (Nat.not_le.mp fun e => c1 ((zle_iff (by decide) nb_k).mpr e))
theorem g231_60 {d c s : Nat} {k : Nat} {w : Nat → Int32} {X : zM} {ρ : Nat → Nat → Int32} {l : Nat → Nat → Int64} {Q : Option zV → zM → Prop}
    (h1 : Q (some (zi (ρ 0 2))) (OM X 1 0 (zw ρ w) l)) : Ev d c s 231 60 [some (zr (some (1, 0, 0))), some (zi (nI k))] [zi (nI 1)] (OM X 1 0 (zw ρ w) l) Q := by
  refine Ew.ifc f231_60 rfl rfl (fun h => absurd h (show ¬ (((nI 1) : Int32) = 0) by decide)) (fun _ => ?_)
  refine Ew.ld f231_63 rfl rfl rfl rfl ?_
  refine Ew.getiO f231_64 rfl rfl ?_
  refine Ew.goto f231_67 rfl ?_
  refine Ew.ireti f231_71 ?_
  exact h1
def aUndo (σ : zSt) : Int32 × zSt := match σ.H.getLast? with
  | none => (-4, σ)
  | some h => (nI (σ.H.length - 1), (h, σ.H.dropLast, σ.2.2))
theorem rp_undo {d c s B : Nat} {σ : zSt} {X : zM} {ρ : Nat → Nat → Int32} {l : Nat → Nat → Int64} {Q : Option zV → zM → Prop} (hG : zGood B σ) (hR : zRef ρ l σ) (k : ∀ ρ' l', zRef ρ' l' (aUndo σ).2 → Q (some (zi (aUndo σ).1)) (OM X 1 0 ρ' l')) : Ev (d + 6) c s 231 0 [some (zr (some (1, 0, 0))), none] [] (OM X 1 0 ρ l) Q := by
  rw [← hR.zw]
  have h6 := hG.2.1.1
  unfold aUndo at k
  rcases List.eq_nil_or_concat σ.H with e | ⟨H', h, e⟩
  · rw [e] at k
    have h0 : ρ 0 2 = nI 0 := by have := hR.2.1.1; rw [e] at this; exact this
    refine g231_0 h0 (by decide) (fun g => absurd rfl g) (fun _ => ?_)
    rw [hR.zw]
    exact k _ _ hR
  · rw [List.concat_eq_append] at e
    rw [e, List.getLast?_concat] at k
    simp only [] at k
    rw [List.length_append, List.length_singleton, Nat.add_sub_cancel, List.dropLast_concat] at k
    have hl : σ.H.length = H'.length + 1 := by rw [e, List.length_append, List.length_singleton]
    have h0 : ρ 0 2 = nI (H'.length + 1) := by have := hR.2.1.1; rw [hl] at this; exact this
    have hrow : tRow B h := hG.2.1.2 h (by rw [e]; exact List.mem_append_right _ List.mem_cons_self)
    refine g231_0 h0 (by omega) (fun _ => ?_) (fun g => by omega)
    rw [pk_sub (by omega), Nat.add_sub_cancel]
    have hp : ∀ i, i < 270 → ρ 2 (270 * H'.length + i) = h i := by
      intro i hi
      have := hR.2.1.2.2 H'.length (by omega) i hi
      rw [this, List.getElem_of_eq e]
      rw [List.getElem_append_right (Nat.le_refl _)]
      simp
    have hps : rHs (zu ρ 0 2 (nI H'.length)) H' := by
      refine ⟨zu_s _ _ _ _, by omega, fun k hk i hi => ?_⟩
      rw [zu_q _ _ _ _ (by decide), hR.2.1.2.2 k (by omega) i hi]
      rw [List.getElem_of_eq e, List.getElem_append_left hk]
    have hrest : rRest (zu ρ 0 2 (nI H'.length)) l σ := hR.rest.fr (fun q i a1 a2 a3 a4 => zu_i_ne (by omega))
    have e0 : zcp h σ.w 0 = σ.w := zcp_0 _ _
    rw [← e0]
    refine loopN (fun n => Ev (d + 6) c s 231 22 [some (zr (some (1, 0, 0))), some (zi (nI n))] [] (OM X 1 0 (zw (zu ρ 0 2 (nI H'.length)) (zcp h σ.w n)) l) Q) 270 (fun n hn hE => ?_) ?_
    · refine g231_22 (a := H'.length) (zu_s _ _ _ _) (by omega) (fun g => by omega) (fun _ => by omega) (fun _ => hn) (fun _ => ?_)
      rw [zu_q _ _ _ _ (by decide), hp n hn, zcp_s]
      exact hE
    · have ew : zcp h σ.w 270 = h := by
        funext i
        unfold zcp
        split
        · rfl
        · rename_i hi
          rw [hG.1.1 i (by omega), hrow.1 i (by omega)]
      rw [ew]
      refine g231_22 (a := H'.length) (zu_s _ _ _ _) (by omega) (fun _ => ?_) (fun g => by omega) (fun g => by omega) (fun g => by omega)
      refine sp_laysTraces hrow.2.1.tb (fun _ ρ1 hf ht => ?_) (fun g => absurd g hrow.2.1.no)
      refine g231_60 ?_
      rw [hf 0 2 (by decide) (by decide) (by decide), zu_s]
      exact k _ _ (zRef_mk (hrest.l hf) (rHs_l hps hf) ht)
theorem g233_0 {d c s : Nat} {w : Nat → Int32} {X : zM} {ρ : Nat → Nat → Int32} {l : Nat → Nat → Int64} {Q : Option zV → zM → Prop}
    (h1 : Ev d c s 233 2 [some (zr (some (1, 0, 0))), some (zi (nI 0))] [] (OM X 1 0 (zw ρ w) l) Q) : Ev d c s 233 0 [some (zr (some (1, 0, 0))), none] [] (OM X 1 0 (zw ρ w) l) Q := by
  refine Ew.op (st' := zi (nI 0) :: _) f233_0 rfl rfl ?_
  refine Ew.sr (ls' := [some (zr (some (1, 0, 0))), some (zi (nI 0))]) f233_1 rfl rfl (Nat.le_of_ble_eq_true rfl) rfl rfl ?_
  exact h1
theorem g233_2 {d c s : Nat} {k : Nat} {w : Nat → Int32} {X : zM} {ρ : Nat → Nat → Int32} {l : Nat → Nat → Int64} {Q : Option zV → zM → Prop} (nb_k : k < 5000)
    (h1 : (270 ≤ k) → Ev d c s 233 29 [some (zr (some (1, 0, 0))), some (zi (nI 0))] [] (OM X 1 0 (zw ρ w) l) Q)
    (b1 : (k < 270) → k < 270)
    (b2 : (k < 270) → k < 270)
    (h2 : (k < 270) → Ev d c s 233 2 [some (zr (some (1, 0, 0))), some (zi (nI (k + 1)))] [] (OM X 1 0 (zw (zu ρ 3 k (w k)) w) l) Q) : Ev d c s 233 2 [some (zr (some (1, 0, 0))), some (zi (nI k))] [] (OM X 1 0 (zw ρ w) l) Q := by
  refine Ew.ld f233_2 rfl rfl rfl rfl ?_
  refine Ew.op (st' := zi (nI 270) :: _) f233_3 rfl rfl ?_
  refine Ew.icmp f233_6 rfl rfl (fun c1 => ?_) (fun c1 => ?_)
  · refine Ew.op (st' := zi (nI 0) :: _) f233_27 rfl rfl ?_
    refine Ew.sr (ls' := [some (zr (some (1, 0, 0))), some (zi (nI 0))]) f233_28 rfl rfl (Nat.le_of_ble_eq_true rfl) rfl rfl ?_
    exact h1 ((zle_iff (by decide) nb_k).mp c1)
  · refine Ew.ld f233_9 rfl rfl rfl rfl ?_
    refine Ew.getp (v := some (1, 0, 3)) f233_10 rfl rfl rfl ?_
    refine Ew.ld f233_13 rfl rfl rfl rfl ?_
    refine Ew.ld f233_14 rfl rfl rfl rfl ?_
    refine Ew.getp (v := some (1, 0, 1)) f233_15 rfl rfl rfl ?_
    refine Ew.ld f233_18 rfl rfl rfl rfl ?_
    refine Ew.ialdnO f233_19 rfl (b1 (Nat.not_le.mp fun e => c1 ((zle_iff (by decide) nb_k).mpr e))) (Nat.le_of_ble_eq_true rfl) rfl ?_
    refine Ew.iastnO f233_20 (by decide) rfl (b2 (Nat.not_le.mp fun e => c1 ((zle_iff (by decide) nb_k).mpr e))) (Nat.le_of_ble_eq_true rfl) rfl ?_
    rw [zw_uq _ _ (by decide)]
    refine Ew.iinc (v := nI (k + 1)) (ls' := [some (zr (some (1, 0, 0))), some (zi (nI (k + 1)))]) f233_21 rfl (nI_1 _) rfl rfl ?_
    refine Ew.goto f233_24 rfl ?_
    exact h2 (Nat.not_le.mp fun e => c1 ((zle_iff (by decide) nb_k).mpr e))
theorem g233_29 {d c s : Nat} {k : Nat} {w : Nat → Int32} {X : zM} {ρ : Nat → Nat → Int32} {l : Nat → Nat → Int64} {Q : Option zV → zM → Prop} (nb_k : k < 5000)
    (h1 : (1620 ≤ k) → Q (some (zi (nI 1))) (OM X 1 0 (zw (zu ρ 0 5 (ρ 0 2)) w) l))
    (b1 : (k < 1620) → k < 1620)
    (b2 : (k < 1620) → k < 1620)
    (h2 : (k < 1620) → Ev d c s 233 29 [some (zr (some (1, 0, 0))), some (zi (nI (k + 1)))] [] (OM X 1 0 (zw (zu ρ 4 k (ρ 2 k)) w) l) Q) : Ev d c s 233 29 [some (zr (some (1, 0, 0))), some (zi (nI k))] [] (OM X 1 0 (zw ρ w) l) Q := by
  refine Ew.ld f233_29 rfl rfl rfl rfl ?_
  refine Ew.op (st' := zi (nI 1620) :: _) f233_30 rfl rfl ?_
  refine Ew.icmp f233_33 rfl rfl (fun c1 => ?_) (fun c1 => ?_)
  · refine Ew.ld f233_54 rfl rfl rfl rfl ?_
    refine Ew.ld f233_55 rfl rfl rfl rfl ?_
    refine Ew.getiO f233_56 rfl rfl ?_
    refine Ew.putiO f233_59 rfl rfl ?_
    rw [zw_uq _ _ (by decide)]
    refine Ew.op (st' := zi (nI 1) :: _) f233_62 rfl rfl ?_
    refine Ew.ireti f233_63 ?_
    exact h1 ((zle_iff (by decide) nb_k).mp c1)
  · refine Ew.ld f233_36 rfl rfl rfl rfl ?_
    refine Ew.getp (v := some (1, 0, 4)) f233_37 rfl rfl rfl ?_
    refine Ew.ld f233_40 rfl rfl rfl rfl ?_
    refine Ew.ld f233_41 rfl rfl rfl rfl ?_
    refine Ew.getp (v := some (1, 0, 2)) f233_42 rfl rfl rfl ?_
    refine Ew.ld f233_45 rfl rfl rfl rfl ?_
    refine Ew.ialdnO f233_46 rfl (b1 (Nat.not_le.mp fun e => c1 ((zle_iff (by decide) nb_k).mpr e))) (Nat.le_of_ble_eq_true rfl) rfl ?_
    refine Ew.iastnO f233_47 (by decide) rfl (b2 (Nat.not_le.mp fun e => c1 ((zle_iff (by decide) nb_k).mpr e))) (Nat.le_of_ble_eq_true rfl) rfl ?_
    rw [zw_uq _ _ (by decide)]
    refine Ew.iinc (v := nI (k + 1)) (ls' := [some (zr (some (1, 0, 0))), some (zi (nI (k + 1)))]) f233_48 rfl (nI_1 _) rfl rfl ?_
    refine Ew.goto f233_51 rfl ?_
    exact h2 (Nat.not_le.mp fun e => c1 ((zle_iff (by decide) nb_k).mpr e))
def aImage (σ : zSt) : Int32 × zSt := (nI 1, (σ.w, σ.H, some (σ.w, σ.H), σ.2.2.2))
theorem rp_image {d c s B : Nat} {σ : zSt} {X : zM} {ρ : Nat → Nat → Int32} {l : Nat → Nat → Int64} {Q : Option zV → zM → Prop} (hG : zGood B σ) (hR : zRef ρ l σ) (k : ∀ ρ' l', zRef ρ' l' (aImage σ).2 → Q (some (zi (aImage σ).1)) (OM X 1 0 ρ' l')) : Ev d c s 233 0 [some (zr (some (1, 0, 0))), none] [] (OM X 1 0 ρ l) Q := by
  rw [← hR.zw]
  refine g233_0 ?_
  have e0 : zup ρ 3 (zcp σ.w (ρ 3) 0) = ρ := by rw [zcp_0]; exact zup_id ρ 3
  have one : Ev d c s 233 2 [some (zr (some (1, 0, 0))), some (zi (nI 0))] [] (OM X 1 0 (zw (zup ρ 3 (zcp σ.w (ρ 3) 0)) σ.w) l) Q := by
    refine loopN (fun n => Ev d c s 233 2 [some (zr (some (1, 0, 0))), some (zi (nI n))] [] (OM X 1 0 (zw (zup ρ 3 (zcp σ.w (ρ 3) n)) σ.w) l) Q) 270 (fun n hn hE => ?_) ?_
    · refine g233_2 (by omega) (fun g => by omega) (fun _ => hn) (fun _ => hn) (fun _ => ?_)
      have e : zu (zup ρ 3 (zcp σ.w (ρ 3) n)) 3 n (σ.w n) = zup ρ 3 (zcp σ.w (ρ 3) (n + 1)) := by
        unfold zu
        rw [zup_s, zup_zup, zcp_s]
      rw [e]
      exact hE
    · refine g233_2 (by omega) (fun _ => ?_) (fun g => by omega) (fun g => by omega) (fun g => by omega)
      generalize hσ1 : zup ρ 3 (zcp σ.w (ρ 3) 270) = ρ1
      have f0 : ∀ q, ¬ q = 3 → ρ1 q = ρ q := fun q hq => by rw [← hσ1]; exact zup_n _ _ hq
      have f3 : ∀ i, i < 270 → ρ1 3 i = σ.w i := fun i hi => by rw [← hσ1, zup_s]; unfold zcp; rw [if_pos hi]
      have e1 : zup ρ1 4 (zcp (ρ1 2) (ρ1 4) 0) = ρ1 := by rw [zcp_0]; exact zup_id ρ1 4
      rw [← e1]
      refine loopN (fun n => Ev d c s 233 29 [some (zr (some (1, 0, 0))), some (zi (nI n))] [] (OM X 1 0 (zw (zup ρ1 4 (zcp (ρ1 2) (ρ1 4) n)) σ.w) l) Q) 1620 (fun n hn hE => ?_) ?_
      · refine g233_29 (by omega) (fun g => by omega) (fun _ => hn) (fun _ => hn) (fun _ => ?_)
        have e : zu (zup ρ1 4 (zcp (ρ1 2) (ρ1 4) n)) 4 n (zup ρ1 4 (zcp (ρ1 2) (ρ1 4) n) 2 n) = zup ρ1 4 (zcp (ρ1 2) (ρ1 4) (n + 1)) := by
          rw [zup_n ρ1 _ (show ¬ 2 = 4 by decide)]
          unfold zu
          rw [zup_s, zup_zup, zcp_s]
        rw [e]
        exact hE
      · refine g233_29 (by omega) (fun _ => ?_) (fun g => by omega) (fun g => by omega) (fun g => by omega)
        obtain ⟨r1, r2, r3, r4, r5, r6⟩ := hR
        have g0 : ∀ q i, ¬ q = 3 → ¬ q = 4 → ¬ (q = 0 ∧ i = 5) → zu (zup ρ1 4 (zcp (ρ1 2) (ρ1 4) 1620)) 0 5 (zup ρ1 4 (zcp (ρ1 2) (ρ1 4) 1620) 0 2) q i = ρ q i := by
          intro q i q3 q4 q5
          rw [zu_i_ne q5, zup_n _ _ q4, f0 q q3]
        refine k _ l ⟨zup_s _ _ _, ?_, ⟨?_, fun i hi => ?_, fun k hk i hi => ?_⟩, ⟨?_, fun k hk => ?_⟩, fun j hj => ?_, fun t ht => ?_⟩
        · refine ⟨?_, r2.2.1, fun k hk i hi => ?_⟩
          · rw [zw_at _ _ (by omega), g0 0 2 (by decide) (by decide) (by decide)]
            exact r2.1
          · rw [zw_at _ _ (by omega), g0 2 _ (by decide) (by decide) (by omega)]
            exact r2.2.2 k hk i hi
        · rw [zw_at _ _ (by omega), zu_s, zup_n _ _ (by decide), f0 0 (by decide)]
          exact r2.1
        · rw [zw_at _ _ (by omega), zu_q _ _ _ _ (by decide), zup_n _ _ (by decide)]
          exact f3 i hi
        · have hk6 : k < σ.H.length := hk
          have := r2.2.1
          rw [zw_at _ _ (by omega), zu_q _ _ _ _ (by decide), zup_s]
          unfold zcp
          rw [if_pos (by omega), f0 2 (by decide)]
          exact r2.2.2 k hk i hi
        · rw [zw_at _ _ (by omega), g0 0 7 (by decide) (by decide) (by decide)]
          exact r4.1
        · rw [zw_at _ _ (by omega), g0 5 _ (by decide) (by decide) (by omega)]
          exact r4.2 k hk
        · have := r5 j hj
          rw [zw_at _ _ (by omega), zw_at _ _ (by omega), g0 6 _ (by decide) (by decide) (by omega), g0 7 _ (by decide) (by decide) (by omega)]
          exact this
        · obtain ⟨z1, z2, z3, z4, z5, z6, z7⟩ := r6 t ht
          have g1 : ∀ q i, 10 ≤ q → zw (zu (zup ρ1 4 (zcp (ρ1 2) (ρ1 4) 1620)) 0 5 (zup ρ1 4 (zcp (ρ1 2) (ρ1 4) 1620) 0 2)) σ.w q i = ρ q i := by
            intro q i hq
            rw [zw_at _ _ (by omega), g0 q i (by omega) (by omega) (by omega)]
          refine ⟨(g1 _ _ (by decide)).trans z1, fun k hk => ?_, (g1 _ _ (by decide)).trans z3, (g1 _ _ (by decide)).trans z4, (g1 _ _ (by decide)).trans z5, (g1 _ _ (by decide)).trans z6, (g1 _ _ (by decide)).trans z7⟩
          rw [g1 _ _ (by decide), g1 _ _ (by decide), g1 _ _ (by decide)]
          exact z2 k hk
  rw [e0] at one
  exact one
theorem g234_0 {d c s : Nat} {w : Nat → Int32} {X : zM} {ρ : Nat → Nat → Int32} {l : Nat → Nat → Int64} {Q : Option zV → zM → Prop}
    (h1 : (0 ≤ (ρ 0 5)) → Ev d c s 234 12 [some (zr (some (1, 0, 0))), some (zi (nI 0))] [] (OM X 1 0 (zw ρ w) l) Q)
    (h2 : ((ρ 0 5) < 0) → Q (some (zi ((-4)))) (OM X 1 0 (zw ρ w) l)) : Ev d c s 234 0 [some (zr (some (1, 0, 0))), none] [] (OM X 1 0 (zw ρ w) l) Q := by
  refine Ew.ld f234_0 rfl rfl rfl rfl ?_
  refine Ew.getiO f234_1 rfl rfl ?_
  refine Ew.ifc f234_4 rfl rfl (fun c1 => ?_) (fun c1 => ?_)
  · refine Ew.op (st' := zi (nI 0) :: _) f234_10 rfl rfl ?_
    refine Ew.sr (ls' := [some (zr (some (1, 0, 0))), some (zi (nI 0))]) f234_11 rfl rfl (Nat.le_of_ble_eq_true rfl) rfl rfl ?_
    exact h1 c1
  · refine Ew.op (st' := zi ((-4)) :: _) f234_7 rfl rfl ?_
    refine Ew.ireti f234_9 ?_
    exact h2 (Int32.not_le.mp c1)
theorem g234_12 {d c s : Nat} {k : Nat} {w : Nat → Int32} {X : zM} {ρ : Nat → Nat → Int32} {l : Nat → Nat → Int64} {Q : Option zV → zM → Prop} (nb_k : k < 5000)
    (h1 : (270 ≤ k) → Ev d c s 234 39 [some (zr (some (1, 0, 0))), some (zi (nI 0))] [] (OM X 1 0 (zw ρ w) l) Q)
    (b1 : (k < 270) → k < 270)
    (b2 : (k < 270) → k < 270)
    (h2 : (k < 270) → Ev d c s 234 12 [some (zr (some (1, 0, 0))), some (zi (nI (k + 1)))] [] (OM X 1 0 (zw ρ (zup w k (ρ 3 k))) l) Q) : Ev d c s 234 12 [some (zr (some (1, 0, 0))), some (zi (nI k))] [] (OM X 1 0 (zw ρ w) l) Q := by
  refine Ew.ld f234_12 rfl rfl rfl rfl ?_
  refine Ew.op (st' := zi (nI 270) :: _) f234_13 rfl rfl ?_
  refine Ew.icmp f234_16 rfl rfl (fun c1 => ?_) (fun c1 => ?_)
  · refine Ew.op (st' := zi (nI 0) :: _) f234_37 rfl rfl ?_
    refine Ew.sr (ls' := [some (zr (some (1, 0, 0))), some (zi (nI 0))]) f234_38 rfl rfl (Nat.le_of_ble_eq_true rfl) rfl rfl ?_
    exact h1 ((zle_iff (by decide) nb_k).mp c1)
  · refine Ew.ld f234_19 rfl rfl rfl rfl ?_
    refine Ew.getp (v := some (1, 0, 1)) f234_20 rfl rfl rfl ?_
    refine Ew.ld f234_23 rfl rfl rfl rfl ?_
    refine Ew.ld f234_24 rfl rfl rfl rfl ?_
    refine Ew.getp (v := some (1, 0, 3)) f234_25 rfl rfl rfl ?_
    refine Ew.ld f234_28 rfl rfl rfl rfl ?_
    refine Ew.ialdnO f234_29 rfl (b1 (Nat.not_le.mp fun e => c1 ((zle_iff (by decide) nb_k).mpr e))) (Nat.le_of_ble_eq_true rfl) rfl ?_
    refine Ew.iastnO f234_30 (by decide) rfl (b2 (Nat.not_le.mp fun e => c1 ((zle_iff (by decide) nb_k).mpr e))) (Nat.le_of_ble_eq_true rfl) rfl ?_
    rw [zw_up]
    refine Ew.iinc (v := nI (k + 1)) (ls' := [some (zr (some (1, 0, 0))), some (zi (nI (k + 1)))]) f234_31 rfl (nI_1 _) rfl rfl ?_
    refine Ew.goto f234_34 rfl ?_
    exact h2 (Nat.not_le.mp fun e => c1 ((zle_iff (by decide) nb_k).mpr e))
theorem g234_39 {d c s : Nat} {k : Nat} {w : Nat → Int32} {X : zM} {ρ : Nat → Nat → Int32} {l : Nat → Nat → Int64} {Q : Option zV → zM → Prop} (nb_k : k < 5000)
    (h1 : (1620 ≤ k) → Ev d 0 0 169 0 [some (zr (some (1, 0, 0))), none] [] (OM X 1 0 (zw (zu ρ 0 2 (ρ 0 5)) w) l) (fun r M' => Ev (d + 1) c s 234 76 [some (zr (some (1, 0, 0))), some (zi (nI k))] (zpush r []) M' Q))
    (b1 : (k < 1620) → k < 1620)
    (b2 : (k < 1620) → k < 1620)
    (h2 : (k < 1620) → Ev (d + 1) c s 234 39 [some (zr (some (1, 0, 0))), some (zi (nI (k + 1)))] [] (OM X 1 0 (zw (zu ρ 2 k (ρ 4 k)) w) l) Q) : Ev (d + 1) c s 234 39 [some (zr (some (1, 0, 0))), some (zi (nI k))] [] (OM X 1 0 (zw ρ w) l) Q := by
  refine Ew.ld f234_39 rfl rfl rfl rfl ?_
  refine Ew.op (st' := zi (nI 1620) :: _) f234_40 rfl rfl ?_
  refine Ew.icmp f234_43 rfl rfl (fun c1 => ?_) (fun c1 => ?_)
  · refine Ew.ld f234_64 rfl rfl rfl rfl ?_
    refine Ew.ld f234_65 rfl rfl rfl rfl ?_
    refine Ew.getiO f234_66 rfl rfl ?_
    refine Ew.putiO f234_69 rfl rfl ?_
    rw [zw_uq _ _ (by decide)]
    refine Ew.ld f234_72 rfl rfl rfl rfl ?_
    refine Ew.call0 (ls0 := [some (zr (some (1, 0, 0))), none]) f234_73 rfl (Nat.le_of_ble_eq_true rfl) rfl rfl (Nat.le_of_ble_eq_true rfl) rfl (Nat.le_of_ble_eq_true rfl) rfl rfl ?_
    exact h1 ((zle_iff (by decide) nb_k).mp c1)
  · refine Ew.ld f234_46 rfl rfl rfl rfl ?_
    refine Ew.getp (v := some (1, 0, 2)) f234_47 rfl rfl rfl ?_
    refine Ew.ld f234_50 rfl rfl rfl rfl ?_
    refine Ew.ld f234_51 rfl rfl rfl rfl ?_
    refine Ew.getp (v := some (1, 0, 4)) f234_52 rfl rfl rfl ?_
    refine Ew.ld f234_55 rfl rfl rfl rfl ?_
    refine Ew.ialdnO f234_56 rfl (b1 (Nat.not_le.mp fun e => c1 ((zle_iff (by decide) nb_k).mpr e))) (Nat.le_of_ble_eq_true rfl) rfl ?_
    refine Ew.iastnO f234_57 (by decide) rfl (b2 (Nat.not_le.mp fun e => c1 ((zle_iff (by decide) nb_k).mpr e))) (Nat.le_of_ble_eq_true rfl) rfl ?_
    rw [zw_uq _ _ (by decide)]
    refine Ew.iinc (v := nI (k + 1)) (ls' := [some (zr (some (1, 0, 0))), some (zi (nI (k + 1)))]) f234_58 rfl (nI_1 _) rfl rfl ?_
    refine Ew.goto f234_61 rfl ?_
    exact h2 (Nat.not_le.mp fun e => c1 ((zle_iff (by decide) nb_k).mpr e))
theorem g234_76 {d c s : Nat} {k : Nat} {w : Nat → Int32} {X : zM} {ρ : Nat → Nat → Int32} {l : Nat → Nat → Int64} {Q : Option zV → zM → Prop}
    (h1 : Q (some (zi (nI 1))) (OM X 1 0 (zw ρ w) l)) : Ev d c s 234 76 [some (zr (some (1, 0, 0))), some (zi (nI k))] [zi (nI 1)] (OM X 1 0 (zw ρ w) l) Q := by
  refine Ew.ifc f234_76 rfl rfl (fun h => absurd h (show ¬ (((nI 1) : Int32) = 0) by decide)) (fun _ => ?_)
  refine Ew.op (st' := zi (nI 1) :: _) f234_79 rfl rfl ?_
  refine Ew.goto f234_80 rfl ?_
  refine Ew.ireti f234_84 ?_
  exact h1
def aRestore (σ : zSt) : Int32 × zSt := match σ.K with
  | none => (-4, σ)
  | some k => (nI 1, (k.1, k.2, σ.2.2))
theorem rp_restore {d c s B : Nat} {σ : zSt} {X : zM} {ρ : Nat → Nat → Int32} {l : Nat → Nat → Int64} {Q : Option zV → zM → Prop} (hG : zGood B σ) (hR : zRef ρ l σ) (k : ∀ ρ' l', zRef ρ' l' (aRestore σ).2 → Q (some (zi (aRestore σ).1)) (OM X 1 0 ρ' l')) : Ev (d + 6) c s 234 0 [some (zr (some (1, 0, 0))), none] [] (OM X 1 0 ρ l) Q := by
  rw [← hR.zw]
  unfold aRestore at k
  have hI : rImg ρ σ.K := hR.2.2.1
  rcases hK : σ.K with _ | kk
  · rw [hK] at k hI
    have hI : ρ 0 5 = -1 := hI
    refine g234_0 (fun g => absurd g (by rw [hI]; decide)) (fun _ => ?_)
    rw [hR.zw]
    exact k _ _ hR
  · rw [hK] at k hI
    obtain ⟨i1, i2, i3⟩ := hI
    obtain ⟨g1, g2, g3⟩ := hG.2.2.1 kk hK
    refine g234_0 (fun _ => ?_) (fun g => absurd g (by rw [i1]; exact nI_pos (by omega)))
    have e0 : zcp kk.1 σ.w 0 = σ.w := zcp_0 _ _
    rw [← e0]
    refine loopN (fun n => Ev (d + 6) c s 234 12 [some (zr (some (1, 0, 0))), some (zi (nI n))] [] (OM X 1 0 (zw ρ (zcp kk.1 σ.w n)) l) Q) 270 (fun n hn hE => ?_) ?_
    · refine g234_12 (by omega) (fun g => by omega) (fun _ => hn) (fun _ => hn) (fun _ => ?_)
      rw [i2 n hn, zcp_s]
      exact hE
    · have ew : zcp kk.1 σ.w 270 = kk.1 := by
        funext i
        unfold zcp
        split
        · rfl
        · rename_i hi
          rw [hG.1.1 i (by omega), g1.1 i (by omega)]
      rw [ew]
      refine g234_12 (by omega) (fun _ => ?_) (fun g => by omega) (fun g => by omega) (fun g => by omega)
      have e1 : zup ρ 2 (zcp (ρ 4) (ρ 2) 0) = ρ := by rw [zcp_0]; exact zup_id ρ 2
      rw [← e1]
      refine loopN (fun n => Ev (d + 6) c s 234 39 [some (zr (some (1, 0, 0))), some (zi (nI n))] [] (OM X 1 0 (zw (zup ρ 2 (zcp (ρ 4) (ρ 2) n)) kk.1) l) Q) 1620 (fun n hn hE => ?_) ?_
      · refine g234_39 (by omega) (fun g => by omega) (fun _ => hn) (fun _ => hn) (fun _ => ?_)
        have e : zu (zup ρ 2 (zcp (ρ 4) (ρ 2) n)) 2 n (zup ρ 2 (zcp (ρ 4) (ρ 2) n) 4 n) = zup ρ 2 (zcp (ρ 4) (ρ 2) (n + 1)) := by
          rw [zup_n ρ _ (show ¬ 4 = 2 by decide)]
          unfold zu
          rw [zup_s, zup_zup, zcp_s]
        rw [e]
        exact hE
      · refine g234_39 (by omega) (fun _ => ?_) (fun g => by omega) (fun g => by omega) (fun g => by omega)
        refine sp_laysTraces g1.2.1.tb (fun _ ρ1 hf ht => ?_) (fun g => absurd g g1.2.1.no)
        refine g234_76 (k _ l ?_)
        have hfr : rFr ρ (zu (zup ρ 2 (zcp (ρ 4) (ρ 2) 1620)) 0 2 (zup ρ 2 (zcp (ρ 4) (ρ 2) 1620) 0 5)) := by
          intro q i a1 a2 a3 a4
          rw [zu_i_ne (by omega), zup_n _ _ a2]
        refine zRef_mk ((hR.rest.fr hfr).l hf) (rHs_l ⟨?_, g2, fun k hk i hi => ?_⟩ hf) ht
        · rw [zu_s, zup_n _ _ (by decide)]
          exact i1
        · rw [zu_q _ _ _ _ (by decide), zup_s]
          unfold zcp
          rw [if_pos (by omega)]
          exact i3 k hk i hi
