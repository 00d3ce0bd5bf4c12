/-! the reference: entering, leaving, taking back, where a bracket is shut -/
theorem pPut_1 (s : pS) (c' : Nat → Nat) (u : List (Nat × Int32)) (k g : Nat) (b : Int32) : (pPut (s.1, c', u) k g b).1 = (pPut s k g b).1 := by
  unfold pPut
  by_cases h : 30 ≤ s.1.1
  · rw [if_pos h, if_pos h]
  · rw [if_neg h, if_neg h]
theorem pPut_10 (s : pS) {c' : Nat → Nat} (u : List (Nat × Int32)) (k g : Nat) (b : Int32) (h10 : c' 10 = s.2.1 10) : (pPut (s.1, c', u) k g b).2.1 10 = (pPut s k g b).2.1 10 := by
  unfold pPut
  by_cases h : 30 ≤ s.1.1
  · rw [if_pos h, if_pos h]
    show zup c' 10 1 10 = zup s.2.1 10 1 10
    rw [zup_s, zup_s]
  · rw [if_neg h, if_neg h]
    exact h10
/-- counters change, rows of steps stay -/
theorem mR.cnt {ρ0 ρ ρ' : Nat → Nat → Int32} {t : Nat} {s s' : pS} {y : List mF × Nat × (Nat × Int32)} (h : mR ρ0 t ρ (s, y)) (h1 : s'.1 = s.1) (hu : s'.2.2 = s.2.2) (hc : mRc t ρ' s'.2.1) (hf : ∀ q i, ¬ q = 25 → ¬ (q = 0 ∧ (i = 32 ∨ i = 21)) → ¬ (16 ≤ q ∧ q ≤ 18) → ρ' q i = ρ q i) (h16 : ∀ q i, 16 ≤ q → q ≤ 18 → ¬ i = t → ρ' q i = ρ q i) : mR ρ0 t ρ' (s', y) := by
  obtain ⟨⟨s1, s2, s3⟩, _, ⟨a1, a2, a3⟩, ⟨o1, o2, o3⟩, ⟨w1, w2, w3⟩, fr⟩ := h
  refine ⟨?_, hc, ?_, ⟨?_, o2, mStk_ext (fun k hk => ⟨?_, ?_, ?_, ?_⟩) o3⟩, ⟨?_, ?_, ?_⟩, fun q i hq => ?_⟩
  · show mRs t ρ' s'.1
    rw [h1]
    refine ⟨?_, s2, fun k hk => ?_⟩
    · rw [hf _ _ (by omega) (by omega) (by omega)]; exact s1
    · rw [hf _ _ (by omega) (by omega) (by omega), hf _ _ (by omega) (by omega) (by omega), hf _ _ (by omega) (by omega) (by omega)]; exact s3 k hk
  · show mRa ρ' s'.2.2
    rw [hu]
    refine ⟨?_, a2, mAds_ext (fun k hk => ⟨?_, ?_⟩) a3⟩
    · rw [hf _ _ (by omega) (by omega) (by omega)]; exact a1
    · exact hf _ _ (by omega) (by omega) (by omega)
    · exact hf _ _ (by omega) (by omega) (by omega)
  · rw [hf _ _ (by omega) (by omega) (by omega)]; exact o1
  · exact hf _ _ (by omega) (by omega) (by omega)
  · exact hf _ _ (by omega) (by omega) (by omega)
  · exact hf _ _ (by omega) (by omega) (by omega)
  · exact hf _ _ (by omega) (by omega) (by omega)
  · rw [hf _ _ (by omega) (by omega) (by omega)]; exact w1
  · rw [hf _ _ (by omega) (by omega) (by omega)]; exact w2
  · rw [hf _ _ (by omega) (by omega) (by omega)]; exact w3
  · unfold mScr at hq
    by_cases e : 16 ≤ q ∧ q ≤ 18
    · rw [h16 q i e.1 e.2 (by omega)]; exact fr q i hq
    · rw [hf q i (by omega) (by omega) e]; exact fr q i hq
theorem g160_0 {d c s : Nat} {t g : Nat} {X : zM} {ρ : Nat → Nat → Int32} {l : Nat → Nat → Int64} {Q : Option zV → zM → Prop}
    (h1 : Ev d 0 0 158 0 [some (zr (some (1, 0, 0))), some (zi (nI t)), some (zi (nI 0)), some (zi (nI g)), some (zi (nI 0))] [] (OM X 1 0 ρ l) (fun r M' => Ev (d + 1) c s 160 8 [some (zr (some (1, 0, 0))), some (zi (nI t)), some (zi (nI g))] (zpush r []) M' Q)) : Ev (d + 1) c s 160 0 [some (zr (some (1, 0, 0))), some (zi (nI t)), some (zi (nI g))] [] (OM X 1 0 ρ l) Q := by
  refine Ew.ld f160_0 rfl rfl rfl rfl ?_
  refine Ew.ld f160_1 rfl rfl rfl rfl ?_
  refine Ew.op (st' := zi (nI 0) :: _) f160_2 rfl rfl ?_
  refine Ew.ld f160_3 rfl rfl rfl rfl ?_
  refine Ew.op (st' := zi (nI 0) :: _) f160_4 rfl rfl ?_
  refine Ew.call0 (ls0 := [some (zr (some (1, 0, 0))), some (zi (nI t)), some (zi (nI 0)), some (zi (nI g)), some (zi (nI 0))]) f160_5 rfl (Nat.le_of_ble_eq_true rfl) rfl rfl (Nat.le_of_ble_eq_true rfl) rfl (Nat.le_of_ble_eq_true rfl) rfl rfl ?_
  exact h1
theorem g160_8 {d c s : Nat} {t g u v : Nat} {X : zM} {ρ : Nat → Nat → Int32} {l : Nat → Nat → Int64} {Q : Option zV → zM → Prop} (e1 : ρ 25 g = nI u) (e2 : ρ 17 t = nI v) (nb_u : u < 5000)
    (b1 : t < 4)
    (b2 : g < 6)
    (b3 : (u ≤ 0) → t < 4)
    (b4 : (u ≤ 0) → g < 6)
    (b5 : (u ≤ 0) → g < 6)
    (h1 : (u ≤ 0) → Ev d c s 160 51 [some (zr (some (1, 0, 0))), some (zi (nI t)), some (zi (nI g))] [] (OM X 1 0 (zu (zu (zu ρ 17 t (nI v)) 25 g (nI (u + 1))) 0 32 ((ρ 0 32) + (nI 1))) l) Q)
    (b6 : (0 < u) → t < 4)
    (b7 : (0 < u) → g < 6)
    (b8 : (0 < u) → g < 6)
    (h2 : (0 < u) → Ev d c s 160 51 [some (zr (some (1, 0, 0))), some (zi (nI t)), some (zi (nI g))] [] (OM X 1 0 (zu (zu (zu ρ 17 t (nI (v + 1))) 25 g (nI (u + 1))) 0 32 ((ρ 0 32) + (nI 1))) l) Q) : Ev d c s 160 8 [some (zr (some (1, 0, 0))), some (zi (nI t)), some (zi (nI g))] [] (OM X 1 0 ρ l) Q := by
  refine Ew.ld f160_8 rfl rfl rfl rfl ?_
  refine Ew.getp (v := some (1, 0, 17)) f160_9 rfl rfl rfl ?_
  refine Ew.ld f160_12 rfl rfl rfl rfl ?_
  refine Ew.op (st' := zi (nI t) :: zr (some (1, 0, 17)) :: zi (nI t) :: zr (some (1, 0, 17)) :: _) f160_13 rfl rfl ?_
  refine Ew.ialdnV (v := nI v) f160_14 rfl b1 (Nat.le_of_ble_eq_true rfl) rfl (so_v e2) ?_
  refine Ew.ld f160_15 rfl rfl rfl rfl ?_
  refine Ew.getp (v := some (1, 0, 25)) f160_16 rfl rfl rfl ?_
  refine Ew.ld f160_19 rfl rfl rfl rfl ?_
  refine Ew.ialdnV (v := nI u) f160_20 rfl b2 (Nat.le_of_ble_eq_true rfl) rfl (so_v e1) ?_
  refine Ew.ifc f160_21 rfl rfl (fun c1 => ?_) (fun c1 => ?_)
  · refine Ew.op (st' := zi (nI 0) :: _) f160_28 rfl rfl ?_
    refine Ew.addn f160_29 rfl ?_
    refine Ew.iastnO f160_30 (by decide) rfl (b3 ((zle_iff nb_u (by decide)).mp c1)) (Nat.le_of_ble_eq_true rfl) rfl ?_
    refine Ew.ld f160_31 rfl rfl rfl rfl ?_
    refine Ew.getp (v := some (1, 0, 25)) f160_32 rfl rfl rfl ?_
    refine Ew.ld f160_35 rfl rfl rfl rfl ?_
    refine Ew.op (st' := zi (nI g) :: zr (some (1, 0, 25)) :: zi (nI g) :: zr (some (1, 0, 25)) :: _) f160_36 rfl rfl ?_
    refine Ew.ialdnV (v := nI u) f160_37 rfl (b4 ((zle_iff nb_u (by decide)).mp c1)) (Nat.le_of_ble_eq_true rfl) rfl (so_v e1) ?_
    refine Ew.op (st' := zi (nI 1) :: _) f160_38 rfl rfl ?_
    refine Ew.addn f160_39 rfl ?_
    refine Ew.iastnO f160_40 (by decide) rfl (b5 ((zle_iff nb_u (by decide)).mp c1)) (Nat.le_of_ble_eq_true rfl) rfl ?_
    refine Ew.ld f160_41 rfl rfl rfl rfl ?_
    refine Ew.op (st' := zr (some (1, 0, 0)) :: zr (some (1, 0, 0)) :: _) f160_42 rfl rfl ?_
    refine Ew.getiO f160_43 rfl rfl ?_
    refine Ew.op (st' := zi (nI 1) :: _) f160_46 rfl rfl ?_
    refine Ew.op (st' := zi ((ρ 0 32) + (nI 1)) :: _) f160_47 rfl rfl ?_
    refine Ew.putiO f160_48 rfl rfl ?_
    exact h1 ((zle_iff nb_u (by decide)).mp c1)
  · refine Ew.op (st' := zi (nI 1) :: _) f160_24 rfl rfl ?_
    refine Ew.goto f160_25 rfl ?_
    refine Ew.addn f160_29 rfl ?_
    refine Ew.iastnO f160_30 (by decide) rfl (b6 (Nat.not_le.mp fun e => c1 ((zle_iff nb_u (by decide)).mpr e))) (Nat.le_of_ble_eq_true rfl) rfl ?_
    refine Ew.ld f160_31 rfl rfl rfl rfl ?_
    refine Ew.getp (v := some (1, 0, 25)) f160_32 rfl rfl rfl ?_
    refine Ew.ld f160_35 rfl rfl rfl rfl ?_
    refine Ew.op (st' := zi (nI g) :: zr (some (1, 0, 25)) :: zi (nI g) :: zr (some (1, 0, 25)) :: _) f160_36 rfl rfl ?_
    refine Ew.ialdnV (v := nI u) f160_37 rfl (b7 (Nat.not_le.mp fun e => c1 ((zle_iff nb_u (by decide)).mpr e))) (Nat.le_of_ble_eq_true rfl) rfl (so_v e1) ?_
    refine Ew.op (st' := zi (nI 1) :: _) f160_38 rfl rfl ?_
    refine Ew.addn f160_39 rfl ?_
    refine Ew.iastnO f160_40 (by decide) rfl (b8 (Nat.not_le.mp fun e => c1 ((zle_iff nb_u (by decide)).mpr e))) (Nat.le_of_ble_eq_true rfl) rfl ?_
    refine Ew.ld f160_41 rfl rfl rfl rfl ?_
    refine Ew.op (st' := zr (some (1, 0, 0)) :: zr (some (1, 0, 0)) :: _) f160_42 rfl rfl ?_
    refine Ew.getiO f160_43 rfl rfl ?_
    refine Ew.op (st' := zi (nI 1) :: _) f160_46 rfl rfl ?_
    refine Ew.op (st' := zi ((ρ 0 32) + (nI 1)) :: _) f160_47 rfl rfl ?_
    refine Ew.putiO f160_48 rfl rfl ?_
    exact h2 (Nat.not_le.mp fun e => c1 ((zle_iff nb_u (by decide)).mpr e))
theorem g160_51 {d c s : Nat} {t g u v : Nat} {X : zM} {ρ : Nat → Nat → Int32} {l : Nat → Nat → Int64} {Q : Option zV → zM → Prop} (e1 : ρ 0 32 = nI u) (e2 : ρ 18 t = nI v) (nb_u : u < 5000) (nb_v : v < 5000)
    (b1 : t < 4)
    (b2 : (u ≤ v) → t < 4)
    (b3 : (u ≤ v) → t < 4)
    (h1 : (u ≤ v) → Ev d 0 0 159 0 [some (zr (some (1, 0, 0))), some (zi (nI 0)), some (zi (nI g))] [] (OM X 1 0 (zu ρ 18 t (nI v)) l) (fun r M' => Ev (d + 1) c s 160 89 [some (zr (some (1, 0, 0))), some (zi (nI t)), some (zi (nI g))] (zpush r []) M' Q))
    (b4 : (v < u) → t < 4)
    (h2 : (v < u) → Ev d 0 0 159 0 [some (zr (some (1, 0, 0))), some (zi (nI 0)), some (zi (nI g))] [] (OM X 1 0 (zu ρ 18 t (nI u)) l) (fun r M' => Ev (d + 1) c s 160 89 [some (zr (some (1, 0, 0))), some (zi (nI t)), some (zi (nI g))] (zpush r []) M' Q)) : Ev (d + 1) c s 160 51 [some (zr (some (1, 0, 0))), some (zi (nI t)), some (zi (nI g))] [] (OM X 1 0 ρ l) Q := by
  refine Ew.ld f160_51 rfl rfl rfl rfl ?_
  refine Ew.getp (v := some (1, 0, 18)) f160_52 rfl rfl rfl ?_
  refine Ew.ld f160_55 rfl rfl rfl rfl ?_
  refine Ew.ld f160_56 rfl rfl rfl rfl ?_
  refine Ew.getiV (v := nI u) f160_57 rfl (so_v e1) rfl ?_
  refine Ew.ld f160_60 rfl rfl rfl rfl ?_
  refine Ew.getp (v := some (1, 0, 18)) f160_61 rfl rfl rfl ?_
  refine Ew.ld f160_64 rfl rfl rfl rfl ?_
  refine Ew.ialdnV (v := nI v) f160_65 rfl b1 (Nat.le_of_ble_eq_true rfl) rfl (so_v e2) ?_
  refine Ew.icmp f160_66 rfl rfl (fun c1 => ?_) (fun c1 => ?_)
  · refine Ew.ld f160_76 rfl rfl rfl rfl ?_
    refine Ew.getp (v := some (1, 0, 18)) f160_77 rfl rfl rfl ?_
    refine Ew.ld f160_80 rfl rfl rfl rfl ?_
    refine Ew.ialdnV (v := nI v) f160_81 rfl (b2 ((zle_iff nb_u nb_v).mp c1)) (Nat.le_of_ble_eq_true rfl) rfl (so_v e2) ?_
    refine Ew.iastnO f160_82 (by decide) rfl (b3 ((zle_iff nb_u nb_v).mp c1)) (Nat.le_of_ble_eq_true rfl) rfl ?_
    refine Ew.ld f160_83 rfl rfl rfl rfl ?_
    refine Ew.op (st' := zi (nI 0) :: _) f160_84 rfl rfl ?_
    refine Ew.ld f160_85 rfl rfl rfl rfl ?_
    refine Ew.call0 (ls0 := [some (zr (some (1, 0, 0))), some (zi (nI 0)), some (zi (nI g))]) f160_86 rfl (Nat.le_of_ble_eq_true rfl) rfl rfl (Nat.le_of_ble_eq_true rfl) rfl (Nat.le_of_ble_eq_true rfl) rfl rfl ?_
    exact h1 ((zle_iff nb_u nb_v).mp c1)
  · refine Ew.ld f160_69 rfl rfl rfl rfl ?_
    refine Ew.getiV (v := nI u) f160_70 rfl (so_v e1) rfl ?_
    refine Ew.goto f160_73 rfl ?_
    refine Ew.iastnO f160_82 (by decide) rfl (b4 (Nat.not_le.mp fun e => c1 ((zle_iff nb_u nb_v).mpr e))) (Nat.le_of_ble_eq_true rfl) rfl ?_
    refine Ew.ld f160_83 rfl rfl rfl rfl ?_
    refine Ew.op (st' := zi (nI 0) :: _) f160_84 rfl rfl ?_
    refine Ew.ld f160_85 rfl rfl rfl rfl ?_
    refine Ew.call0 (ls0 := [some (zr (some (1, 0, 0))), some (zi (nI 0)), some (zi (nI g))]) f160_86 rfl (Nat.le_of_ble_eq_true rfl) rfl rfl (Nat.le_of_ble_eq_true rfl) rfl (Nat.le_of_ble_eq_true rfl) rfl rfl ?_
    exact h2 (Nat.not_le.mp fun e => c1 ((zle_iff nb_u nb_v).mpr e))
theorem g160_89 {d c s : Nat} {t g : Nat} {X : zM} {ρ : Nat → Nat → Int32} {l : Nat → Nat → Int64} {Q : Option zV → zM → Prop}
    (h1 : Q none (OM X 1 0 ρ l)) : Ev d c s 160 89 [some (zr (some (1, 0, 0))), some (zi (nI t)), some (zi (nI g))] [] (OM X 1 0 ρ l) Q := by
  refine Ew.vret f160_89 ?_
  exact h1
theorem sp_enters {d c s t g : Nat} {X : zM} {ρ0 ρ : Nat → Nat → Int32} {l : Nat → Nat → Int64} {Q : Option zV → zM → Prop} {x : mC} (ht : t < 4) (hg : g < 6) (h : mR ρ0 t ρ x) (h6 : x.2.1.length < 6) (hcg : x.1.2.1 g ≤ 6) (hc6 : x.1.2.1 6 ≤ 6) (hc7 : x.1.2.1 7 ≤ 6) (k : ∀ ρ', mR ρ0 t ρ' (pEnter x.1 g, (0, x.2.2.1, g, x.1.2.2.length) :: x.2.1, x.2.2) → Q none (OM X 1 0 ρ' l)) : Ev (d + 1) c s 160 0 [some (zr (some (1, 0, 0))), some (zi (nI t)), some (zi (nI g))] [] (OM X 1 0 ρ l) Q := by
  refine g160_0 (sp_writes ht h (fun ρ1 h1 _ => ?_))
  show Ev (d + 1) c s 160 8 _ [] (OM X 1 0 ρ1 l) Q
  have hk1 : mR ρ0 t ρ1 (pPut x.1 0 g (nI 0), x.2) := h1
  obtain ⟨_, ⟨c1, c2, c3, c4, c5, c6⟩, _, _, _, _⟩ := h1
  have pc : ∀ i, ¬ i = 10 → (pPut x.1 0 g (nI 0)).2.1 i = x.1.2.1 i := fun i hi => pPut_c _ _ _ _ hi
  have ec : ∀ i, ¬ i = 10 → (pEnter x.1 g).2.1 i = pEc x.1.2.1 g i := fun i hi => pEnter_c _ _ hi
  -- the counters behind it
  have fin : ∀ ρ2, mRc t ρ2 (pEnter x.1 g).2.1 → (∀ q i, ¬ q = 25 → ¬ (q = 0 ∧ (i = 32 ∨ i = 21)) → ¬ (16 ≤ q ∧ q ≤ 18) → ρ2 q i = ρ1 q i) → (∀ q i, 16 ≤ q → q ≤ 18 → ¬ i = t → ρ2 q i = ρ1 q i) → Ev d 0 0 159 0 [some (zr (some (1, 0, 0))), some (zi (nI 0)), some (zi (nI g))] [] (OM X 1 0 ρ2 l) (fun r M' => Ev (d + 1) c s 160 89 [some (zr (some (1, 0, 0))), some (zi (nI t)), some (zi (nI g))] (zpush r []) M' Q) := by
    intro ρ2 k1 k2 k3
    have h2 : mR ρ0 t ρ2 (pEnter x.1 g, x.2) := hk1.cnt (s' := pEnter x.1 g) (by exact pPut_1 x.1 _ _ _ _ _) (by rw [pEnter_un]; exact (pPut_un _ _ _ _).symm) k1 k2 k3
    refine sp_opens h2 h6 (fun ρ3 h3 => ?_)
    have h3 : mR ρ0 t ρ3 (pEnter x.1 g, (0, x.2.2.1, g, (pEnter x.1 g).2.2.length) :: x.2.1, x.2.2) := h3
    rw [pEnter_un] at h3
    exact g160_89 (k ρ3 h3)
  have e10 : (pEnter x.1 g).2.1 10 = (pPut x.1 0 g (nI 0)).2.1 10 := pPut_10 x.1 _ _ _ _ (pEc_9 _ hg (by omega))
  have mk : ∀ (v8 v7 : Nat) (ρ2 : Nat → Nat → Int32), ρ2 = zu (zu (zu (zu ρ1 17 t (nI v8)) 25 g (nI (x.1.2.1 g + 1))) 0 32 (nI (x.1.2.1 6 + 1))) 18 t (nI v7) → v8 = pEc x.1.2.1 g 8 → v7 = pEc x.1.2.1 g 7 → Ev d 0 0 159 0 [some (zr (some (1, 0, 0))), some (zi (nI 0)), some (zi (nI g))] [] (OM X 1 0 ρ2 l) (fun r M' => Ev (d + 1) c s 160 89 [some (zr (some (1, 0, 0))), some (zi (nI t)), some (zi (nI g))] (zpush r []) M' Q) := by
    intro v8 v7 ρ2 hρ e8 e7
    subst hρ
    refine fin _ ⟨fun i hi => ?_, ?_, ?_, ?_, ?_, ?_⟩ (fun q i a1 a2 a3 => ?_) (fun q i a1 a2 a3 => ?_)
    · rw [ec i (by omega), pEc_g _ hg hi]
      by_cases e : i = g
      · subst e
        rw [zu_i_ne (by omega), zu_i_ne (by omega), zu_s, if_pos rfl]
      · rw [zu_i_ne (by omega), zu_i_ne (by omega), zu_i_ne (by omega), zu_i_ne (by omega), if_neg e, c1 i hi]
        show nI ((pPut x.1 0 g (nI 0)).2.1 i) = _
        rw [pc i (by omega)]
    · rw [zu_i_ne (by omega), zu_s, ec 6 (by omega), pEc_6]
    · rw [zu_s, ec 7 (by omega), e7]
    · rw [zu_i_ne (by omega), zu_i_ne (by omega), zu_i_ne (by omega), zu_s, ec 8 (by omega), e8]
    · rw [zu_i_ne (by omega), zu_i_ne (by omega), zu_i_ne (by omega), zu_i_ne (by omega), ec 9 (by omega), pEc_9 _ hg (by omega), c5]
      show nI ((pPut x.1 0 g (nI 0)).2.1 9) = _
      rw [pc 9 (by omega)]
    · rw [zu_i_ne (by omega), zu_i_ne (by omega), zu_i_ne (by omega), zu_i_ne (by omega), e10, c6]
    · rw [zu_i_ne (by omega), zu_i_ne (by omega), zu_i_ne (by omega), zu_i_ne (by omega)]
    · rw [zu_i_ne (by omega), zu_i_ne (by omega), zu_i_ne (by omega), zu_i_ne (by omega)]
  have e7 : pEc x.1.2.1 g 7 = max (x.1.2.1 7) (x.1.2.1 6 + 1) := by unfold pEc; exact zup_s _ _ _
  have e8 : pEc x.1.2.1 g 8 = x.1.2.1 8 + if 0 < x.1.2.1 g then 1 else 0 := by
    unfold pEc
    rw [zup_nn (by omega), zup_nn (by omega), zup_nn (by omega), zup_s]
  have d1 : ρ1 25 g = nI (x.1.2.1 g) := by rw [c1 g hg]; show nI ((pPut x.1 0 g (nI 0)).2.1 g) = _; rw [pc g (by omega)]
  have d2 : ρ1 17 t = nI (x.1.2.1 8) := by rw [c4]; show nI ((pPut x.1 0 g (nI 0)).2.1 8) = _; rw [pc 8 (by omega)]
  have d3 : ρ1 0 32 = nI (x.1.2.1 6) := by rw [c2]; show nI ((pPut x.1 0 g (nI 0)).2.1 6) = _; rw [pc 6 (by omega)]
  have d4 : ρ1 18 t = nI (x.1.2.1 7) := by rw [c3]; show nI ((pPut x.1 0 g (nI 0)).2.1 7) = _; rw [pc 7 (by omega)]
  have two : ∀ v8, v8 = pEc x.1.2.1 g 8 → Ev (d + 1) c s 160 51 [some (zr (some (1, 0, 0))), some (zi (nI t)), some (zi (nI g))] [] (OM X 1 0 (zu (zu (zu ρ1 17 t (nI v8)) 25 g (nI (x.1.2.1 g + 1))) 0 32 (nI (x.1.2.1 6 + 1))) l) Q := by
    intro v8 h8
    refine g160_51 (u := x.1.2.1 6 + 1) (v := x.1.2.1 7) (zu_s _ _ _ _) ?_ (by omega) (by omega) ht (fun _ => ht) (fun _ => ht) (fun hle => mk v8 (x.1.2.1 7) _ rfl h8 (by rw [e7]; omega)) (fun _ => ht) (fun hlt => mk v8 (x.1.2.1 6 + 1) _ rfl h8 (by rw [e7]; omega))
    rw [zu_i_ne (by omega), zu_i_ne (by omega), zu_i_ne (by omega)]
    exact d4
  refine g160_8 d1 d2 (by omega) ht hg (fun _ => ht) (fun _ => hg) (fun _ => hg) (fun h0 => ?_) (fun _ => ht) (fun _ => hg) (fun _ => hg) (fun h0 => ?_)
  · rw [d3, nI_add]
    exact two _ (by rw [e8, if_neg (by omega), Nat.add_zero])
  · rw [d3, nI_add]
    exact two _ (by rw [e8, if_pos h0])
theorem g161_0 {d c s : Nat} {t o g : Nat} {X : zM} {ρ : Nat → Nat → Int32} {l : Nat → Nat → Int64} {Q : Option zV → zM → Prop} (e1 : ρ 0 26 = nI o) (e2 : ρ 21 o = nI g)
    (b1 : o < 6)
    (h1 : Ev d 0 0 158 0 [some (zr (some (1, 0, 0))), some (zi (nI t)), some (zi (nI 1)), some (zi (nI g)), some (zi (nI 0))] [] (OM X 1 0 ρ l) (fun r M' => Ev (d + 1) c s 161 16 [some (zr (some (1, 0, 0))), some (zi (nI t))] (zpush r []) M' Q)) : Ev (d + 1) c s 161 0 [some (zr (some (1, 0, 0))), some (zi (nI t))] [] (OM X 1 0 ρ l) Q := by
  refine Ew.ld f161_0 rfl rfl rfl rfl ?_
  refine Ew.ld f161_1 rfl rfl rfl rfl ?_
  refine Ew.op (st' := zi (nI 1) :: _) f161_2 rfl rfl ?_
  refine Ew.ld f161_3 rfl rfl rfl rfl ?_
  refine Ew.getp (v := some (1, 0, 21)) f161_4 rfl rfl rfl ?_
  refine Ew.ld f161_7 rfl rfl rfl rfl ?_
  refine Ew.getiV (v := nI o) f161_8 rfl (so_v e1) rfl ?_
  refine Ew.ialdnV (v := nI g) f161_11 rfl b1 (Nat.le_of_ble_eq_true rfl) rfl (so_v e2) ?_
  refine Ew.op (st' := zi (nI 0) :: _) f161_12 rfl rfl ?_
  refine Ew.call0 (ls0 := [some (zr (some (1, 0, 0))), some (zi (nI t)), some (zi (nI 1)), some (zi (nI g)), some (zi (nI 0))]) f161_13 rfl (Nat.le_of_ble_eq_true rfl) rfl rfl (Nat.le_of_ble_eq_true rfl) rfl (Nat.le_of_ble_eq_true rfl) rfl rfl ?_
  exact h1
theorem g161_16 {d c s : Nat} {t o g u v : Nat} {X : zM} {ρ : Nat → Nat → Int32} {l : Nat → Nat → Int64} {Q : Option zV → zM → Prop} (e1 : ρ 0 26 = nI o) (e2 : ρ 21 o = nI g)
    (b1 : o < 6)
    (b2 : g < 6)
    (b3 : g < 6)
    (h1 : Q none (OM X 1 0 (zu (zu ρ 25 g ((ρ 25 g) - (nI 1))) 0 32 ((ρ 0 32) - (nI 1))) l)) : Ev d c s 161 16 [some (zr (some (1, 0, 0))), some (zi (nI t))] [] (OM X 1 0 ρ l) Q := by
  refine Ew.ld f161_16 rfl rfl rfl rfl ?_
  refine Ew.getp (v := some (1, 0, 25)) f161_17 rfl rfl rfl ?_
  refine Ew.ld f161_20 rfl rfl rfl rfl ?_
  refine Ew.getp (v := some (1, 0, 21)) f161_21 rfl rfl rfl ?_
  refine Ew.ld f161_24 rfl rfl rfl rfl ?_
  refine Ew.getiV (v := nI o) f161_25 rfl (so_v e1) rfl ?_
  refine Ew.ialdnV (v := nI g) f161_28 rfl b1 (Nat.le_of_ble_eq_true rfl) rfl (so_v e2) ?_
  refine Ew.op (st' := zi (nI g) :: zr (some (1, 0, 25)) :: zi (nI g) :: zr (some (1, 0, 25)) :: _) f161_29 rfl rfl ?_
  refine Ew.ialdnO f161_30 rfl b2 (Nat.le_of_ble_eq_true rfl) rfl ?_
  refine Ew.op (st' := zi (nI 1) :: _) f161_31 rfl rfl ?_
  refine Ew.op (st' := zi ((ρ 25 g) - (nI 1)) :: _) f161_32 rfl rfl ?_
  refine Ew.iastnO f161_33 (by decide) rfl b3 (Nat.le_of_ble_eq_true rfl) rfl ?_
  refine Ew.ld f161_34 rfl rfl rfl rfl ?_
  refine Ew.op (st' := zr (some (1, 0, 0)) :: zr (some (1, 0, 0)) :: _) f161_35 rfl rfl ?_
  refine Ew.getiO f161_36 rfl rfl ?_
  refine Ew.op (st' := zi (nI 1) :: _) f161_39 rfl rfl ?_
  refine Ew.op (st' := zi ((ρ 0 32) - (nI 1)) :: _) f161_40 rfl rfl ?_
  refine Ew.putiO f161_41 rfl rfl ?_
  refine Ew.vret f161_44 ?_
  exact h1
theorem sp_leaves {d c s t g : Nat} {X : zM} {ρ0 ρ : Nat → Nat → Int32} {l : Nat → Nat → Int64} {Q : Option zV → zM → Prop} {x : mC} (ht : t < 4) (hg : g < 6) (h : mR ρ0 t ρ x) (h6 : x.2.1.length < 6) (hfg : ρ 21 x.2.1.length = nI g) (hcg : 0 < x.1.2.1 g) (hc6 : 0 < x.1.2.1 6) (k : ∀ ρ', mR ρ0 t ρ' (pLeave x.1 g, x.2) → mKp ρ ρ' → Q none (OM X 1 0 ρ' l)) : Ev (d + 1) c s 161 0 [some (zr (some (1, 0, 0))), some (zi (nI t))] [] (OM X 1 0 ρ l) Q := by
  refine g161_0 (o := x.2.1.length) (g := g) h.2.2.2.1.1 hfg h6 (sp_writes ht h (fun ρ1 h1 hk1 => ?_))
  show Ev (d + 1) c s 161 16 _ [] (OM X 1 0 ρ1 l) Q
  have hk : mR ρ0 t ρ1 (pPut x.1 1 g (nI 0), x.2) := h1
  obtain ⟨_, ⟨c1, c2, c3, c4, c5, c6⟩, _, ⟨o1, _, _⟩, _, _⟩ := h1
  have pc : ∀ i, ¬ i = 10 → (pPut x.1 1 g (nI 0)).2.1 i = x.1.2.1 i := fun i hi => pPut_c _ _ _ _ hi
  have ec : ∀ i, ¬ i = 10 → (pLeave x.1 g).2.1 i = pLc x.1.2.1 g i := fun i hi => pLeave_c _ _ hi
  have e10 : (pLeave x.1 g).2.1 10 = (pPut x.1 1 g (nI 0)).2.1 10 := pPut_10 x.1 _ _ _ _ (pLc_9 _ hg (by omega))
  have d1 : ∀ i, i < 6 → ρ1 25 i = nI (x.1.2.1 i) := fun i hi => by rw [c1 i hi]; show nI ((pPut x.1 1 g (nI 0)).2.1 i) = _; rw [pc i (by omega)]
  have d3 : ρ1 0 32 = nI (x.1.2.1 6) := by rw [c2]; show nI ((pPut x.1 1 g (nI 0)).2.1 6) = _; rw [pc 6 (by omega)]
  refine g161_16 (u := 0) (v := 0) (o := x.2.1.length) (g := g) o1 ?_ h6 hg hg (k _ (hk.cnt (s' := pLeave x.1 g) (by exact pPut_1 x.1 _ _ _ _ _) (by rw [pLeave_un]; exact (pPut_un _ _ _ _).symm) ⟨fun i hi => ?_, ?_, ?_, ?_, ?_, ?_⟩ (fun q i a1 a2 a3 => ?_) (fun q i a1 a2 a3 => ?_)) (hk1.trans fun q i a1 a2 => ?_))
  · rw [hk1 _ _ (by decide) (by decide)]
    exact hfg
  · rw [ec i (by omega), pLc_g _ hg hi]
    by_cases e : i = g
    · subst e
      rw [zu_i_ne (by omega), zu_s, if_pos rfl, d1 i hi, pk_sub (by omega)]
    · rw [zu_i_ne (by omega), zu_i_ne (by omega), if_neg e, d1 i hi]
  · rw [zu_s, ec 6 (by omega), pLc_6, d3, pk_sub (by omega)]
  · rw [zu_i_ne (by omega), zu_i_ne (by omega), ec 7 (by omega), pLc_9 _ hg (by omega), c3]
    show nI ((pPut x.1 1 g (nI 0)).2.1 7) = _
    rw [pc 7 (by omega)]
  · rw [zu_i_ne (by omega), zu_i_ne (by omega), ec 8 (by omega), pLc_9 _ hg (by omega), c4]
    show nI ((pPut x.1 1 g (nI 0)).2.1 8) = _
    rw [pc 8 (by omega)]
  · rw [zu_i_ne (by omega), zu_i_ne (by omega), ec 9 (by omega), pLc_9 _ hg (by omega), c5]
    show nI ((pPut x.1 1 g (nI 0)).2.1 9) = _
    rw [pc 9 (by omega)]
  · rw [zu_i_ne (by omega), zu_i_ne (by omega), e10, c6]
  · rw [zu_i_ne (by omega), zu_i_ne (by omega)]
  · rw [zu_i_ne (by omega), zu_i_ne (by omega)]
  · rw [zu_i_ne (by omega), zu_i_ne (by omega)]
/-- what was added is taken back, but what is sealed -/
def mTakeL : List (Nat × Int32) → Nat → pS → pS
  | [], _, s => s
  | x :: u, m, s => if m < u.length + 1 then (if x.2 = 0 then mTakeL u m (s.1, s.2.1, u) else mTakeL u m ((pPut s 2 x.1 (-x.2)).1, (pPut s 2 x.1 (-x.2)).2.1, u)) else s
def mTake (m : Nat) (s : pS) : pS := mTakeL s.2.2 m s
theorem g162_0 {d c s : Nat} {t a o m : Nat} {X : zM} {ρ : Nat → Nat → Int32} {l : Nat → Nat → Int64} {Q : Option zV → zM → Prop} (e1 : ρ 0 26 = nI o) (e2 : ρ 22 o = nI m) (e3 : ρ 0 29 = nI a) (nb_a : a < 5000) (nb_m : m < 5000)
    (b1 : o < 6)
    (h1 : (a ≤ m) → Q none (OM X 1 0 ρ l))
    (h2 : (m < a) → Ev d c s 162 26 [some (zr (some (1, 0, 0))), some (zi (nI t))] [] (OM X 1 0 (zu ρ 0 29 ((nI a) - (nI 1))) l) Q) : Ev d c s 162 0 [some (zr (some (1, 0, 0))), some (zi (nI t))] [] (OM X 1 0 ρ l) Q := by
  refine Ew.ld f162_0 rfl rfl rfl rfl ?_
  refine Ew.getiV (v := nI a) f162_1 rfl (so_v e3) rfl ?_
  refine Ew.ld f162_4 rfl rfl rfl rfl ?_
  refine Ew.getp (v := some (1, 0, 22)) f162_5 rfl rfl rfl ?_
  refine Ew.ld f162_8 rfl rfl rfl rfl ?_
  refine Ew.getiV (v := nI o) f162_9 rfl (so_v e1) rfl ?_
  refine Ew.ialdnV (v := nI m) f162_12 rfl b1 (Nat.le_of_ble_eq_true rfl) rfl (so_v e2) ?_
  refine Ew.icmp f162_13 rfl rfl (fun c1 => ?_) (fun c1 => ?_)
  · refine Ew.vret f162_66 ?_
    exact h1 ((zle_iff nb_a nb_m).mp c1)
  · refine Ew.ld f162_16 rfl rfl rfl rfl ?_
    refine Ew.op (st' := zr (some (1, 0, 0)) :: zr (some (1, 0, 0)) :: _) f162_17 rfl rfl ?_
    refine Ew.getiV (v := nI a) f162_18 rfl (so_v e3) rfl ?_
    refine Ew.op (st' := zi (nI 1) :: _) f162_21 rfl rfl ?_
    refine Ew.op (st' := zi ((nI a) - (nI 1)) :: _) f162_22 rfl rfl ?_
    refine Ew.putiO f162_23 rfl rfl ?_
    exact h2 (Nat.not_le.mp fun e => c1 ((zle_iff nb_a nb_m).mpr e))
theorem g162_26 {d c s : Nat} {t a g : Nat} {X : zM} {ρ : Nat → Nat → Int32} {l : Nat → Nat → Int64} {Q : Option zV → zM → Prop} (e3 : ρ 0 29 = nI a) (e4 : ρ 23 a = nI g)
    (b1 : a < 31)
    (h1 : ((ρ 24 a) = 0) → Ev (d + 1) c s 162 0 [some (zr (some (1, 0, 0))), some (zi (nI t))] [] (OM X 1 0 ρ l) Q)
    (b2 : (¬ (ρ 24 a) = 0) → a < 31)
    (b3 : (¬ (ρ 24 a) = 0) → a < 31)
    (h2 : (¬ (ρ 24 a) = 0) → Ev d 0 0 158 0 [some (zr (some (1, 0, 0))), some (zi (nI t)), some (zi (nI 2)), some (zi (nI g)), some (zi (-(ρ 24 a)))] [] (OM X 1 0 ρ l) (fun r M' => Ev (d + 1) c s 162 63 [some (zr (some (1, 0, 0))), some (zi (nI t))] (zpush r []) M' Q)) : Ev (d + 1) c s 162 26 [some (zr (some (1, 0, 0))), some (zi (nI t))] [] (OM X 1 0 ρ l) Q := by
  refine Ew.ld f162_26 rfl rfl rfl rfl ?_
  refine Ew.getp (v := some (1, 0, 24)) f162_27 rfl rfl rfl ?_
  refine Ew.ld f162_30 rfl rfl rfl rfl ?_
  refine Ew.getiV (v := nI a) f162_31 rfl (so_v e3) rfl ?_
  refine Ew.ialdnO f162_34 rfl b1 (Nat.le_of_ble_eq_true rfl) rfl ?_
  refine Ew.ifc f162_35 rfl rfl (fun c1 => ?_) (fun c1 => ?_)
  · exact h1 c1
  · refine Ew.ld f162_38 rfl rfl rfl rfl ?_
    refine Ew.ld f162_39 rfl rfl rfl rfl ?_
    refine Ew.op (st' := zi (nI 2) :: _) f162_40 rfl rfl ?_
    refine Ew.ld f162_41 rfl rfl rfl rfl ?_
    refine Ew.getp (v := some (1, 0, 23)) f162_42 rfl rfl rfl ?_
    refine Ew.ld f162_45 rfl rfl rfl rfl ?_
    refine Ew.getiV (v := nI a) f162_46 rfl (so_v e3) rfl ?_
    refine Ew.ialdnV (v := nI g) f162_49 rfl (b2 c1) (Nat.le_of_ble_eq_true rfl) rfl (so_v e4) ?_
    refine Ew.ld f162_50 rfl rfl rfl rfl ?_
    refine Ew.getp (v := some (1, 0, 24)) f162_51 rfl rfl rfl ?_
    refine Ew.ld f162_54 rfl rfl rfl rfl ?_
    refine Ew.getiV (v := nI a) f162_55 rfl (so_v e3) rfl ?_
    refine Ew.ialdnO f162_58 rfl (b3 c1) (Nat.le_of_ble_eq_true rfl) rfl ?_
    refine Ew.op (st' := zi (-(ρ 24 a)) :: _) f162_59 rfl rfl ?_
    refine Ew.call0 (ls0 := [some (zr (some (1, 0, 0))), some (zi (nI t)), some (zi (nI 2)), some (zi (nI g)), some (zi (-(ρ 24 a)))]) f162_60 rfl (Nat.le_of_ble_eq_true rfl) rfl rfl (Nat.le_of_ble_eq_true rfl) rfl (Nat.le_of_ble_eq_true rfl) rfl rfl ?_
    exact h2 c1
theorem g162_63 {d c s : Nat} {t : Nat} {X : zM} {ρ : Nat → Nat → Int32} {l : Nat → Nat → Int64} {Q : Option zV → zM → Prop}
    (h1 : Ev d c s 162 0 [some (zr (some (1, 0, 0))), some (zi (nI t))] [] (OM X 1 0 ρ l) Q) : Ev d c s 162 63 [some (zr (some (1, 0, 0))), some (zi (nI t))] [] (OM X 1 0 ρ l) Q := by
  refine Ew.goto f162_63 rfl ?_
  exact h1
theorem mR.pop {ρ0 ρ ρ' : Nat → Nat → Int32} {t : Nat} {x : mC} (h : mR ρ0 t ρ x) {u : List (Nat × Int32)} (hu : mAds ρ u) (hl : u.length ≤ 30) (hρ : ρ' = zu ρ 0 29 (nI u.length)) : mR ρ0 t ρ' ((x.1.1, x.1.2.1, u), x.2) := by
  subst hρ
  obtain ⟨⟨s1, s2, s3⟩, ⟨c1, c2, c3, c4, c5, c6⟩, ⟨a1, a2, a3⟩, ⟨o1, o2, o3⟩, ⟨w1, w2, w3⟩, fr⟩ := h
  refine ⟨⟨?_, s2, fun k hk => ?_⟩, ⟨fun i hi => ?_, ?_, ?_, ?_, ?_, ?_⟩, ⟨?_, hl, mAds_ext (fun k hk => ⟨?_, ?_⟩) hu⟩, ⟨?_, o2, mStk_ext (fun k hk => ⟨?_, ?_, ?_, ?_⟩) o3⟩, ⟨?_, ?_, ?_⟩, fun q i hq => ?_⟩
  all_goals first
    | exact zu_s _ _ _ _
    | (rw [zu_i_ne (by omega)]; assumption)
    | (rw [zu_i_ne (by omega)]; exact c1 i hi)
    | (rw [zu_i_ne (by omega), zu_i_ne (by omega), zu_i_ne (by omega)]; exact s3 k hk)
    | (rw [zu_i_ne (by omega)]; done)
    | (rw [zu_i_ne (by unfold mScr at hq; omega)]; exact fr q i hq)
theorem sp_takesBack {d c s t m : Nat} {X : zM} {ρ0 : Nat → Nat → Int32} {l : Nat → Nat → Int64} {Q : Option zV → zM → Prop} {y : List mF × Nat × (Nat × Int32)} (ht : t < 4) (h6 : y.1.length < 6) (hm : m ≤ 30) : ∀ (u : List (Nat × Int32)) (s1 : pS) (ρ : Nat → Nat → Int32), s1.2.2 = u → mR ρ0 t ρ (s1, y) → ρ 22 y.1.length = nI m → (∀ ρ', mR ρ0 t ρ' (mTake m s1, y) → mKp ρ ρ' → Q none (OM X 1 0 ρ' l)) → Ev (d + 1) c s 162 0 [some (zr (some (1, 0, 0))), some (zi (nI t))] [] (OM X 1 0 ρ l) Q := by
  intro u
  induction u with
  | nil =>
    intro s1 ρ hu h hfm k
    have hl : s1.2.2.length = 0 := by rw [hu]; rfl
    have e : mTake m s1 = s1 := by unfold mTake; rw [hu]; rfl
    rw [e] at k
    refine g162_0 h.2.2.2.1.1 hfm h.2.2.1.1 (by show s1.2.2.length < 5000; omega) (by omega) h6 (fun _ => k ρ h (fun _ _ _ _ => rfl)) (fun g => ?_)
    have g : m < s1.2.2.length := g
    omega
  | cons p u ih =>
    intro s1 ρ hu h hfm k
    have hl : s1.2.2.length = u.length + 1 := by rw [hu]; rfl
    have hl30 : s1.2.2.length ≤ 30 := h.2.2.1.2.1
    have e : mTake m s1 = if m < u.length + 1 then (if p.2 = 0 then mTakeL u m (s1.1, s1.2.1, u) else mTakeL u m ((pPut s1 2 p.1 (-p.2)).1, (pPut s1 2 p.1 (-p.2)).2.1, u)) else s1 := by
      unfold mTake
      rw [hu]
      rfl
    have ha : mAds ρ (p :: u) := by rw [← hu]; exact h.2.2.1.2.2
    refine g162_0 h.2.2.2.1.1 hfm h.2.2.1.1 (by show s1.2.2.length < 5000; omega) (by omega) h6 (fun g => ?_) (fun g => ?_)
    · have g : s1.2.2.length ≤ m := g
      rw [if_neg (by omega)] at e
      rw [e] at k
      exact k ρ h (fun _ _ _ _ => rfl)
    · have g : m < s1.2.2.length := g
      rw [if_pos (by omega)] at e
      show Ev (d + 1) c s 162 26 _ [] (OM X 1 0 (zu ρ 0 29 (nI s1.2.2.length - nI 1)) l) Q
      rw [hl, pk_sub (by omega), Nat.add_sub_cancel]
      have h1 : mR ρ0 t (zu ρ 0 29 (nI u.length)) ((s1.1, s1.2.1, u), y) := h.pop ha.2.2 (by omega) rfl
      have hkp : mKp ρ (zu ρ 0 29 (nI u.length)) := fun q i a1 a2 => zu_i_ne (by omega)
      have e24 : zu ρ 0 29 (nI u.length) 24 u.length = p.2 := by rw [zu_i_ne (by omega)]; exact ha.2.1
      refine g162_26 (a := u.length) (g := p.1) (zu_s _ _ _ _) (by rw [zu_i_ne (by omega)]; exact ha.1) (by omega) (fun g0 => ?_) (fun _ => by omega) (fun _ => by omega) (fun g0 => ?_)
      · rw [e24] at g0
        rw [if_pos g0] at e
        refine ih (s1.1, s1.2.1, u) _ rfl h1 (by rw [zu_i_ne (by omega)]; exact hfm) (fun ρ' k1 k2 => k ρ' ?_ (hkp.trans k2))
        rw [e]
        exact k1
      · rw [e24] at g0
        rw [if_neg g0] at e
        rw [e24]
        refine sp_writes ht h1 (fun ρ2 h2 hk2 => g162_63 ?_)
        have h2 : mR ρ0 t ρ2 (pPut (s1.1, s1.2.1, u) 2 p.1 (-p.2), y) := h2
        have e2 : pPut (s1.1, s1.2.1, u) 2 p.1 (-p.2) = ((pPut s1 2 p.1 (-p.2)).1, (pPut s1 2 p.1 (-p.2)).2.1, u) := by
          unfold pPut
          by_cases h30 : 30 ≤ s1.1.1
          · rw [if_pos h30, if_pos h30]
          · rw [if_neg h30, if_neg h30]
        rw [e2] at h2
        refine ih _ ρ2 rfl h2 ?_ (fun ρ' k1 k2 => k ρ' ?_ ((hkp.trans hk2).trans k2))
        · rw [hk2 _ _ (by decide) (by decide), zu_i_ne (by omega)]; exact hfm
        · rw [e]
          exact k1
