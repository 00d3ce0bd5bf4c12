/-! the class: the player stays in a gate -/
theorem g27_0 {d c s : Nat} {n bb : Nat} {A : List Nat} {a g D : Nat} {X : zM} {ρ : Nat → Nat → Int32} {l : Nat → Nat → Int64} {Q : Option zV → zM → Prop} (hc : cSc X.1 X.2.2.1 X.2.2.2.1 bb n A) (ps : X.2.2.1 0 0 4 0 = some (3, n, 0)) 
    (h1 : (cHas (ρ 4 1) (nI g)) → Q (some (zi ((-1)))) (OM X 0 0 (zu (zu ρ 4 14 (nI 3)) 4 15 (nI g)) l))
    (h2 : (¬ (cHas (ρ 4 1) (nI g))) → Ev d 0 0 32 0 [some (zr (some (0, 0, 4))), some (zi (nI g))] [] (OM X 0 0 ρ l) (fun r M' => Ev (d + 1) c s 27 29 [some (zr (some (0, 0, 4))), some (zi (nI a)), some (zi (nI g)), some (zi (nI D)), some (zi (ρ 4 13)), none] (zpush r []) M' Q)) : Ev (d + 1) c s 27 0 [some (zr (some (0, 0, 4))), some (zi (nI a)), some (zi (nI g)), some (zi (nI D)), none, none] [] (OM X 0 0 ρ l) Q := by
  refine Ew.ld f27_0 rfl rfl rfl rfl ?_
  refine Ew.getiO f27_1 rfl rfl ?_
  refine Ew.ld f27_4 rfl rfl rfl rfl ?_
  refine Ew.call0 (ls0 := [some (zi (ρ 4 1)), some (zi (nI g))]) f27_5 rfl (Nat.le_of_ble_eq_true rfl) rfl rfl (Nat.le_of_ble_eq_true rfl) trivial (Nat.le_of_ble_eq_true rfl) rfl rfl ?_
  refine sp_cHas (fun c1 => ?_) (fun c1 => ?_)
  · refine Ew.ifc f27_8 rfl rfl (fun h => absurd h (show ¬ (((nI 1) : Int32) = 0) by decide)) (fun _ => ?_)
    refine Ew.ld f27_11 rfl rfl rfl rfl ?_
    refine Ew.op (st' := zi (nI 3) :: _) f27_12 rfl rfl ?_
    refine Ew.ld f27_13 rfl rfl rfl rfl ?_
    refine Ew.call0 (ls0 := [some (zr (some (0, 0, 4))), some (zi (nI 3)), some (zi (nI g))]) f27_14 rfl (Nat.le_of_ble_eq_true rfl) rfl rfl (Nat.le_of_ble_eq_true rfl) rfl (Nat.le_of_ble_eq_true rfl) rfl rfl ?_
    refine Ew.ld f31_0 rfl rfl rfl rfl ?_
    refine Ew.ld f31_1 rfl rfl rfl rfl ?_
    refine Ew.putiO f31_2 rfl rfl ?_
    refine Ew.ld f31_5 rfl rfl rfl rfl ?_
    refine Ew.ld f31_6 rfl rfl rfl rfl ?_
    refine Ew.putiO f31_7 rfl rfl ?_
    refine Ew.op (st' := zi ((-1)) :: _) f31_10 rfl rfl ?_
    refine Ew.ireti f31_11 ?_
    show Ev (d + 1) c s 27 17 [some (zr (some (0, 0, 4))), some (zi (nI a)), some (zi (nI g)), some (zi (nI D)), none, none] [zi ((-1))] (OM X 0 0 (zu (zu ρ 4 14 (nI 3)) 4 15 (nI g)) l) Q
    refine Ew.ireti f27_17 ?_
    exact h1 c1
  · refine Ew.ifc f27_8 rfl rfl (fun _ => ?_) (fun h => absurd (show ((nI 0) : Int32) = 0 by decide) h)
    refine Ew.ld f27_18 rfl rfl rfl rfl ?_
    refine Ew.getiO f27_19 rfl rfl ?_
    refine Ew.sr (ls' := [some (zr (some (0, 0, 4))), some (zi (nI a)), some (zi (nI g)), some (zi (nI D)), some (zi (ρ 4 13)), none]) f27_22 rfl rfl (Nat.le_of_ble_eq_true rfl) rfl rfl ?_
    refine Ew.ld f27_24 rfl rfl rfl rfl ?_
    refine Ew.ld f27_25 rfl rfl rfl rfl ?_
    refine Ew.call0 (ls0 := [some (zr (some (0, 0, 4))), some (zi (nI g))]) f27_26 rfl (Nat.le_of_ble_eq_true rfl) rfl rfl (Nat.le_of_ble_eq_true rfl) rfl (Nat.le_of_ble_eq_true rfl) rfl rfl ?_
    exact h2 c1
theorem g27_29 {d c s : Nat} {a g D m : Nat} {X : zM} {ρ : Nat → Nat → Int32} {l : Nat → Nat → Int64} {Q : Option zV → zM → Prop}
    (h1 : Ev d 0 0 25 0 [some (zr (some (0, 0, 4))), some (zi (nI (a + 2))), some (zi (nI (D + 1))), none, none] [] (OM X 0 0 ρ l) (fun r M' => Ev (d + 1) c s 27 39 [some (zr (some (0, 0, 4))), some (zi (nI a)), some (zi (nI g)), some (zi (nI D)), some (zi (nI m)), none] (zpush r []) M' Q)) : Ev (d + 1) c s 27 29 [some (zr (some (0, 0, 4))), some (zi (nI a)), some (zi (nI g)), some (zi (nI D)), some (zi (nI m)), none] [] (OM X 0 0 ρ l) Q := by
  refine Ew.ld f27_29 rfl rfl rfl rfl ?_
  refine Ew.ld f27_30 rfl rfl rfl rfl ?_
  refine Ew.op (st' := zi (nI 2) :: _) f27_31 rfl rfl ?_
  refine Ew.addn f27_32 rfl ?_
  refine Ew.ld f27_33 rfl rfl rfl rfl ?_
  refine Ew.op (st' := zi (nI 1) :: _) f27_34 rfl rfl ?_
  refine Ew.addn f27_35 rfl ?_
  refine Ew.call0 (ls0 := [some (zr (some (0, 0, 4))), some (zi (nI (a + 2))), some (zi (nI (D + 1))), none, none]) f27_36 rfl (Nat.le_of_ble_eq_true rfl) rfl rfl (Nat.le_of_ble_eq_true rfl) rfl (Nat.le_of_ble_eq_true rfl) rfl rfl ?_
  exact h1
theorem g27_39 {d c s : Nat} {a g D m e : Nat} {X : zM} {ρ : Nat → Nat → Int32} {l : Nat → Nat → Int64} {Q : Option zV → zM → Prop}
    (h1 : (¬ (nI e) = ((-1))) → Ev d 0 0 33 0 [some (zr (some (0, 0, 4))), some (zi (nI g))] [] (OM X 0 0 ρ l) (fun r M' => Ev (d + 1) c s 27 65 [some (zr (some (0, 0, 4))), some (zi (nI a)), some (zi (nI g)), some (zi (nI D)), some (zi (nI m)), some (zi (nI e))] (zpush r []) M' Q))
    (h2 : ((nI e) = ((-1))) → Ev d 0 0 34 0 [some (zr (some (0, 0, 4))), some (zi (nI m)), none, none] [] (OM X 0 0 ρ l) (fun r M' => Ev (d + 1) c s 27 53 [some (zr (some (0, 0, 4))), some (zi (nI a)), some (zi (nI g)), some (zi (nI D)), some (zi (nI m)), some (zi (nI e))] (zpush r []) M' Q)) : Ev (d + 1) c s 27 39 [some (zr (some (0, 0, 4))), some (zi (nI a)), some (zi (nI g)), some (zi (nI D)), some (zi (nI m)), none] [zi (nI e)] (OM X 0 0 ρ l) Q := by
  refine Ew.sr (ls' := [some (zr (some (0, 0, 4))), some (zi (nI a)), some (zi (nI g)), some (zi (nI D)), some (zi (nI m)), some (zi (nI e))]) f27_39 rfl rfl (Nat.le_of_ble_eq_true rfl) rfl rfl ?_
  refine Ew.ld f27_41 rfl rfl rfl rfl ?_
  refine Ew.op (st' := zi ((-1)) :: _) f27_43 rfl rfl ?_
  refine Ew.icmp f27_44 rfl rfl (fun c1 => ?_) (fun c1 => ?_)
  · refine Ew.ld f27_60 rfl rfl rfl rfl ?_
    refine Ew.ld f27_61 rfl rfl rfl rfl ?_
    refine Ew.call0 (ls0 := [some (zr (some (0, 0, 4))), some (zi (nI g))]) f27_62 rfl (Nat.le_of_ble_eq_true rfl) rfl rfl (Nat.le_of_ble_eq_true rfl) rfl (Nat.le_of_ble_eq_true rfl) rfl rfl ?_
    exact h1 c1
  · refine Ew.ld f27_47 rfl rfl rfl rfl ?_
    refine Ew.ld f27_48 rfl rfl rfl rfl ?_
    refine Ew.call0 (ls0 := [some (zr (some (0, 0, 4))), some (zi (nI m)), none, none]) f27_50 rfl (Nat.le_of_ble_eq_true rfl) rfl rfl (Nat.le_of_ble_eq_true rfl) rfl (Nat.le_of_ble_eq_true rfl) rfl rfl ?_
    exact h2 (Classical.not_not.mp c1)
theorem g27_39m {d c s : Nat} {a g D m : Nat} {X : zM} {ρ : Nat → Nat → Int32} {l : Nat → Nat → Int64} {Q : Option zV → zM → Prop}
    (h1 : Ev d 0 0 34 0 [some (zr (some (0, 0, 4))), some (zi (nI m)), none, none] [] (OM X 0 0 ρ l) (fun r M' => Ev (d + 1) c s 27 53 [some (zr (some (0, 0, 4))), some (zi (nI a)), some (zi (nI g)), some (zi (nI D)), some (zi (nI m)), some (zi ((-1)))] (zpush r []) M' Q)) : Ev (d + 1) c s 27 39 [some (zr (some (0, 0, 4))), some (zi (nI a)), some (zi (nI g)), some (zi (nI D)), some (zi (nI m)), none] [zi ((-1))] (OM X 0 0 ρ l) Q := by
  refine Ew.sr (ls' := [some (zr (some (0, 0, 4))), some (zi (nI a)), some (zi (nI g)), some (zi (nI D)), some (zi (nI m)), some (zi ((-1)))]) f27_39 rfl rfl (Nat.le_of_ble_eq_true rfl) rfl rfl ?_
  refine Ew.ld f27_41 rfl rfl rfl rfl ?_
  refine Ew.op (st' := zi ((-1)) :: _) f27_43 rfl rfl ?_
  refine Ew.icmp f27_44 rfl rfl (fun h => absurd h (show ¬ (¬ (((-1)) : Int32) = ((-1))) by decide)) (fun _ => ?_)
  refine Ew.ld f27_47 rfl rfl rfl rfl ?_
  refine Ew.ld f27_48 rfl rfl rfl rfl ?_
  refine Ew.call0 (ls0 := [some (zr (some (0, 0, 4))), some (zi (nI m)), none, none]) f27_50 rfl (Nat.le_of_ble_eq_true rfl) rfl rfl (Nat.le_of_ble_eq_true rfl) rfl (Nat.le_of_ble_eq_true rfl) rfl rfl ?_
  exact h1
theorem g27_53 {d c s : Nat} {a g D m : Nat} {X : zM} {ρ : Nat → Nat → Int32} {l : Nat → Nat → Int64} {Q : Option zV → zM → Prop}
    (h1 : Ev d 0 0 33 0 [some (zr (some (0, 0, 4))), some (zi (nI g))] [] (OM X 0 0 ρ l) (fun r M' => Ev (d + 1) c s 27 58 [some (zr (some (0, 0, 4))), some (zi (nI a)), some (zi (nI g)), some (zi (nI D)), some (zi (nI m)), some (zi ((-1)))] (zpush r []) M' Q)) : Ev (d + 1) c s 27 53 [some (zr (some (0, 0, 4))), some (zi (nI a)), some (zi (nI g)), some (zi (nI D)), some (zi (nI m)), some (zi ((-1)))] [] (OM X 0 0 ρ l) Q := by
  refine Ew.ld f27_53 rfl rfl rfl rfl ?_
  refine Ew.ld f27_54 rfl rfl rfl rfl ?_
  refine Ew.call0 (ls0 := [some (zr (some (0, 0, 4))), some (zi (nI g))]) f27_55 rfl (Nat.le_of_ble_eq_true rfl) rfl rfl (Nat.le_of_ble_eq_true rfl) rfl (Nat.le_of_ble_eq_true rfl) rfl rfl ?_
  exact h1
theorem g27_58 {d c s : Nat} {a g D m : Nat} {X : zM} {ρ : Nat → Nat → Int32} {l : Nat → Nat → Int64} {Q : Option zV → zM → Prop}
    (h1 : Q (some (zi ((-1)))) (OM X 0 0 ρ l)) : Ev d c s 27 58 [some (zr (some (0, 0, 4))), some (zi (nI a)), some (zi (nI g)), some (zi (nI D)), some (zi (nI m)), some (zi ((-1)))] [] (OM X 0 0 ρ l) Q := by
  refine Ew.op (st' := zi ((-1)) :: _) f27_58 rfl rfl ?_
  refine Ew.ireti f27_59 ?_
  exact h1
theorem g27_65 {d c s : Nat} {a g D m e : Nat} {X : zM} {ρ : Nat → Nat → Int32} {l : Nat → Nat → Int64} {Q : Option zV → zM → Prop}
    (h1 : ((ρ 4 7) = 0) → Q (some (zi (nI (e + 1)))) (OM X 0 0 (zu ρ 4 13 (nI m)) l))
    (h2 : (¬ (ρ 4 7) = 0) → Q (some (zi ((-1)))) (OM X 0 0 (zu ρ 4 13 (nI m)) l)) : Ev d c s 27 65 [some (zr (some (0, 0, 4))), some (zi (nI a)), some (zi (nI g)), some (zi (nI D)), some (zi (nI m)), some (zi (nI e))] [] (OM X 0 0 ρ l) Q := by
  refine Ew.ld f27_65 rfl rfl rfl rfl ?_
  refine Ew.ld f27_66 rfl rfl rfl rfl ?_
  refine Ew.putiO f27_68 rfl rfl ?_
  refine Ew.ld f27_71 rfl rfl rfl rfl ?_
  refine Ew.getbV (v := ρ 4 7) f27_72 rfl (so_v rfl) rfl ?_
  refine Ew.ifc f27_75 rfl rfl (fun c1 => ?_) (fun c1 => ?_)
  · refine Ew.ld f27_82 rfl rfl rfl rfl ?_
    refine Ew.op (st' := zi (nI 1) :: _) f27_84 rfl rfl ?_
    refine Ew.addn f27_85 rfl ?_
    refine Ew.ireti f27_86 ?_
    exact h1 c1
  · refine Ew.op (st' := zi ((-1)) :: _) f27_78 rfl rfl ?_
    refine Ew.goto f27_79 rfl ?_
    refine Ew.ireti f27_86 ?_
    exact h2 c1
/-- counts keep to a depth -/
def cDp (D : Nat) (z : pS) : Prop := (∀ g, g < 6 → z.2.1 g ≤ D) ∧ z.2.1 6 ≤ D ∧ z.2.1 7 ≤ 100
theorem nI_nem1 {n : Nat} (h : n < 2 ^ 31) : ¬ nI n = -1 := by
  intro e
  have := nI_pos h
  rw [e] at this
  exact this (by decide)
theorem sp_cStay {d c s n bb a g D G : Nat} {A : List Nat} {z : pS} {R : Nat → pS → pO} {X : zM} {ρ : Nat → Nat → Int32} {l : Nat → Nat → Int64} {Q : Option zV → zM → Prop} (hc : cSc X.1 X.2.2.1 X.2.2.2.1 bb n A) (ps : X.2.2.1 0 0 4 0 = some (3, n, 0)) (hl : cPl ρ z) (hok : pOk z) (hg : g < 6) (hD : D ≤ 6) (hz : cDp D z) (hG : ρ 4 1 = nI G) (hG6 : G < 64) (hK : ∀ a s, pOk s → pKeep s (R a s)) (hR : ∀ ρ1 (Q' : Option zV → zM → Prop), cPl ρ1 (pEnter z g) → cPf ρ ρ1 → (∀ ρ' x, cOu ρ1 (R (a + 2) (pEnter z g)) ρ' x → (∀ e, (R (a + 2) (pEnter z g)).2 = Sum.inl e → e < 4000) → Q' (some (zi x)) (OM X 0 0 ρ' l)) → Ev (d + 1) 0 0 25 0 [some (zr (some (0, 0, 4))), some (zi (nI (a + 2))), some (zi (nI (D + 1))), none, none] [] (OM X 0 0 ρ1 l) Q') (k : ∀ ρ' x, cOu ρ (pStay R G a g z) ρ' x → Q (some (zi x)) (OM X 0 0 ρ' l)) : Ev (d + 2) c s 27 0 [some (zr (some (0, 0, 4))), some (zi (nI a)), some (zi (nI g)), some (zi (nI D)), none, none] [] (OM X 0 0 ρ l) Q := by
  unfold pStay at k
  have hbit : cHas (ρ 4 1) (nI g) ↔ G.testBit g = true := by rw [hG]; exact cHas_bit hg hG6
  have u30 : z.2.2.length ≤ 30 := Nat.le_trans hok.2.2.1.1 hok.1
  have hcg := hz.1 g hg
  have hc6 := hz.2.1
  have hc7 := hz.2.2
  refine g27_0 hc ps (fun q => k _ _ ?_) (fun q => ?_)
  · rw [if_pos (hbit.mp q)]
    have w := cPl_why hl (nI 3) (nI g)
    refine ⟨w.1, w.2, rfl, fun _ => ⟨?_, zu_e⟩⟩
    rw [zu_i_ne (by omega), zu_e]
  · rw [if_neg (fun e => q (hbit.mpr e))] at k
    rw [hl.2.2.2.2.1.1]
    refine sp_cEnter hl hok hg ⟨by omega, by omega, by omega⟩ (fun ρ1 h1 f1 => ?_)
    refine g27_29 ?_
    refine hR ρ1 _ h1 f1 (fun ρ2 x ho he => ?_)
    have hkp := hK (a + 2) (pEnter z g) (hok.enter hg)
    generalize R (a + 2) (pEnter z g) = r at k ho he hkp
    obtain ⟨s2, o⟩ := r
    obtain ⟨ok2, le2, pc2, ⟨u, hu⟩, _⟩ := hkp
    have ok2 : pOk s2 := ok2
    have hu2 : s2.2.2 = u ++ z.2.2 := by rw [show s2.2.2 = u ++ (pEnter z g).2.2 from hu, pEnter_un]
    have cg : s2.2.1 g = z.2.1 g + 1 := by
      rw [show s2.2.1 g = (pEnter z g).2.1 g from pc2 g (by omega), pEnter_c z g (by omega), pEc_g _ hg hg, if_pos rfl]
    have c6 : s2.2.1 6 = z.2.1 6 + 1 := by
      rw [show s2.2.1 6 = (pEnter z g).2.1 6 from pc2 6 (by omega), pEnter_c z g (by omega), pEc_6]
    cases o with
    | inl e =>
      obtain ⟨h2, f2, ex⟩ := ho
      have h2 : cPl ρ2 s2 := h2
      have ex : x = nI e := ex
      subst ex
      have he : e < 4000 := he e rfl
      refine g27_39 (fun _ => ?_) (fun p => absurd p (nI_nem1 (by omega)))
      refine sp_cLeave h2 ok2 hg ⟨by omega, by omega, by omega⟩ (fun ρ3 h3 f3 => ?_)
      have h3' : cPl ρ3 ((pLeave s2 g).1, (pLeave s2 g).2.1, u ++ z.2.2) := by
        rw [← hu2, ← pLeave_un s2 g]
        exact h3
      have hun := cPl_un h3'
      have e7 := h3.1.2.2
      have ed : (pLeave s2 g).2.2.drop ((pLeave s2 g).2.2.length - z.2.2.length) = z.2.2 := by
        rw [pLeave_un, hu2]
        exact drop_mark
      have fr : cPg ρ (zu ρ3 4 13 (nI z.2.2.length)) := (f1.g.trans f2).trans (f3.g.trans ⟨fun q i hq => zu_i_ne (by omega), zu_i_ne (by omega)⟩)
      refine g27_65 (fun p => k _ _ ?_) (fun p => k _ _ ?_)
      · have y0 : (pLeave s2 g).2.1 10 = 0 := by
          by_cases e0 : (pLeave s2 g).2.1 10 = 0
          · exact e0
          · rw [e7, if_neg e0] at p; exact absurd p (by decide)
        show cOu ρ (((pLeave s2 g).1, (pLeave s2 g).2.1, (pLeave s2 g).2.2.drop ((pLeave s2 g).2.2.length - z.2.2.length)), if (pLeave s2 g).2.1 10 = 0 then Sum.inl (e + 1) else Sum.inr (0, 0)) _ _
        rw [ed, if_pos y0]
        exact ⟨hun, fr, rfl⟩
      · have n0 : ¬ (pLeave s2 g).2.1 10 = 0 := fun e0 => p (by rw [e7, if_pos e0]; rfl)
        show cOu ρ (((pLeave s2 g).1, (pLeave s2 g).2.1, (pLeave s2 g).2.2.drop ((pLeave s2 g).2.2.length - z.2.2.length)), if (pLeave s2 g).2.1 10 = 0 then Sum.inl (e + 1) else Sum.inr (0, 0)) _ _
        rw [ed, if_neg n0]
        exact ⟨hun, fr, rfl, fun e0 => absurd e0 n0⟩
    | inr b =>
      obtain ⟨h2, f2, ex, hw⟩ := ho
      have h2 : cPl ρ2 s2 := h2
      have ex : x = -1 := ex
      have hw : s2.2.1 10 = 0 → ρ2 4 14 = nI b.1 ∧ ρ2 4 15 = b.2 := hw
      subst ex
      refine g27_39m ?_
      have hlen : z.2.2.length ≤ s2.2.2.length := by rw [hu2, List.length_append]; omega
      obtain ⟨ok3, le3, pc3, _, _⟩ := pTakeL_ok s2.2.2 z.2.2.length s2 ok2 rfl
      have ok3 : pOk (pTake z.2.2.length s2) := ok3
      have cg3 : (pTake z.2.2.length s2).2.1 g = z.2.1 g + 1 := by rw [show (pTake z.2.2.length s2).2.1 g = s2.2.1 g from pc3 g (by omega), cg]
      have c63 : (pTake z.2.2.length s2).2.1 6 = z.2.1 6 + 1 := by rw [show (pTake z.2.2.length s2).2.1 6 = s2.2.1 6 from pc3 6 (by omega), c6]
      refine sp_cTake h2 ok2 hlen (fun ρ3 h3 f3 => ?_)
      refine g27_53 ?_
      refine sp_cLeave h3 ok3 hg ⟨by omega, by omega, by omega⟩ (fun ρ4 h4 f4 => ?_)
      refine g27_58 (k _ _ ?_)
      refine ⟨h4, (f1.g.trans f2).trans (f3.g.trans f4.g), rfl, fun e0 => ?_⟩
      have e0 : (pLeave (pTake z.2.2.length s2) g).2.1 10 = 0 := e0
      have y3 : (pTake z.2.2.length s2).2.1 10 = 0 := Classical.byContradiction fun p => (pLeave_le (pTake z.2.2.length s2) hg).2.2 p e0
      have y2 : s2.2.1 10 = 0 := Classical.byContradiction fun p => le3.2.2 p y3
      obtain ⟨w1, w2⟩ := hw y2
      exact ⟨(f4.2.2.1.trans f3.2.2.1).trans w1, (f4.2.2.2.trans f3.2.2.2).trans w2⟩
