/-! the class: the player enters, leaves, takes back, breaks -/
theorem g34_0 {d c s : Nat} {m : Nat} {X : zM} {ρ : Nat → Nat → Int32} {l : Nat → Nat → Int64} {Q : Option zV → zM → Prop}
    (h1 : Ev d c s 34 7 [some (zr (some (0, 0, 4))), some (zi (nI m)), some (zi ((ρ 4 13) - (nI 1))), none] [] (OM X 0 0 ρ l) Q) : Ev d c s 34 0 [some (zr (some (0, 0, 4))), some (zi (nI m)), none, none] [] (OM X 0 0 ρ l) Q := by
  refine Ew.ld f34_0 rfl rfl rfl rfl ?_
  refine Ew.getiO f34_1 rfl rfl ?_
  refine Ew.op (st' := zi (nI 1) :: _) f34_4 rfl rfl ?_
  refine Ew.op (st' := zi ((ρ 4 13) - (nI 1)) :: _) f34_5 rfl rfl ?_
  refine Ew.sr (ls' := [some (zr (some (0, 0, 4))), some (zi (nI m)), some (zi ((ρ 4 13) - (nI 1))), none]) f34_6 rfl rfl (Nat.le_of_ble_eq_true rfl) rfl rfl ?_
  exact h1
theorem g34_7 {d c s : Nat} {m k p G : Nat} {o3 : Option zV} {X : zM} {ρ : Nat → Nat → Int32} {l : Nat → Nat → Int64} {Q : Option zV → zM → Prop} (hp : m ≤ k → ρ 10 k = nI p) (hG : m ≤ k → ρ 6 p = nI G) (nb_k : k < 5000) (nb_m : m < 5000)
    (h1 : (k < m) → Q none (OM X 0 0 (zu ρ 4 13 (nI m)) l))
    (b1 : (m ≤ k) → k < 30)
    (b2 : (m ≤ k) → p < 30)
    (b3 : (m ≤ k) → p < 30)
    (h2 : (m ≤ k) → Ev d 0 0 35 0 [some (zr (some (0, 0, 4))), some (zi (nI 2)), some (zi (nI G)), some (zi (-(ρ 7 p)))] [] (OM X 0 0 ρ l) (fun r M' => Ev (d + 1) c s 34 37 [some (zr (some (0, 0, 4))), some (zi (nI m)), some (zi (nI k)), some (zi (nI p))] (zpush r []) M' Q)) : Ev (d + 1) c s 34 7 [some (zr (some (0, 0, 4))), some (zi (nI m)), some (zi (nI k)), o3] [] (OM X 0 0 ρ l) Q := by
  refine Ew.ld f34_7 rfl rfl rfl rfl ?_
  refine Ew.ld f34_8 rfl rfl rfl rfl ?_
  refine Ew.icmp f34_9 rfl rfl (fun c1 => ?_) (fun c1 => ?_)
  · refine Ew.ld f34_43 rfl rfl rfl rfl ?_
    refine Ew.ld f34_44 rfl rfl rfl rfl ?_
    refine Ew.putiO f34_45 rfl rfl ?_
    refine Ew.vret f34_48 ?_
    exact h1 ((zlt_iff nb_k nb_m).mp c1)
  · refine Ew.ld f34_12 rfl rfl rfl rfl ?_
    refine Ew.getp (v := some (0, 0, 10)) f34_13 rfl rfl rfl ?_
    refine Ew.ld f34_16 rfl rfl rfl rfl ?_
    refine Ew.ialdnV (v := nI p) f34_17 rfl (b1 (Nat.not_lt.mp fun e => c1 ((zlt_iff nb_k nb_m).mpr e))) (Nat.le_of_ble_eq_true rfl) rfl (so_v (hp (Nat.not_lt.mp fun e => c1 ((zlt_iff nb_k nb_m).mpr e)))) ?_
    refine Ew.sr (ls' := [some (zr (some (0, 0, 4))), some (zi (nI m)), some (zi (nI k)), some (zi (nI p))]) f34_18 rfl rfl (Nat.le_of_ble_eq_true rfl) rfl rfl ?_
    refine Ew.ld f34_19 rfl rfl rfl rfl ?_
    refine Ew.op (st' := zi (nI 2) :: _) f34_20 rfl rfl ?_
    refine Ew.ld f34_21 rfl rfl rfl rfl ?_
    refine Ew.getp (v := some (0, 0, 6)) f34_22 rfl rfl rfl ?_
    refine Ew.ld f34_25 rfl rfl rfl rfl ?_
    refine Ew.ialdnV (v := nI G) f34_26 rfl (b2 (Nat.not_lt.mp fun e => c1 ((zlt_iff nb_k nb_m).mpr e))) (Nat.le_of_ble_eq_true rfl) rfl (so_v (hG (Nat.not_lt.mp fun e => c1 ((zlt_iff nb_k nb_m).mpr e)))) ?_
    refine Ew.ld f34_27 rfl rfl rfl rfl ?_
    refine Ew.getp (v := some (0, 0, 7)) f34_28 rfl rfl rfl ?_
    refine Ew.ld f34_31 rfl rfl rfl rfl ?_
    refine Ew.ialdnO f34_32 rfl (b3 (Nat.not_lt.mp fun e => c1 ((zlt_iff nb_k nb_m).mpr e))) (Nat.le_of_ble_eq_true rfl) rfl ?_
    refine Ew.op (st' := zi (-(ρ 7 p)) :: _) f34_33 rfl rfl ?_
    refine Ew.call0 (ls0 := [some (zr (some (0, 0, 4))), some (zi (nI 2)), some (zi (nI G)), some (zi (-(ρ 7 p)))]) f34_34 rfl (Nat.le_of_ble_eq_true rfl) rfl rfl (Nat.le_of_ble_eq_true rfl) rfl (Nat.le_of_ble_eq_true rfl) rfl rfl ?_
    exact h2 (Nat.not_lt.mp fun e => c1 ((zlt_iff nb_k nb_m).mpr e))
theorem g34_7m {d c s : Nat} {m : Nat} {x : Int32} {o3 : Option zV} {X : zM} {ρ : Nat → Nat → Int32} {l : Nat → Nat → Int64} {Q : Option zV → zM → Prop}
    (h1 : (x < (nI m)) → Q none (OM X 0 0 (zu ρ 4 13 (nI m)) l))
    (b1 : ((nI m) ≤ x) → vp_in x 30)
    (b2 : ((nI m) ≤ x) → vp_in (ρ 10 x.toNatClampNeg) 30)
    (b3 : ((nI m) ≤ x) → vp_in (ρ 10 x.toNatClampNeg) 30)
    (h2 : ((nI m) ≤ x) → Ev d 0 0 35 0 [some (zr (some (0, 0, 4))), some (zi (nI 2)), some (zi (ρ 6 ((ρ 10 x.toNatClampNeg).toNatClampNeg))), some (zi (-(ρ 7 ((ρ 10 x.toNatClampNeg).toNatClampNeg))))] [] (OM X 0 0 ρ l) (fun r M' => Ev (d + 1) c s 34 37 [some (zr (some (0, 0, 4))), some (zi (nI m)), some (zi x), some (zi (ρ 10 x.toNatClampNeg))] (zpush r []) M' Q)) : Ev (d + 1) c s 34 7 [some (zr (some (0, 0, 4))), some (zi (nI m)), some (zi x), o3] [] (OM X 0 0 ρ l) Q := by
  refine Ew.ld f34_7 rfl rfl rfl rfl ?_
  refine Ew.ld f34_8 rfl rfl rfl rfl ?_
  refine Ew.icmp f34_9 rfl rfl (fun c1 => ?_) (fun c1 => ?_)
  · refine Ew.ld f34_43 rfl rfl rfl rfl ?_
    refine Ew.ld f34_44 rfl rfl rfl rfl ?_
    refine Ew.putiO f34_45 rfl rfl ?_
    refine Ew.vret f34_48 ?_
    exact h1 c1
  · refine Ew.ld f34_12 rfl rfl rfl rfl ?_
    refine Ew.getp (v := some (0, 0, 10)) f34_13 rfl rfl rfl ?_
    refine Ew.ld f34_16 rfl rfl rfl rfl ?_
    refine Ew.ialdxO f34_17 rfl (b1 (Int32.not_lt.mp c1)) rfl ?_
    refine Ew.sr (ls' := [some (zr (some (0, 0, 4))), some (zi (nI m)), some (zi x), some (zi (ρ 10 x.toNatClampNeg))]) f34_18 rfl rfl (Nat.le_of_ble_eq_true rfl) rfl rfl ?_
    refine Ew.ld f34_19 rfl rfl rfl rfl ?_
    refine Ew.op (st' := zi (nI 2) :: _) f34_20 rfl rfl ?_
    refine Ew.ld f34_21 rfl rfl rfl rfl ?_
    refine Ew.getp (v := some (0, 0, 6)) f34_22 rfl rfl rfl ?_
    refine Ew.ld f34_25 rfl rfl rfl rfl ?_
    refine Ew.ialdxO f34_26 rfl (b2 (Int32.not_lt.mp c1)) rfl ?_
    refine Ew.ld f34_27 rfl rfl rfl rfl ?_
    refine Ew.getp (v := some (0, 0, 7)) f34_28 rfl rfl rfl ?_
    refine Ew.ld f34_31 rfl rfl rfl rfl ?_
    refine Ew.ialdxO f34_32 rfl (b3 (Int32.not_lt.mp c1)) rfl ?_
    refine Ew.op (st' := zi (-(ρ 7 ((ρ 10 x.toNatClampNeg).toNatClampNeg))) :: _) f34_33 rfl rfl ?_
    refine Ew.call0 (ls0 := [some (zr (some (0, 0, 4))), some (zi (nI 2)), some (zi (ρ 6 ((ρ 10 x.toNatClampNeg).toNatClampNeg))), some (zi (-(ρ 7 ((ρ 10 x.toNatClampNeg).toNatClampNeg))))]) f34_34 rfl (Nat.le_of_ble_eq_true rfl) rfl rfl (Nat.le_of_ble_eq_true rfl) rfl (Nat.le_of_ble_eq_true rfl) rfl rfl ?_
    exact h2 (Int32.not_lt.mp c1)
theorem g34_37 {d c s : Nat} {m k p : Nat} {X : zM} {ρ : Nat → Nat → Int32} {l : Nat → Nat → Int64} {Q : Option zV → zM → Prop}
    (h1 : Ev d c s 34 7 [some (zr (some (0, 0, 4))), some (zi (nI m)), some (zi ((nI k) + (-1))), some (zi (nI p))] [] (OM X 0 0 ρ l) Q) : Ev d c s 34 37 [some (zr (some (0, 0, 4))), some (zi (nI m)), some (zi (nI k)), some (zi (nI p))] [] (OM X 0 0 ρ l) Q := by
  refine Ew.iinc (v := (nI k) + (-1)) (ls' := [some (zr (some (0, 0, 4))), some (zi (nI m)), some (zi ((nI k) + (-1))), some (zi (nI p))]) f34_37 rfl rfl rfl rfl ?_
  refine Ew.goto f34_40 rfl ?_
  exact h1
theorem zmax {f b : Nat} (hf : f < 5000) (hb : b < 5000) : (if nI f < nI b then nI b else nI f) = nI (max f b) := by
  by_cases h : f < b
  · rw [if_pos ((nI_ltI (by omega) (by omega)).mpr h), Nat.max_eq_right (by omega)]
  · rw [if_neg (fun q => h ((nI_ltI (by omega) (by omega)).mp q)), Nat.max_eq_left (by omega)]
theorem pEc_7 (c : Nat → Nat) (g : Nat) : pEc c g 7 = max (c 7) (c 6 + 1) := by
  unfold pEc
  rw [zup_s]
theorem pEc_8 (c : Nat → Nat) {g : Nat} (hg : g < 6) : pEc c g 8 = c 8 + if 0 < c g then 1 else 0 := by
  unfold pEc
  rw [zup_n _ _ (by omega), zup_n _ _ (by omega), zup_n _ _ (by omega), zup_s]
section
variable {d c s g : Nat} {z : pS} {X : zM} {ρ : Nat → Nat → Int32} {l : Nat → Nat → Int64} {Q : Option zV → zM → Prop}
theorem sp_cEnter (hl : cPl ρ z) (hok : pOk z) (hg : g < 6) (hb : z.2.1 g < 4000 ∧ z.2.1 6 < 4000 ∧ z.2.1 7 < 4000) (k : ∀ ρ', cPl ρ' (pEnter z g) → cPf ρ ρ' → Q none (OM X 0 0 ρ' l)) : Ev (d + 1) c s 32 0 [some (zr (some (0, 0, 4))), some (zi (nI g))] [] (OM X 0 0 ρ l) Q := by
  obtain ⟨_, _, hs, ⟨h10, h11, h17, h16⟩, _, h9, _⟩ := id hl
  obtain ⟨b1, b2, b3⟩ := hb
  have ein : cIn (pEc z.2.1 g) = cIn z.2.1 ||| (nI 1 <<< (nI g &&& 31)) := cIn_on hg (fun i hi q => by rw [pEc_g _ hg hi, if_neg q]) (by rw [pEc_g _ hg hg, if_pos rfl]; omega)
  have go : ∀ ρ2, cPl ρ2 (z.1, pEc z.2.1 g, z.2.2) → cPf ρ ρ2 → Ev d 0 0 35 0 [some (zr (some (0, 0, 4))), some (zi (nI 0)), some (zi (nI g)), some (zi (nI 0))] [] (OM X 0 0 ρ2 l) (fun r M' => Ev (d + 1) c s 32 74 [some (zr (some (0, 0, 4))), some (zi (nI g))] (zpush r []) M' Q) := by
    intro ρ2 h2 f2
    exact sp_cPut (b := nI 0) h2 (hok.enter hg) (fun ρ' a b => g32_74 (k ρ' a (f2.trans b)))
  refine g32_0 (hs g hg) h10 h11 (by omega) hg (fun _ => hg) (fun _ => hg) (fun q => go _ ?_ ?_) (fun _ => hg) (fun _ => hg) (fun q => go _ ?_ ?_)
  · refine cPl_c hl (fun q' i hq => ?_) (fun i hi => ?_) ⟨?_, ?_, ?_, ?_⟩ ?_ ?_
    · rw [zu_i_ne (by omega), zu_i_ne (by omega), zu_i_ne (by omega), zu_i_ne (by omega)]
    · rw [zu_i_ne (by omega), zu_i_ne (by omega), zu_i_ne (by omega), pEc_g _ hg hi, zu_i]
      by_cases e : i = g
      · subst e; rw [if_pos rfl, if_pos rfl]
      · rw [if_neg e, if_neg e]; exact hs i hi
    · rw [zu_i_ne (by omega), zu_e, pEc_6]
    · rw [zu_e, zmax (by omega) (by omega), pEc_7]
    · rw [zu_i_ne (by omega), zu_i_ne (by omega), zu_i_ne (by omega), zu_i_ne (by omega), pEc_8 _ hg, if_neg (by omega)]; exact h17
    · rw [zu_i_ne (by omega), zu_i_ne (by omega), zu_i_ne (by omega), zu_i_ne (by omega), pEc_9 _ hg (by omega)]; exact h16
    · rw [zu_i_ne (by omega), zu_i_ne (by omega), zu_e, ein, h9]
    · rw [pEc_9 _ hg (by omega)]
  · refine ⟨fun q' i hq => ?_, ?_, ?_, ?_⟩ <;> rw [zu_i_ne (by omega), zu_i_ne (by omega), zu_i_ne (by omega), zu_i_ne (by omega)]
  · refine cPl_c hl (fun q' i hq => ?_) (fun i hi => ?_) ⟨?_, ?_, ?_, ?_⟩ ?_ ?_
    · rw [zu_i_ne (by omega), zu_i_ne (by omega), zu_i_ne (by omega), zu_i_ne (by omega), zu_i_ne (by omega)]
    · rw [zu_i_ne (by omega), zu_i_ne (by omega), zu_i_ne (by omega), pEc_g _ hg hi, zu_i]
      by_cases e : i = g
      · subst e; rw [if_pos rfl, if_pos rfl]
      · rw [if_neg e, if_neg e, zu_i_ne (by omega)]; exact hs i hi
    · rw [zu_i_ne (by omega), zu_e, pEc_6]
    · rw [zu_e, zmax (by omega) (by omega), pEc_7]
    · rw [zu_i_ne (by omega), zu_i_ne (by omega), zu_i_ne (by omega), zu_i_ne (by omega), zu_e, pEc_8 _ hg, if_pos q, h17, nI_add]
    · rw [zu_i_ne (by omega), zu_i_ne (by omega), zu_i_ne (by omega), zu_i_ne (by omega), zu_i_ne (by omega), pEc_9 _ hg (by omega)]; exact h16
    · rw [zu_i_ne (by omega), zu_i_ne (by omega), zu_e, ein, h9]
    · rw [pEc_9 _ hg (by omega)]
  · refine ⟨fun q' i hq => ?_, ?_, ?_, ?_⟩ <;> rw [zu_i_ne (by omega), zu_i_ne (by omega), zu_i_ne (by omega), zu_i_ne (by omega), zu_i_ne (by omega)]
theorem sp_cLeave (hl : cPl ρ z) (hok : pOk z) (hg : g < 6) (hb : 0 < z.2.1 g ∧ z.2.1 g < 4000 ∧ 0 < z.2.1 6) (k : ∀ ρ', cPl ρ' (pLeave z g) → cPf ρ ρ' → Q none (OM X 0 0 ρ' l)) : Ev (d + 1) c s 33 0 [some (zr (some (0, 0, 4))), some (zi (nI g))] [] (OM X 0 0 ρ l) Q := by
  obtain ⟨_, _, hs, ⟨h10, h11, h17, h16⟩, _, h9, _⟩ := id hl
  obtain ⟨b1, b2, b3⟩ := hb
  have e9 : ρ 9 g - nI 1 = nI (z.2.1 g - 1) := by rw [hs g hg]; exact pk_sub (by omega)
  have e10 : ρ 4 10 - nI 1 = nI (z.2.1 6 - 1) := by rw [h10]; exact pk_sub (by omega)
  have z0 : ρ 9 g - nI 1 = 0 ↔ z.2.1 g - 1 = 0 := by
    rw [e9]
    exact zeq (a := z.2.1 g - 1) (b := 0) (by omega) (by omega)
  have go : ∀ ρ2, cPl ρ2 (z.1, pLc z.2.1 g, z.2.2) → cPf ρ ρ2 → Ev d 0 0 35 0 [some (zr (some (0, 0, 4))), some (zi (nI 1)), some (zi (nI g)), some (zi (nI 0))] [] (OM X 0 0 ρ2 l) (fun r M' => Ev (d + 1) c s 33 51 [some (zr (some (0, 0, 4))), some (zi (nI g))] (zpush r []) M' Q) := by
    intro ρ2 h2 f2
    exact sp_cPut (b := nI 0) h2 (hok.leave hg b1) (fun ρ' a b => g33_51 (k ρ' a (f2.trans b)))
  have hgs : ∀ i, i < 6 → ∀ ρ1, (zu ρ 9 g (ρ 9 g - nI 1)) 9 i = ρ1 → ρ1 = nI (pLc z.2.1 g i) := by
    intro i hi ρ1 e1
    rw [← e1, pLc_g _ hg hi, zu_i]
    by_cases e : i = g
    · subst e; rw [if_pos rfl, if_pos rfl]; exact e9
    · rw [if_neg e, if_neg e]; exact hs i hi
  refine g33_0 hg hg hg (fun q => go _ ?_ ?_) (fun q => go _ ?_ ?_)
  · refine cPl_c hl (fun q' i hq => ?_) (fun i hi => ?_) ⟨?_, ?_, ?_, ?_⟩ ?_ ?_
    · rw [zu_i_ne (by omega), zu_i_ne (by omega)]
    · rw [zu_i_ne (by omega)]; exact hgs i hi _ rfl
    · rw [zu_e, pLc_6, e10]
    · rw [zu_i_ne (by omega), zu_i_ne (by omega), pLc_9 _ hg (by omega)]; exact h11
    · rw [zu_i_ne (by omega), zu_i_ne (by omega), pLc_9 _ hg (by omega)]; exact h17
    · rw [zu_i_ne (by omega), zu_i_ne (by omega), pLc_9 _ hg (by omega)]; exact h16
    · rw [zu_i_ne (by omega), zu_i_ne (by omega), h9]
      refine (cIn_iff fun i hi => ?_).symm
      rw [pLc_g _ hg hi]
      by_cases e : i = g
      · subst e
        rw [if_pos rfl]
        have : ¬ z.2.1 i - 1 = 0 := fun p => q (z0.mpr p)
        omega
      · rw [if_neg e]
    · rw [pLc_9 _ hg (by omega)]
  · refine ⟨fun q' i hq => ?_, ?_, ?_, ?_⟩ <;> rw [zu_i_ne (by omega), zu_i_ne (by omega)]
  · refine cPl_c hl (fun q' i hq => ?_) (fun i hi => ?_) ⟨?_, ?_, ?_, ?_⟩ ?_ ?_
    · rw [zu_i_ne (by omega), zu_i_ne (by omega), zu_i_ne (by omega)]
    · rw [zu_i_ne (by omega), zu_i_ne (by omega)]; exact hgs i hi _ rfl
    · rw [zu_e, pLc_6, e10]
    · rw [zu_i_ne (by omega), zu_i_ne (by omega), zu_i_ne (by omega), pLc_9 _ hg (by omega)]; exact h11
    · rw [zu_i_ne (by omega), zu_i_ne (by omega), zu_i_ne (by omega), pLc_9 _ hg (by omega)]; exact h17
    · rw [zu_i_ne (by omega), zu_i_ne (by omega), zu_i_ne (by omega), pLc_9 _ hg (by omega)]; exact h16
    · rw [zu_i_ne (by omega), zu_e, h9]
      refine (cIn_off hg (fun i hi e => by rw [pLc_g _ hg hi, if_neg e]) ?_).symm
      rw [pLc_g _ hg hg, if_pos rfl]
      exact z0.mp q
    · rw [pLc_9 _ hg (by omega)]
  · refine ⟨fun q' i hq => ?_, ?_, ?_, ?_⟩ <;> rw [zu_i_ne (by omega), zu_i_ne (by omega), zu_i_ne (by omega)]
end
