/-! the class: the player plays a script -/
theorem g246_0 {d c s : Nat} {v : Int32} {X : zM} {ρ : Nat → Nat → Int32} {l : Nat → Nat → Int64} {Q : Option zV → zM → Prop}
    (h1 : Ev d c s 246 5 [some (zr (some (0, 0, 9))), some (zi v), some (zi (nI 0)), some (zi (nI 6))] [] (OM X 0 0 ρ l) Q) : Ev d c s 246 0 [some (zr (some (0, 0, 9))), some (zi v), none, none] [] (OM X 0 0 ρ l) Q := by
  refine Ew.op (st' := zi (nI 0) :: _) f246_0 rfl rfl ?_
  refine Ew.sr (ls' := [some (zr (some (0, 0, 9))), some (zi v), some (zi (nI 0)), none]) f246_1 rfl rfl (Nat.le_of_ble_eq_true rfl) rfl rfl ?_
  refine Ew.ld f246_2 rfl rfl rfl rfl ?_
  refine Ew.alen (n := 6) f246_3 (Nat.le_of_ble_eq_true rfl) rfl rfl ?_
  refine Ew.sr (ls' := [some (zr (some (0, 0, 9))), some (zi v), some (zi (nI 0)), some (zi (nI 6))]) f246_4 rfl rfl (Nat.le_of_ble_eq_true rfl) rfl rfl ?_
  exact h1
theorem g246_5 {d c s : Nat} {v : Int32} {k : Nat} {X : zM} {ρ : Nat → Nat → Int32} {l : Nat → Nat → Int64} {Q : Option zV → zM → Prop} (nb_k : k < 5000)
    (h1 : (6 ≤ k) → Q none (OM X 0 0 ρ l))
    (b1 : (k < 6) → k < 6)
    (h2 : (k < 6) → Ev d c s 246 5 [some (zr (some (0, 0, 9))), some (zi v), some (zi (nI (k + 1))), some (zi (nI 6))] [] (OM X 0 0 (zu ρ 9 k v) l) Q) : Ev d c s 246 5 [some (zr (some (0, 0, 9))), some (zi v), some (zi (nI k)), some (zi (nI 6))] [] (OM X 0 0 ρ l) Q := by
  refine Ew.ld f246_5 rfl rfl rfl rfl ?_
  refine Ew.ld f246_6 rfl rfl rfl rfl ?_
  refine Ew.icmp f246_7 rfl rfl (fun c1 => ?_) (fun c1 => ?_)
  · refine Ew.vret f246_20 ?_
    exact h1 ((zle_iff (by decide) nb_k).mp c1)
  · refine Ew.ld f246_10 rfl rfl rfl rfl ?_
    refine Ew.ld f246_11 rfl rfl rfl rfl ?_
    refine Ew.ld f246_12 rfl rfl rfl rfl ?_
    refine Ew.iastnO f246_13 (by decide) rfl (b1 (Nat.not_le.mp fun e => c1 ((zle_iff (by decide) nb_k).mpr e))) (Nat.le_of_ble_eq_true rfl) rfl ?_
    refine Ew.iinc (v := nI (k + 1)) (ls' := [some (zr (some (0, 0, 9))), some (zi v), some (zi (nI (k + 1))), some (zi (nI 6))]) f246_14 rfl (nI_1 _) rfl rfl ?_
    refine Ew.goto f246_17 rfl ?_
    exact h2 (Nat.not_le.mp fun e => c1 ((zle_iff (by decide) nb_k).mpr e))
theorem g24_0 {d c s : Nat} {n G : Nat} {X : zM} {ρ : Nat → Nat → Int32} {l : Nat → Nat → Int64} {Q : Option zV → zM → Prop} (sn : X.2.2.2.1 3 n 0 = (5, 0)) 
    (h1 : Ev d 0 0 246 0 [some (zr (some (0, 0, 9))), some (zi (nI 0)), none, none] [] (OM (XP X 0 0 4 0 (some (3, n, 0))) 0 0 (zu (zu (zu ρ 4 1 (nI G)) 4 6 (nI 0)) 4 7 (nI 0)) l) (fun r M' => Ev (d + 1) c s 24 28 [some (zr (some (0, 0, 4))), some (zr (some (3, n, 0))), some (zi (nI G))] (zpush r []) M' Q)) : Ev (d + 1) c s 24 0 [some (zr (some (0, 0, 4))), some (zr (some (3, n, 0))), some (zi (nI G))] [] (OM X 0 0 ρ l) Q := by
  refine Ew.ld f24_0 rfl rfl rfl rfl ?_
  refine Ew.ld f24_1 rfl rfl rfl rfl ?_
  refine Ew.putp f24_2 rfl rfl ?_
  rw [zpj_up (r := 0) (j := 0) (q := 4) (n := 0) (fun _ => rfl)]
  show Ev (d + 1) c s 24 5 [some (zr (some (0, 0, 4))), some (zr (some (3, n, 0))), some (zi (nI G))] [] (OM (XP X 0 0 4 0 (some (3, n, 0))) 0 0 ρ l) Q
  refine Ew.ld f24_5 rfl rfl rfl rfl ?_
  refine Ew.ld f24_6 rfl rfl rfl rfl ?_
  refine Ew.putiO f24_7 rfl rfl ?_
  refine Ew.ld f24_10 rfl rfl rfl rfl ?_
  refine Ew.op (st' := zi (nI 0) :: _) f24_11 rfl rfl ?_
  refine Ew.putiO f24_12 rfl rfl ?_
  refine Ew.ld f24_15 rfl rfl rfl rfl ?_
  refine Ew.op (st' := zi (nI 0) :: _) f24_16 rfl rfl ?_
  refine Ew.putbO f24_17 rfl (Or.inl rfl) rfl ?_
  refine Ew.ld f24_20 rfl rfl rfl rfl ?_
  refine Ew.getp (v := some (0, 0, 9)) f24_21 rfl rfl rfl ?_
  refine Ew.op (st' := zi (nI 0) :: _) f24_24 rfl rfl ?_
  refine Ew.call0 (ls0 := [some (zr (some (0, 0, 9))), some (zi (nI 0)), none, none]) f24_25 rfl (Nat.le_of_ble_eq_true rfl) rfl rfl (Nat.le_of_ble_eq_true rfl) trivial (Nat.le_of_ble_eq_true rfl) rfl rfl ?_
  exact h1
theorem g24_28 {d c s : Nat} {n G : Nat} {X : zM} {ρ : Nat → Nat → Int32} {l : Nat → Nat → Int64} {Q : Option zV → zM → Prop} (sn : X.2.2.2.1 3 n 0 = (5, 0)) 
    (h1 : Ev d 0 0 25 0 [some (zr (some (0, 0, 4))), some (zi (nI 0)), some (zi (nI 0)), none, none] [] (OM X 0 0 (zu (zu (zu (zu (zu (zu (zu (zu (zu ρ 4 9 (nI 0)) 8 0 (nI 0)) 4 10 (nI 0)) 4 11 (nI 0)) 4 13 (nI 0)) 4 14 (nI 0)) 4 15 ((-4))) 4 16 (nI 0)) 4 17 (nI 0)) l) (fun r M' => Ev (d + 1) c s 24 82 [some (zr (some (0, 0, 4))), some (zr (some (3, n, 0))), some (zi (nI G))] (zpush r []) M' Q)) : Ev (d + 1) c s 24 28 [some (zr (some (0, 0, 4))), some (zr (some (3, n, 0))), some (zi (nI G))] [] (OM X 0 0 ρ l) Q := by
  refine Ew.ld f24_28 rfl rfl rfl rfl ?_
  refine Ew.op (st' := zi (nI 0) :: _) f24_29 rfl rfl ?_
  refine Ew.putiO f24_30 rfl rfl ?_
  refine Ew.ld f24_33 rfl rfl rfl rfl ?_
  refine Ew.getp (v := some (0, 0, 8)) f24_34 rfl rfl rfl ?_
  refine Ew.op (st' := zi (nI 0) :: _) f24_37 rfl rfl ?_
  refine Ew.op (st' := zi (nI 0) :: _) f24_38 rfl rfl ?_
  refine Ew.iastnO f24_39 (by decide) rfl (show 0 < 31 by decide) (Nat.le_of_ble_eq_true rfl) rfl ?_
  refine Ew.ld f24_40 rfl rfl rfl rfl ?_
  refine Ew.op (st' := zi (nI 0) :: _) f24_41 rfl rfl ?_
  refine Ew.putiO f24_42 rfl rfl ?_
  refine Ew.ld f24_45 rfl rfl rfl rfl ?_
  refine Ew.op (st' := zi (nI 0) :: _) f24_46 rfl rfl ?_
  refine Ew.putiO f24_47 rfl rfl ?_
  refine Ew.ld f24_50 rfl rfl rfl rfl ?_
  refine Ew.op (st' := zi (nI 0) :: _) f24_51 rfl rfl ?_
  refine Ew.putiO f24_52 rfl rfl ?_
  refine Ew.ld f24_55 rfl rfl rfl rfl ?_
  refine Ew.op (st' := zi (nI 0) :: _) f24_56 rfl rfl ?_
  refine Ew.putiO f24_57 rfl rfl ?_
  refine Ew.ld f24_60 rfl rfl rfl rfl ?_
  refine Ew.op (st' := zi ((-4)) :: _) f24_61 rfl rfl ?_
  refine Ew.putiO f24_63 rfl rfl ?_
  refine Ew.ld f24_66 rfl rfl rfl rfl ?_
  refine Ew.op (st' := zi (nI 0) :: _) f24_67 rfl rfl ?_
  refine Ew.putiO f24_68 rfl rfl ?_
  refine Ew.ld f24_71 rfl rfl rfl rfl ?_
  refine Ew.op (st' := zi (nI 0) :: _) f24_72 rfl rfl ?_
  refine Ew.putiO f24_73 rfl rfl ?_
  refine Ew.ld f24_76 rfl rfl rfl rfl ?_
  refine Ew.op (st' := zi (nI 0) :: _) f24_77 rfl rfl ?_
  refine Ew.op (st' := zi (nI 0) :: _) f24_78 rfl rfl ?_
  refine Ew.call0 (ls0 := [some (zr (some (0, 0, 4))), some (zi (nI 0)), some (zi (nI 0)), none, none]) f24_79 rfl (Nat.le_of_ble_eq_true rfl) rfl rfl (Nat.le_of_ble_eq_true rfl) rfl (Nat.le_of_ble_eq_true rfl) rfl rfl ?_
  exact h1
theorem g24_82 {d c s : Nat} {n G : Nat} {x : Int32} {X : zM} {ρ : Nat → Nat → Int32} {l : Nat → Nat → Int64} {Q : Option zV → zM → Prop} (sn : X.2.2.2.1 3 n 0 = (5, 0)) 
    (h1 : (x = ((-1))) → (¬ (ρ 4 7) = 0) → Q (some (zi (nI 0))) (OM X 0 0 ρ l))
    (h2 : (x = ((-1))) → ((ρ 4 7) = 0) → Q (some (zi (nI 1))) (OM X 0 0 ρ l))
    (h3 : (¬ x = ((-1))) → (¬ (ρ 4 7) = 0) → Q (some (zi (nI 0))) (OM X 0 0 (zu (zu ρ 4 14 (nI 0)) 4 15 ((-4))) l))
    (h4 : (¬ x = ((-1))) → ((ρ 4 7) = 0) → Q (some (zi (nI 1))) (OM X 0 0 (zu (zu ρ 4 14 (nI 0)) 4 15 ((-4))) l)) : Ev d c s 24 82 [some (zr (some (0, 0, 4))), some (zr (some (3, n, 0))), some (zi (nI G))] [zi x] (OM X 0 0 ρ l) Q := by
  refine Ew.op (st' := zi ((-1)) :: _) f24_82 rfl rfl ?_
  refine Ew.icmp f24_83 rfl rfl (fun c1 => ?_) (fun c1 => ?_)
  · refine Ew.ld f24_97 rfl rfl rfl rfl ?_
    refine Ew.getbO f24_98 rfl rfl ?_
    refine Ew.ifc f24_101 rfl rfl (fun c2 => ?_) (fun c2 => ?_)
    · refine Ew.op (st' := zi (nI 0) :: _) f24_108 rfl rfl ?_
      refine Ew.iretb f24_109 (Or.inl rfl) ?_
      exact h1 c1 c2
    · refine Ew.op (st' := zi (nI 1) :: _) f24_104 rfl rfl ?_
      refine Ew.goto f24_105 rfl ?_
      refine Ew.iretb f24_109 (Or.inr rfl) ?_
      exact h2 c1 (Classical.not_not.mp c2)
  · refine Ew.ld f24_86 rfl rfl rfl rfl ?_
    refine Ew.op (st' := zi (nI 0) :: _) f24_87 rfl rfl ?_
    refine Ew.putiO f24_88 rfl rfl ?_
    refine Ew.ld f24_91 rfl rfl rfl rfl ?_
    refine Ew.op (st' := zi ((-4)) :: _) f24_92 rfl rfl ?_
    refine Ew.putiO f24_94 rfl rfl ?_
    refine Ew.ld f24_97 rfl rfl rfl rfl ?_
    refine Ew.getbV (v := ρ 4 7) f24_98 rfl (so_v rfl) rfl ?_
    refine Ew.ifc f24_101 rfl rfl (fun c3 => ?_) (fun c3 => ?_)
    · refine Ew.op (st' := zi (nI 0) :: _) f24_108 rfl rfl ?_
      refine Ew.iretb f24_109 (Or.inl rfl) ?_
      exact h3 c1 c3
    · refine Ew.op (st' := zi (nI 1) :: _) f24_104 rfl rfl ?_
      refine Ew.goto f24_105 rfl ?_
      refine Ew.iretb f24_109 (Or.inr rfl) ?_
      exact h4 c1 (Classical.not_not.mp c3)
theorem zu_v {α : Type} {f : Nat → Nat → α} {q n : Nat} {v : α} {q' n' : Nat} : zu f q n v q' n' = if q' = q ∧ n' = n then v else f q' n' := by
  by_cases h : q' = q ∧ n' = n
  · rw [if_pos h]; obtain ⟨rfl, rfl⟩ := h; rw [zu_i, if_pos rfl]
  · rw [if_neg h, zu_i_ne h]
theorem sp_cFill {d c s : Nat} {v : Int32} {X : zM} {ρ : Nat → Nat → Int32} {l : Nat → Nat → Int64} {Q : Option zV → zM → Prop} (k : ∀ ρ', (∀ g, g < 6 → ρ' 9 g = v) → (∀ q i, ¬ q = 9 → ρ' q i = ρ q i) → Q none (OM X 0 0 ρ' l)) : Ev d c s 246 0 [some (zr (some (0, 0, 9))), some (zi v), none, none] [] (OM X 0 0 ρ l) Q := by
  refine g246_0 ?_
  have lp : ∀ m, m ≤ 6 → ∀ ρ', (∀ g, g < 6 - m → ρ' 9 g = v) → (∀ q i, ¬ q = 9 → ρ' q i = ρ q i) → Ev d c s 246 5 [some (zr (some (0, 0, 9))), some (zi v), some (zi (nI (6 - m))), some (zi (nI 6))] [] (OM X 0 0 ρ' l) Q := by
    intro m
    induction m with
    | zero => exact fun _ ρ' h1 h2 => g246_5 (by omega) (fun _ => k ρ' h1 h2) (fun q => q) (fun q => absurd q (by omega))
    | succ m ih =>
      intro hm ρ' h1 h2
      refine g246_5 (by omega) (fun q => by omega) (fun q => q) (fun q => ?_)
      rw [show 6 - (m + 1) + 1 = 6 - m by omega]
      refine ih (by omega) _ (fun g hg => ?_) (fun q i hq => ?_)
      · by_cases e : g = 6 - (m + 1)
        · subst e; exact zu_e
        · rw [zu_i_ne (by omega)]; exact h1 g (by omega)
      · rw [zu_i_ne (by omega)]; exact h2 q i hq
  exact lp 6 (Nat.le_refl _) ρ (fun g hg => absurd hg (by omega)) (fun _ _ _ => rfl)
/-- the player has done what a trace tells -/
def cDn (ρ : Nat → Nat → Int32) (T : tT) : Prop := T.n ≤ 30 ∧ ρ 4 6 = nI T.n ∧ (∀ k, k < T.n → ρ 5 k = T.kind k ∧ ρ 6 k = T.gate k ∧ ρ 7 k = T.add k) ∧ (∀ k, k ≤ T.n → ρ 8 k = tSet T k) ∧ ρ 4 14 = T.why ∧ ρ 4 15 = T.whyGate ∧ ρ 4 16 = T.mended ∧ ρ 4 17 = T.again ∧ ρ 4 11 = T.deep
theorem tSet_pr (L : List Nat) (G k : Nat) : tSet (pTrace L G) k = tSet (pRun (pF L) G).1.1 k := by
  have e : ∀ k x, tIns (pTrace L G).2 k x = tIns (pRun (pF L) G).1.1.2 k x := by
    intro k x
    induction k with
    | zero => rfl
    | succ k ih =>
      unfold tIns
      rw [ih]
      rfl
  unfold tSet tSetL tSetL tSetL tSetL tSetL tSetL tSetL
  simp only [e]
theorem cPl_0 {ρ : Nat → Nat → Int32} (h1 : ∀ i, i = 6 ∨ i = 7 ∨ i = 9 ∨ i = 10 ∨ i = 11 ∨ i = 13 ∨ i = 16 ∨ i = 17 → ρ 4 i = nI 0) (h2 : ∀ g, g < 6 → ρ 9 g = nI 0) (h3 : ρ 8 0 = nI 0) : cPl ρ pS0 := by
  refine ⟨⟨by decide, h1 6 (by omega), h1 7 (by omega)⟩, fun k hk => absurd hk (Nat.not_lt_zero k), fun g hg => h2 g hg, ⟨h1 10 (by omega), h1 11 (by omega), h1 17 (by omega), h1 16 (by omega)⟩, ⟨h1 13 (by omega), fun i hi => absurd hi (Nat.not_lt_zero i)⟩, ?_, fun _ k hk => ?_⟩
  · rw [h1 9 (by omega)]; decide
  · have hk : k ≤ 0 := hk
    rw [show k = 0 by omega, h3]; decide
theorem sp_cPlays {d c s n bb G : Nat} {A : List Nat} {X : zM} {ρ : Nat → Nat → Int32} {l : Nat → Nat → Int64} {Q : Option zV → zM → Prop} (hc : cSc X.1 X.2.2.1 X.2.2.2.1 bb n A) (hA : isBody A) (hG6 : G < 64) (k1 : pOver A G → ∀ ρ', (∀ q i, (q < 4 ∨ 11 ≤ q) → ρ' q i = ρ q i) → Q (some (zi (nI 0))) (OM (XP X 0 0 4 0 (some (3, n, 0))) 0 0 ρ' l)) (k2 : ¬ pOver A G → ∀ ρ', cDn ρ' (pTrace A G) → (∀ q i, (q < 4 ∨ 11 ≤ q) → ρ' q i = ρ q i) → Q (some (zi (nI 1))) (OM (XP X 0 0 4 0 (some (3, n, 0))) 0 0 ρ' l)) : Ev (d + 24) c s 24 0 [some (zr (some (0, 0, 4))), some (zr (some (3, n, 0))), some (zi (nI G))] [] (OM X 0 0 ρ l) Q := by
  have hN := hc.1
  refine g24_0 hc.sh (sp_cFill (fun ρ1 f1 f2 => g24_28 hc.sh ?_))
  have hc2 : cSc (XP X 0 0 4 0 (some (3, n, 0))).1 (XP X 0 0 4 0 (some (3, n, 0))).2.2.1 (XP X 0 0 4 0 (some (3, n, 0))).2.2.2.1 bb n A := by
    obtain ⟨e1, e2, a, e3, e4, e5, e6, e7⟩ := hc
    refine ⟨e1, e2, a, e3, e4, ?_, e6, e7⟩
    show zup4 X.2.2.1 0 0 4 0 (some (3, n, 0)) 3 n 0 0 = _
    rw [zu4n _ _ (by omega)]
    exact e5
  have ps2 : (XP X 0 0 4 0 (some (3, n, 0))).2.2.1 0 0 4 0 = some (3, n, 0) := by
    show zup4 X.2.2.1 0 0 4 0 (some (3, n, 0)) 0 0 4 0 = _
    exact zu4s _ _ _ _ _ _
  have eC : pIsC (pF A A.length) := Or.inl (by unfold pF; rw [List.getD_eq_getElem?_getD, List.getElem?_eq_none (Nat.le_refl _)]; rfl)
  generalize hX : XP X 0 0 4 0 (some (3, n, 0)) = Y at *
  have g1 : ∀ i, i = 1 ∨ i = 6 ∨ i = 7 → ρ1 4 i = zu (zu (zu ρ 4 1 (nI G)) 4 6 (nI 0)) 4 7 (nI 0) 4 i := fun i _ => f2 4 i (by decide)
  have e41 : ρ1 4 1 = nI G := by rw [g1 1 (by omega), zu_i_ne (by omega), zu_i_ne (by omega), zu_e]
  have e46 : ρ1 4 6 = nI 0 := by rw [g1 6 (by omega), zu_i_ne (by omega), zu_e]
  have e47 : ρ1 4 7 = nI 0 := by rw [g1 7 (by omega), zu_e]
  have fr1 : ∀ q i, (q < 4 ∨ 11 ≤ q) → ρ1 q i = ρ q i := fun q i hq => by rw [f2 q i (by omega), zu_i_ne (by omega), zu_i_ne (by omega), zu_i_ne (by omega)]
  generalize hr : zu (zu (zu (zu (zu (zu (zu (zu (zu ρ1 4 9 (nI 0)) 8 0 (nI 0)) 4 10 (nI 0)) 4 11 (nI 0)) 4 13 (nI 0)) 4 14 (nI 0)) 4 15 (-4)) 4 16 (nI 0)) 4 17 (nI 0) = ρ2
  have ev : ∀ q i, ρ2 q i = if q = 4 ∧ i = 17 then nI 0 else if q = 4 ∧ i = 16 then nI 0 else if q = 4 ∧ i = 15 then -4 else if q = 4 ∧ i = 14 then nI 0 else if q = 4 ∧ i = 13 then nI 0 else if q = 4 ∧ i = 11 then nI 0 else if q = 4 ∧ i = 10 then nI 0 else if q = 8 ∧ i = 0 then nI 0 else if q = 4 ∧ i = 9 then nI 0 else ρ1 q i := by
    intro q i
    rw [← hr]
    simp only [zu_v]
  have z0 : cPl ρ2 pS0 := by
    refine cPl_0 (fun i hi => ?_) (fun g hg => ?_) ?_
    · rw [ev]
      rcases hi with e | e | e | e | e | e | e | e <;> subst e
      · exact e46
      · exact e47
      · rfl
      · rfl
      · rfl
      · rfl
      · rfl
      · rfl
    · rw [ev]; simp; exact f1 g hg
    · rw [ev]; simp
  have e241 : ρ2 4 1 = nI G := by rw [ev]; simp; exact e41
  have fr2 : ∀ q i, (q < 4 ∨ 11 ≤ q) → ρ2 q i = ρ q i := by
    intro q i hq
    rw [ev, ← fr1 q i hq]
    repeat rw [if_neg (by omega)]
  refine cBd_b (d := d) (k := 6) (F := 62) hc2 ps2 (cBd_all hc2 ps2 hG6 61) hA.2.2 (Nat.le_refl _) eC (by omega) (Nat.le_refl _) (by omega) z0 pOk0 ⟨fun g hg => Nat.zero_le _, Nat.zero_le _, Nat.zero_le _⟩ e241 (fun ρ' x ho he => ?_)
  show Ev (d + 24) c s 24 82 [some (zr (some (0, 0, 4))), some (zr (some (3, n, 0))), some (zi (nI G))] [zi x] (OM Y 0 0 ρ' l) Q
  have he : ∀ e', (pRun (pF A) G).2 = Sum.inl e' → e' < 4000 := he
  have ho : cOu ρ2 (pRun (pF A) G) ρ' x := ho
  have snY : Y.2.2.2.1 3 n 0 = (5, 0) := hc2.sh
  obtain ⟨o1, o2, o3⟩ := ho
  have fr3 : ∀ q i, (q < 4 ∨ 11 ≤ q) → ρ' q i = ρ q i := fun q i hq => (o2.1 q i hq).trans (fr2 q i hq)
  have h7 : ρ' 4 7 = if (pRun (pF A) G).1.2.1 10 = 0 then nI 0 else nI 1 := o1.1.2.2
  have ov : ¬ ρ' 4 7 = 0 → pOver A G := fun q e => q (by rw [h7, if_pos e]; rfl)
  have nov : ρ' 4 7 = 0 → ¬ pOver A G := fun q e => by rw [h7, if_neg e] at q; exact absurd q (by decide)
  have frw : ∀ q i, (q < 4 ∨ 11 ≤ q) → zu (zu ρ' 4 14 (nI 0)) 4 15 (-4) q i = ρ q i := fun q i hq => by rw [zu_i_ne (by omega), zu_i_ne (by omega)]; exact fr3 q i hq
  have dn : ¬ pOver A G → ∀ ρ3 : Nat → Nat → Int32, (∀ q i, ¬ (q = 4 ∧ (i = 14 ∨ i = 15)) → ρ3 q i = ρ' q i) → ρ3 4 14 = (pTrace A G).why → ρ3 4 15 = (pTrace A G).whyGate → cDn ρ3 (pTrace A G) := by
    intro hn ρ3 f3 w1 w2
    have y0 : (pRun (pF A) G).1.2.1 10 = 0 := Classical.not_not.mp hn
    obtain ⟨⟨p1, p2, p3⟩, p4, p5, ⟨p6, p7, p8, p9⟩, p10, p11, p12⟩ := o1
    refine ⟨p1, by rw [f3 _ _ (by omega)]; exact p2, fun k hk => ?_, fun k hk => ?_, w1, w2, ?_, ?_, ?_⟩
    · rw [f3 _ _ (by omega), f3 _ _ (by omega), f3 _ _ (by omega)]; exact p4 k hk
    · rw [f3 _ _ (by omega), tSet_pr]; exact p12 y0 k hk
    · rw [f3 _ _ (by omega)]; exact p9
    · rw [f3 _ _ (by omega)]; exact p8
    · rw [f3 _ _ (by omega)]; exact p7
  have w1 : (pTrace A G).why = match (pRun (pF A) G).2 with | Sum.inl _ => 0 | Sum.inr (y, _) => nI y := rfl
  have w2 : (pTrace A G).whyGate = match (pRun (pF A) G).2 with | Sum.inl _ => -4 | Sum.inr (_, g) => g := rfl
  rcases hq : (pRun (pF A) G).2 with e | b
  · rw [hq] at o3 w1 w2
    have o3 : x = nI e := o3
    have e4 := he e hq
    have nx : ¬ x = -1 := by rw [o3]; exact nI_nem1 (by omega)
    refine g24_82 snY (fun q => absurd q nx) (fun q => absurd q nx) (fun _ q => k1 (ov q) _ frw) (fun _ q => k2 (nov q) _ (dn (nov q) _ (fun q i hq => by rw [zu_i_ne (by omega), zu_i_ne (by omega)]) ?_ ?_) frw)
    · rw [zu_i_ne (by omega), zu_e, w1]; rfl
    · rw [zu_e, w2]
  · rw [hq] at o3 w1 w2
    have ex : x = -1 := o3.1
    refine g24_82 snY (fun _ q => k1 (ov q) _ fr3) (fun _ q => k2 (nov q) _ (dn (nov q) _ (fun _ _ _ => rfl) ?_ ?_) fr3) (fun q => absurd ex q) (fun q => absurd ex q)
    · rw [w1]; exact (o3.2 (Classical.not_not.mp (nov q))).1
    · rw [w2]; exact (o3.2 (Classical.not_not.mp (nov q))).2
