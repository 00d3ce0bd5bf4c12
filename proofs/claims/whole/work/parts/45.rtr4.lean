/-! the reference: a letter's doing -/
def mBy (L : List Nat) (a : Nat) : Int32 := if L.getD (a + 1) 0 = 43 then nI (L.getD (a + 2) 0 - 48) else -(nI (L.getD (a + 2) 0 - 48))
def mVis (L : List Nat) (G a g : Nat) (s : pS) (st : List mF) (w : Nat × Int32) : mC := if L.getD (a + 1) 0 = 40 then (if G.testBit g = true then mBrk L (3, nI g) st s a w else (pEnter s g, (0, a + 1, g, s.2.2.length) :: st, a + 2, w)) else if s.2.1 g = 0 then mBrk L (1, nI g) st s a w else (if (pPut s 2 g (mBy L a)).2.1 10 = 0 then ((pPut s 2 g (mBy L a)).1, (pPut s 2 g (mBy L a)).2.1, (g, mBy L a) :: s.2.2) else pPut s 2 g (mBy L a), st, a + 3, w)
def mSeal : List (Nat × Int32) → Nat → List (Nat × Int32)
  | [], _ => []
  | x :: u, m => if m < u.length + 1 then (x.1, 0) :: mSeal u m else x :: u
theorem mSeal_len : ∀ (u : List (Nat × Int32)) (m : Nat), (mSeal u m).length = u.length := by
  intro u
  induction u with
  | nil => intro m; rfl
  | cons x u ih =>
    intro m
    unfold mSeal
    split
    · rw [List.length_cons, List.length_cons, ih]
    · rfl
def mShuts (c : Nat) (s : pS) (st : List mF) (a : Nat) (w : Nat × Int32) : mC := match st with
  | [] => (s, [], a, w)
  | f :: u => if c = 41 then (pLeave (s.1, s.2.1, mSeal s.2.2 f.2.2.2) f.2.2.1, u, a + 1, w) else if c = 93 then (s, u, a + 1, w) else if 1 < f.2.2.1 then (s, (f.1, f.2.1, f.2.2.1 - 1, f.2.2.2) :: u, f.2.1 + 1, w) else (s, u, a + 1, w)
def mStep (L : List Nat) (G : Nat) (x : mC) : mC := if 97 ≤ L.getD x.2.2.1 0 ∧ L.getD x.2.2.1 0 ≤ 102 then mVis L G x.2.2.1 (L.getD x.2.2.1 0 - 97) x.1 x.2.1 x.2.2.2 else if L.getD x.2.2.1 0 = 33 then mBrk L (2, -4) x.2.1 x.1 x.2.2.1 x.2.2.2 else if L.getD x.2.2.1 0 = 91 then (x.1, (1, x.2.2.1, 0, x.1.2.2.length) :: x.2.1, x.2.2.1 + 1, x.2.2.2) else if 50 ≤ L.getD x.2.2.1 0 ∧ L.getD x.2.2.1 0 ≤ 53 then (x.1, (2, x.2.2.1 + 1, L.getD x.2.2.1 0 - 48, x.1.2.2.length) :: x.2.1, x.2.2.1 + 2, x.2.2.2) else mShuts (L.getD x.2.2.1 0) x.1 x.2.1 x.2.2.1 x.2.2.2
def mGo (L : List Nat) (x : mC) : Prop := x.1.2.1 10 = 0 ∧ x.2.2.2.1 = 0 ∧ x.2.2.1 < L.length
def mPl (L : List Nat) (x : mC) : Prop := (97 ≤ L.getD x.2.2.1 0 → L.getD x.2.2.1 0 ≤ 102 → (L.getD (x.2.2.1 + 1) 0 = 40 → x.2.1.length < 6) ∧ (¬ L.getD (x.2.2.1 + 1) 0 = 40 → 48 ≤ L.getD (x.2.2.1 + 2) 0)) ∧ (L.getD x.2.2.1 0 = 91 ∨ (50 ≤ L.getD x.2.2.1 0 ∧ L.getD x.2.2.1 0 ≤ 53) → x.2.1.length < 6) ∧ (¬ (97 ≤ L.getD x.2.2.1 0 ∧ L.getD x.2.2.1 0 ≤ 102) → ¬ L.getD x.2.2.1 0 = 33 → ¬ L.getD x.2.2.1 0 = 91 → ¬ (50 ≤ L.getD x.2.2.1 0 ∧ L.getD x.2.2.1 0 ≤ 53) → ∃ f u, x.2.1 = f :: u ∧ (L.getD x.2.2.1 0 = 41 → f.1 = 0) ∧ (¬ L.getD x.2.2.1 0 = 41 → ¬ L.getD x.2.2.1 0 = 93 → f.1 = 2))
def mPre (L : List Nat) (x : mC) : Prop := mCs x.1.2.1 x.2.1 ∧ (∀ f, f ∈ x.2.1 → mFo L f) ∧ x.1.2.2.length ≤ x.1.1.1 ∧ mPl L x
theorem zhas6 {v k : Nat} (hk : k < 6) (hv : v < 64) : ((nI v >>> (nI k &&& 31)) &&& nI 1 = nI 1) ↔ v.testBit k = true := by
  have h : ∀ k, k < 6 → ∀ v, v < 64 → (((nI v >>> (nI k &&& 31)) &&& nI 1 = nI 1) ↔ v.testBit k = true) := by decide
  exact h k hk v hv
theorem zinN {x a b : Nat} (hx : x < 5000) (ha : a < 5000) (hb : b < 5000) : (lN a ≤ (nI x).toInt64 ∧ (nI x).toInt64 ≤ lN b) ↔ (a ≤ x ∧ x ≤ b) := by
  rw [nI_l (by omega)]
  constructor
  · rintro ⟨h1, h2⟩
    exact ⟨(lN_le (by omega) (by omega)).mp h1, (lN_le (by omega) (by omega)).mp h2⟩
  · rintro ⟨h1, h2⟩
    exact ⟨(lN_le (by omega) (by omega)).mpr h1, (lN_le (by omega) (by omega)).mpr h2⟩
theorem L127 {L : List Nat} (h127 : ∀ x, x ∈ L → x < 127) (k : Nat) : L.getD k 0 < 127 := by
  rw [List.getD_eq_getElem?_getD]
  by_cases hk : k < L.length
  · rw [List.getElem?_eq_getElem hk]
    exact h127 _ (List.getElem_mem hk)
  · rw [List.getElem?_eq_none (by omega)]
    decide
/-- what was added grows -/
theorem mR.push {ρ0 ρ : Nat → Nat → Int32} {t : Nat} {s : pS} {y : List mF × Nat × (Nat × Int32)} (h : mR ρ0 t ρ (s, y)) (hl : s.2.2.length < 30) (g : Nat) (b : Int32) : mR ρ0 t (zu (zu (zu ρ 23 s.2.2.length (nI g)) 24 s.2.2.length b) 0 29 (nI (s.2.2.length + 1))) ((s.1, s.2.1, (g, b) :: s.2.2), y) := by
  obtain ⟨⟨s1, s2, s3⟩, ⟨c1, c2, c3, c4, c5, c6⟩, ⟨a1, a2, a3⟩, ⟨o1, o2, o3⟩, ⟨w1, w2, w3⟩, fr⟩ := h
  refine ⟨⟨?_, s2, fun k hk => ?_⟩, ⟨fun i hi => ?_, ?_, ?_, ?_, ?_, ?_⟩, ⟨?_, by show s.2.2.length + 1 ≤ 30; omega, ?_, ?_, mAds_ext (fun k hk => ⟨?_, ?_⟩) a3⟩, ⟨?_, o2, mStk_ext (fun k hk => ⟨?_, ?_, ?_, ?_⟩) o3⟩, ⟨?_, ?_, ?_⟩, fun q i hq => ?_⟩
  case refine_1 => rw [zu_i_ne (by omega), zu_i_ne (by omega), zu_i_ne (by omega)]; exact s1
  case refine_2 =>
    obtain ⟨r1, r2, r3⟩ := s3 k hk
    refine ⟨?_, ?_, ?_⟩
    · rw [zu_i_ne (by omega), zu_i_ne (by omega), zu_i_ne (by omega)]; exact r1
    · rw [zu_i_ne (by omega), zu_i_ne (by omega), zu_i_ne (by omega)]; exact r2
    · rw [zu_i_ne (by omega), zu_i_ne (by omega), zu_i_ne (by omega)]; exact r3
  all_goals first
    | exact zu_s _ _ _ _
    | (rw [zu_i_ne (by omega), zu_s]; done)
    | (rw [zu_i_ne (by omega), zu_i_ne (by omega), zu_s]; done)
    | (rw [zu_i_ne (by omega), zu_i_ne (by omega), zu_i_ne (by omega)]; assumption)
    | (rw [zu_i_ne (by omega), zu_i_ne (by omega), zu_i_ne (by omega)]; exact c1 i hi)
    | (rw [zu_i_ne (by omega), zu_i_ne (by omega), zu_i_ne (by omega)]; done)
    | (rw [zu_i_ne (by unfold mScr at hq; omega), zu_i_ne (by unfold mScr at hq; omega), zu_i_ne (by unfold mScr at hq; omega)]; exact fr q i hq)
theorem g166_0 {d c s : Nat} {t g a : Nat} {L : List Nat} {X : zM} {ρ : Nat → Nat → Int32} {l : Nat → Nat → Int64} {Q : Option zV → zM → Prop} (e1 : ρ 0 31 = nI a)
    (b1 : t < 4)
    (b2 : tTxt ρ t L)
    (b3 : a + 1 < 4000)
    (h1 : Ev (d + 1) c s 166 12 [some (zr (some (1, 0, 0))), some (zi (nI t)), some (zi (nI g)), some (zi (nI (L.getD (a + 1) 0))), none] [] (OM X 1 0 ρ l) Q) : Ev (d + 1) c s 166 0 [some (zr (some (1, 0, 0))), some (zi (nI t)), some (zi (nI g)), none, none] [] (OM X 1 0 ρ l) Q := by
  refine Ew.ld f166_0 rfl rfl rfl rfl ?_
  refine Ew.ld f166_1 rfl rfl rfl rfl ?_
  refine Ew.ld f166_2 rfl rfl rfl rfl ?_
  refine Ew.getiV (v := nI a) f166_3 rfl (so_v e1) rfl ?_
  refine Ew.op (st' := zi (nI 1) :: _) f166_6 rfl rfl ?_
  refine Ew.addn f166_7 rfl ?_
  refine Ew.call0 (ls0 := [some (zr (some (1, 0, 0))), some (zi (nI t)), some (zi (nI (a + 1)))]) f166_8 rfl (Nat.le_of_ble_eq_true rfl) rfl rfl (Nat.le_of_ble_eq_true rfl) rfl (Nat.le_of_ble_eq_true rfl) rfl rfl ?_
  refine sp_letterAt b1 b2 b3 ?_
  show Ev (d + 1) c s 166 11 [some (zr (some (1, 0, 0))), some (zi (nI t)), some (zi (nI g)), none, none] [zi (nI (L.getD (a + 1) 0))] (OM X 1 0 ρ l) Q
  refine Ew.sr (ls' := [some (zr (some (1, 0, 0))), some (zi (nI t)), some (zi (nI g)), some (zi (nI (L.getD (a + 1) 0))), none]) f166_11 rfl rfl (Nat.le_of_ble_eq_true rfl) rfl rfl ?_
  exact h1
theorem g166_12 {d c s : Nat} {t g x a u : Nat} {X : zM} {ρ : Nat → Nat → Int32} {l : Nat → Nat → Int64} {Q : Option zV → zM → Prop} (e1 : ρ 0 31 = nI a) (e2 : ρ 25 g = nI u) (nb_x : x < 5000) (nb_u : u < 5000)
    (b1 : (¬ x = 40) → g < 6)
    (h1 : (¬ x = 40) → (¬ u = 0) → Ev (d + 1) c s 166 89 [some (zr (some (1, 0, 0))), some (zi (nI t)), some (zi (nI g)), some (zi (nI x)), none] [] (OM X 1 0 ρ l) Q)
    (h2 : (¬ x = 40) → (u = 0) → Ev d 0 0 165 0 [some (zr (some (1, 0, 0))), some (zi (nI t)), some (zi (nI 1)), some (zi (nI g)), none] [] (OM X 1 0 ρ l) (fun r M' => Ev (d + 1) c s 166 86 [some (zr (some (1, 0, 0))), some (zi (nI t)), some (zi (nI g)), some (zi (nI x)), none] (zpush r []) M' Q))
    (h3 : (x = 40) → (¬ (((ρ 1 0) >>> ((nI g) &&& 31)) &&& (nI 1)) = (nI 1)) → Ev d 0 0 160 0 [some (zr (some (1, 0, 0))), some (zi (nI t)), some (zi (nI g))] [] (OM X 1 0 (zu ρ 0 31 (nI (a + 1))) l) (fun r M' => Ev (d + 1) c s 166 57 [some (zr (some (1, 0, 0))), some (zi (nI t)), some (zi (nI g)), some (zi (nI x)), none] (zpush r []) M' Q))
    (h4 : (x = 40) → ((((ρ 1 0) >>> ((nI g) &&& 31)) &&& (nI 1)) = (nI 1)) → Ev d 0 0 165 0 [some (zr (some (1, 0, 0))), some (zi (nI t)), some (zi (nI 3)), some (zi (nI g)), none] [] (OM X 1 0 ρ l) (fun r M' => Ev (d + 1) c s 166 38 [some (zr (some (1, 0, 0))), some (zi (nI t)), some (zi (nI g)), some (zi (nI x)), none] (zpush r []) M' Q)) : Ev (d + 1) c s 166 12 [some (zr (some (1, 0, 0))), some (zi (nI t)), some (zi (nI g)), some (zi (nI x)), none] [] (OM X 1 0 ρ l) Q := by
  refine Ew.ld f166_12 rfl rfl rfl rfl ?_
  refine Ew.op (st' := zi (nI 40) :: _) f166_13 rfl rfl ?_
  refine Ew.icmp f166_15 rfl rfl (fun c1 => ?_) (fun c1 => ?_)
  · refine Ew.ld f166_70 rfl rfl rfl rfl ?_
    refine Ew.getp (v := some (1, 0, 25)) f166_71 rfl rfl rfl ?_
    refine Ew.ld f166_74 rfl rfl rfl rfl ?_
    refine Ew.ialdnV (v := nI u) f166_75 rfl (b1 (fun e => c1 ((zeq nb_x (by decide)).mpr e))) (Nat.le_of_ble_eq_true rfl) rfl (so_v e2) ?_
    refine Ew.ifc f166_76 rfl rfl (fun c2 => ?_) (fun c2 => ?_)
    · exact h1 (fun e => c1 ((zeq nb_x (by decide)).mpr e)) (fun e => c2 ((zeq nb_u (by decide)).mpr e))
    · refine Ew.ld f166_79 rfl rfl rfl rfl ?_
      refine Ew.ld f166_80 rfl rfl rfl rfl ?_
      refine Ew.op (st' := zi (nI 1) :: _) f166_81 rfl rfl ?_
      refine Ew.ld f166_82 rfl rfl rfl rfl ?_
      refine Ew.call0 (ls0 := [some (zr (some (1, 0, 0))), some (zi (nI t)), some (zi (nI 1)), some (zi (nI g)), none]) f166_83 rfl (Nat.le_of_ble_eq_true rfl) rfl rfl (Nat.le_of_ble_eq_true rfl) rfl (Nat.le_of_ble_eq_true rfl) rfl rfl ?_
      exact h2 (fun e => c1 ((zeq nb_x (by decide)).mpr e)) ((zeq nb_u (by decide)).mp (Classical.not_not.mp c2))
  · refine Ew.ld f166_18 rfl rfl rfl rfl ?_
    refine Ew.getp (v := some (1, 0, 1)) f166_19 rfl rfl rfl ?_
    refine Ew.op (st' := zi (nI 0) :: _) f166_22 rfl rfl ?_
    refine Ew.ialdnO f166_23 rfl (show 0 < 270 by decide) (Nat.le_of_ble_eq_true rfl) rfl ?_
    refine Ew.ld f166_24 rfl rfl rfl rfl ?_
    refine Ew.call0 (ls0 := [some (zi (ρ 1 0)), some (zi (nI g))]) f166_25 rfl (Nat.le_of_ble_eq_true rfl) rfl rfl (Nat.le_of_ble_eq_true rfl) trivial (Nat.le_of_ble_eq_true rfl) rfl rfl ?_
    refine Ew.ld f152_0 rfl rfl rfl rfl ?_
    refine Ew.ld f152_1 rfl rfl rfl rfl ?_
    refine Ew.op (st' := zi ((ρ 1 0) >>> ((nI g) &&& 31)) :: _) f152_2 rfl rfl ?_
    refine Ew.op (st' := zi (nI 1) :: _) f152_3 rfl rfl ?_
    refine Ew.op (st' := zi (((ρ 1 0) >>> ((nI g) &&& 31)) &&& (nI 1)) :: _) f152_4 rfl rfl ?_
    refine Ew.op (st' := zi (nI 1) :: _) f152_5 rfl rfl ?_
    refine Ew.icmp f152_6 rfl rfl (fun c3 => ?_) (fun c3 => ?_)
    · refine Ew.op (st' := zi (nI 0) :: _) f152_13 rfl rfl ?_
      refine Ew.iretb f152_14 (Or.inl rfl) ?_
      show Ev (d + 1) c s 166 28 [some (zr (some (1, 0, 0))), some (zi (nI t)), some (zi (nI g)), some (zi (nI x)), none] [zi (nI 0)] (OM X 1 0 ρ l) Q
      refine Ew.ifc f166_28 rfl rfl (fun _ => ?_) (fun h => absurd (show ((nI 0) : Int32) = 0 by decide) h)
      refine Ew.ld f166_41 rfl rfl rfl rfl ?_
      refine Ew.op (st' := zr (some (1, 0, 0)) :: zr (some (1, 0, 0)) :: _) f166_42 rfl rfl ?_
      refine Ew.getiV (v := nI a) f166_43 rfl (so_v e1) rfl ?_
      refine Ew.op (st' := zi (nI 1) :: _) f166_46 rfl rfl ?_
      refine Ew.addn f166_47 rfl ?_
      refine Ew.putiO f166_48 rfl rfl ?_
      refine Ew.ld f166_51 rfl rfl rfl rfl ?_
      refine Ew.ld f166_52 rfl rfl rfl rfl ?_
      refine Ew.ld f166_53 rfl rfl rfl rfl ?_
      refine Ew.call0 (ls0 := [some (zr (some (1, 0, 0))), some (zi (nI t)), some (zi (nI g))]) f166_54 rfl (Nat.le_of_ble_eq_true rfl) rfl rfl (Nat.le_of_ble_eq_true rfl) rfl (Nat.le_of_ble_eq_true rfl) rfl rfl ?_
      exact h3 ((zeq nb_x (by decide)).mp (Classical.not_not.mp c1)) c3
    · refine Ew.op (st' := zi (nI 1) :: _) f152_9 rfl rfl ?_
      refine Ew.goto f152_10 rfl ?_
      refine Ew.iretb f152_14 (Or.inr rfl) ?_
      show Ev (d + 1) c s 166 28 [some (zr (some (1, 0, 0))), some (zi (nI t)), some (zi (nI g)), some (zi (nI x)), none] [zi (nI 1)] (OM X 1 0 ρ l) Q
      refine Ew.ifc f166_28 rfl rfl (fun h => absurd h (show ¬ (((nI 1) : Int32) = 0) by decide)) (fun _ => ?_)
      refine Ew.ld f166_31 rfl rfl rfl rfl ?_
      refine Ew.ld f166_32 rfl rfl rfl rfl ?_
      refine Ew.op (st' := zi (nI 3) :: _) f166_33 rfl rfl ?_
      refine Ew.ld f166_34 rfl rfl rfl rfl ?_
      refine Ew.call0 (ls0 := [some (zr (some (1, 0, 0))), some (zi (nI t)), some (zi (nI 3)), some (zi (nI g)), none]) f166_35 rfl (Nat.le_of_ble_eq_true rfl) rfl rfl (Nat.le_of_ble_eq_true rfl) rfl (Nat.le_of_ble_eq_true rfl) rfl rfl ?_
      exact h4 ((zeq nb_x (by decide)).mp (Classical.not_not.mp c1)) (Classical.not_not.mp c3)
theorem g166_38 {d c s : Nat} {t g x : Nat} {X : zM} {ρ : Nat → Nat → Int32} {l : Nat → Nat → Int64} {Q : Option zV → zM → Prop}
    (h1 : Q none (OM X 1 0 ρ l)) : Ev d c s 166 38 [some (zr (some (1, 0, 0))), some (zi (nI t)), some (zi (nI g)), some (zi (nI x)), none] [] (OM X 1 0 ρ l) Q := by
  refine Ew.goto f166_38 rfl ?_
  refine Ew.vret f166_178 ?_
  exact h1
theorem g166_86 {d c s : Nat} {t g x : Nat} {X : zM} {ρ : Nat → Nat → Int32} {l : Nat → Nat → Int64} {Q : Option zV → zM → Prop}
    (h1 : Q none (OM X 1 0 ρ l)) : Ev d c s 166 86 [some (zr (some (1, 0, 0))), some (zi (nI t)), some (zi (nI g)), some (zi (nI x)), none] [] (OM X 1 0 ρ l) Q := by
  refine Ew.goto f166_86 rfl ?_
  refine Ew.vret f166_178 ?_
  exact h1
theorem g166_57 {d c s : Nat} {t g x a : Nat} {X : zM} {ρ : Nat → Nat → Int32} {l : Nat → Nat → Int64} {Q : Option zV → zM → Prop} (e1 : ρ 0 31 = nI a)
    (h1 : Q none (OM X 1 0 (zu ρ 0 31 (nI (a + 1))) l)) : Ev d c s 166 57 [some (zr (some (1, 0, 0))), some (zi (nI t)), some (zi (nI g)), some (zi (nI x)), none] [] (OM X 1 0 ρ l) Q := by
  refine Ew.ld f166_57 rfl rfl rfl rfl ?_
  refine Ew.op (st' := zr (some (1, 0, 0)) :: zr (some (1, 0, 0)) :: _) f166_58 rfl rfl ?_
  refine Ew.getiV (v := nI a) f166_59 rfl (so_v e1) rfl ?_
  refine Ew.op (st' := zi (nI 1) :: _) f166_62 rfl rfl ?_
  refine Ew.addn f166_63 rfl ?_
  refine Ew.putiO f166_64 rfl rfl ?_
  refine Ew.goto f166_67 rfl ?_
  refine Ew.vret f166_178 ?_
  exact h1
theorem g166_89 {d c s : Nat} {t g x a : Nat} {L : List Nat} {X : zM} {ρ : Nat → Nat → Int32} {l : Nat → Nat → Int64} {Q : Option zV → zM → Prop} (e1 : ρ 0 31 = nI a)
    (b1 : t < 4)
    (b2 : tTxt ρ t L)
    (b3 : a + 2 < 4000)
    (h1 : Ev (d + 1) c s 166 105 [some (zr (some (1, 0, 0))), some (zi (nI t)), some (zi (nI g)), some (zi (nI x)), some (zi ((nI (L.getD (a + 2) 0)) - (nI 48)))] [] (OM X 1 0 ρ l) Q) : Ev (d + 1) c s 166 89 [some (zr (some (1, 0, 0))), some (zi (nI t)), some (zi (nI g)), some (zi (nI x)), none] [] (OM X 1 0 ρ l) Q := by
  refine Ew.ld f166_89 rfl rfl rfl rfl ?_
  refine Ew.ld f166_90 rfl rfl rfl rfl ?_
  refine Ew.ld f166_91 rfl rfl rfl rfl ?_
  refine Ew.getiV (v := nI a) f166_92 rfl (so_v e1) rfl ?_
  refine Ew.op (st' := zi (nI 2) :: _) f166_95 rfl rfl ?_
  refine Ew.addn f166_96 rfl ?_
  refine Ew.call0 (ls0 := [some (zr (some (1, 0, 0))), some (zi (nI t)), some (zi (nI (a + 2)))]) f166_97 rfl (Nat.le_of_ble_eq_true rfl) rfl rfl (Nat.le_of_ble_eq_true rfl) rfl (Nat.le_of_ble_eq_true rfl) rfl rfl ?_
  refine sp_letterAt b1 b2 b3 ?_
  show Ev (d + 1) c s 166 100 [some (zr (some (1, 0, 0))), some (zi (nI t)), some (zi (nI g)), some (zi (nI x)), none] [zi (nI (L.getD (a + 2) 0))] (OM X 1 0 ρ l) Q
  refine Ew.op (st' := zi (nI 48) :: _) f166_100 rfl rfl ?_
  refine Ew.op (st' := zi ((nI (L.getD (a + 2) 0)) - (nI 48)) :: _) f166_102 rfl rfl ?_
  refine Ew.sr (ls' := [some (zr (some (1, 0, 0))), some (zi (nI t)), some (zi (nI g)), some (zi (nI x)), some (zi ((nI (L.getD (a + 2) 0)) - (nI 48)))]) f166_103 rfl rfl (Nat.le_of_ble_eq_true rfl) rfl rfl ?_
  exact h1
theorem g166_105 {d c s : Nat} {t g x b : Nat} {X : zM} {ρ : Nat → Nat → Int32} {l : Nat → Nat → Int64} {Q : Option zV → zM → Prop} (nb_x : x < 5000)
    (h1 : (¬ x = 43) → Ev d 0 0 158 0 [some (zr (some (1, 0, 0))), some (zi (nI t)), some (zi (nI 2)), some (zi (nI g)), some (zi (-(nI b)))] [] (OM X 1 0 ρ l) (fun r M' => Ev (d + 1) c s 166 130 [some (zr (some (1, 0, 0))), some (zi (nI t)), some (zi (nI g)), some (zi (nI x)), some (zi (-(nI b)))] (zpush r []) M' Q))
    (h2 : (x = 43) → Ev d 0 0 158 0 [some (zr (some (1, 0, 0))), some (zi (nI t)), some (zi (nI 2)), some (zi (nI g)), some (zi (nI b))] [] (OM X 1 0 ρ l) (fun r M' => Ev (d + 1) c s 166 130 [some (zr (some (1, 0, 0))), some (zi (nI t)), some (zi (nI g)), some (zi (nI x)), some (zi (nI b))] (zpush r []) M' Q)) : Ev (d + 1) c s 166 105 [some (zr (some (1, 0, 0))), some (zi (nI t)), some (zi (nI g)), some (zi (nI x)), some (zi (nI b))] [] (OM X 1 0 ρ l) Q := by
  refine Ew.ld f166_105 rfl rfl rfl rfl ?_
  refine Ew.op (st' := zi (nI 43) :: _) f166_106 rfl rfl ?_
  refine Ew.icmp f166_108 rfl rfl (fun c1 => ?_) (fun c1 => ?_)
  · refine Ew.ld f166_116 rfl rfl rfl rfl ?_
    refine Ew.op (st' := zi (-(nI b)) :: _) f166_118 rfl rfl ?_
    refine Ew.sr (ls' := [some (zr (some (1, 0, 0))), some (zi (nI t)), some (zi (nI g)), some (zi (nI x)), some (zi (-(nI b)))]) f166_119 rfl rfl (Nat.le_of_ble_eq_true rfl) rfl rfl ?_
    refine Ew.ld f166_121 rfl rfl rfl rfl ?_
    refine Ew.ld f166_122 rfl rfl rfl rfl ?_
    refine Ew.op (st' := zi (nI 2) :: _) f166_123 rfl rfl ?_
    refine Ew.ld f166_124 rfl rfl rfl rfl ?_
    refine Ew.ld f166_125 rfl rfl rfl rfl ?_
    refine Ew.call0 (ls0 := [some (zr (some (1, 0, 0))), some (zi (nI t)), some (zi (nI 2)), some (zi (nI g)), some (zi (-(nI b)))]) f166_127 rfl (Nat.le_of_ble_eq_true rfl) rfl rfl (Nat.le_of_ble_eq_true rfl) rfl (Nat.le_of_ble_eq_true rfl) rfl rfl ?_
    exact h1 (fun e => c1 ((zeq nb_x (by decide)).mpr e))
  · refine Ew.ld f166_111 rfl rfl rfl rfl ?_
    refine Ew.goto f166_113 rfl ?_
    refine Ew.sr (ls' := [some (zr (some (1, 0, 0))), some (zi (nI t)), some (zi (nI g)), some (zi (nI x)), some (zi (nI b))]) f166_119 rfl rfl (Nat.le_of_ble_eq_true rfl) rfl rfl ?_
    refine Ew.ld f166_121 rfl rfl rfl rfl ?_
    refine Ew.ld f166_122 rfl rfl rfl rfl ?_
    refine Ew.op (st' := zi (nI 2) :: _) f166_123 rfl rfl ?_
    refine Ew.ld f166_124 rfl rfl rfl rfl ?_
    refine Ew.ld f166_125 rfl rfl rfl rfl ?_
    refine Ew.call0 (ls0 := [some (zr (some (1, 0, 0))), some (zi (nI t)), some (zi (nI 2)), some (zi (nI g)), some (zi (nI b))]) f166_127 rfl (Nat.le_of_ble_eq_true rfl) rfl rfl (Nat.le_of_ble_eq_true rfl) rfl (Nat.le_of_ble_eq_true rfl) rfl rfl ?_
    exact h2 ((zeq nb_x (by decide)).mp (Classical.not_not.mp c1))
theorem g166_130 {d c s : Nat} {t g x u m a : Nat} {b : Int32} {X : zM} {ρ : Nat → Nat → Int32} {l : Nat → Nat → Int64} {Q : Option zV → zM → Prop} (e1 : ρ 0 21 = nI u) (e2 : ρ 0 29 = nI m) (e3 : ρ 0 31 = nI a) (nb_u : u < 5000)
    (h1 : (¬ u = 0) → Q none (OM X 1 0 (zu ρ 0 31 (nI (a + 3))) l))
    (b1 : (u = 0) → m < 31)
    (b2 : (u = 0) → m < 31)
    (h2 : (u = 0) → Q none (OM X 1 0 (zu (zu (zu (zu ρ 23 m (nI g)) 24 m b) 0 29 (nI (m + 1))) 0 31 (((zu (zu (zu ρ 23 m (nI g)) 24 m b) 0 29 (nI (m + 1))) 0 31) + (nI 3))) l)) : Ev d c s 166 130 [some (zr (some (1, 0, 0))), some (zi (nI t)), some (zi (nI g)), some (zi (nI x)), some (zi b)] [] (OM X 1 0 ρ l) Q := by
  refine Ew.ld f166_130 rfl rfl rfl rfl ?_
  refine Ew.getbV (v := nI u) f166_131 rfl (so_v e1) rfl ?_
  refine Ew.ifc f166_134 rfl rfl (fun c1 => ?_) (fun c1 => ?_)
  · refine Ew.ld f166_168 rfl rfl rfl rfl ?_
    refine Ew.op (st' := zr (some (1, 0, 0)) :: zr (some (1, 0, 0)) :: _) f166_169 rfl rfl ?_
    refine Ew.getiV (v := nI a) f166_170 rfl (so_v e3) rfl ?_
    refine Ew.op (st' := zi (nI 3) :: _) f166_173 rfl rfl ?_
    refine Ew.addn f166_174 rfl ?_
    refine Ew.putiO f166_175 rfl rfl ?_
    refine Ew.vret f166_178 ?_
    exact h1 (fun e => c1 ((zeq nb_u (by decide)).mpr e))
  · refine Ew.ld f166_137 rfl rfl rfl rfl ?_
    refine Ew.getp (v := some (1, 0, 23)) f166_138 rfl rfl rfl ?_
    refine Ew.ld f166_141 rfl rfl rfl rfl ?_
    refine Ew.getiV (v := nI m) f166_142 rfl (so_v e2) rfl ?_
    refine Ew.ld f166_145 rfl rfl rfl rfl ?_
    refine Ew.iastnO f166_146 (by decide) rfl (b1 ((zeq nb_u (by decide)).mp (Classical.not_not.mp c1))) (Nat.le_of_ble_eq_true rfl) rfl ?_
    refine Ew.ld f166_147 rfl rfl rfl rfl ?_
    refine Ew.getp (v := some (1, 0, 24)) f166_148 rfl rfl rfl ?_
    refine Ew.ld f166_151 rfl rfl rfl rfl ?_
    refine Ew.getiV (v := nI m) f166_152 rfl (so_v e2) rfl ?_
    refine Ew.ld f166_155 rfl rfl rfl rfl ?_
    refine Ew.iastnO f166_157 (by decide) rfl (b2 ((zeq nb_u (by decide)).mp (Classical.not_not.mp c1))) (Nat.le_of_ble_eq_true rfl) rfl ?_
    refine Ew.ld f166_158 rfl rfl rfl rfl ?_
    refine Ew.op (st' := zr (some (1, 0, 0)) :: zr (some (1, 0, 0)) :: _) f166_159 rfl rfl ?_
    refine Ew.getiV (v := nI m) f166_160 rfl (so_v e2) rfl ?_
    refine Ew.op (st' := zi (nI 1) :: _) f166_163 rfl rfl ?_
    refine Ew.addn f166_164 rfl ?_
    refine Ew.putiO f166_165 rfl rfl ?_
    refine Ew.ld f166_168 rfl rfl rfl rfl ?_
    refine Ew.op (st' := zr (some (1, 0, 0)) :: zr (some (1, 0, 0)) :: _) f166_169 rfl rfl ?_
    refine Ew.getiO f166_170 rfl rfl ?_
    refine Ew.op (st' := zi (nI 3) :: _) f166_173 rfl rfl ?_
    refine Ew.op (st' := zi (((zu (zu (zu ρ 23 m (nI g)) 24 m b) 0 29 (nI (m + 1))) 0 31) + (nI 3)) :: _) f166_174 rfl rfl ?_
    refine Ew.putiO f166_175 rfl rfl ?_
    refine Ew.vret f166_178 ?_
    exact h2 ((zeq nb_u (by decide)).mp (Classical.not_not.mp c1))
theorem pPut_c10 (s : pS) (k g : Nat) (b : Int32) (h : s.2.1 10 ≤ 1) : (pPut s k g b).2.1 10 ≤ 1 := by
  unfold pPut
  split
  · show zup s.2.1 10 1 10 ≤ 1
    rw [zup_s]
    decide
  · exact h
theorem sp_visits {d c s t G a g : Nat} {L : List Nat} {X : zM} {ρ0 : Nat → Nat → Int32} {l : Nat → Nat → Int64} {Q : Option zV → zM → Prop} (ht : t < 4) (hL : tTxt ρ0 t L) (h127 : ∀ x, x ∈ L → x < 127) (hG : ρ0 1 0 = nI G) (hG64 : G < 64) (hg : g < 6) {w : Nat × Int32} {st : List mF} {s1 : pS} {ρ : Nat → Nat → Int32} (h : mR ρ0 t ρ (s1, st, a, w)) (ha : a ≤ 100) (h10 : s1.2.1 10 = 0) (hc : mCs s1.2.1 st) (hf : ∀ x, x ∈ st → mFo L x) (hn : s1.2.2.length ≤ s1.1.1) (h6 : L.getD (a + 1) 0 = 40 → st.length < 6) (h48 : ¬ L.getD (a + 1) 0 = 40 → 48 ≤ L.getD (a + 2) 0) (k : ∀ ρ', mR ρ0 t ρ' (mVis L G a g s1 st w) → Q none (OM X 1 0 ρ' l)) : Ev (d + 3) c s 166 0 [some (zr (some (1, 0, 0))), some (zi (nI t)), some (zi (nI g)), none, none] [] (OM X 1 0 ρ l) Q := by
  have hT := tTxt_mR h hL
  have e31 : ρ 0 31 = nI a := h.2.2.2.2.1.1
  have e25 : ρ 25 g = nI (s1.2.1 g) := h.2.1.1 g hg
  have eG : ρ 1 0 = nI G := (h.2.2.2.2.2 1 0 (by unfold mScr; omega)).trans hG
  have hcg : s1.2.1 g ≤ 6 ∧ s1.2.1 6 ≤ 6 := by
    have := mCg_le g st
    have := hc.1 g hg
    have := hc.2.1
    have : st.length ≤ 6 := h.2.2.2.1.2.1
    omega
  unfold mVis at k
  refine g166_0 e31 ht hT (by omega) ?_
  have hx := L127 h127 (a + 1)
  refine g166_12 e31 e25 (by omega) (by omega) (fun _ => hg) (fun x40 u0 => ?_) (fun x40 u0 => ?_) (fun x40 hb => ?_) (fun x40 hb => ?_)
  · rw [if_neg x40, if_neg u0] at k
    refine g166_89 e31 ht hT (by omega) ?_
    rw [pk_sub (h48 x40)]
    have fin : ∀ b ρ1, b = mBy L a → mR ρ0 t ρ1 (pPut s1 2 g b, st, a, w) → Ev (d + 3) c s 166 130 [some (zr (some (1, 0, 0))), some (zi (nI t)), some (zi (nI g)), some (zi (nI (L.getD (a + 1) 0))), some (zi b)] [] (OM X 1 0 ρ1 l) Q := by
      intro b ρ1 hb h1
      subst hb
      have hu : (pPut s1 2 g (mBy L a)).2.2 = s1.2.2 := pPut_un _ _ _ _
      have e29 : ρ1 0 29 = nI s1.2.2.length := by rw [← hu]; exact h1.2.2.1.1
      have h30 : s1.2.2.length ≤ 30 := h.2.2.1.2.1
      have hc1 := pPut_c10 s1 2 g (mBy L a) (by omega)
      refine g166_130 (u := (pPut s1 2 g (mBy L a)).2.1 10) (m := s1.2.2.length) (a := a) h1.2.1.2.2.2.2.2 e29 h1.2.2.2.2.1.1 (by omega) (fun g0 => ?_) (fun _ => by omega) (fun _ => by omega) (fun g0 => ?_)
      · rw [if_neg g0] at k
        exact k _ (h1.at (a + 3))
      · rw [if_pos g0] at k
        have hlt : s1.2.2.length < 30 := by
          by_cases hh : 30 ≤ s1.1.1
          · rw [pPut_o hh] at g0
            have g0 : zup s1.2.1 10 1 10 = 0 := g0
            rw [zup_s] at g0
            exact absurd g0 (by decide)
          · omega
        have h2 := (h1.push (by show (pPut s1 2 g (mBy L a)).2.2.length < 30; rw [hu]; exact hlt) g (mBy L a)).at (a + 3)
        rw [zu_i_ne (by omega), zu_i_ne (by omega), zu_i_ne (by omega), h1.2.2.2.2.1.1, nI_add]
        rw [hu] at h2
        exact k _ h2
    refine g166_105 (by omega) (fun e43 => sp_writes ht h (fun ρ1 h1 _ => fin _ ρ1 ?_ h1)) (fun e43 => sp_writes ht h (fun ρ1 h1 _ => fin _ ρ1 ?_ h1))
    · unfold mBy; rw [if_neg e43]
    · unfold mBy; rw [if_pos e43]
  · rw [if_neg x40, if_pos u0] at k
    exact sp_breaks ht hL h127 h hc hf (fun ρ1 h1 => g166_86 (k ρ1 h1))
  · rw [eG] at hb
    rw [if_pos x40, if_neg (fun e => hb ((zhas6 hg hG64).mpr e))] at k
    refine sp_enters ht hg (h.at (a + 1)) (h6 x40) hcg.1 hcg.2 hc.2.2 (fun ρ1 h1 => ?_)
    exact g166_57 (a := a + 1) h1.2.2.2.2.1.1 (k _ (h1.at (a + 2)))
  · rw [eG] at hb
    rw [if_pos x40, if_pos ((zhas6 hg hG64).mp hb)] at k
    exact sp_breaks ht hL h127 h hc hf (fun ρ1 h1 => g166_38 (k ρ1 h1))
theorem g167_0 {d c s : Nat} {t x o : Nat} {X : zM} {ρ : Nat → Nat → Int32} {l : Nat → Nat → Int64} {Q : Option zV → zM → Prop} (e1 : ρ 0 26 = nI o)
    (h1 : Ev d c s 167 10 [some (zr (some (1, 0, 0))), some (zi (nI t)), some (zi (nI x)), none] [] (OM X 1 0 (zu ρ 0 26 ((nI o) - (nI 1))) l) Q) : Ev d c s 167 0 [some (zr (some (1, 0, 0))), some (zi (nI t)), some (zi (nI x)), none] [] (OM X 1 0 ρ l) Q := by
  refine Ew.ld f167_0 rfl rfl rfl rfl ?_
  refine Ew.op (st' := zr (some (1, 0, 0)) :: zr (some (1, 0, 0)) :: _) f167_1 rfl rfl ?_
  refine Ew.getiV (v := nI o) f167_2 rfl (so_v e1) rfl ?_
  refine Ew.op (st' := zi (nI 1) :: _) f167_5 rfl rfl ?_
  refine Ew.op (st' := zi ((nI o) - (nI 1)) :: _) f167_6 rfl rfl ?_
  refine Ew.putiO f167_7 rfl rfl ?_
  exact h1
theorem g167_10 {d c s : Nat} {t x o m a : Nat} {X : zM} {ρ : Nat → Nat → Int32} {l : Nat → Nat → Int64} {Q : Option zV → zM → Prop} (e1 : ρ 0 26 = nI o) (e2 : ρ 22 o = nI m) (e3 : ρ 0 31 = nI a) (nb_x : x < 5000)
    (h1 : (¬ x = 41) → (¬ x = 93) → Ev d c s 167 84 [some (zr (some (1, 0, 0))), some (zi (nI t)), some (zi (nI x)), none] [] (OM X 1 0 ρ l) Q)
    (h2 : (¬ x = 41) → (x = 93) → Q none (OM X 1 0 (zu ρ 0 31 (nI (a + 1))) l))
    (b1 : (x = 41) → o < 6)
    (h3 : (x = 41) → Ev d c s 167 26 [some (zr (some (1, 0, 0))), some (zi (nI t)), some (zi (nI x)), some (zi (nI m))] [] (OM X 1 0 ρ l) Q) : Ev d c s 167 10 [some (zr (some (1, 0, 0))), some (zi (nI t)), some (zi (nI x)), none] [] (OM X 1 0 ρ l) Q := by
  refine Ew.ld f167_10 rfl rfl rfl rfl ?_
  refine Ew.op (st' := zi (nI 41) :: _) f167_11 rfl rfl ?_
  refine Ew.icmp f167_13 rfl rfl (fun c1 => ?_) (fun c1 => ?_)
  · refine Ew.ld f167_65 rfl rfl rfl rfl ?_
    refine Ew.op (st' := zi (nI 93) :: _) f167_66 rfl rfl ?_
    refine Ew.icmp f167_68 rfl rfl (fun c2 => ?_) (fun c2 => ?_)
    · exact h1 (fun e => c1 ((zeq nb_x (by decide)).mpr e)) (fun e => c2 ((zeq nb_x (by decide)).mpr e))
    · refine Ew.ld f167_71 rfl rfl rfl rfl ?_
      refine Ew.op (st' := zr (some (1, 0, 0)) :: zr (some (1, 0, 0)) :: _) f167_72 rfl rfl ?_
      refine Ew.getiV (v := nI a) f167_73 rfl (so_v e3) rfl ?_
      refine Ew.op (st' := zi (nI 1) :: _) f167_76 rfl rfl ?_
      refine Ew.addn f167_77 rfl ?_
      refine Ew.putiO f167_78 rfl rfl ?_
      refine Ew.goto f167_81 rfl ?_
      refine Ew.vret f167_147 ?_
      exact h2 (fun e => c1 ((zeq nb_x (by decide)).mpr e)) ((zeq nb_x (by decide)).mp (Classical.not_not.mp c2))
  · refine Ew.ld f167_16 rfl rfl rfl rfl ?_
    refine Ew.getp (v := some (1, 0, 22)) f167_17 rfl rfl rfl ?_
    refine Ew.ld f167_20 rfl rfl rfl rfl ?_
    refine Ew.getiV (v := nI o) f167_21 rfl (so_v e1) rfl ?_
    refine Ew.ialdnV (v := nI m) f167_24 rfl (b1 ((zeq nb_x (by decide)).mp (Classical.not_not.mp c1))) (Nat.le_of_ble_eq_true rfl) rfl (so_v e2) ?_
    refine Ew.sr (ls' := [some (zr (some (1, 0, 0))), some (zi (nI t)), some (zi (nI x)), some (zi (nI m))]) f167_25 rfl rfl (Nat.le_of_ble_eq_true rfl) rfl rfl ?_
    exact h3 ((zeq nb_x (by decide)).mp (Classical.not_not.mp c1))
theorem g167_26 {d c s : Nat} {t x k m : Nat} {X : zM} {ρ : Nat → Nat → Int32} {l : Nat → Nat → Int64} {Q : Option zV → zM → Prop} (e1 : ρ 0 29 = nI m) (nb_k : k < 5000) (nb_m : m < 5000)
    (h1 : (m ≤ k) → Ev d 0 0 161 0 [some (zr (some (1, 0, 0))), some (zi (nI t))] [] (OM X 1 0 ρ l) (fun r M' => Ev (d + 1) c s 167 52 [some (zr (some (1, 0, 0))), some (zi (nI t)), some (zi (nI x)), some (zi (nI k))] (zpush r []) M' Q))
    (b1 : (k < m) → k < 31)
    (h2 : (k < m) → Ev (d + 1) c s 167 26 [some (zr (some (1, 0, 0))), some (zi (nI t)), some (zi (nI x)), some (zi (nI (k + 1)))] [] (OM X 1 0 (zu ρ 24 k (nI 0)) l) Q) : Ev (d + 1) c s 167 26 [some (zr (some (1, 0, 0))), some (zi (nI t)), some (zi (nI x)), some (zi (nI k))] [] (OM X 1 0 ρ l) Q := by
  refine Ew.ld f167_26 rfl rfl rfl rfl ?_
  refine Ew.ld f167_27 rfl rfl rfl rfl ?_
  refine Ew.getiV (v := nI m) f167_28 rfl (so_v e1) rfl ?_
  refine Ew.icmp f167_31 rfl rfl (fun c1 => ?_) (fun c1 => ?_)
  · refine Ew.ld f167_47 rfl rfl rfl rfl ?_
    refine Ew.ld f167_48 rfl rfl rfl rfl ?_
    refine Ew.call0 (ls0 := [some (zr (some (1, 0, 0))), some (zi (nI t))]) f167_49 rfl (Nat.le_of_ble_eq_true rfl) rfl rfl (Nat.le_of_ble_eq_true rfl) rfl (Nat.le_of_ble_eq_true rfl) rfl rfl ?_
    exact h1 ((zle_iff nb_m nb_k).mp c1)
  · refine Ew.ld f167_34 rfl rfl rfl rfl ?_
    refine Ew.getp (v := some (1, 0, 24)) f167_35 rfl rfl rfl ?_
    refine Ew.ld f167_38 rfl rfl rfl rfl ?_
    refine Ew.op (st' := zi (nI 0) :: _) f167_39 rfl rfl ?_
    refine Ew.iastnO f167_40 (by decide) rfl (b1 (Nat.not_le.mp fun e => c1 ((zle_iff nb_m nb_k).mpr e))) (Nat.le_of_ble_eq_true rfl) rfl ?_
    refine Ew.iinc (v := nI (k + 1)) (ls' := [some (zr (some (1, 0, 0))), some (zi (nI t)), some (zi (nI x)), some (zi (nI (k + 1)))]) f167_41 rfl (nI_1 _) rfl rfl ?_
    refine Ew.goto f167_44 rfl ?_
    exact h2 (Nat.not_le.mp fun e => c1 ((zle_iff nb_m nb_k).mpr e))
theorem g167_52 {d c s : Nat} {t x k a : Nat} {X : zM} {ρ : Nat → Nat → Int32} {l : Nat → Nat → Int64} {Q : Option zV → zM → Prop} (e3 : ρ 0 31 = nI a)
    (h1 : Q none (OM X 1 0 (zu ρ 0 31 (nI (a + 1))) l)) : Ev d c s 167 52 [some (zr (some (1, 0, 0))), some (zi (nI t)), some (zi (nI x)), some (zi (nI k))] [] (OM X 1 0 ρ l) Q := by
  refine Ew.ld f167_52 rfl rfl rfl rfl ?_
  refine Ew.op (st' := zr (some (1, 0, 0)) :: zr (some (1, 0, 0)) :: _) f167_53 rfl rfl ?_
  refine Ew.getiV (v := nI a) f167_54 rfl (so_v e3) rfl ?_
  refine Ew.op (st' := zi (nI 1) :: _) f167_57 rfl rfl ?_
  refine Ew.addn f167_58 rfl ?_
  refine Ew.putiO f167_59 rfl rfl ?_
  refine Ew.goto f167_62 rfl ?_
  refine Ew.vret f167_147 ?_
  exact h1
theorem g167_84 {d c s : Nat} {t x o w : Nat} {X : zM} {ρ : Nat → Nat → Int32} {l : Nat → Nat → Int64} {Q : Option zV → zM → Prop} (e1 : ρ 0 26 = nI o) (e2 : ρ 21 o = nI w)
    (b1 : o < 6)
    (b2 : o < 6)
    (h1 : Ev d c s 167 97 [some (zr (some (1, 0, 0))), some (zi (nI t)), some (zi (nI x)), none] [] (OM X 1 0 (zu ρ 21 o ((nI w) - (nI 1))) l) Q) : Ev d c s 167 84 [some (zr (some (1, 0, 0))), some (zi (nI t)), some (zi (nI x)), none] [] (OM X 1 0 ρ l) Q := by
  refine Ew.ld f167_84 rfl rfl rfl rfl ?_
  refine Ew.getp (v := some (1, 0, 21)) f167_85 rfl rfl rfl ?_
  refine Ew.ld f167_88 rfl rfl rfl rfl ?_
  refine Ew.getiV (v := nI o) f167_89 rfl (so_v e1) rfl ?_
  refine Ew.op (st' := zi (nI o) :: zr (some (1, 0, 21)) :: zi (nI o) :: zr (some (1, 0, 21)) :: _) f167_92 rfl rfl ?_
  refine Ew.ialdnV (v := nI w) f167_93 rfl b1 (Nat.le_of_ble_eq_true rfl) rfl (so_v e2) ?_
  refine Ew.op (st' := zi (nI 1) :: _) f167_94 rfl rfl ?_
  refine Ew.op (st' := zi ((nI w) - (nI 1)) :: _) f167_95 rfl rfl ?_
  refine Ew.iastnO f167_96 (by decide) rfl b2 (Nat.le_of_ble_eq_true rfl) rfl ?_
  exact h1
theorem g167_97 {d c s : Nat} {t x o w a b : Nat} {X : zM} {ρ : Nat → Nat → Int32} {l : Nat → Nat → Int64} {Q : Option zV → zM → Prop} (e1 : ρ 0 26 = nI o) (e2 : ρ 21 o = nI w) (e3 : ρ 20 o = nI b) (e4 : ρ 0 31 = nI a) (nb_w : w < 5000)
    (b1 : o < 6)
    (h1 : (w ≤ 0) → Q none (OM X 1 0 (zu ρ 0 31 (nI (a + 1))) l))
    (b2 : (0 < w) → o < 6)
    (h2 : (0 < w) → Q none (OM X 1 0 (zu (zu ρ 0 31 (nI (b + 1))) 0 26 (((zu ρ 0 31 (nI (b + 1))) 0 26) + (nI 1))) l)) : Ev d c s 167 97 [some (zr (some (1, 0, 0))), some (zi (nI t)), some (zi (nI x)), none] [] (OM X 1 0 ρ l) Q := by
  refine Ew.ld f167_97 rfl rfl rfl rfl ?_
  refine Ew.getp (v := some (1, 0, 21)) f167_98 rfl rfl rfl ?_
  refine Ew.ld f167_101 rfl rfl rfl rfl ?_
  refine Ew.getiV (v := nI o) f167_102 rfl (so_v e1) rfl ?_
  refine Ew.ialdnV (v := nI w) f167_105 rfl b1 (Nat.le_of_ble_eq_true rfl) rfl (so_v e2) ?_
  refine Ew.ifc f167_106 rfl rfl (fun c1 => ?_) (fun c1 => ?_)
  · refine Ew.ld f167_137 rfl rfl rfl rfl ?_
    refine Ew.op (st' := zr (some (1, 0, 0)) :: zr (some (1, 0, 0)) :: _) f167_138 rfl rfl ?_
    refine Ew.getiV (v := nI a) f167_139 rfl (so_v e4) rfl ?_
    refine Ew.op (st' := zi (nI 1) :: _) f167_142 rfl rfl ?_
    refine Ew.addn f167_143 rfl ?_
    refine Ew.putiO f167_144 rfl rfl ?_
    refine Ew.vret f167_147 ?_
    exact h1 ((zle_iff nb_w (by decide)).mp c1)
  · refine Ew.ld f167_109 rfl rfl rfl rfl ?_
    refine Ew.ld f167_110 rfl rfl rfl rfl ?_
    refine Ew.getp (v := some (1, 0, 20)) f167_111 rfl rfl rfl ?_
    refine Ew.ld f167_114 rfl rfl rfl rfl ?_
    refine Ew.getiV (v := nI o) f167_115 rfl (so_v e1) rfl ?_
    refine Ew.ialdnV (v := nI b) f167_118 rfl (b2 (Nat.not_le.mp fun e => c1 ((zle_iff nb_w (by decide)).mpr e))) (Nat.le_of_ble_eq_true rfl) rfl (so_v e3) ?_
    refine Ew.op (st' := zi (nI 1) :: _) f167_119 rfl rfl ?_
    refine Ew.addn f167_120 rfl ?_
    refine Ew.putiO f167_121 rfl rfl ?_
    refine Ew.ld f167_124 rfl rfl rfl rfl ?_
    refine Ew.op (st' := zr (some (1, 0, 0)) :: zr (some (1, 0, 0)) :: _) f167_125 rfl rfl ?_
    refine Ew.getiO f167_126 rfl rfl ?_
    refine Ew.op (st' := zi (nI 1) :: _) f167_129 rfl rfl ?_
    refine Ew.op (st' := zi (((zu ρ 0 31 (nI (b + 1))) 0 26) + (nI 1)) :: _) f167_130 rfl rfl ?_
    refine Ew.putiO f167_131 rfl rfl ?_
    refine Ew.goto f167_134 rfl ?_
    refine Ew.vret f167_147 ?_
    exact h2 (Nat.not_le.mp fun e => c1 ((zle_iff nb_w (by decide)).mpr e))
theorem mAds_seal {ρ ρ' : Nat → Nat → Int32} {m : Nat} : ∀ {u : List (Nat × Int32)}, (∀ k, k < u.length → ρ' 23 k = ρ 23 k ∧ ρ' 24 k = if m ≤ k then 0 else ρ 24 k) → mAds ρ u → mAds ρ' (mSeal u m) := by
  intro u
  induction u with
  | nil => intro _ _; trivial
  | cons x u ih =>
    intro h hu
    unfold mSeal
    by_cases hm : m < u.length + 1
    · rw [if_pos hm]
      obtain ⟨e1, e2⟩ := h u.length (by rw [List.length_cons]; omega)
      rw [if_pos (by omega)] at e2
      refine ⟨?_, ?_, ih (fun k hk => h k (by rw [List.length_cons]; omega)) hu.2.2⟩
      · rw [mSeal_len]; exact e1.trans hu.1
      · rw [mSeal_len]; exact e2
    · rw [if_neg hm]
      refine mAds_ext (fun k hk => ?_) hu
      obtain ⟨e1, e2⟩ := h k hk
      rw [List.length_cons] at hk
      rw [if_neg (by omega)] at e2
      exact ⟨e1, e2⟩
/-- all but what was added -/
theorem mR.adds {ρ0 ρ ρ' : Nat → Nat → Int32} {t : Nat} {s : pS} {y : List mF × Nat × (Nat × Int32)} (h : mR ρ0 t ρ (s, y)) {u : List (Nat × Int32)} (hu : mAds ρ' u) (hl : u.length = s.2.2.length) (hf : ∀ q i, ¬ q = 24 → ρ' q i = ρ q i) : mR ρ0 t ρ' ((s.1, s.2.1, u), y) := by
  obtain ⟨⟨s1, s2, s3⟩, ⟨c1, c2, c3, c4, c5, c6⟩, ⟨a1, a2, a3⟩, ⟨o1, o2, o3⟩, ⟨w1, w2, w3⟩, fr⟩ := h
  refine ⟨⟨?_, s2, fun k hk => ?_⟩, ⟨fun i hi => ?_, ?_, ?_, ?_, ?_, ?_⟩, ⟨?_, by show u.length ≤ 30; rw [hl]; exact a2, hu⟩, ⟨?_, o2, mStk_ext (fun k hk => ⟨?_, ?_, ?_, ?_⟩) o3⟩, ⟨?_, ?_, ?_⟩, fun q i hq => ?_⟩
  case refine_2 =>
    rw [hf _ _ (by omega), hf _ _ (by omega), hf _ _ (by omega)]
    exact s3 k hk
  case refine_9 =>
    rw [hf _ _ (by omega)]
    show _ = nI u.length
    rw [hl]
    exact a1
  all_goals first
    | (rw [hf _ _ (by omega)]; first | assumption | exact c1 i hi | done)
    | (rw [hf _ _ (by unfold mScr at hq; omega)]; exact fr q i hq)
theorem sp_shuts {d c s t a x : Nat} {L : List Nat} {X : zM} {ρ0 : Nat → Nat → Int32} {l : Nat → Nat → Int64} {Q : Option zV → zM → Prop} (ht : t < 4) {w : Nat × Int32} {f : mF} {u : List mF} {s1 : pS} {ρ : Nat → Nat → Int32} (h : mR ρ0 t ρ (s1, f :: u, a, w)) (hx : x < 5000) (hc : mCs s1.2.1 (f :: u)) (hf : mFo L f) (h41 : x = 41 → f.1 = 0) (h125 : ¬ x = 41 → ¬ x = 93 → f.1 = 2) (k : ∀ ρ', mR ρ0 t ρ' (mShuts x s1 (f :: u) a w) → Q none (OM X 1 0 ρ' l)) : Ev (d + 2) c s 167 0 [some (zr (some (1, 0, 0))), some (zi (nI t)), some (zi (nI x)), none] [] (OM X 1 0 ρ l) Q := by
  have hs : mStk ρ (f :: u) := h.2.2.2.1.2.2
  have h6 : u.length + 1 ≤ 6 := h.2.2.2.1.2.1
  have hl30 : s1.2.2.length ≤ 30 := h.2.2.1.2.1
  refine g167_0 (o := u.length + 1) h.2.2.2.1.1 ?_
  rw [pk_sub (by omega), Nat.add_sub_cancel]
  have h1 : mR ρ0 t (zu ρ 0 26 (nI u.length)) (s1, u, a, w) := h.cut (by omega) hs.2.2.2.2 rfl
  have hk1 : mKp ρ (zu ρ 0 26 (nI u.length)) := fun q i b1 b2 => zu_i_ne (by omega)
  have k : ∀ ρ', mR ρ0 t ρ' (if x = 41 then (pLeave (s1.1, s1.2.1, mSeal s1.2.2 f.2.2.2) f.2.2.1, u, a + 1, w) else if x = 93 then (s1, u, a + 1, w) else if 1 < f.2.2.1 then (s1, (f.1, f.2.1, f.2.2.1 - 1, f.2.2.2) :: u, f.2.1 + 1, w) else (s1, u, a + 1, w)) → Q none (OM X 1 0 ρ' l) := k
  refine g167_10 (o := u.length) (m := f.2.2.2) (a := a) h1.2.2.2.1.1 (by rw [hk1 _ _ (by decide) (by decide)]; exact hs.2.2.2.1) h1.2.2.2.2.1.1 hx (fun e1 e2 => ?_) (fun e1 e2 => ?_) (fun _ => by omega) (fun e1 => ?_)
  · rw [if_neg e1, if_neg e2] at k
    have hb := hf.2.2.2.2.1 (h125 e1 e2)
    refine g167_84 (o := u.length) (w := f.2.2.1) h1.2.2.2.1.1 (by rw [hk1 _ _ (by decide) (by decide)]; exact hs.2.2.1) (by omega) (by omega) ?_
    rw [pk_sub (by omega)]
    have h2 : mR ρ0 t (zu (zu ρ 0 26 (nI u.length)) 21 u.length (nI (f.2.2.1 - 1))) (s1, u, a, w) := by
      obtain ⟨⟨s1', s2, s3⟩, ⟨c1, c2, c3, c4, c5, c6⟩, ⟨a1, a2, a3⟩, ⟨o1, o2, o3⟩, ⟨w1, w2, w3⟩, fr⟩ := h1
      refine ⟨⟨?_, s2, fun k hk => ?_⟩, ⟨fun i hi => ?_, ?_, ?_, ?_, ?_, ?_⟩, ⟨?_, a2, mAds_ext (fun k hk => ⟨?_, ?_⟩) a3⟩, ⟨?_, o2, mStk_ext (fun k (hk : k < u.length) => ⟨?_, ?_, ?_, ?_⟩) o3⟩, ⟨?_, ?_, ?_⟩, fun q i hq => ?_⟩
      case refine_2 =>
        rw [zu_i_ne (q := 21) (by omega), zu_i_ne (q := 21) (by omega), zu_i_ne (q := 21) (by omega)]
        exact s3 k hk
      all_goals first
        | (rw [zu_i_ne (q := 21) (by omega)]; first | assumption | exact c1 i hi | done)
        | (rw [zu_i_ne (q := 21) (by unfold mScr at hq; omega)]; exact fr q i hq)
    have e26 : zu (zu ρ 0 26 (nI u.length)) 21 u.length (nI (f.2.2.1 - 1)) 0 26 = nI u.length := h2.2.2.2.1.1
    refine g167_97 (o := u.length) (w := f.2.2.1 - 1) (a := a) (b := f.2.1) e26 (zu_s _ _ _ _) (by rw [zu_i_ne (by omega), zu_i_ne (by omega)]; exact hs.2.1) h2.2.2.2.2.1.1 (by omega) (by omega) (fun g0 => ?_) (fun _ => by omega) (fun g0 => ?_)
    · rw [if_neg (by omega)] at k
      exact k _ (h2.at (a + 1))
    · rw [if_pos (by omega)] at k
      have h3 := h2.at (f.2.1 + 1)
      have e : zu (zu (zu ρ 0 26 (nI u.length)) 21 u.length (nI (f.2.2.1 - 1))) 0 31 (nI (f.2.1 + 1)) 0 26 = nI u.length := h3.2.2.2.1.1
      rw [e, nI_add]
      refine k _ (h3.cut (st' := (f.1, f.2.1, f.2.2.1 - 1, f.2.2.2) :: u) (by show u.length + 1 ≤ 6; omega) ⟨?_, ?_, ?_, ?_, h3.2.2.2.1.2.2⟩ rfl)
      · rw [zu_i_ne (by omega), zu_i_ne (by omega), zu_i_ne (by omega)]; exact hs.1
      · rw [zu_i_ne (by omega), zu_i_ne (by omega), zu_i_ne (by omega)]; exact hs.2.1
      · rw [zu_i_ne (by omega), zu_s]
      · rw [zu_i_ne (by omega), zu_i_ne (by omega), zu_i_ne (by omega)]; exact hs.2.2.2.1
  · rw [if_neg e1, if_pos e2] at k
    exact k _ (h1.at (a + 1))
  · rw [if_pos e1] at k
    have hg := hf.1 (h41 e1)
    obtain ⟨p1, p2, _⟩ := hc.pop (h41 e1) hg
    have hm30 := hf.2.2.2.2.2
    -- the loop that seals
    have loop : ∀ j q0 (ρ2 : Nat → Nat → Int32), s1.2.2.length ≤ q0 + j → q0 ≤ 60 → j ≤ 60 → f.2.2.2 ≤ q0 → (∀ q i, ¬ q = 24 → ρ2 q i = zu ρ 0 26 (nI u.length) q i) → (∀ i, i < s1.2.2.length → ρ2 24 i = if f.2.2.2 ≤ i ∧ i < q0 then 0 else ρ 24 i) → Ev (d + 2) c s 167 26 [some (zr (some (1, 0, 0))), some (zi (nI t)), some (zi (nI x)), some (zi (nI q0))] [] (OM X 1 0 ρ2 l) Q := by
      intro j
      induction j with
      | zero =>
        intro q0 ρ2 hj hq0 _ hm hfr h24
        have h2 : mR ρ0 t ρ2 ((s1.1, s1.2.1, mSeal s1.2.2 f.2.2.2), u, a, w) := by
          refine h1.adds (mAds_seal (m := f.2.2.2) (ρ := zu ρ 0 26 (nI u.length)) (fun i hi => ⟨hfr _ _ (by decide), ?_⟩) h1.2.2.1.2.2) (mSeal_len _ _) hfr
          rw [h24 i hi, zu_i_ne (by omega)]
          by_cases e : f.2.2.2 ≤ i
          · rw [if_pos e, if_pos ⟨e, by omega⟩]
          · rw [if_neg e, if_neg (fun g => e g.1)]
        refine g167_26 (m := s1.2.2.length) (by rw [hfr _ _ (by decide)]; exact h1.2.2.1.1) (by omega) (by omega) (fun _ => ?_) (fun g => by omega) (fun g => by omega)
        refine sp_leaves ht hg h2 (show u.length < 6 by omega) (by rw [hfr _ _ (by decide), hk1 _ _ (by decide) (by decide)]; exact hs.2.2.1) p1 p2 (fun ρ3 h3 _ => ?_)
        exact g167_52 (a := a) h3.2.2.2.2.1.1 (k _ (h3.at (a + 1)))
      | succ j ih =>
        intro q0 ρ2 hj hq0 hj60 hm hfr h24
        by_cases hle : s1.2.2.length ≤ q0
        · have h2 : mR ρ0 t ρ2 ((s1.1, s1.2.1, mSeal s1.2.2 f.2.2.2), u, a, w) := by
            refine h1.adds (mAds_seal (m := f.2.2.2) (ρ := zu ρ 0 26 (nI u.length)) (fun i hi => ⟨hfr _ _ (by decide), ?_⟩) h1.2.2.1.2.2) (mSeal_len _ _) hfr
            rw [h24 i hi, zu_i_ne (by omega)]
            by_cases e : f.2.2.2 ≤ i
            · rw [if_pos e, if_pos ⟨e, by omega⟩]
            · rw [if_neg e, if_neg (fun g => e g.1)]
          refine g167_26 (m := s1.2.2.length) (by rw [hfr _ _ (by decide)]; exact h1.2.2.1.1) (by omega) (by omega) (fun _ => ?_) (fun g => by omega) (fun g => by omega)
          refine sp_leaves ht hg h2 (show u.length < 6 by omega) (by rw [hfr _ _ (by decide), hk1 _ _ (by decide) (by decide)]; exact hs.2.2.1) p1 p2 (fun ρ3 h3 _ => ?_)
          exact g167_52 (a := a) h3.2.2.2.2.1.1 (k _ (h3.at (a + 1)))
        · refine g167_26 (m := s1.2.2.length) (by rw [hfr _ _ (by decide)]; exact h1.2.2.1.1) (by omega) (by omega) (fun g => by omega) (fun _ => by omega) (fun _ => ?_)
          refine ih (q0 + 1) _ (by omega) (by omega) (by omega) (by omega) (fun q i hq => ?_) (fun i hi => ?_)
          · rw [zu_i_ne (by omega)]; exact hfr q i hq
          · by_cases e : i = q0
            · subst e
              rw [zu_s, if_pos (by omega)]
              rfl
            · rw [zu_i_ne (by omega), h24 i hi]
              by_cases e2 : f.2.2.2 ≤ i ∧ i < q0
              · rw [if_pos e2, if_pos (by omega)]
              · rw [if_neg e2, if_neg (by omega)]
    refine loop 30 f.2.2.2 _ (by omega) (by omega) (by omega) (by omega) (fun q i _ => rfl) (fun i hi => ?_)
    rw [if_neg (by omega), zu_i_ne (by omega)]
