/-! the reference: victims, turns -/
/-- how many bits, while the lowest is taken away -/
def rSzL : Nat → Int32 → Nat
  | 0, _ => 0
  | n + 1, x => if x = 0 then 0 else 1 + rSzL n (x &&& (x - nI 1))
def rEnd : Nat → Int32 → Prop
  | 0, x => x = 0
  | n + 1, x => x = 0 ∨ rEnd n (x &&& (x - nI 1))
def rSz (x : Int32) : Int32 := nI (rSzL 7 x)
theorem g153_0 {d c s : Nat} {x : Int32} {X : zM} {ρ : Nat → Nat → Int32} {l : Nat → Nat → Int64} {Q : Option zV → zM → Prop}
    (h1 : Ev d c s 153 4 [some (zi x), some (zi (nI 0)), some (zi x)] [] (OM X 1 0 ρ l) Q) : Ev d c s 153 0 [some (zi x), none, none] [] (OM X 1 0 ρ l) Q := by
  refine Ew.op (st' := zi (nI 0) :: _) f153_0 rfl rfl ?_
  refine Ew.sr (ls' := [some (zi x), some (zi (nI 0)), none]) f153_1 rfl rfl (Nat.le_of_ble_eq_true rfl) rfl rfl ?_
  refine Ew.ld f153_2 rfl rfl rfl rfl ?_
  refine Ew.sr (ls' := [some (zi x), some (zi (nI 0)), some (zi x)]) f153_3 rfl rfl (Nat.le_of_ble_eq_true rfl) rfl rfl ?_
  exact h1
theorem g153_4 {d c s : Nat} {n : Nat} {x y : Int32} {X : zM} {ρ : Nat → Nat → Int32} {l : Nat → Nat → Int64} {Q : Option zV → zM → Prop}
    (h1 : (x = 0) → Q (some (zi (nI n))) (OM X 1 0 ρ l))
    (h2 : (¬ x = 0) → Ev d c s 153 4 [some (zi y), some (zi (nI (n + 1))), some (zi (x &&& (x - (nI 1))))] [] (OM X 1 0 ρ l) Q) : Ev d c s 153 4 [some (zi y), some (zi (nI n)), some (zi x)] [] (OM X 1 0 ρ l) Q := by
  refine Ew.ld f153_4 rfl rfl rfl rfl ?_
  refine Ew.ifc f153_5 rfl rfl (fun c1 => ?_) (fun c1 => ?_)
  · refine Ew.ld f153_20 rfl rfl rfl rfl ?_
    refine Ew.ireti f153_21 ?_
    exact h1 c1
  · refine Ew.iinc (v := nI (n + 1)) (ls' := [some (zi y), some (zi (nI (n + 1))), some (zi x)]) f153_8 rfl (nI_1 _) rfl rfl ?_
    refine Ew.ld f153_11 rfl rfl rfl rfl ?_
    refine Ew.ld f153_12 rfl rfl rfl rfl ?_
    refine Ew.op (st' := zi (nI 1) :: _) f153_13 rfl rfl ?_
    refine Ew.op (st' := zi (x - (nI 1)) :: _) f153_14 rfl rfl ?_
    refine Ew.op (st' := zi (x &&& (x - (nI 1))) :: _) f153_15 rfl rfl ?_
    refine Ew.sr (ls' := [some (zi y), some (zi (nI (n + 1))), some (zi (x &&& (x - (nI 1))))]) f153_16 rfl rfl (Nat.le_of_ble_eq_true rfl) rfl rfl ?_
    refine Ew.goto f153_17 rfl ?_
    exact h2 c1
theorem sp_sizeOf {d c s : Nat} {x : Int32} {X : zM} {ρ : Nat → Nat → Int32} {l : Nat → Nat → Int64} {Q : Option zV → zM → Prop} (hx : rEnd 7 x) (k : Q (some (zi (rSz x))) (OM X 1 0 ρ l)) : Ev d c s 153 0 [some (zi x), none, none] [] (OM X 1 0 ρ l) Q := by
  refine g153_0 ?_
  have key : ∀ m n y, rEnd m y → Q (some (zi (nI (n + rSzL m y)))) (OM X 1 0 ρ l) → Ev d c s 153 4 [some (zi x), some (zi (nI n)), some (zi y)] [] (OM X 1 0 ρ l) Q := by
    intro m
    induction m with
    | zero =>
      intro n y hy hk
      have hy : y = 0 := hy
      subst hy
      apply g153_4 <;> intros <;> first | exact hk | (exact absurd rfl ‹_›)
    | succ m ih =>
      intro n y hy hk
      apply g153_4
      · intro h0
        subst h0
        exact hk
      · intro h0
        rcases hy with hy | hy
        · exact absurd hy h0
        · refine ih _ _ hy ?_
          simp only [rSzL, if_neg h0] at hk
          rw [show n + 1 + rSzL m (y &&& (y - nI 1)) = n + (1 + rSzL m (y &&& (y - nI 1))) by omega]
          exact hk
  refine key 7 0 x hx ?_
  rw [Nat.zero_add]
  exact k
/-- bits laid on one another -/
theorem zor {v g : Nat} (hg : g < 6) (hv : v < 2 ^ g) : nI v ||| (nI 1 <<< (nI g &&& 31)) = nI (v + 2 ^ g) := by
  have h : ∀ g, g < 6 → ∀ v, v < 2 ^ g → nI v ||| (nI 1 <<< (nI g &&& 31)) = nI (v + 2 ^ g) := by decide
  exact h g hg v hv
theorem zor0 (x : Int32) : x ||| nI 0 = x := Int32.or_zero
theorem rSetL_nat (ρ : Nat → Nat → Int32) (t n : Nat) : ∀ g, g ≤ 6 → ∃ v, v < 2 ^ g ∧ rSetL ρ t n g = nI v := by
  intro g
  induction g with
  | zero => intro _; exact ⟨0, by decide, rfl⟩
  | succ g ih =>
    intro hg
    obtain ⟨v, hv, e⟩ := ih (by omega)
    unfold rSetL
    rw [e]
    have h2 : 2 ^ (g + 1) = 2 ^ g + 2 ^ g := by rw [Nat.pow_succ]; omega
    split
    · exact ⟨v + 2 ^ g, by omega, zor (by omega) hv⟩
    · exact ⟨v, by omega, zor0 _⟩
theorem rEnd_nat : ∀ v, v < 64 → rEnd 7 (nI v) := by
  have h : ∀ v, v < 64 → (List.range 8).any (fun n => decide ((Nat.rec (motive := fun _ => Int32) (nI v) (fun _ y => y &&& (y - nI 1)) n : Int32) = 0)) = true := by decide
  intro v hv
  have key : ∀ m y, (∃ n, n ≤ m ∧ (Nat.rec (motive := fun _ => Int32) y (fun _ y => y &&& (y - nI 1)) n : Int32) = 0) → rEnd m y := by
    intro m
    induction m with
    | zero =>
      rintro y ⟨n, hn, e⟩
      have : n = 0 := by omega
      subst this
      exact e
    | succ m ih =>
      rintro y ⟨n, hn, e⟩
      cases n with
      | zero => exact Or.inl e
      | succ n =>
        refine Or.inr (ih _ ⟨n, by omega, ?_⟩)
        have comm : ∀ n y, (Nat.rec (motive := fun _ => Int32) (y &&& (y - nI 1)) (fun _ y => y &&& (y - nI 1)) n : Int32) = (Nat.rec (motive := fun _ => Int32) y (fun _ y => y &&& (y - nI 1)) (n + 1) : Int32) := by
          intro n
          induction n with
          | zero => intro y; rfl
          | succ n ih => intro y; show (fun y => y &&& (y - nI 1)) _ = (fun y => y &&& (y - nI 1)) _; rw [ih]
        rw [comm]
        exact e
  obtain ⟨n, hn, e⟩ := List.any_eq_true.mp (h v hv)
  exact key 7 _ ⟨n, by have := List.mem_range.mp hn; omega, of_decide_eq_true e⟩
theorem rEnd_set (ρ : Nat → Nat → Int32) (t n : Nat) : rEnd 7 (rSet ρ t n) := by
  obtain ⟨v, hv, e⟩ := rSetL_nat ρ t n 6 (Nat.le_refl 6)
  show rEnd 7 (rSetL ρ t n 6)
  rw [e]
  exact rEnd_nat v hv
theorem zn31 : ¬ nI 3 = nI 1 := by decide
theorem zn32 : ¬ nI 3 = nI 2 := by decide
def rWeight (ρ : Nat → Nat → Int32) (t : Nat) : Int32 := if ρ 1 1 = nI 1 then -(ρ 1 (10 + 4 * t + 2)) else if ρ 1 1 = nI 2 then ρ 1 (10 + 4 * t + 1) else if ρ 1 1 = nI 3 then rSz (rSet ρ t (rD ρ t)) else -(nI t)
theorem g198_0 {d c s : Nat} {t D : Nat} {X : zM} {ρ : Nat → Nat → Int32} {l : Nat → Nat → Int64} {Q : Option zV → zM → Prop} (hD : ρ 1 (10 + 4 * t + 1) = nI D)
    (b1 : ((ρ 1 1) = nI 1) → 10 + 4 * t + 2 < 270)
    (h1 : ((ρ 1 1) = nI 1) → Q (some (zi (-(ρ 1 (10 + 4 * t + 2))))) (OM X 1 0 ρ l))
    (b2 : (¬ (ρ 1 1) = nI 1) → ((ρ 1 1) = nI 2) → 10 + 4 * t + 1 < 270)
    (h2 : (¬ (ρ 1 1) = nI 1) → ((ρ 1 1) = nI 2) → Q (some (zi (nI D))) (OM X 1 0 ρ l))
    (b3 : (¬ (ρ 1 1) = nI 1) → (¬ (ρ 1 1) = nI 2) → ((ρ 1 1) = nI 3) → 10 + 4 * t + 1 < 270)
    (b4 : (¬ (ρ 1 1) = nI 1) → (¬ (ρ 1 1) = nI 2) → ((ρ 1 1) = nI 3) → t < 4)
    (b5 : (¬ (ρ 1 1) = nI 1) → (¬ (ρ 1 1) = nI 2) → ((ρ 1 1) = nI 3) → D ≤ 30)
    (b6 : (¬ (ρ 1 1) = nI 1) → (¬ (ρ 1 1) = nI 2) → ((ρ 1 1) = nI 3) → rEnd 7 (rSet ρ t D))
    (h3 : (¬ (ρ 1 1) = nI 1) → (¬ (ρ 1 1) = nI 2) → ((ρ 1 1) = nI 3) → Q (some (zi (rSz (rSet ρ t D)))) (OM X 1 0 ρ l))
    (h4 : (¬ (ρ 1 1) = nI 1) → (¬ (ρ 1 1) = nI 2) → (¬ (ρ 1 1) = nI 3) → Q (some (zi (-(nI t)))) (OM X 1 0 ρ l)) : Ev (d + 3) c s 198 0 [some (zr (some (1, 0, 0))), some (zi (nI t))] [] (OM X 1 0 ρ l) Q := by
  refine Ew.ld f198_0 rfl rfl rfl rfl ?_
  refine Ew.getp (v := some (1, 0, 1)) f198_1 rfl rfl rfl ?_
  refine Ew.op (st' := zi (nI 1) :: _) f198_4 rfl rfl ?_
  refine Ew.ialdnO f198_5 rfl (show 1 < 270 by decide) (Nat.le_of_ble_eq_true rfl) rfl ?_
  by_cases c1 : (ρ 1 1) = nI 1
  · refine Ew.tsw (pc' := 32) (x := (ρ 1 1)) f198_6 (by rw [c1] <;> rfl) ?_
    refine Ew.ld f198_32 rfl rfl rfl rfl ?_
    refine Ew.ld f198_33 rfl rfl rfl rfl ?_
    refine Ew.op (st' := zi (nI 2) :: _) f198_34 rfl rfl ?_
    refine Ew.call0 (ls0 := [some (zr (some (1, 0, 0))), some (zi (nI t)), some (zi (nI 2))]) f198_35 rfl (Nat.le_of_ble_eq_true rfl) rfl rfl (Nat.le_of_ble_eq_true rfl) rfl (Nat.le_of_ble_eq_true rfl) rfl rfl ?_
    refine Ew.ld f156_0 rfl rfl rfl rfl ?_
    refine Ew.getp (v := some (1, 0, 1)) f156_1 rfl rfl rfl ?_
    refine Ew.op (st' := zi (nI 10) :: _) f156_4 rfl rfl ?_
    refine Ew.op (st' := zi (nI 4) :: _) f156_6 rfl rfl ?_
    refine Ew.ld f156_7 rfl rfl rfl rfl ?_
    refine Ew.muln f156_8 rfl ?_
    refine Ew.addn f156_9 rfl ?_
    refine Ew.ld f156_10 rfl rfl rfl rfl ?_
    refine Ew.addn f156_11 rfl ?_
    refine Ew.ialdnO f156_12 rfl (b1 c1) (Nat.le_of_ble_eq_true rfl) rfl ?_
    refine Ew.ireti f156_13 ?_
    show Ev (d + 3) c s 198 38 [some (zr (some (1, 0, 0))), some (zi (nI t))] [zi (ρ 1 (10 + 4 * t + 2))] (OM X 1 0 ρ l) Q
    refine Ew.op (st' := zi (-(ρ 1 (10 + 4 * t + 2))) :: _) f198_38 rfl rfl ?_
    refine Ew.ireti f198_39 ?_
    exact h1 c1
  by_cases c2 : (ρ 1 1) = nI 2
  · refine Ew.tsw (pc' := 40) (x := (ρ 1 1)) f198_6 (by rw [c2] <;> rfl) ?_
    refine Ew.ld f198_40 rfl rfl rfl rfl ?_
    refine Ew.ld f198_41 rfl rfl rfl rfl ?_
    refine Ew.op (st' := zi (nI 1) :: _) f198_42 rfl rfl ?_
    refine Ew.call0 (ls0 := [some (zr (some (1, 0, 0))), some (zi (nI t)), some (zi (nI 1))]) f198_43 rfl (Nat.le_of_ble_eq_true rfl) rfl rfl (Nat.le_of_ble_eq_true rfl) rfl (Nat.le_of_ble_eq_true rfl) rfl rfl ?_
    refine Ew.ld f156_0 rfl rfl rfl rfl ?_
    refine Ew.getp (v := some (1, 0, 1)) f156_1 rfl rfl rfl ?_
    refine Ew.op (st' := zi (nI 10) :: _) f156_4 rfl rfl ?_
    refine Ew.op (st' := zi (nI 4) :: _) f156_6 rfl rfl ?_
    refine Ew.ld f156_7 rfl rfl rfl rfl ?_
    refine Ew.muln f156_8 rfl ?_
    refine Ew.addn f156_9 rfl ?_
    refine Ew.ld f156_10 rfl rfl rfl rfl ?_
    refine Ew.addn f156_11 rfl ?_
    refine Ew.ialdnV (v := nI D) f156_12 rfl (b2 c1 c2) (Nat.le_of_ble_eq_true rfl) rfl (so_v hD) ?_
    refine Ew.ireti f156_13 ?_
    show Ev (d + 3) c s 198 46 [some (zr (some (1, 0, 0))), some (zi (nI t))] [zi (nI D)] (OM X 1 0 ρ l) Q
    refine Ew.ireti f198_46 ?_
    exact h2 c1 c2
  by_cases c3 : (ρ 1 1) = nI 3
  · refine Ew.tsw (pc' := 47) (x := (ρ 1 1)) f198_6 (by rw [c3] <;> rfl) ?_
    refine Ew.ld f198_47 rfl rfl rfl rfl ?_
    refine Ew.ld f198_48 rfl rfl rfl rfl ?_
    refine Ew.ld f198_49 rfl rfl rfl rfl ?_
    refine Ew.ld f198_50 rfl rfl rfl rfl ?_
    refine Ew.op (st' := zi (nI 1) :: _) f198_51 rfl rfl ?_
    refine Ew.call0 (ls0 := [some (zr (some (1, 0, 0))), some (zi (nI t)), some (zi (nI 1))]) f198_52 rfl (Nat.le_of_ble_eq_true rfl) rfl rfl (Nat.le_of_ble_eq_true rfl) rfl (Nat.le_of_ble_eq_true rfl) rfl rfl ?_
    refine Ew.ld f156_0 rfl rfl rfl rfl ?_
    refine Ew.getp (v := some (1, 0, 1)) f156_1 rfl rfl rfl ?_
    refine Ew.op (st' := zi (nI 10) :: _) f156_4 rfl rfl ?_
    refine Ew.op (st' := zi (nI 4) :: _) f156_6 rfl rfl ?_
    refine Ew.ld f156_7 rfl rfl rfl rfl ?_
    refine Ew.muln f156_8 rfl ?_
    refine Ew.addn f156_9 rfl ?_
    refine Ew.ld f156_10 rfl rfl rfl rfl ?_
    refine Ew.addn f156_11 rfl ?_
    refine Ew.ialdnV (v := nI D) f156_12 rfl (b3 c1 c2 c3) (Nat.le_of_ble_eq_true rfl) rfl (so_v hD) ?_
    refine Ew.ireti f156_13 ?_
    show Ev (d + 3) c s 198 55 [some (zr (some (1, 0, 0))), some (zi (nI t))] [zi (nI D), zi (nI t), zr (some (1, 0, 0))] (OM X 1 0 ρ l) Q
    refine Ew.call0 (ls0 := [some (zr (some (1, 0, 0))), some (zi (nI t)), some (zi (nI D)), none, none]) f198_55 rfl (Nat.le_of_ble_eq_true rfl) rfl rfl (Nat.le_of_ble_eq_true rfl) rfl (Nat.le_of_ble_eq_true rfl) rfl rfl ?_
    refine sp_heldBy (b4 c1 c2 c3) (b5 c1 c2 c3) ?_
    show Ev (d + 3) c s 198 58 [some (zr (some (1, 0, 0))), some (zi (nI t))] [zi (rSet ρ t D)] (OM X 1 0 ρ l) Q
    refine Ew.call0 (ls0 := [some (zi (rSet ρ t D)), none, none]) f198_58 rfl (Nat.le_of_ble_eq_true rfl) rfl rfl (Nat.le_of_ble_eq_true rfl) trivial (Nat.le_of_ble_eq_true rfl) rfl rfl ?_
    refine sp_sizeOf (b6 c1 c2 c3) ?_
    show Ev (d + 3) c s 198 61 [some (zr (some (1, 0, 0))), some (zi (nI t))] [zi (rSz (rSet ρ t D))] (OM X 1 0 ρ l) Q
    refine Ew.ireti f198_61 ?_
    exact h3 c1 c2 c3
  refine Ew.tsw (x := (ρ 1 1)) f198_6 (ztw_o (m := 1) (n := 3) (zno (by decide) (fun k hk => by rcases (show k = 0 ∨ k = 1 ∨ k = 2 by omega) with rfl | rfl | rfl <;> first | exact c1 | exact c2 | exact c3)) rfl rfl rfl) ?_
  refine Ew.ld f198_62 rfl rfl rfl rfl ?_
  refine Ew.op (st' := zi (-(nI t)) :: _) f198_63 rfl rfl ?_
  refine Ew.ireti f198_64 ?_
  exact h4 c1 c2 c3
theorem sp_weight {d c s t : Nat} {X : zM} {ρ : Nat → Nat → Int32} {l : Nat → Nat → Int64} {Q : Option zV → zM → Prop} (ht : t < 4) (h : rDok ρ) (k : Q (some (zi (rWeight ρ t))) (OM X 1 0 ρ l)) : Ev (d + 3) c s 198 0 [some (zr (some (1, 0, 0))), some (zi (nI t))] [] (OM X 1 0 ρ l) Q := by
  have hd := h t ht
  unfold rWeight at k
  apply g198_0 hd.1 <;> intros <;> first
    | omega
    | exact rEnd_set _ _ _
    | (simp only [*, if_true, if_false, reduceIte, zn21, zn31, zn32] at k; exact k)
/-- the victim among the first t tasks -/
def rVicL (ρ : Nat → Nat → Int32) (r : Int32) : Nat → Int32
  | 0 => -4
  | t + 1 => if (r >>> (nI t &&& 31)) &&& nI 1 = nI 1 then (if rVicL ρ r t < 0 then nI t else if rWeight ρ t < rWeight ρ (rVicL ρ r t).toNatClampNeg then nI t else rVicL ρ r t) else rVicL ρ r t
abbrev rVic (ρ : Nat → Nat → Int32) (r : Int32) : Int32 := rVicL ρ r 4
theorem rVicL_cases (ρ : Nat → Nat → Int32) (r : Int32) (n : Nat) : rVicL ρ r n = -4 ∨ ∃ t, t < n ∧ rVicL ρ r n = nI t := by
  induction n with
  | zero => exact Or.inl rfl
  | succ n ih =>
    have ih' : rVicL ρ r n = -4 ∨ ∃ t, t < n + 1 ∧ rVicL ρ r n = nI t := by
      rcases ih with h | ⟨t, h1, h2⟩
      · exact Or.inl h
      · exact Or.inr ⟨t, by omega, h2⟩
    unfold rVicL
    split
    · split
      · exact Or.inr ⟨n, by omega, rfl⟩
      · split
        · exact Or.inr ⟨n, by omega, rfl⟩
        · exact ih'
    · exact ih'
theorem g199_0 {d c s : Nat} {r : Int32} {X : zM} {ρ : Nat → Nat → Int32} {l : Nat → Nat → Int64} {Q : Option zV → zM → Prop}
    (h1 : Ev d c s 199 5 [some (zr (some (1, 0, 0))), some (zi r), some (zi ((-4))), some (zi (nI 0))] [] (OM X 1 0 ρ l) Q) : Ev d c s 199 0 [some (zr (some (1, 0, 0))), some (zi r), none, none] [] (OM X 1 0 ρ l) Q := by
  refine Ew.op (st' := zi ((-4)) :: _) f199_0 rfl rfl ?_
  refine Ew.sr (ls' := [some (zr (some (1, 0, 0))), some (zi r), some (zi ((-4))), none]) f199_2 rfl rfl (Nat.le_of_ble_eq_true rfl) rfl rfl ?_
  refine Ew.op (st' := zi (nI 0) :: _) f199_3 rfl rfl ?_
  refine Ew.sr (ls' := [some (zr (some (1, 0, 0))), some (zi r), some (zi ((-4))), some (zi (nI 0))]) f199_4 rfl rfl (Nat.le_of_ble_eq_true rfl) rfl rfl ?_
  exact h1
theorem g199_5 {d c s : Nat} {f t : Nat} {r : Int32} {X : zM} {ρ : Nat → Nat → Int32} {l : Nat → Nat → Int64} {Q : Option zV → zM → Prop} (nb_t : t < 5000) (nb_f : f < 5000)
    (h1 : (4 ≤ t) → Q (some (zi (nI f))) (OM X 1 0 ρ l))
    (h2 : (t < 4) → (¬ ((r >>> ((nI t) &&& 31)) &&& (nI 1)) = (nI 1)) → Ev (d + 4) c s 199 5 [some (zr (some (1, 0, 0))), some (zi r), some (zi (nI f)), some (zi (nI (t + 1)))] [] (OM X 1 0 ρ l) Q)
    (h3 : (t < 4) → (((r >>> ((nI t) &&& 31)) &&& (nI 1)) = (nI 1)) → (f < 0) → Ev (d + 4) c s 199 5 [some (zr (some (1, 0, 0))), some (zi r), some (zi (nI t)), some (zi (nI (t + 1)))] [] (OM X 1 0 ρ l) Q)
    (b1 : (t < 4) → (((r >>> ((nI t) &&& 31)) &&& (nI 1)) = (nI 1)) → (0 ≤ f) → t < 4)
    (b2 : (t < 4) → (((r >>> ((nI t) &&& 31)) &&& (nI 1)) = (nI 1)) → (0 ≤ f) → rDok ρ)
    (b3 : (t < 4) → (((r >>> ((nI t) &&& 31)) &&& (nI 1)) = (nI 1)) → (0 ≤ f) → f < 4)
    (b4 : (t < 4) → (((r >>> ((nI t) &&& 31)) &&& (nI 1)) = (nI 1)) → (0 ≤ f) → rDok ρ)
    (h4 : (t < 4) → (((r >>> ((nI t) &&& 31)) &&& (nI 1)) = (nI 1)) → (0 ≤ f) → ((rWeight ρ f) ≤ (rWeight ρ t)) → Ev (d + 4) c s 199 5 [some (zr (some (1, 0, 0))), some (zi r), some (zi (nI f)), some (zi (nI (t + 1)))] [] (OM X 1 0 ρ l) Q)
    (h5 : (t < 4) → (((r >>> ((nI t) &&& 31)) &&& (nI 1)) = (nI 1)) → (0 ≤ f) → ((rWeight ρ t) < (rWeight ρ f)) → Ev (d + 4) c s 199 5 [some (zr (some (1, 0, 0))), some (zi r), some (zi (nI t)), some (zi (nI (t + 1)))] [] (OM X 1 0 ρ l) Q) : Ev (d + 4) c s 199 5 [some (zr (some (1, 0, 0))), some (zi r), some (zi (nI f)), some (zi (nI t))] [] (OM X 1 0 ρ l) Q := by
  refine Ew.ld f199_5 rfl rfl rfl rfl ?_
  refine Ew.op (st' := zi (nI 4) :: _) f199_6 rfl rfl ?_
  refine Ew.icmp f199_7 rfl rfl (fun c1 => ?_) (fun c1 => ?_)
  · refine Ew.ld f199_47 rfl rfl rfl rfl ?_
    refine Ew.ireti f199_48 ?_
    exact h1 ((zle_iff (by decide) nb_t).mp c1)
  · refine Ew.ld f199_10 rfl rfl rfl rfl ?_
    refine Ew.ld f199_11 rfl rfl rfl rfl ?_
    refine Ew.call0 (ls0 := [some (zi r), some (zi (nI t))]) f199_12 rfl (Nat.le_of_ble_eq_true rfl) rfl rfl (Nat.le_of_ble_eq_true rfl) trivial (Nat.le_of_ble_eq_true rfl) rfl rfl ?_
    refine Ew.ld f152_0 rfl rfl rfl rfl ?_
    refine Ew.ld f152_1 rfl rfl rfl rfl ?_
    refine Ew.op (st' := zi (r >>> ((nI t) &&& 31)) :: _) f152_2 rfl rfl ?_
    refine Ew.op (st' := zi (nI 1) :: _) f152_3 rfl rfl ?_
    refine Ew.op (st' := zi ((r >>> ((nI t) &&& 31)) &&& (nI 1)) :: _) f152_4 rfl rfl ?_
    refine Ew.op (st' := zi (nI 1) :: _) f152_5 rfl rfl ?_
    refine Ew.icmp f152_6 rfl rfl (fun c2 => ?_) (fun c2 => ?_)
    · refine Ew.op (st' := zi (nI 0) :: _) f152_13 rfl rfl ?_
      refine Ew.iretb f152_14 (Or.inl rfl) ?_
      show Ev (d + 4) c s 199 15 [some (zr (some (1, 0, 0))), some (zi r), some (zi (nI f)), some (zi (nI t))] [zi (nI 0)] (OM X 1 0 ρ l) Q
      refine Ew.ifc f199_15 rfl rfl (fun _ => ?_) (fun h => absurd (show ((nI 0) : Int32) = 0 by decide) h)
      refine Ew.iinc (v := nI (t + 1)) (ls' := [some (zr (some (1, 0, 0))), some (zi r), some (zi (nI f)), some (zi (nI (t + 1)))]) f199_41 rfl (nI_1 _) rfl rfl ?_
      refine Ew.goto f199_44 rfl ?_
      exact h2 (Nat.not_le.mp fun e => c1 ((zle_iff (by decide) nb_t).mpr e)) c2
    · refine Ew.op (st' := zi (nI 1) :: _) f152_9 rfl rfl ?_
      refine Ew.goto f152_10 rfl ?_
      refine Ew.iretb f152_14 (Or.inr rfl) ?_
      show Ev (d + 4) c s 199 15 [some (zr (some (1, 0, 0))), some (zi r), some (zi (nI f)), some (zi (nI t))] [zi (nI 1)] (OM X 1 0 ρ l) Q
      refine Ew.ifc f199_15 rfl rfl (fun h => absurd h (show ¬ (((nI 1) : Int32) = 0) by decide)) (fun _ => ?_)
      refine Ew.ld f199_18 rfl rfl rfl rfl ?_
      refine Ew.ifc f199_19 rfl rfl (fun c3 => ?_) (fun c3 => ?_)
      · refine Ew.ld f199_35 rfl rfl rfl rfl ?_
        refine Ew.goto f199_36 rfl ?_
        refine Ew.sr (ls' := [some (zr (some (1, 0, 0))), some (zi r), some (zi (nI t)), some (zi (nI t))]) f199_40 rfl rfl (Nat.le_of_ble_eq_true rfl) rfl rfl ?_
        refine Ew.iinc (v := nI (t + 1)) (ls' := [some (zr (some (1, 0, 0))), some (zi r), some (zi (nI t)), some (zi (nI (t + 1)))]) f199_41 rfl (nI_1 _) rfl rfl ?_
        refine Ew.goto f199_44 rfl ?_
        exact h3 (Nat.not_le.mp fun e => c1 ((zle_iff (by decide) nb_t).mpr e)) (Classical.not_not.mp c2) ((zlt_iff nb_f (by decide)).mp c3)
      · refine Ew.ld f199_22 rfl rfl rfl rfl ?_
        refine Ew.ld f199_23 rfl rfl rfl rfl ?_
        refine Ew.call0 (ls0 := [some (zr (some (1, 0, 0))), some (zi (nI t))]) f199_24 rfl (Nat.le_of_ble_eq_true rfl) rfl rfl (Nat.le_of_ble_eq_true rfl) rfl (Nat.le_of_ble_eq_true rfl) rfl rfl ?_
        refine sp_weight (b1 (Nat.not_le.mp fun e => c1 ((zle_iff (by decide) nb_t).mpr e)) (Classical.not_not.mp c2) (Nat.not_lt.mp fun e => c3 ((zlt_iff nb_f (by decide)).mpr e))) (b2 (Nat.not_le.mp fun e => c1 ((zle_iff (by decide) nb_t).mpr e)) (Classical.not_not.mp c2) (Nat.not_lt.mp fun e => c3 ((zlt_iff nb_f (by decide)).mpr e))) ?_
        show Ev (d + 4) c s 199 27 [some (zr (some (1, 0, 0))), some (zi r), some (zi (nI f)), some (zi (nI t))] [zi (rWeight ρ t)] (OM X 1 0 ρ l) Q
        refine Ew.ld f199_27 rfl rfl rfl rfl ?_
        refine Ew.ld f199_28 rfl rfl rfl rfl ?_
        refine Ew.call0 (ls0 := [some (zr (some (1, 0, 0))), some (zi (nI f))]) f199_29 rfl (Nat.le_of_ble_eq_true rfl) rfl rfl (Nat.le_of_ble_eq_true rfl) rfl (Nat.le_of_ble_eq_true rfl) rfl rfl ?_
        refine sp_weight (b3 (Nat.not_le.mp fun e => c1 ((zle_iff (by decide) nb_t).mpr e)) (Classical.not_not.mp c2) (Nat.not_lt.mp fun e => c3 ((zlt_iff nb_f (by decide)).mpr e))) (b4 (Nat.not_le.mp fun e => c1 ((zle_iff (by decide) nb_t).mpr e)) (Classical.not_not.mp c2) (Nat.not_lt.mp fun e => c3 ((zlt_iff nb_f (by decide)).mpr e))) ?_
        show Ev (d + 4) c s 199 32 [some (zr (some (1, 0, 0))), some (zi r), some (zi (nI f)), some (zi (nI t))] [zi (rWeight ρ f), zi (rWeight ρ t)] (OM X 1 0 ρ l) Q
        refine Ew.icmp f199_32 rfl rfl (fun c4 => ?_) (fun c4 => ?_)
        · refine Ew.ld f199_39 rfl rfl rfl rfl ?_
          refine Ew.sr (ls' := [some (zr (some (1, 0, 0))), some (zi r), some (zi (nI f)), some (zi (nI t))]) f199_40 rfl rfl (Nat.le_of_ble_eq_true rfl) rfl rfl ?_
          refine Ew.iinc (v := nI (t + 1)) (ls' := [some (zr (some (1, 0, 0))), some (zi r), some (zi (nI f)), some (zi (nI (t + 1)))]) f199_41 rfl (nI_1 _) rfl rfl ?_
          refine Ew.goto f199_44 rfl ?_
          exact h4 (Nat.not_le.mp fun e => c1 ((zle_iff (by decide) nb_t).mpr e)) (Classical.not_not.mp c2) (Nat.not_lt.mp fun e => c3 ((zlt_iff nb_f (by decide)).mpr e)) c4
        · refine Ew.ld f199_35 rfl rfl rfl rfl ?_
          refine Ew.goto f199_36 rfl ?_
          refine Ew.sr (ls' := [some (zr (some (1, 0, 0))), some (zi r), some (zi (nI t)), some (zi (nI t))]) f199_40 rfl rfl (Nat.le_of_ble_eq_true rfl) rfl rfl ?_
          refine Ew.iinc (v := nI (t + 1)) (ls' := [some (zr (some (1, 0, 0))), some (zi r), some (zi (nI t)), some (zi (nI (t + 1)))]) f199_41 rfl (nI_1 _) rfl rfl ?_
          refine Ew.goto f199_44 rfl ?_
          exact h5 (Nat.not_le.mp fun e => c1 ((zle_iff (by decide) nb_t).mpr e)) (Classical.not_not.mp c2) (Nat.not_lt.mp fun e => c3 ((zlt_iff nb_f (by decide)).mpr e)) (Int32.not_le.mp c4)
theorem g199_5m {d c s : Nat} {t : Nat} {r : Int32} {X : zM} {ρ : Nat → Nat → Int32} {l : Nat → Nat → Int64} {Q : Option zV → zM → Prop} (nb_t : t < 5000)
    (h1 : (4 ≤ t) → Q (some (zi ((-4)))) (OM X 1 0 ρ l))
    (h2 : (t < 4) → (¬ ((r >>> ((nI t) &&& 31)) &&& (nI 1)) = (nI 1)) → Ev (d + 1) c s 199 5 [some (zr (some (1, 0, 0))), some (zi r), some (zi ((-4))), some (zi (nI (t + 1)))] [] (OM X 1 0 ρ l) Q)
    (h3 : (t < 4) → (((r >>> ((nI t) &&& 31)) &&& (nI 1)) = (nI 1)) → Ev (d + 1) c s 199 5 [some (zr (some (1, 0, 0))), some (zi r), some (zi (nI t)), some (zi (nI (t + 1)))] [] (OM X 1 0 ρ l) Q) : Ev (d + 1) c s 199 5 [some (zr (some (1, 0, 0))), some (zi r), some (zi ((-4))), some (zi (nI t))] [] (OM X 1 0 ρ l) Q := by
  refine Ew.ld f199_5 rfl rfl rfl rfl ?_
  refine Ew.op (st' := zi (nI 4) :: _) f199_6 rfl rfl ?_
  refine Ew.icmp f199_7 rfl rfl (fun c1 => ?_) (fun c1 => ?_)
  · refine Ew.ld f199_47 rfl rfl rfl rfl ?_
    refine Ew.ireti f199_48 ?_
    exact h1 ((zle_iff (by decide) nb_t).mp c1)
  · refine Ew.ld f199_10 rfl rfl rfl rfl ?_
    refine Ew.ld f199_11 rfl rfl rfl rfl ?_
    refine Ew.call0 (ls0 := [some (zi r), some (zi (nI t))]) f199_12 rfl (Nat.le_of_ble_eq_true rfl) rfl rfl (Nat.le_of_ble_eq_true rfl) trivial (Nat.le_of_ble_eq_true rfl) rfl rfl ?_
    refine Ew.ld f152_0 rfl rfl rfl rfl ?_
    refine Ew.ld f152_1 rfl rfl rfl rfl ?_
    refine Ew.op (st' := zi (r >>> ((nI t) &&& 31)) :: _) f152_2 rfl rfl ?_
    refine Ew.op (st' := zi (nI 1) :: _) f152_3 rfl rfl ?_
    refine Ew.op (st' := zi ((r >>> ((nI t) &&& 31)) &&& (nI 1)) :: _) f152_4 rfl rfl ?_
    refine Ew.op (st' := zi (nI 1) :: _) f152_5 rfl rfl ?_
    refine Ew.icmp f152_6 rfl rfl (fun c2 => ?_) (fun c2 => ?_)
    · refine Ew.op (st' := zi (nI 0) :: _) f152_13 rfl rfl ?_
      refine Ew.iretb f152_14 (Or.inl rfl) ?_
      show Ev (d + 1) c s 199 15 [some (zr (some (1, 0, 0))), some (zi r), some (zi ((-4))), some (zi (nI t))] [zi (nI 0)] (OM X 1 0 ρ l) Q
      refine Ew.ifc f199_15 rfl rfl (fun _ => ?_) (fun h => absurd (show ((nI 0) : Int32) = 0 by decide) h)
      refine Ew.iinc (v := nI (t + 1)) (ls' := [some (zr (some (1, 0, 0))), some (zi r), some (zi ((-4))), some (zi (nI (t + 1)))]) f199_41 rfl (nI_1 _) rfl rfl ?_
      refine Ew.goto f199_44 rfl ?_
      exact h2 (Nat.not_le.mp fun e => c1 ((zle_iff (by decide) nb_t).mpr e)) c2
    · refine Ew.op (st' := zi (nI 1) :: _) f152_9 rfl rfl ?_
      refine Ew.goto f152_10 rfl ?_
      refine Ew.iretb f152_14 (Or.inr rfl) ?_
      show Ev (d + 1) c s 199 15 [some (zr (some (1, 0, 0))), some (zi r), some (zi ((-4))), some (zi (nI t))] [zi (nI 1)] (OM X 1 0 ρ l) Q
      refine Ew.ifc f199_15 rfl rfl (fun h => absurd h (show ¬ (((nI 1) : Int32) = 0) by decide)) (fun _ => ?_)
      refine Ew.ld f199_18 rfl rfl rfl rfl ?_
      refine Ew.ifc f199_19 rfl rfl (fun _ => ?_) (fun h => absurd (show (((-4)) : Int32) < 0 by decide) h)
      refine Ew.ld f199_35 rfl rfl rfl rfl ?_
      refine Ew.goto f199_36 rfl ?_
      refine Ew.sr (ls' := [some (zr (some (1, 0, 0))), some (zi r), some (zi (nI t)), some (zi (nI t))]) f199_40 rfl rfl (Nat.le_of_ble_eq_true rfl) rfl rfl ?_
      refine Ew.iinc (v := nI (t + 1)) (ls' := [some (zr (some (1, 0, 0))), some (zi r), some (zi (nI t)), some (zi (nI (t + 1)))]) f199_41 rfl (nI_1 _) rfl rfl ?_
      refine Ew.goto f199_44 rfl ?_
      exact h3 (Nat.not_le.mp fun e => c1 ((zle_iff (by decide) nb_t).mpr e)) (Classical.not_not.mp c2)
theorem sp_victim {d c s : Nat} {r : Int32} {X : zM} {ρ : Nat → Nat → Int32} {l : Nat → Nat → Int64} {Q : Option zV → zM → Prop} (h : rDok ρ) (k : Q (some (zi (rVic ρ r))) (OM X 1 0 ρ l)) : Ev (d + 4) c s 199 0 [some (zr (some (1, 0, 0))), some (zi r), none, none] [] (OM X 1 0 ρ l) Q := by
  refine g199_0 ?_
  refine loopN (fun t => Ev (d + 4) c s 199 5 [some (zr (some (1, 0, 0))), some (zi r), some (zi (rVicL ρ r t)), some (zi (nI t))] [] (OM X 1 0 ρ l) Q) 4 (fun t ht hE => ?_) ?_
  · unfold rVicL at hE
    rcases rVicL_cases ρ r t with e | ⟨f, hf, e⟩
    · rw [e] at hE ⊢
      apply g199_5m <;> intros <;> first
        | omega
        | assumption
        | (rw [if_pos ‹_›, if_pos (by decide)] at hE; exact hE)
        | (rw [if_neg ‹_›] at hE; exact hE)
    · rw [e] at hE ⊢
      have e1 : (nI f).toNatClampNeg = f := nI_clamp (by omega)
      have e0 : ¬ nI f < 0 := nI_pos (by omega)
      rw [e1, if_neg e0] at hE
      apply g199_5 <;> intros <;> first
        | omega
        | assumption
        | (exact absurd ‹_› e0)
        | (rw [if_pos ‹_›, if_pos ‹_›] at hE; exact hE)
        | (rw [if_pos ‹_›, if_neg (Int32.not_lt.mpr ‹_›)] at hE; exact hE)
        | (rw [if_neg ‹_›] at hE; exact hE)
  · rcases rVicL_cases ρ r 4 with e | ⟨f, hf, e⟩
    · have k' : Q (some (zi (rVicL ρ r 4))) (OM X 1 0 ρ l) := k
      rw [e] at k' ⊢
      apply g199_5m <;> intros <;> first
        | omega
        | assumption
        | exact k'
    · have k' : Q (some (zi (rVicL ρ r 4))) (OM X 1 0 ρ l) := k
      rw [e] at k' ⊢
      apply g199_5 <;> intros <;> first
        | omega
        | assumption
        | exact k'
