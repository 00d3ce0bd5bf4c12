/-! the reference: all ways of two tasks -/
theorem zcmpP {a b : Nat} (ha : a < 2 ^ 63) (hb : b < 2 ^ 63) : 0 < lg_cmp (lN a) (lN b) ↔ b < a := by
  unfold lg_cmp
  have h1 : lN a > lN b ↔ b < a := pk_lLT hb ha
  by_cases h : b < a
  · rw [if_pos (h1.mpr h)]
    exact ⟨fun _ => h, fun _ => by decide⟩
  · rw [if_neg (fun e => h (h1.mp e))]
    constructor
    · intro g
      split at g <;> exact absurd g (by decide)
    · intro g
      exact absurd g h
theorem zcmpE {a b : Nat} (ha : a < 2 ^ 63) (hb : b < 2 ^ 63) : lg_cmp (lN a) (lN b) = 0 ↔ a = b := by
  unfold lg_cmp
  have h1 : lN a > lN b ↔ b < a := pk_lLT hb ha
  have h2 : lN a = lN b ↔ a = b := pk_lEQ ha hb
  by_cases h : b < a
  · rw [if_pos (h1.mpr h)]
    exact ⟨fun g => absurd g (by decide), fun g => by omega⟩
  · rw [if_neg (fun e => h (h1.mp e))]
    by_cases g : a = b
    · rw [if_pos (h2.mpr g)]
      exact ⟨fun _ => g, fun _ => rfl⟩
    · rw [if_neg (fun e => g (h2.mp e))]
      exact ⟨fun e => absurd e (by decide), fun e => absurd e g⟩
abbrev rShut (ρ : Nat → Nat → Int32) (t k : Nat) (z : Int32) : Prop := ρ 10 (30 * t + k) = 0 ∧ ((z >>> (ρ 11 (30 * t + k) &&& 31)) &&& nI 1) = nI 1
theorem g223_0 {d c s : Nat} {t k : Nat} {z : Int32} {X : zM} {ρ : Nat → Nat → Int32} {l : Nat → Nat → Int64} {Q : Option zV → zM → Prop}
    (b1 : 30 * t + k < 120)
    (h1 : (¬ (ρ 10 (30 * t + k)) = 0) → Q (some (zi (nI 0))) (OM X 1 0 ρ l))
    (b2 : ((ρ 10 (30 * t + k)) = 0) → 30 * t + k < 120)
    (h2 : ((ρ 10 (30 * t + k)) = 0) → (¬ ((z >>> ((ρ 11 (30 * t + k)) &&& 31)) &&& (nI 1)) = (nI 1)) → Q (some (zi (nI 0))) (OM X 1 0 ρ l))
    (h3 : ((ρ 10 (30 * t + k)) = 0) → (((z >>> ((ρ 11 (30 * t + k)) &&& 31)) &&& (nI 1)) = (nI 1)) → Q (some (zi (nI 1))) (OM X 1 0 ρ l)) : Ev (d + 1) c s 223 0 [some (zr (some (1, 0, 0))), some (zi (nI t)), some (zi (nI k)), some (zi z)] [] (OM X 1 0 ρ l) Q := by
  refine Ew.ld f223_0 rfl rfl rfl rfl ?_
  refine Ew.ld f223_1 rfl rfl rfl rfl ?_
  refine Ew.ld f223_2 rfl rfl rfl rfl ?_
  refine Ew.call0 (ls0 := [some (zr (some (1, 0, 0))), some (zi (nI t)), some (zi (nI k))]) f223_3 rfl (Nat.le_of_ble_eq_true rfl) rfl rfl (Nat.le_of_ble_eq_true rfl) rfl (Nat.le_of_ble_eq_true rfl) rfl rfl ?_
  refine Ew.ld f170_0 rfl rfl rfl rfl ?_
  refine Ew.getp (v := some (1, 0, 10)) f170_1 rfl rfl rfl ?_
  refine Ew.op (st' := zi (nI 30) :: _) f170_4 rfl rfl ?_
  refine Ew.ld f170_6 rfl rfl rfl rfl ?_
  refine Ew.muln f170_7 rfl ?_
  refine Ew.ld f170_8 rfl rfl rfl rfl ?_
  refine Ew.addn f170_9 rfl ?_
  refine Ew.ialdnO f170_10 rfl b1 (Nat.le_of_ble_eq_true rfl) rfl ?_
  refine Ew.ireti f170_11 ?_
  show Ev (d + 1) c s 223 6 [some (zr (some (1, 0, 0))), some (zi (nI t)), some (zi (nI k)), some (zi z)] [zi (ρ 10 (30 * t + k))] (OM X 1 0 ρ l) Q
  refine Ew.ifc f223_6 rfl rfl (fun c1 => ?_) (fun c1 => ?_)
  · refine Ew.op (st' := zi (nI 0) :: _) f223_26 rfl rfl ?_
    refine Ew.iretb f223_27 (Or.inl rfl) ?_
    exact h1 c1
  · refine Ew.ld f223_9 rfl rfl rfl rfl ?_
    refine Ew.ld f223_10 rfl rfl rfl rfl ?_
    refine Ew.ld f223_11 rfl rfl rfl rfl ?_
    refine Ew.ld f223_12 rfl rfl rfl rfl ?_
    refine Ew.call0 (ls0 := [some (zr (some (1, 0, 0))), some (zi (nI t)), some (zi (nI k))]) f223_13 rfl (Nat.le_of_ble_eq_true rfl) rfl rfl (Nat.le_of_ble_eq_true rfl) rfl (Nat.le_of_ble_eq_true rfl) rfl rfl ?_
    refine Ew.ld f171_0 rfl rfl rfl rfl ?_
    refine Ew.getp (v := some (1, 0, 11)) f171_1 rfl rfl rfl ?_
    refine Ew.op (st' := zi (nI 30) :: _) f171_4 rfl rfl ?_
    refine Ew.ld f171_6 rfl rfl rfl rfl ?_
    refine Ew.muln f171_7 rfl ?_
    refine Ew.ld f171_8 rfl rfl rfl rfl ?_
    refine Ew.addn f171_9 rfl ?_
    refine Ew.ialdnO f171_10 rfl (b2 (Classical.not_not.mp c1)) (Nat.le_of_ble_eq_true rfl) rfl ?_
    refine Ew.ireti f171_11 ?_
    show Ev (d + 1) c s 223 16 [some (zr (some (1, 0, 0))), some (zi (nI t)), some (zi (nI k)), some (zi z)] [zi (ρ 11 (30 * t + k)), zi z] (OM X 1 0 ρ l) Q
    refine Ew.call0 (ls0 := [some (zi z), some (zi (ρ 11 (30 * t + k)))]) f223_16 rfl (Nat.le_of_ble_eq_true rfl) rfl rfl (Nat.le_of_ble_eq_true rfl) trivial (Nat.le_of_ble_eq_true rfl) rfl rfl ?_
    refine Ew.ld f152_0 rfl rfl rfl rfl ?_
    refine Ew.ld f152_1 rfl rfl rfl rfl ?_
    refine Ew.op (st' := zi (z >>> ((ρ 11 (30 * t + k)) &&& 31)) :: _) f152_2 rfl rfl ?_
    refine Ew.op (st' := zi (nI 1) :: _) f152_3 rfl rfl ?_
    refine Ew.op (st' := zi ((z >>> ((ρ 11 (30 * t + k)) &&& 31)) &&& (nI 1)) :: _) f152_4 rfl rfl ?_
    refine Ew.op (st' := zi (nI 1) :: _) f152_5 rfl rfl ?_
    refine Ew.icmp f152_6 rfl rfl (fun c2 => ?_) (fun c2 => ?_)
    · refine Ew.op (st' := zi (nI 0) :: _) f152_13 rfl rfl ?_
      refine Ew.iretb f152_14 (Or.inl rfl) ?_
      show Ev (d + 1) c s 223 19 [some (zr (some (1, 0, 0))), some (zi (nI t)), some (zi (nI k)), some (zi z)] [zi (nI 0)] (OM X 1 0 ρ l) Q
      refine Ew.ifc f223_19 rfl rfl (fun _ => ?_) (fun h => absurd (show ((nI 0) : Int32) = 0 by decide) h)
      refine Ew.op (st' := zi (nI 0) :: _) f223_26 rfl rfl ?_
      refine Ew.iretb f223_27 (Or.inl rfl) ?_
      exact h2 (Classical.not_not.mp c1) c2
    · refine Ew.op (st' := zi (nI 1) :: _) f152_9 rfl rfl ?_
      refine Ew.goto f152_10 rfl ?_
      refine Ew.iretb f152_14 (Or.inr rfl) ?_
      show Ev (d + 1) c s 223 19 [some (zr (some (1, 0, 0))), some (zi (nI t)), some (zi (nI k)), some (zi z)] [zi (nI 1)] (OM X 1 0 ρ l) Q
      refine Ew.ifc f223_19 rfl rfl (fun h => absurd h (show ¬ (((nI 1) : Int32) = 0) by decide)) (fun _ => ?_)
      refine Ew.op (st' := zi (nI 1) :: _) f223_22 rfl rfl ?_
      refine Ew.goto f223_23 rfl ?_
      refine Ew.iretb f223_27 (Or.inr rfl) ?_
      exact h3 (Classical.not_not.mp c1) (Classical.not_not.mp c2)
theorem sp_isShut {d c s t k : Nat} {z : Int32} {X : zM} {ρ : Nat → Nat → Int32} {l : Nat → Nat → Int64} {Q : Option zV → zM → Prop} (hb : 30 * t + k < 120) (k1 : rShut ρ t k z → Q (some (zi (nI 1))) (OM X 1 0 ρ l)) (k0 : ¬ rShut ρ t k z → Q (some (zi (nI 0))) (OM X 1 0 ρ l)) : Ev (d + 1) c s 223 0 [some (zr (some (1, 0, 0))), some (zi (nI t)), some (zi (nI k)), some (zi z)] [] (OM X 1 0 ρ l) Q := g223_0 hb (fun g => k0 (fun e => g e.1)) (fun _ => hb) (fun _ g => k0 (fun e => g e.2)) (fun g1 g2 => k1 ⟨g1, g2⟩)
/-- one of two can go on -/
def gC (ρ : Nat → Nat → Int32) (i j p q : Nat) : Bool := decide (p < rM ρ i ∧ ¬ rShut ρ i p (rSet ρ j q))
theorem gC_ag {ρ ρ' : Nat → Nat → Int32} (h : rAg ρ ρ') {i j p q : Nat} (hi : i < 4) (hj : j < 4) (hq : q ≤ rM ρ j) : gC ρ' i j p q = gC ρ i j p q := by
  unfold gC
  rw [(h i hi).2.1]
  by_cases hp : p < rM ρ i
  · obtain ⟨e1, e2, _⟩ := (h i hi).2.2.1 p hp
    unfold rShut
    rw [e1, e2, show rSet ρ' j q = rSet ρ j q from rSetL_ag h hj hq 6]
  · rw [decide_eq_false (fun e => hp e.1), decide_eq_false (fun e => hp e.1)]
theorem gRow_cg {C1 C2 C1' C2' : Nat → Nat → Bool} {n m p : Nat} (s : gS) : ∀ q, q ≤ m + 1 → (∀ c, c ≤ m → C1' p c = C1 p c ∧ C2' p c = C2 p c) → gRow C1' C2' n m p q s = gRow C1 C2 n m p q s := by
  intro q
  induction q with
  | zero => intro _ _; rfl
  | succ q ih =>
    intro hq h
    unfold gRow
    rw [ih (by omega) h, (h q (by omega)).1, (h q (by omega)).2]
theorem gFin_cg {C1 C2 C1' C2' : Nat → Nat → Bool} {n m : Nat} (h : ∀ p c, p ≤ n → c ≤ m → C1' p c = C1 p c ∧ C2' p c = C2 p c) : gFin C1' C2' n m = gFin C1 C2 n m := by
  unfold gFin
  have key : ∀ p, p ≤ n + 1 → gAll C1' C2' n m p gS0 = gAll C1 C2 n m p gS0 := by
    intro p
    induction p with
    | zero => intro _; rfl
    | succ p ih =>
      intro hp
      unfold gAll
      rw [ih (by omega), gRow_cg _ (m + 1) (Nat.le_refl _) (fun c hc => h p c (by omega) hc)]
  exact key (n + 1) (Nat.le_refl _)
def aPair (w : Nat → Int32) (i j : Nat) : gS := gFin (gC (tτ w) i j) (fun p q => gC (tτ w) j i q p) (tTr w i).n (tTr w j).n
/-- the reference's table tells the row -/
def gRel (l : Nat → Nat → Int64) (p q : Nat) (s : gS) : Prop := (∀ r c, r ≤ 30 → c ≤ 30 → ((r = p ∧ q ≤ c) ∨ (r = p + 1 ∧ c < q) → l 29 (31 * r + c) = lN (s.1 c) ∧ l 30 (31 * r + c) = lN (s.2.1 c)) ∧ ((r = p + 1 ∧ q ≤ c) ∨ p + 1 < r → l 29 (31 * r + c) = lN 0 ∧ l 30 (31 * r + c) = lN 0)) ∧ l 0 43 = lN s.2.2.1 ∧ l 0 44 = lN s.2.2.2.1 ∧ l 0 45 = lN s.2.2.2.2.1
theorem g224_0 {d c s : Nat} {i j p q n m : Nat} {X : zM} {ρ : Nat → Nat → Int32} {l : Nat → Nat → Int64} {Q : Option zV → zM → Prop} (e1 : ρ 13 i = nI n) (e2 : ρ 13 j = nI m) (nb_p : p < 5000) (nb_n : n < 5000) (nb_q : q < 5000) (nb_m : m < 5000)
    (b1 : i < 4)
    (b2 : (n ≤ p) → j < 4)
    (h1 : (n ≤ p) → (m ≤ q) → Ev (d + 2) c s 224 67 [some (zr (some (1, 0, 0))), some (zi (nI i)), some (zi (nI j)), some (zi (nI p)), some (zi (nI q)), some (zi (nI 0)), some (zi (nI 0)), none, none, none, none] [] (OM X 1 0 ρ l) Q)
    (b3 : (n ≤ p) → (q < m) → p < 31)
    (b4 : (n ≤ p) → (q < m) → 30 * j + q < 120)
    (h2 : (n ≤ p) → (q < m) → (rShut ρ j q (ρ 31 p)) → Ev (d + 2) c s 224 67 [some (zr (some (1, 0, 0))), some (zi (nI i)), some (zi (nI j)), some (zi (nI p)), some (zi (nI q)), some (zi (nI 0)), some (zi (nI 0)), none, none, none, none] [] (OM X 1 0 ρ l) Q)
    (h3 : (n ≤ p) → (q < m) → (¬ (rShut ρ j q (ρ 31 p))) → Ev (d + 2) c s 224 67 [some (zr (some (1, 0, 0))), some (zi (nI i)), some (zi (nI j)), some (zi (nI p)), some (zi (nI q)), some (zi (nI 0)), some (zi (nI 1)), none, none, none, none] [] (OM X 1 0 ρ l) Q)
    (b5 : (p < n) → q < 31)
    (b6 : (p < n) → 30 * i + p < 120)
    (b7 : (p < n) → (rShut ρ i p (ρ 32 q)) → j < 4)
    (h4 : (p < n) → (rShut ρ i p (ρ 32 q)) → (m ≤ q) → Ev (d + 2) c s 224 67 [some (zr (some (1, 0, 0))), some (zi (nI i)), some (zi (nI j)), some (zi (nI p)), some (zi (nI q)), some (zi (nI 0)), some (zi (nI 0)), none, none, none, none] [] (OM X 1 0 ρ l) Q)
    (b8 : (p < n) → (rShut ρ i p (ρ 32 q)) → (q < m) → p < 31)
    (b9 : (p < n) → (rShut ρ i p (ρ 32 q)) → (q < m) → 30 * j + q < 120)
    (h5 : (p < n) → (rShut ρ i p (ρ 32 q)) → (q < m) → (rShut ρ j q (ρ 31 p)) → Ev (d + 2) c s 224 67 [some (zr (some (1, 0, 0))), some (zi (nI i)), some (zi (nI j)), some (zi (nI p)), some (zi (nI q)), some (zi (nI 0)), some (zi (nI 0)), none, none, none, none] [] (OM X 1 0 ρ l) Q)
    (h6 : (p < n) → (rShut ρ i p (ρ 32 q)) → (q < m) → (¬ (rShut ρ j q (ρ 31 p))) → Ev (d + 2) c s 224 67 [some (zr (some (1, 0, 0))), some (zi (nI i)), some (zi (nI j)), some (zi (nI p)), some (zi (nI q)), some (zi (nI 0)), some (zi (nI 1)), none, none, none, none] [] (OM X 1 0 ρ l) Q)
    (b10 : (p < n) → (¬ (rShut ρ i p (ρ 32 q))) → j < 4)
    (h7 : (p < n) → (¬ (rShut ρ i p (ρ 32 q))) → (m ≤ q) → Ev (d + 2) c s 224 67 [some (zr (some (1, 0, 0))), some (zi (nI i)), some (zi (nI j)), some (zi (nI p)), some (zi (nI q)), some (zi (nI 1)), some (zi (nI 0)), none, none, none, none] [] (OM X 1 0 ρ l) Q)
    (b11 : (p < n) → (¬ (rShut ρ i p (ρ 32 q))) → (q < m) → p < 31)
    (b12 : (p < n) → (¬ (rShut ρ i p (ρ 32 q))) → (q < m) → 30 * j + q < 120)
    (h8 : (p < n) → (¬ (rShut ρ i p (ρ 32 q))) → (q < m) → (rShut ρ j q (ρ 31 p)) → Ev (d + 2) c s 224 67 [some (zr (some (1, 0, 0))), some (zi (nI i)), some (zi (nI j)), some (zi (nI p)), some (zi (nI q)), some (zi (nI 1)), some (zi (nI 0)), none, none, none, none] [] (OM X 1 0 ρ l) Q)
    (h9 : (p < n) → (¬ (rShut ρ i p (ρ 32 q))) → (q < m) → (¬ (rShut ρ j q (ρ 31 p))) → Ev (d + 2) c s 224 67 [some (zr (some (1, 0, 0))), some (zi (nI i)), some (zi (nI j)), some (zi (nI p)), some (zi (nI q)), some (zi (nI 1)), some (zi (nI 1)), none, none, none, none] [] (OM X 1 0 ρ l) Q) : Ev (d + 2) c s 224 0 [some (zr (some (1, 0, 0))), some (zi (nI i)), some (zi (nI j)), some (zi (nI p)), some (zi (nI q)), none, none, none, none, none, none] [] (OM X 1 0 ρ l) Q := by
  refine Ew.ld f224_0 rfl rfl rfl rfl ?_
  refine Ew.ld f224_1 rfl rfl rfl rfl ?_
  refine Ew.getp (v := some (1, 0, 13)) f224_2 rfl rfl rfl ?_
  refine Ew.ld f224_5 rfl rfl rfl rfl ?_
  refine Ew.ialdnV (v := nI n) f224_6 rfl b1 (Nat.le_of_ble_eq_true rfl) rfl (so_v e1) ?_
  refine Ew.icmp f224_7 rfl rfl (fun c1 => ?_) (fun c1 => ?_)
  · refine Ew.op (st' := zi (nI 0) :: _) f224_30 rfl rfl ?_
    refine Ew.sr (ls' := [some (zr (some (1, 0, 0))), some (zi (nI i)), some (zi (nI j)), some (zi (nI p)), some (zi (nI q)), some (zi (nI 0)), none, none, none, none, none]) f224_31 rfl rfl (Nat.le_of_ble_eq_true rfl) rfl rfl ?_
    refine Ew.ld f224_33 rfl rfl rfl rfl ?_
    refine Ew.ld f224_35 rfl rfl rfl rfl ?_
    refine Ew.getp (v := some (1, 0, 13)) f224_36 rfl rfl rfl ?_
    refine Ew.ld f224_39 rfl rfl rfl rfl ?_
    refine Ew.ialdnV (v := nI m) f224_40 rfl (b2 ((zle_iff nb_n nb_p).mp c1)) (Nat.le_of_ble_eq_true rfl) rfl (so_v e2) ?_
    refine Ew.icmp f224_41 rfl rfl (fun c2 => ?_) (fun c2 => ?_)
    · refine Ew.op (st' := zi (nI 0) :: _) f224_64 rfl rfl ?_
      refine Ew.sr (ls' := [some (zr (some (1, 0, 0))), some (zi (nI i)), some (zi (nI j)), some (zi (nI p)), some (zi (nI q)), some (zi (nI 0)), some (zi (nI 0)), none, none, none, none]) f224_65 rfl rfl (Nat.le_of_ble_eq_true rfl) rfl rfl ?_
      exact h1 ((zle_iff nb_n nb_p).mp c1) ((zle_iff nb_m nb_q).mp c2)
    · refine Ew.ld f224_44 rfl rfl rfl rfl ?_
      refine Ew.ld f224_45 rfl rfl rfl rfl ?_
      refine Ew.ld f224_46 rfl rfl rfl rfl ?_
      refine Ew.ld f224_48 rfl rfl rfl rfl ?_
      refine Ew.getp (v := some (1, 0, 31)) f224_49 rfl rfl rfl ?_
      refine Ew.ld f224_52 rfl rfl rfl rfl ?_
      refine Ew.ialdnO f224_53 rfl (b3 ((zle_iff nb_n nb_p).mp c1) (Nat.not_le.mp fun e => c2 ((zle_iff nb_m nb_q).mpr e))) (Nat.le_of_ble_eq_true rfl) rfl ?_
      refine Ew.call0 (ls0 := [some (zr (some (1, 0, 0))), some (zi (nI j)), some (zi (nI q)), some (zi (ρ 31 p))]) f224_54 rfl (Nat.le_of_ble_eq_true rfl) rfl rfl (Nat.le_of_ble_eq_true rfl) rfl (Nat.le_of_ble_eq_true rfl) rfl rfl ?_
      refine sp_isShut (b4 ((zle_iff nb_n nb_p).mp c1) (Nat.not_le.mp fun e => c2 ((zle_iff nb_m nb_q).mpr e))) (fun c3 => ?_) (fun c3 => ?_)
      · refine Ew.ifc f224_57 rfl rfl (fun _ => ?_) (fun h => absurd (show ¬ ((nI 1) : Int32) = 0 by decide) h)
        refine Ew.op (st' := zi (nI 0) :: _) f224_64 rfl rfl ?_
        refine Ew.sr (ls' := [some (zr (some (1, 0, 0))), some (zi (nI i)), some (zi (nI j)), some (zi (nI p)), some (zi (nI q)), some (zi (nI 0)), some (zi (nI 0)), none, none, none, none]) f224_65 rfl rfl (Nat.le_of_ble_eq_true rfl) rfl rfl ?_
        exact h2 ((zle_iff nb_n nb_p).mp c1) (Nat.not_le.mp fun e => c2 ((zle_iff nb_m nb_q).mpr e)) c3
      · refine Ew.ifc f224_57 rfl rfl (fun h => absurd h (show ¬ (¬ ((nI 0) : Int32) = 0) by decide)) (fun _ => ?_)
        refine Ew.op (st' := zi (nI 1) :: _) f224_60 rfl rfl ?_
        refine Ew.goto f224_61 rfl ?_
        refine Ew.sr (ls' := [some (zr (some (1, 0, 0))), some (zi (nI i)), some (zi (nI j)), some (zi (nI p)), some (zi (nI q)), some (zi (nI 0)), some (zi (nI 1)), none, none, none, none]) f224_65 rfl rfl (Nat.le_of_ble_eq_true rfl) rfl rfl ?_
        exact h3 ((zle_iff nb_n nb_p).mp c1) (Nat.not_le.mp fun e => c2 ((zle_iff nb_m nb_q).mpr e)) c3
  · refine Ew.ld f224_10 rfl rfl rfl rfl ?_
    refine Ew.ld f224_11 rfl rfl rfl rfl ?_
    refine Ew.ld f224_12 rfl rfl rfl rfl ?_
    refine Ew.ld f224_13 rfl rfl rfl rfl ?_
    refine Ew.getp (v := some (1, 0, 32)) f224_14 rfl rfl rfl ?_
    refine Ew.ld f224_17 rfl rfl rfl rfl ?_
    refine Ew.ialdnO f224_19 rfl (b5 (Nat.not_le.mp fun e => c1 ((zle_iff nb_n nb_p).mpr e))) (Nat.le_of_ble_eq_true rfl) rfl ?_
    refine Ew.call0 (ls0 := [some (zr (some (1, 0, 0))), some (zi (nI i)), some (zi (nI p)), some (zi (ρ 32 q))]) f224_20 rfl (Nat.le_of_ble_eq_true rfl) rfl rfl (Nat.le_of_ble_eq_true rfl) rfl (Nat.le_of_ble_eq_true rfl) rfl rfl ?_
    refine sp_isShut (b6 (Nat.not_le.mp fun e => c1 ((zle_iff nb_n nb_p).mpr e))) (fun c4 => ?_) (fun c4 => ?_)
    · refine Ew.ifc f224_23 rfl rfl (fun _ => ?_) (fun h => absurd (show ¬ ((nI 1) : Int32) = 0 by decide) h)
      refine Ew.op (st' := zi (nI 0) :: _) f224_30 rfl rfl ?_
      refine Ew.sr (ls' := [some (zr (some (1, 0, 0))), some (zi (nI i)), some (zi (nI j)), some (zi (nI p)), some (zi (nI q)), some (zi (nI 0)), none, none, none, none, none]) f224_31 rfl rfl (Nat.le_of_ble_eq_true rfl) rfl rfl ?_
      refine Ew.ld f224_33 rfl rfl rfl rfl ?_
      refine Ew.ld f224_35 rfl rfl rfl rfl ?_
      refine Ew.getp (v := some (1, 0, 13)) f224_36 rfl rfl rfl ?_
      refine Ew.ld f224_39 rfl rfl rfl rfl ?_
      refine Ew.ialdnV (v := nI m) f224_40 rfl (b7 (Nat.not_le.mp fun e => c1 ((zle_iff nb_n nb_p).mpr e)) c4) (Nat.le_of_ble_eq_true rfl) rfl (so_v e2) ?_
      refine Ew.icmp f224_41 rfl rfl (fun c5 => ?_) (fun c5 => ?_)
      · refine Ew.op (st' := zi (nI 0) :: _) f224_64 rfl rfl ?_
        refine Ew.sr (ls' := [some (zr (some (1, 0, 0))), some (zi (nI i)), some (zi (nI j)), some (zi (nI p)), some (zi (nI q)), some (zi (nI 0)), some (zi (nI 0)), none, none, none, none]) f224_65 rfl rfl (Nat.le_of_ble_eq_true rfl) rfl rfl ?_
        exact h4 (Nat.not_le.mp fun e => c1 ((zle_iff nb_n nb_p).mpr e)) c4 ((zle_iff nb_m nb_q).mp c5)
      · refine Ew.ld f224_44 rfl rfl rfl rfl ?_
        refine Ew.ld f224_45 rfl rfl rfl rfl ?_
        refine Ew.ld f224_46 rfl rfl rfl rfl ?_
        refine Ew.ld f224_48 rfl rfl rfl rfl ?_
        refine Ew.getp (v := some (1, 0, 31)) f224_49 rfl rfl rfl ?_
        refine Ew.ld f224_52 rfl rfl rfl rfl ?_
        refine Ew.ialdnO f224_53 rfl (b8 (Nat.not_le.mp fun e => c1 ((zle_iff nb_n nb_p).mpr e)) c4 (Nat.not_le.mp fun e => c5 ((zle_iff nb_m nb_q).mpr e))) (Nat.le_of_ble_eq_true rfl) rfl ?_
        refine Ew.call0 (ls0 := [some (zr (some (1, 0, 0))), some (zi (nI j)), some (zi (nI q)), some (zi (ρ 31 p))]) f224_54 rfl (Nat.le_of_ble_eq_true rfl) rfl rfl (Nat.le_of_ble_eq_true rfl) rfl (Nat.le_of_ble_eq_true rfl) rfl rfl ?_
        refine sp_isShut (b9 (Nat.not_le.mp fun e => c1 ((zle_iff nb_n nb_p).mpr e)) c4 (Nat.not_le.mp fun e => c5 ((zle_iff nb_m nb_q).mpr e))) (fun c6 => ?_) (fun c6 => ?_)
        · refine Ew.ifc f224_57 rfl rfl (fun _ => ?_) (fun h => absurd (show ¬ ((nI 1) : Int32) = 0 by decide) h)
          refine Ew.op (st' := zi (nI 0) :: _) f224_64 rfl rfl ?_
          refine Ew.sr (ls' := [some (zr (some (1, 0, 0))), some (zi (nI i)), some (zi (nI j)), some (zi (nI p)), some (zi (nI q)), some (zi (nI 0)), some (zi (nI 0)), none, none, none, none]) f224_65 rfl rfl (Nat.le_of_ble_eq_true rfl) rfl rfl ?_
          exact h5 (Nat.not_le.mp fun e => c1 ((zle_iff nb_n nb_p).mpr e)) c4 (Nat.not_le.mp fun e => c5 ((zle_iff nb_m nb_q).mpr e)) c6
        · refine Ew.ifc f224_57 rfl rfl (fun h => absurd h (show ¬ (¬ ((nI 0) : Int32) = 0) by decide)) (fun _ => ?_)
          refine Ew.op (st' := zi (nI 1) :: _) f224_60 rfl rfl ?_
          refine Ew.goto f224_61 rfl ?_
          refine Ew.sr (ls' := [some (zr (some (1, 0, 0))), some (zi (nI i)), some (zi (nI j)), some (zi (nI p)), some (zi (nI q)), some (zi (nI 0)), some (zi (nI 1)), none, none, none, none]) f224_65 rfl rfl (Nat.le_of_ble_eq_true rfl) rfl rfl ?_
          exact h6 (Nat.not_le.mp fun e => c1 ((zle_iff nb_n nb_p).mpr e)) c4 (Nat.not_le.mp fun e => c5 ((zle_iff nb_m nb_q).mpr e)) c6
    · refine Ew.ifc f224_23 rfl rfl (fun h => absurd h (show ¬ (¬ ((nI 0) : Int32) = 0) by decide)) (fun _ => ?_)
      refine Ew.op (st' := zi (nI 1) :: _) f224_26 rfl rfl ?_
      refine Ew.goto f224_27 rfl ?_
      refine Ew.sr (ls' := [some (zr (some (1, 0, 0))), some (zi (nI i)), some (zi (nI j)), some (zi (nI p)), some (zi (nI q)), some (zi (nI 1)), none, none, none, none, none]) f224_31 rfl rfl (Nat.le_of_ble_eq_true rfl) rfl rfl ?_
      refine Ew.ld f224_33 rfl rfl rfl rfl ?_
      refine Ew.ld f224_35 rfl rfl rfl rfl ?_
      refine Ew.getp (v := some (1, 0, 13)) f224_36 rfl rfl rfl ?_
      refine Ew.ld f224_39 rfl rfl rfl rfl ?_
      refine Ew.ialdnV (v := nI m) f224_40 rfl (b10 (Nat.not_le.mp fun e => c1 ((zle_iff nb_n nb_p).mpr e)) c4) (Nat.le_of_ble_eq_true rfl) rfl (so_v e2) ?_
      refine Ew.icmp f224_41 rfl rfl (fun c7 => ?_) (fun c7 => ?_)
      · refine Ew.op (st' := zi (nI 0) :: _) f224_64 rfl rfl ?_
        refine Ew.sr (ls' := [some (zr (some (1, 0, 0))), some (zi (nI i)), some (zi (nI j)), some (zi (nI p)), some (zi (nI q)), some (zi (nI 1)), some (zi (nI 0)), none, none, none, none]) f224_65 rfl rfl (Nat.le_of_ble_eq_true rfl) rfl rfl ?_
        exact h7 (Nat.not_le.mp fun e => c1 ((zle_iff nb_n nb_p).mpr e)) c4 ((zle_iff nb_m nb_q).mp c7)
      · refine Ew.ld f224_44 rfl rfl rfl rfl ?_
        refine Ew.ld f224_45 rfl rfl rfl rfl ?_
        refine Ew.ld f224_46 rfl rfl rfl rfl ?_
        refine Ew.ld f224_48 rfl rfl rfl rfl ?_
        refine Ew.getp (v := some (1, 0, 31)) f224_49 rfl rfl rfl ?_
        refine Ew.ld f224_52 rfl rfl rfl rfl ?_
        refine Ew.ialdnO f224_53 rfl (b11 (Nat.not_le.mp fun e => c1 ((zle_iff nb_n nb_p).mpr e)) c4 (Nat.not_le.mp fun e => c7 ((zle_iff nb_m nb_q).mpr e))) (Nat.le_of_ble_eq_true rfl) rfl ?_
        refine Ew.call0 (ls0 := [some (zr (some (1, 0, 0))), some (zi (nI j)), some (zi (nI q)), some (zi (ρ 31 p))]) f224_54 rfl (Nat.le_of_ble_eq_true rfl) rfl rfl (Nat.le_of_ble_eq_true rfl) rfl (Nat.le_of_ble_eq_true rfl) rfl rfl ?_
        refine sp_isShut (b12 (Nat.not_le.mp fun e => c1 ((zle_iff nb_n nb_p).mpr e)) c4 (Nat.not_le.mp fun e => c7 ((zle_iff nb_m nb_q).mpr e))) (fun c8 => ?_) (fun c8 => ?_)
        · refine Ew.ifc f224_57 rfl rfl (fun _ => ?_) (fun h => absurd (show ¬ ((nI 1) : Int32) = 0 by decide) h)
          refine Ew.op (st' := zi (nI 0) :: _) f224_64 rfl rfl ?_
          refine Ew.sr (ls' := [some (zr (some (1, 0, 0))), some (zi (nI i)), some (zi (nI j)), some (zi (nI p)), some (zi (nI q)), some (zi (nI 1)), some (zi (nI 0)), none, none, none, none]) f224_65 rfl rfl (Nat.le_of_ble_eq_true rfl) rfl rfl ?_
          exact h8 (Nat.not_le.mp fun e => c1 ((zle_iff nb_n nb_p).mpr e)) c4 (Nat.not_le.mp fun e => c7 ((zle_iff nb_m nb_q).mpr e)) c8
        · refine Ew.ifc f224_57 rfl rfl (fun h => absurd h (show ¬ (¬ ((nI 0) : Int32) = 0) by decide)) (fun _ => ?_)
          refine Ew.op (st' := zi (nI 1) :: _) f224_60 rfl rfl ?_
          refine Ew.goto f224_61 rfl ?_
          refine Ew.sr (ls' := [some (zr (some (1, 0, 0))), some (zi (nI i)), some (zi (nI j)), some (zi (nI p)), some (zi (nI q)), some (zi (nI 1)), some (zi (nI 1)), none, none, none, none]) f224_65 rfl rfl (Nat.le_of_ble_eq_true rfl) rfl rfl ?_
          exact h9 (Nat.not_le.mp fun e => c1 ((zle_iff nb_n nb_p).mpr e)) c4 (Nat.not_le.mp fun e => c7 ((zle_iff nb_m nb_q).mpr e)) c8
theorem g224_67_00 {d c s : Nat} {i j p q n m : Nat} {X : zM} {ρ : Nat → Nat → Int32} {l : Nat → Nat → Int64} {Q : Option zV → zM → Prop} (e1 : ρ 13 i = nI n) (e2 : ρ 13 j = nI m) (nb_p : p < 5000) (nb_n : n < 5000) (nb_q : q < 5000) (nb_m : m < 5000)
    (b1 : 31 * p + q < 961)
    (b2 : 31 * p + q < 961)
    (b3 : i < 4)
    (h1 : (¬ p = n) → ((ρ 0 46) < 0) → Q none (OM X 1 0 (zu ρ 0 46 (nI (p + q))) (zu (zu l 0 44 ((l 0 44) + (l 29 (31 * p + q)))) 0 45 (((zu l 0 44 ((l 0 44) + (l 29 (31 * p + q)))) 0 45) + (l 30 (31 * p + q))))))
    (h2 : (¬ p = n) → (0 ≤ (ρ 0 46)) → ((ρ 0 46) ≤ (nI (p + q))) → Q none (OM X 1 0 (zu ρ 0 46 (ρ 0 46)) (zu (zu l 0 44 ((l 0 44) + (l 29 (31 * p + q)))) 0 45 (((zu l 0 44 ((l 0 44) + (l 29 (31 * p + q)))) 0 45) + (l 30 (31 * p + q))))))
    (h3 : (¬ p = n) → (0 ≤ (ρ 0 46)) → ((nI (p + q)) < (ρ 0 46)) → Q none (OM X 1 0 (zu ρ 0 46 (nI (p + q))) (zu (zu l 0 44 ((l 0 44) + (l 29 (31 * p + q)))) 0 45 (((zu l 0 44 ((l 0 44) + (l 29 (31 * p + q)))) 0 45) + (l 30 (31 * p + q))))))
    (b4 : (p = n) → j < 4)
    (h4 : (p = n) → (¬ q = m) → ((ρ 0 46) < 0) → Q none (OM X 1 0 (zu ρ 0 46 (nI (p + q))) (zu (zu l 0 44 ((l 0 44) + (l 29 (31 * p + q)))) 0 45 (((zu l 0 44 ((l 0 44) + (l 29 (31 * p + q)))) 0 45) + (l 30 (31 * p + q))))))
    (h5 : (p = n) → (¬ q = m) → (0 ≤ (ρ 0 46)) → ((ρ 0 46) ≤ (nI (p + q))) → Q none (OM X 1 0 (zu ρ 0 46 (ρ 0 46)) (zu (zu l 0 44 ((l 0 44) + (l 29 (31 * p + q)))) 0 45 (((zu l 0 44 ((l 0 44) + (l 29 (31 * p + q)))) 0 45) + (l 30 (31 * p + q))))))
    (h6 : (p = n) → (¬ q = m) → (0 ≤ (ρ 0 46)) → ((nI (p + q)) < (ρ 0 46)) → Q none (OM X 1 0 (zu ρ 0 46 (nI (p + q))) (zu (zu l 0 44 ((l 0 44) + (l 29 (31 * p + q)))) 0 45 (((zu l 0 44 ((l 0 44) + (l 29 (31 * p + q)))) 0 45) + (l 30 (31 * p + q))))))
    (h7 : (p = n) → (q = m) → Q none (OM X 1 0 ρ (zu l 0 43 ((l 0 43) + (l 29 (31 * p + q)))))) : Ev d c s 224 67 [some (zr (some (1, 0, 0))), some (zi (nI i)), some (zi (nI j)), some (zi (nI p)), some (zi (nI q)), some (zi (nI 0)), some (zi (nI 0)), none, none, none, none] [] (OM X 1 0 ρ l) Q := by
  refine Ew.ld f224_67 rfl rfl rfl rfl ?_
  refine Ew.getp (v := some (1, 0, 29)) f224_68 rfl rfl rfl ?_
  refine Ew.op (st' := zi (nI 31) :: _) f224_71 rfl rfl ?_
  refine Ew.ld f224_73 rfl rfl rfl rfl ?_
  refine Ew.muln f224_74 rfl ?_
  refine Ew.ld f224_75 rfl rfl rfl rfl ?_
  refine Ew.addn f224_77 rfl ?_
  refine Ew.laldnO f224_78 rfl b1 (Nat.le_of_ble_eq_true rfl) rfl ?_
  refine Ew.sr (ls' := [some (zr (some (1, 0, 0))), some (zi (nI i)), some (zi (nI j)), some (zi (nI p)), some (zi (nI q)), some (zi (nI 0)), some (zi (nI 0)), some (zl (l 29 (31 * p + q))), none, none, none]) f224_79 rfl rfl (Nat.le_of_ble_eq_true rfl) rfl rfl ?_
  refine Ew.ld f224_81 rfl rfl rfl rfl ?_
  refine Ew.getp (v := some (1, 0, 30)) f224_82 rfl rfl rfl ?_
  refine Ew.op (st' := zi (nI 31) :: _) f224_85 rfl rfl ?_
  refine Ew.ld f224_87 rfl rfl rfl rfl ?_
  refine Ew.muln f224_88 rfl ?_
  refine Ew.ld f224_89 rfl rfl rfl rfl ?_
  refine Ew.addn f224_91 rfl ?_
  refine Ew.laldnO f224_92 rfl b2 (Nat.le_of_ble_eq_true rfl) rfl ?_
  refine Ew.sr (ls' := [some (zr (some (1, 0, 0))), some (zi (nI i)), some (zi (nI j)), some (zi (nI p)), some (zi (nI q)), some (zi (nI 0)), some (zi (nI 0)), some (zl (l 29 (31 * p + q))), none, some (zl (l 30 (31 * p + q))), none]) f224_93 rfl rfl (Nat.le_of_ble_eq_true rfl) rfl rfl ?_
  refine Ew.ld f224_95 rfl rfl rfl rfl ?_
  refine Ew.ifc f224_97 rfl rfl (fun _ => ?_) (fun h => absurd (show ((nI 0) : Int32) = 0 by decide) h)
  refine Ew.ld f224_154 rfl rfl rfl rfl ?_
  refine Ew.ifc f224_156 rfl rfl (fun _ => ?_) (fun h => absurd (show ((nI 0) : Int32) = 0 by decide) h)
  refine Ew.ld f224_211 rfl rfl rfl rfl ?_
  refine Ew.ifc f224_213 rfl rfl (fun h => absurd h (show ¬ (¬ ((nI 0) : Int32) = 0) by decide)) (fun _ => ?_)
  refine Ew.ld f224_216 rfl rfl rfl rfl ?_
  refine Ew.ifc f224_218 rfl rfl (fun h => absurd h (show ¬ (¬ ((nI 0) : Int32) = 0) by decide)) (fun _ => ?_)
  refine Ew.ld f224_221 rfl rfl rfl rfl ?_
  refine Ew.ld f224_222 rfl rfl rfl rfl ?_
  refine Ew.getp (v := some (1, 0, 13)) f224_223 rfl rfl rfl ?_
  refine Ew.ld f224_226 rfl rfl rfl rfl ?_
  refine Ew.ialdnV (v := nI n) f224_227 rfl b3 (Nat.le_of_ble_eq_true rfl) rfl (so_v e1) ?_
  refine Ew.icmp f224_228 rfl rfl (fun c1 => ?_) (fun c1 => ?_)
  · refine Ew.ld f224_256 rfl rfl rfl rfl ?_
    refine Ew.ifc f224_258 rfl rfl (fun h => absurd h (show ¬ (¬ ((nI 0) : Int32) = 0) by decide)) (fun _ => ?_)
    refine Ew.ld f224_261 rfl rfl rfl rfl ?_
    refine Ew.ifc f224_263 rfl rfl (fun h => absurd h (show ¬ (¬ ((nI 0) : Int32) = 0) by decide)) (fun _ => ?_)
    refine Ew.ld f224_266 rfl rfl rfl rfl ?_
    refine Ew.op (st' := zr (some (1, 0, 0)) :: zr (some (1, 0, 0)) :: _) f224_267 rfl rfl ?_
    refine Ew.getlO f224_268 rfl rfl ?_
    refine Ew.ld f224_271 rfl rfl rfl rfl ?_
    refine Ew.op (st' := zl ((l 0 44) + (l 29 (31 * p + q))) :: _) f224_273 rfl rfl ?_
    refine Ew.putlO f224_274 rfl rfl ?_
    refine Ew.ld f224_277 rfl rfl rfl rfl ?_
    refine Ew.op (st' := zr (some (1, 0, 0)) :: zr (some (1, 0, 0)) :: _) f224_278 rfl rfl ?_
    refine Ew.getlO f224_279 rfl rfl ?_
    refine Ew.ld f224_282 rfl rfl rfl rfl ?_
    refine Ew.op (st' := zl (((zu l 0 44 ((l 0 44) + (l 29 (31 * p + q)))) 0 45) + (l 30 (31 * p + q))) :: _) f224_284 rfl rfl ?_
    refine Ew.putlO f224_285 rfl rfl ?_
    refine Ew.ld f224_288 rfl rfl rfl rfl ?_
    refine Ew.ld f224_289 rfl rfl rfl rfl ?_
    refine Ew.getiO f224_290 rfl rfl ?_
    refine Ew.ifc f224_293 rfl rfl (fun c2 => ?_) (fun c2 => ?_)
    · refine Ew.ld f224_307 rfl rfl rfl rfl ?_
      refine Ew.ld f224_308 rfl rfl rfl rfl ?_
      refine Ew.addn f224_310 rfl ?_
      refine Ew.goto f224_311 rfl ?_
      refine Ew.putiO f224_318 rfl rfl ?_
      refine Ew.vret f224_321 ?_
      exact h1 (fun e => c1 ((zeq nb_p nb_n).mpr e)) c2
    · refine Ew.ld f224_296 rfl rfl rfl rfl ?_
      refine Ew.ld f224_297 rfl rfl rfl rfl ?_
      refine Ew.addn f224_299 rfl ?_
      refine Ew.ld f224_300 rfl rfl rfl rfl ?_
      refine Ew.getiO f224_301 rfl rfl ?_
      refine Ew.icmp f224_304 rfl rfl (fun c3 => ?_) (fun c3 => ?_)
      · refine Ew.ld f224_314 rfl rfl rfl rfl ?_
        refine Ew.getiO f224_315 rfl rfl ?_
        refine Ew.putiO f224_318 rfl rfl ?_
        refine Ew.vret f224_321 ?_
        exact h2 (fun e => c1 ((zeq nb_p nb_n).mpr e)) (Int32.not_lt.mp c2) c3
      · refine Ew.ld f224_307 rfl rfl rfl rfl ?_
        refine Ew.ld f224_308 rfl rfl rfl rfl ?_
        refine Ew.addn f224_310 rfl ?_
        refine Ew.goto f224_311 rfl ?_
        refine Ew.putiO f224_318 rfl rfl ?_
        refine Ew.vret f224_321 ?_
        exact h3 (fun e => c1 ((zeq nb_p nb_n).mpr e)) (Int32.not_lt.mp c2) (Int32.not_le.mp c3)
  · refine Ew.ld f224_231 rfl rfl rfl rfl ?_
    refine Ew.ld f224_233 rfl rfl rfl rfl ?_
    refine Ew.getp (v := some (1, 0, 13)) f224_234 rfl rfl rfl ?_
    refine Ew.ld f224_237 rfl rfl rfl rfl ?_
    refine Ew.ialdnV (v := nI m) f224_238 rfl (b4 ((zeq nb_p nb_n).mp (Classical.not_not.mp c1))) (Nat.le_of_ble_eq_true rfl) rfl (so_v e2) ?_
    refine Ew.icmp f224_239 rfl rfl (fun c4 => ?_) (fun c4 => ?_)
    · refine Ew.ld f224_256 rfl rfl rfl rfl ?_
      refine Ew.ifc f224_258 rfl rfl (fun h => absurd h (show ¬ (¬ ((nI 0) : Int32) = 0) by decide)) (fun _ => ?_)
      refine Ew.ld f224_261 rfl rfl rfl rfl ?_
      refine Ew.ifc f224_263 rfl rfl (fun h => absurd h (show ¬ (¬ ((nI 0) : Int32) = 0) by decide)) (fun _ => ?_)
      refine Ew.ld f224_266 rfl rfl rfl rfl ?_
      refine Ew.op (st' := zr (some (1, 0, 0)) :: zr (some (1, 0, 0)) :: _) f224_267 rfl rfl ?_
      refine Ew.getlO f224_268 rfl rfl ?_
      refine Ew.ld f224_271 rfl rfl rfl rfl ?_
      refine Ew.op (st' := zl ((l 0 44) + (l 29 (31 * p + q))) :: _) f224_273 rfl rfl ?_
      refine Ew.putlO f224_274 rfl rfl ?_
      refine Ew.ld f224_277 rfl rfl rfl rfl ?_
      refine Ew.op (st' := zr (some (1, 0, 0)) :: zr (some (1, 0, 0)) :: _) f224_278 rfl rfl ?_
      refine Ew.getlO f224_279 rfl rfl ?_
      refine Ew.ld f224_282 rfl rfl rfl rfl ?_
      refine Ew.op (st' := zl (((zu l 0 44 ((l 0 44) + (l 29 (31 * p + q)))) 0 45) + (l 30 (31 * p + q))) :: _) f224_284 rfl rfl ?_
      refine Ew.putlO f224_285 rfl rfl ?_
      refine Ew.ld f224_288 rfl rfl rfl rfl ?_
      refine Ew.ld f224_289 rfl rfl rfl rfl ?_
      refine Ew.getiO f224_290 rfl rfl ?_
      refine Ew.ifc f224_293 rfl rfl (fun c5 => ?_) (fun c5 => ?_)
      · refine Ew.ld f224_307 rfl rfl rfl rfl ?_
        refine Ew.ld f224_308 rfl rfl rfl rfl ?_
        refine Ew.addn f224_310 rfl ?_
        refine Ew.goto f224_311 rfl ?_
        refine Ew.putiO f224_318 rfl rfl ?_
        refine Ew.vret f224_321 ?_
        exact h4 ((zeq nb_p nb_n).mp (Classical.not_not.mp c1)) (fun e => c4 ((zeq nb_q nb_m).mpr e)) c5
      · refine Ew.ld f224_296 rfl rfl rfl rfl ?_
        refine Ew.ld f224_297 rfl rfl rfl rfl ?_
        refine Ew.addn f224_299 rfl ?_
        refine Ew.ld f224_300 rfl rfl rfl rfl ?_
        refine Ew.getiO f224_301 rfl rfl ?_
        refine Ew.icmp f224_304 rfl rfl (fun c6 => ?_) (fun c6 => ?_)
        · refine Ew.ld f224_314 rfl rfl rfl rfl ?_
          refine Ew.getiO f224_315 rfl rfl ?_
          refine Ew.putiO f224_318 rfl rfl ?_
          refine Ew.vret f224_321 ?_
          exact h5 ((zeq nb_p nb_n).mp (Classical.not_not.mp c1)) (fun e => c4 ((zeq nb_q nb_m).mpr e)) (Int32.not_lt.mp c5) c6
        · refine Ew.ld f224_307 rfl rfl rfl rfl ?_
          refine Ew.ld f224_308 rfl rfl rfl rfl ?_
          refine Ew.addn f224_310 rfl ?_
          refine Ew.goto f224_311 rfl ?_
          refine Ew.putiO f224_318 rfl rfl ?_
          refine Ew.vret f224_321 ?_
          exact h6 ((zeq nb_p nb_n).mp (Classical.not_not.mp c1)) (fun e => c4 ((zeq nb_q nb_m).mpr e)) (Int32.not_lt.mp c5) (Int32.not_le.mp c6)
    · refine Ew.ld f224_242 rfl rfl rfl rfl ?_
      refine Ew.op (st' := zr (some (1, 0, 0)) :: zr (some (1, 0, 0)) :: _) f224_243 rfl rfl ?_
      refine Ew.getlO f224_244 rfl rfl ?_
      refine Ew.ld f224_247 rfl rfl rfl rfl ?_
      refine Ew.op (st' := zl ((l 0 43) + (l 29 (31 * p + q))) :: _) f224_249 rfl rfl ?_
      refine Ew.putlO f224_250 rfl rfl ?_
      refine Ew.goto f224_253 rfl ?_
      refine Ew.vret f224_321 ?_
      exact h7 ((zeq nb_p nb_n).mp (Classical.not_not.mp c1)) ((zeq nb_q nb_m).mp (Classical.not_not.mp c4))
theorem g224_67_01 {d c s : Nat} {i j p q : Nat} {X : zM} {ρ : Nat → Nat → Int32} {l : Nat → Nat → Int64} {Q : Option zV → zM → Prop}
    (b1 : 31 * p + q < 961)
    (b2 : 31 * p + q < 961)
    (b3 : 31 * p + q + 1 < 961)
    (b4 : 31 * p + q + 1 < 961)
    (b5 : 31 * p + q + 1 < 961)
    (b6 : 31 * p + q + 1 < 961)
    (h1 : Q none (OM X 1 0 ρ (zu (zu l 29 (31 * p + q + 1) ((l 29 (31 * p + q + 1)) + (l 29 (31 * p + q)))) 30 (31 * p + q + 1) ((l 30 (31 * p + q + 1)) + (l 30 (31 * p + q)))))) : Ev d c s 224 67 [some (zr (some (1, 0, 0))), some (zi (nI i)), some (zi (nI j)), some (zi (nI p)), some (zi (nI q)), some (zi (nI 0)), some (zi (nI 1)), none, none, none, none] [] (OM X 1 0 ρ l) Q := by
  refine Ew.ld f224_67 rfl rfl rfl rfl ?_
  refine Ew.getp (v := some (1, 0, 29)) f224_68 rfl rfl rfl ?_
  refine Ew.op (st' := zi (nI 31) :: _) f224_71 rfl rfl ?_
  refine Ew.ld f224_73 rfl rfl rfl rfl ?_
  refine Ew.muln f224_74 rfl ?_
  refine Ew.ld f224_75 rfl rfl rfl rfl ?_
  refine Ew.addn f224_77 rfl ?_
  refine Ew.laldnO f224_78 rfl b1 (Nat.le_of_ble_eq_true rfl) rfl ?_
  refine Ew.sr (ls' := [some (zr (some (1, 0, 0))), some (zi (nI i)), some (zi (nI j)), some (zi (nI p)), some (zi (nI q)), some (zi (nI 0)), some (zi (nI 1)), some (zl (l 29 (31 * p + q))), none, none, none]) f224_79 rfl rfl (Nat.le_of_ble_eq_true rfl) rfl rfl ?_
  refine Ew.ld f224_81 rfl rfl rfl rfl ?_
  refine Ew.getp (v := some (1, 0, 30)) f224_82 rfl rfl rfl ?_
  refine Ew.op (st' := zi (nI 31) :: _) f224_85 rfl rfl ?_
  refine Ew.ld f224_87 rfl rfl rfl rfl ?_
  refine Ew.muln f224_88 rfl ?_
  refine Ew.ld f224_89 rfl rfl rfl rfl ?_
  refine Ew.addn f224_91 rfl ?_
  refine Ew.laldnO f224_92 rfl b2 (Nat.le_of_ble_eq_true rfl) rfl ?_
  refine Ew.sr (ls' := [some (zr (some (1, 0, 0))), some (zi (nI i)), some (zi (nI j)), some (zi (nI p)), some (zi (nI q)), some (zi (nI 0)), some (zi (nI 1)), some (zl (l 29 (31 * p + q))), none, some (zl (l 30 (31 * p + q))), none]) f224_93 rfl rfl (Nat.le_of_ble_eq_true rfl) rfl rfl ?_
  refine Ew.ld f224_95 rfl rfl rfl rfl ?_
  refine Ew.ifc f224_97 rfl rfl (fun _ => ?_) (fun h => absurd (show ((nI 0) : Int32) = 0 by decide) h)
  refine Ew.ld f224_154 rfl rfl rfl rfl ?_
  refine Ew.ifc f224_156 rfl rfl (fun h => absurd h (show ¬ (((nI 1) : Int32) = 0) by decide)) (fun _ => ?_)
  refine Ew.ld f224_159 rfl rfl rfl rfl ?_
  refine Ew.getp (v := some (1, 0, 29)) f224_160 rfl rfl rfl ?_
  refine Ew.op (st' := zi (nI 31) :: _) f224_163 rfl rfl ?_
  refine Ew.ld f224_165 rfl rfl rfl rfl ?_
  refine Ew.muln f224_166 rfl ?_
  refine Ew.ld f224_167 rfl rfl rfl rfl ?_
  refine Ew.addn f224_169 rfl ?_
  refine Ew.op (st' := zi (nI 1) :: _) f224_170 rfl rfl ?_
  refine Ew.addn f224_171 rfl ?_
  refine Ew.op (st' := zi (nI (31 * p + q + 1)) :: zr (some (1, 0, 29)) :: zi (nI (31 * p + q + 1)) :: zr (some (1, 0, 29)) :: _) f224_172 rfl rfl ?_
  refine Ew.laldnO f224_173 rfl b3 (Nat.le_of_ble_eq_true rfl) rfl ?_
  refine Ew.ld f224_174 rfl rfl rfl rfl ?_
  refine Ew.op (st' := zl ((l 29 (31 * p + q + 1)) + (l 29 (31 * p + q))) :: _) f224_176 rfl rfl ?_
  refine Ew.lastnO f224_177 rfl b4 (Nat.le_of_ble_eq_true rfl) rfl ?_
  refine Ew.ld f224_178 rfl rfl rfl rfl ?_
  refine Ew.getp (v := some (1, 0, 30)) f224_179 rfl rfl rfl ?_
  refine Ew.op (st' := zi (nI 31) :: _) f224_182 rfl rfl ?_
  refine Ew.ld f224_184 rfl rfl rfl rfl ?_
  refine Ew.muln f224_185 rfl ?_
  refine Ew.ld f224_186 rfl rfl rfl rfl ?_
  refine Ew.addn f224_188 rfl ?_
  refine Ew.op (st' := zi (nI 1) :: _) f224_189 rfl rfl ?_
  refine Ew.addn f224_190 rfl ?_
  refine Ew.op (st' := zi (nI (31 * p + q + 1)) :: zr (some (1, 0, 30)) :: zi (nI (31 * p + q + 1)) :: zr (some (1, 0, 30)) :: _) f224_191 rfl rfl ?_
  refine Ew.laldnO f224_192 rfl b5 (Nat.le_of_ble_eq_true rfl) rfl ?_
  refine Ew.ld f224_193 rfl rfl rfl rfl ?_
  refine Ew.ifc f224_195 rfl rfl (fun _ => ?_) (fun h => absurd (show ((nI 0) : Int32) = 0 by decide) h)
  refine Ew.ld f224_207 rfl rfl rfl rfl ?_
  refine Ew.op (st' := zl ((l 30 (31 * p + q + 1)) + (l 30 (31 * p + q))) :: _) f224_209 rfl rfl ?_
  refine Ew.lastnO f224_210 rfl b6 (Nat.le_of_ble_eq_true rfl) rfl ?_
  refine Ew.ld f224_211 rfl rfl rfl rfl ?_
  refine Ew.ifc f224_213 rfl rfl (fun h => absurd h (show ¬ (¬ ((nI 0) : Int32) = 0) by decide)) (fun _ => ?_)
  refine Ew.ld f224_216 rfl rfl rfl rfl ?_
  refine Ew.ifc f224_218 rfl rfl (fun _ => ?_) (fun h => absurd (show ¬ ((nI 1) : Int32) = 0 by decide) h)
  refine Ew.ld f224_256 rfl rfl rfl rfl ?_
  refine Ew.ifc f224_258 rfl rfl (fun h => absurd h (show ¬ (¬ ((nI 0) : Int32) = 0) by decide)) (fun _ => ?_)
  refine Ew.ld f224_261 rfl rfl rfl rfl ?_
  refine Ew.ifc f224_263 rfl rfl (fun _ => ?_) (fun h => absurd (show ¬ ((nI 1) : Int32) = 0 by decide) h)
  refine Ew.vret f224_321 ?_
  exact h1
theorem g224_67_10 {d c s : Nat} {i j p q : Nat} {X : zM} {ρ : Nat → Nat → Int32} {l : Nat → Nat → Int64} {Q : Option zV → zM → Prop}
    (b1 : 31 * p + q < 961)
    (b2 : 31 * p + q < 961)
    (b3 : 31 * p + 31 + q < 961)
    (b4 : 31 * p + 31 + q < 961)
    (b5 : 31 * p + 31 + q < 961)
    (b6 : 31 * p + 31 + q < 961)
    (h1 : Q none (OM X 1 0 ρ (zu (zu l 29 (31 * p + 31 + q) ((l 29 (31 * p + 31 + q)) + (l 29 (31 * p + q)))) 30 (31 * p + 31 + q) ((l 30 (31 * p + 31 + q)) + (l 30 (31 * p + q)))))) : Ev d c s 224 67 [some (zr (some (1, 0, 0))), some (zi (nI i)), some (zi (nI j)), some (zi (nI p)), some (zi (nI q)), some (zi (nI 1)), some (zi (nI 0)), none, none, none, none] [] (OM X 1 0 ρ l) Q := by
  refine Ew.ld f224_67 rfl rfl rfl rfl ?_
  refine Ew.getp (v := some (1, 0, 29)) f224_68 rfl rfl rfl ?_
  refine Ew.op (st' := zi (nI 31) :: _) f224_71 rfl rfl ?_
  refine Ew.ld f224_73 rfl rfl rfl rfl ?_
  refine Ew.muln f224_74 rfl ?_
  refine Ew.ld f224_75 rfl rfl rfl rfl ?_
  refine Ew.addn f224_77 rfl ?_
  refine Ew.laldnO f224_78 rfl b1 (Nat.le_of_ble_eq_true rfl) rfl ?_
  refine Ew.sr (ls' := [some (zr (some (1, 0, 0))), some (zi (nI i)), some (zi (nI j)), some (zi (nI p)), some (zi (nI q)), some (zi (nI 1)), some (zi (nI 0)), some (zl (l 29 (31 * p + q))), none, none, none]) f224_79 rfl rfl (Nat.le_of_ble_eq_true rfl) rfl rfl ?_
  refine Ew.ld f224_81 rfl rfl rfl rfl ?_
  refine Ew.getp (v := some (1, 0, 30)) f224_82 rfl rfl rfl ?_
  refine Ew.op (st' := zi (nI 31) :: _) f224_85 rfl rfl ?_
  refine Ew.ld f224_87 rfl rfl rfl rfl ?_
  refine Ew.muln f224_88 rfl ?_
  refine Ew.ld f224_89 rfl rfl rfl rfl ?_
  refine Ew.addn f224_91 rfl ?_
  refine Ew.laldnO f224_92 rfl b2 (Nat.le_of_ble_eq_true rfl) rfl ?_
  refine Ew.sr (ls' := [some (zr (some (1, 0, 0))), some (zi (nI i)), some (zi (nI j)), some (zi (nI p)), some (zi (nI q)), some (zi (nI 1)), some (zi (nI 0)), some (zl (l 29 (31 * p + q))), none, some (zl (l 30 (31 * p + q))), none]) f224_93 rfl rfl (Nat.le_of_ble_eq_true rfl) rfl rfl ?_
  refine Ew.ld f224_95 rfl rfl rfl rfl ?_
  refine Ew.ifc f224_97 rfl rfl (fun h => absurd h (show ¬ (((nI 1) : Int32) = 0) by decide)) (fun _ => ?_)
  refine Ew.ld f224_100 rfl rfl rfl rfl ?_
  refine Ew.getp (v := some (1, 0, 29)) f224_101 rfl rfl rfl ?_
  refine Ew.op (st' := zi (nI 31) :: _) f224_104 rfl rfl ?_
  refine Ew.ld f224_106 rfl rfl rfl rfl ?_
  refine Ew.muln f224_107 rfl ?_
  refine Ew.op (st' := zi (nI 31) :: _) f224_108 rfl rfl ?_
  refine Ew.addn f224_110 rfl ?_
  refine Ew.ld f224_111 rfl rfl rfl rfl ?_
  refine Ew.addn f224_113 rfl ?_
  refine Ew.op (st' := zi (nI (31 * p + 31 + q)) :: zr (some (1, 0, 29)) :: zi (nI (31 * p + 31 + q)) :: zr (some (1, 0, 29)) :: _) f224_114 rfl rfl ?_
  refine Ew.laldnO f224_115 rfl b3 (Nat.le_of_ble_eq_true rfl) rfl ?_
  refine Ew.ld f224_116 rfl rfl rfl rfl ?_
  refine Ew.op (st' := zl ((l 29 (31 * p + 31 + q)) + (l 29 (31 * p + q))) :: _) f224_118 rfl rfl ?_
  refine Ew.lastnO f224_119 rfl b4 (Nat.le_of_ble_eq_true rfl) rfl ?_
  refine Ew.ld f224_120 rfl rfl rfl rfl ?_
  refine Ew.getp (v := some (1, 0, 30)) f224_121 rfl rfl rfl ?_
  refine Ew.op (st' := zi (nI 31) :: _) f224_124 rfl rfl ?_
  refine Ew.ld f224_126 rfl rfl rfl rfl ?_
  refine Ew.muln f224_127 rfl ?_
  refine Ew.op (st' := zi (nI 31) :: _) f224_128 rfl rfl ?_
  refine Ew.addn f224_130 rfl ?_
  refine Ew.ld f224_131 rfl rfl rfl rfl ?_
  refine Ew.addn f224_133 rfl ?_
  refine Ew.op (st' := zi (nI (31 * p + 31 + q)) :: zr (some (1, 0, 30)) :: zi (nI (31 * p + 31 + q)) :: zr (some (1, 0, 30)) :: _) f224_134 rfl rfl ?_
  refine Ew.laldnO f224_135 rfl b5 (Nat.le_of_ble_eq_true rfl) rfl ?_
  refine Ew.ld f224_136 rfl rfl rfl rfl ?_
  refine Ew.ifc f224_138 rfl rfl (fun _ => ?_) (fun h => absurd (show ((nI 0) : Int32) = 0 by decide) h)
  refine Ew.ld f224_150 rfl rfl rfl rfl ?_
  refine Ew.op (st' := zl ((l 30 (31 * p + 31 + q)) + (l 30 (31 * p + q))) :: _) f224_152 rfl rfl ?_
  refine Ew.lastnO f224_153 rfl b6 (Nat.le_of_ble_eq_true rfl) rfl ?_
  refine Ew.ld f224_154 rfl rfl rfl rfl ?_
  refine Ew.ifc f224_156 rfl rfl (fun _ => ?_) (fun h => absurd (show ((nI 0) : Int32) = 0 by decide) h)
  refine Ew.ld f224_211 rfl rfl rfl rfl ?_
  refine Ew.ifc f224_213 rfl rfl (fun _ => ?_) (fun h => absurd (show ¬ ((nI 1) : Int32) = 0 by decide) h)
  refine Ew.ld f224_256 rfl rfl rfl rfl ?_
  refine Ew.ifc f224_258 rfl rfl (fun _ => ?_) (fun h => absurd (show ¬ ((nI 1) : Int32) = 0 by decide) h)
  refine Ew.vret f224_321 ?_
  exact h1
theorem g224_67_11 {d c s : Nat} {i j p q : Nat} {X : zM} {ρ : Nat → Nat → Int32} {l : Nat → Nat → Int64} {Q : Option zV → zM → Prop}
    (b1 : 31 * p + q < 961)
    (b2 : 31 * p + q < 961)
    (b3 : 31 * p + 31 + q < 961)
    (b4 : 31 * p + 31 + q < 961)
    (b5 : 31 * p + 31 + q < 961)
    (b6 : 31 * p + 31 + q < 961)
    (b7 : 31 * p + q + 1 < 961)
    (b8 : 31 * p + q + 1 < 961)
    (b9 : 31 * p + q + 1 < 961)
    (b10 : 31 * p + q + 1 < 961)
    (h1 : Q none (OM X 1 0 ρ (zu (zu (zu (zu l 29 (31 * p + 31 + q) ((l 29 (31 * p + 31 + q)) + (l 29 (31 * p + q)))) 30 (31 * p + 31 + q) ((l 30 (31 * p + 31 + q)) + ((l 30 (31 * p + q)) / (lN 2)))) 29 (31 * p + q + 1) (((zu l 29 (31 * p + 31 + q) ((l 29 (31 * p + 31 + q)) + (l 29 (31 * p + q)))) 29 (31 * p + q + 1)) + (l 29 (31 * p + q)))) 30 (31 * p + q + 1) (((zu (zu l 29 (31 * p + 31 + q) ((l 29 (31 * p + 31 + q)) + (l 29 (31 * p + q)))) 30 (31 * p + 31 + q) ((l 30 (31 * p + 31 + q)) + ((l 30 (31 * p + q)) / (lN 2)))) 30 (31 * p + q + 1)) + ((l 30 (31 * p + q)) / (lN 2)))))) : Ev d c s 224 67 [some (zr (some (1, 0, 0))), some (zi (nI i)), some (zi (nI j)), some (zi (nI p)), some (zi (nI q)), some (zi (nI 1)), some (zi (nI 1)), none, none, none, none] [] (OM X 1 0 ρ l) Q := by
  refine Ew.ld f224_67 rfl rfl rfl rfl ?_
  refine Ew.getp (v := some (1, 0, 29)) f224_68 rfl rfl rfl ?_
  refine Ew.op (st' := zi (nI 31) :: _) f224_71 rfl rfl ?_
  refine Ew.ld f224_73 rfl rfl rfl rfl ?_
  refine Ew.muln f224_74 rfl ?_
  refine Ew.ld f224_75 rfl rfl rfl rfl ?_
  refine Ew.addn f224_77 rfl ?_
  refine Ew.laldnO f224_78 rfl b1 (Nat.le_of_ble_eq_true rfl) rfl ?_
  refine Ew.sr (ls' := [some (zr (some (1, 0, 0))), some (zi (nI i)), some (zi (nI j)), some (zi (nI p)), some (zi (nI q)), some (zi (nI 1)), some (zi (nI 1)), some (zl (l 29 (31 * p + q))), none, none, none]) f224_79 rfl rfl (Nat.le_of_ble_eq_true rfl) rfl rfl ?_
  refine Ew.ld f224_81 rfl rfl rfl rfl ?_
  refine Ew.getp (v := some (1, 0, 30)) f224_82 rfl rfl rfl ?_
  refine Ew.op (st' := zi (nI 31) :: _) f224_85 rfl rfl ?_
  refine Ew.ld f224_87 rfl rfl rfl rfl ?_
  refine Ew.muln f224_88 rfl ?_
  refine Ew.ld f224_89 rfl rfl rfl rfl ?_
  refine Ew.addn f224_91 rfl ?_
  refine Ew.laldnO f224_92 rfl b2 (Nat.le_of_ble_eq_true rfl) rfl ?_
  refine Ew.sr (ls' := [some (zr (some (1, 0, 0))), some (zi (nI i)), some (zi (nI j)), some (zi (nI p)), some (zi (nI q)), some (zi (nI 1)), some (zi (nI 1)), some (zl (l 29 (31 * p + q))), none, some (zl (l 30 (31 * p + q))), none]) f224_93 rfl rfl (Nat.le_of_ble_eq_true rfl) rfl rfl ?_
  refine Ew.ld f224_95 rfl rfl rfl rfl ?_
  refine Ew.ifc f224_97 rfl rfl (fun h => absurd h (show ¬ (((nI 1) : Int32) = 0) by decide)) (fun _ => ?_)
  refine Ew.ld f224_100 rfl rfl rfl rfl ?_
  refine Ew.getp (v := some (1, 0, 29)) f224_101 rfl rfl rfl ?_
  refine Ew.op (st' := zi (nI 31) :: _) f224_104 rfl rfl ?_
  refine Ew.ld f224_106 rfl rfl rfl rfl ?_
  refine Ew.muln f224_107 rfl ?_
  refine Ew.op (st' := zi (nI 31) :: _) f224_108 rfl rfl ?_
  refine Ew.addn f224_110 rfl ?_
  refine Ew.ld f224_111 rfl rfl rfl rfl ?_
  refine Ew.addn f224_113 rfl ?_
  refine Ew.op (st' := zi (nI (31 * p + 31 + q)) :: zr (some (1, 0, 29)) :: zi (nI (31 * p + 31 + q)) :: zr (some (1, 0, 29)) :: _) f224_114 rfl rfl ?_
  refine Ew.laldnO f224_115 rfl b3 (Nat.le_of_ble_eq_true rfl) rfl ?_
  refine Ew.ld f224_116 rfl rfl rfl rfl ?_
  refine Ew.op (st' := zl ((l 29 (31 * p + 31 + q)) + (l 29 (31 * p + q))) :: _) f224_118 rfl rfl ?_
  refine Ew.lastnO f224_119 rfl b4 (Nat.le_of_ble_eq_true rfl) rfl ?_
  refine Ew.ld f224_120 rfl rfl rfl rfl ?_
  refine Ew.getp (v := some (1, 0, 30)) f224_121 rfl rfl rfl ?_
  refine Ew.op (st' := zi (nI 31) :: _) f224_124 rfl rfl ?_
  refine Ew.ld f224_126 rfl rfl rfl rfl ?_
  refine Ew.muln f224_127 rfl ?_
  refine Ew.op (st' := zi (nI 31) :: _) f224_128 rfl rfl ?_
  refine Ew.addn f224_130 rfl ?_
  refine Ew.ld f224_131 rfl rfl rfl rfl ?_
  refine Ew.addn f224_133 rfl ?_
  refine Ew.op (st' := zi (nI (31 * p + 31 + q)) :: zr (some (1, 0, 30)) :: zi (nI (31 * p + 31 + q)) :: zr (some (1, 0, 30)) :: _) f224_134 rfl rfl ?_
  refine Ew.laldnO f224_135 rfl b5 (Nat.le_of_ble_eq_true rfl) rfl ?_
  refine Ew.ld f224_136 rfl rfl rfl rfl ?_
  refine Ew.ifc f224_138 rfl rfl (fun h => absurd h (show ¬ (((nI 1) : Int32) = 0) by decide)) (fun _ => ?_)
  refine Ew.ld f224_141 rfl rfl rfl rfl ?_
  refine Ew.op (st' := zl (lN 2) :: _) f224_143 rfl rfl ?_
  refine Ew.ldiv f224_146 (by decide) rfl ?_
  refine Ew.goto f224_147 rfl ?_
  refine Ew.op (st' := zl ((l 30 (31 * p + 31 + q)) + ((l 30 (31 * p + q)) / (lN 2))) :: _) f224_152 rfl rfl ?_
  refine Ew.lastnO f224_153 rfl b6 (Nat.le_of_ble_eq_true rfl) rfl ?_
  refine Ew.ld f224_154 rfl rfl rfl rfl ?_
  refine Ew.ifc f224_156 rfl rfl (fun h => absurd h (show ¬ (((nI 1) : Int32) = 0) by decide)) (fun _ => ?_)
  refine Ew.ld f224_159 rfl rfl rfl rfl ?_
  refine Ew.getp (v := some (1, 0, 29)) f224_160 rfl rfl rfl ?_
  refine Ew.op (st' := zi (nI 31) :: _) f224_163 rfl rfl ?_
  refine Ew.ld f224_165 rfl rfl rfl rfl ?_
  refine Ew.muln f224_166 rfl ?_
  refine Ew.ld f224_167 rfl rfl rfl rfl ?_
  refine Ew.addn f224_169 rfl ?_
  refine Ew.op (st' := zi (nI 1) :: _) f224_170 rfl rfl ?_
  refine Ew.addn f224_171 rfl ?_
  refine Ew.op (st' := zi (nI (31 * p + q + 1)) :: zr (some (1, 0, 29)) :: zi (nI (31 * p + q + 1)) :: zr (some (1, 0, 29)) :: _) f224_172 rfl rfl ?_
  refine Ew.laldnO f224_173 rfl b7 (Nat.le_of_ble_eq_true rfl) rfl ?_
  refine Ew.ld f224_174 rfl rfl rfl rfl ?_
  refine Ew.op (st' := zl (((zu l 29 (31 * p + 31 + q) ((l 29 (31 * p + 31 + q)) + (l 29 (31 * p + q)))) 29 (31 * p + q + 1)) + (l 29 (31 * p + q))) :: _) f224_176 rfl rfl ?_
  refine Ew.lastnO f224_177 rfl b8 (Nat.le_of_ble_eq_true rfl) rfl ?_
  refine Ew.ld f224_178 rfl rfl rfl rfl ?_
  refine Ew.getp (v := some (1, 0, 30)) f224_179 rfl rfl rfl ?_
  refine Ew.op (st' := zi (nI 31) :: _) f224_182 rfl rfl ?_
  refine Ew.ld f224_184 rfl rfl rfl rfl ?_
  refine Ew.muln f224_185 rfl ?_
  refine Ew.ld f224_186 rfl rfl rfl rfl ?_
  refine Ew.addn f224_188 rfl ?_
  refine Ew.op (st' := zi (nI 1) :: _) f224_189 rfl rfl ?_
  refine Ew.addn f224_190 rfl ?_
  refine Ew.op (st' := zi (nI (31 * p + q + 1)) :: zr (some (1, 0, 30)) :: zi (nI (31 * p + q + 1)) :: zr (some (1, 0, 30)) :: _) f224_191 rfl rfl ?_
  refine Ew.laldnO f224_192 rfl b9 (Nat.le_of_ble_eq_true rfl) rfl ?_
  refine Ew.ld f224_193 rfl rfl rfl rfl ?_
  refine Ew.ifc f224_195 rfl rfl (fun h => absurd h (show ¬ (((nI 1) : Int32) = 0) by decide)) (fun _ => ?_)
  refine Ew.ld f224_198 rfl rfl rfl rfl ?_
  refine Ew.op (st' := zl (lN 2) :: _) f224_200 rfl rfl ?_
  refine Ew.ldiv f224_203 (by decide) rfl ?_
  refine Ew.goto f224_204 rfl ?_
  refine Ew.op (st' := zl (((zu (zu l 29 (31 * p + 31 + q) ((l 29 (31 * p + 31 + q)) + (l 29 (31 * p + q)))) 30 (31 * p + 31 + q) ((l 30 (31 * p + 31 + q)) + ((l 30 (31 * p + q)) / (lN 2)))) 30 (31 * p + q + 1)) + ((l 30 (31 * p + q)) / (lN 2))) :: _) f224_209 rfl rfl ?_
  refine Ew.lastnO f224_210 rfl b10 (Nat.le_of_ble_eq_true rfl) rfl ?_
  refine Ew.ld f224_211 rfl rfl rfl rfl ?_
  refine Ew.ifc f224_213 rfl rfl (fun _ => ?_) (fun h => absurd (show ¬ ((nI 1) : Int32) = 0 by decide) h)
  refine Ew.ld f224_256 rfl rfl rfl rfl ?_
  refine Ew.ifc f224_258 rfl rfl (fun _ => ?_) (fun h => absurd (show ¬ ((nI 1) : Int32) = 0 by decide) h)
  refine Ew.vret f224_321 ?_
  exact h1
theorem sp_goesOn {d c s i j p q : Nat} {S : gS} {X : zM} {ρ : Nat → Nat → Int32} {l : Nat → Nat → Int64} {Q : Option zV → zM → Prop} (hi : i < 4) (hj : j < 4) (hT : rTr ρ) (hp : p ≤ rM ρ i) (hq : q ≤ rM ρ j) (h31 : ρ 31 p = rSet ρ i p) (h32 : ρ 32 q = rSet ρ j q) (hI : gInv (rM ρ j) p q S) (h0 : ¬ S.1 q = 0) (hr : gRel l p q S) (h46 : ρ 0 46 = S.2.2.2.2.2) (k : ∀ l' v, gRel l' p (q + 1) (gPl (gC ρ i j p q) (gC ρ j i q p) (rM ρ i) (rM ρ j) p q S) → v = (gPl (gC ρ i j p q) (gC ρ j i q p) (rM ρ i) (rM ρ j) p q S).2.2.2.2.2 → (∀ x, l' 8 x = l 8 x) → Q none (OM X 1 0 (zu ρ 0 46 v) l')) : Ev (d + 2) c s 224 0 [some (zr (some (1, 0, 0))), some (zi (nI i)), some (zi (nI j)), some (zi (nI p)), some (zi (nI q)), none, none, none, none, none, none] [] (OM X 1 0 ρ l) Q := by
  obtain ⟨ti1, ti2, _⟩ := hT i hi
  obtain ⟨tj1, tj2, _⟩ := hT j hj
  have hle := hI.le (c := q) (by omega)
  obtain ⟨r1, r2, r3, r4⟩ := hr
  have rpq := (r1 p q (by omega) (by omega)).1 (Or.inl ⟨rfl, Nat.le_refl q⟩)
  have id46 : ∀ v, v = S.2.2.2.2.2 → zu ρ 0 46 v = ρ := by
    intro v hv
    rw [hv, ← h46]
    unfold zu
    rw [zup_id, zup_id]
  -- both can
  have k11 : gC ρ i j p q = true → gC ρ j i q p = true → Ev (d + 2) c s 224 67 [some (zr (some (1, 0, 0))), some (zi (nI i)), some (zi (nI j)), some (zi (nI p)), some (zi (nI q)), some (zi (nI 1)), some (zi (nI 1)), none, none, none, none] [] (OM X 1 0 ρ l) Q := by
    intro c1 c2
    have hp1 : p < rM ρ i := (of_decide_eq_true c1).1
    have hq1 : q < rM ρ j := (of_decide_eq_true c2).1
    rw [c1, c2] at k
    unfold gPl at k
    rw [if_neg h0] at k
    simp only [] at k
    refine g224_67_11 (by omega) (by omega) (by omega) (by omega) (by omega) (by omega) (by omega) (by omega) (by omega) (by omega) ?_
    have rn := (r1 (p + 1) q (by omega) (by omega)).2 (Or.inl ⟨rfl, Nat.le_refl q⟩)
    have rm := (r1 p (q + 1) (by omega) (by omega)).1 (Or.inl ⟨rfl, by omega⟩)
    have ei : 31 * (p + 1) + q = 31 * p + 31 + q := by omega
    have ej : 31 * p + (q + 1) = 31 * p + q + 1 := by omega
    rw [ei] at rn
    rw [ej] at rm
    have ed : l 30 (31 * p + q) / lN 2 = lN (S.2.1 q / 2) := by rw [rpq.2]; exact pk_lDiv (by omega) (by decide) (by decide)
    have z1 : zu l 29 (31 * p + 31 + q) (l 29 (31 * p + 31 + q) + l 29 (31 * p + q)) 29 (31 * p + q + 1) = lN (S.1 (q + 1)) := by rw [zu_i_ne (by omega)]; exact rm.1
    have z2 : zu (zu l 29 (31 * p + 31 + q) (l 29 (31 * p + 31 + q) + l 29 (31 * p + q))) 30 (31 * p + 31 + q) (l 30 (31 * p + 31 + q) + l 30 (31 * p + q) / lN 2) 30 (31 * p + q + 1) = lN (S.2.1 (q + 1)) := by rw [zu_i_ne (by omega), zu_i_ne (by omega)]; exact rm.2
    rw [z1, z2, ed, rn.1, rn.2, rpq.1, lN_add, lN_add, lN_add, lN_add, Nat.zero_add, Nat.zero_add]
    have kk := k (zu (zu (zu (zu l 29 (31 * p + 31 + q) (lN (S.1 q))) 30 (31 * p + 31 + q) (lN (S.2.1 q / 2))) 29 (31 * p + q + 1) (lN (S.1 (q + 1) + S.1 q))) 30 (31 * p + q + 1) (lN (S.2.1 (q + 1) + S.2.1 q / 2))) S.2.2.2.2.2 ⟨fun r c hr30 hc30 => ⟨fun h => ?_, fun h => ?_⟩, ?_, ?_, ?_⟩ rfl (fun x => by rw [zu_i_ne (by omega), zu_i_ne (by omega), zu_i_ne (by omega), zu_i_ne (by omega)])
    · rw [id46 _ rfl] at kk
      exact kk
    · show _ = lN (zup S.1 (q + 1) (S.1 (q + 1) + S.1 q) c) ∧ _ = lN (zup (zup S.2.1 q (S.2.1 q / 2)) (q + 1) (S.2.1 (q + 1) + S.2.1 q / 2) c)
      by_cases e1 : r = p ∧ c = q + 1
      · obtain ⟨rfl, rfl⟩ := e1
        rw [ej, zu_i_ne (by omega), zu_s, zu_s, zup_s, zup_s]
        exact ⟨rfl, rfl⟩
      · by_cases e2 : r = p + 1 ∧ c = q
        · obtain ⟨rfl, rfl⟩ := e2
          rw [ei, zu_i_ne (by omega), zu_i_ne (by omega), zu_i_ne (by omega), zu_s, zu_i_ne (by omega), zu_i_ne (by omega), zu_s, zup_nn (by omega), zup_nn (by omega), zup_s]
          exact ⟨rfl, rfl⟩
        · rw [zu_i_ne (by omega), zu_i_ne (by omega), zu_i_ne (by omega), zu_i_ne (by omega), zu_i_ne (by omega), zu_i_ne (by omega), zu_i_ne (by omega), zu_i_ne (by omega), zup_nn (by omega), zup_nn (by omega), zup_nn (by omega)]
          exact (r1 r c hr30 hc30).1 (by omega)
    · rw [zu_i_ne (by omega), zu_i_ne (by omega), zu_i_ne (by omega), zu_i_ne (by omega), zu_i_ne (by omega), zu_i_ne (by omega), zu_i_ne (by omega), zu_i_ne (by omega)]
      exact (r1 r c hr30 hc30).2 (by omega)
    · rw [zu_i_ne (by omega), zu_i_ne (by omega), zu_i_ne (by omega), zu_i_ne (by omega)]; exact r2
    · rw [zu_i_ne (by omega), zu_i_ne (by omega), zu_i_ne (by omega), zu_i_ne (by omega)]; exact r3
    · rw [zu_i_ne (by omega), zu_i_ne (by omega), zu_i_ne (by omega), zu_i_ne (by omega)]; exact r4
  have k10 : gC ρ i j p q = true → gC ρ j i q p = false → Ev (d + 2) c s 224 67 [some (zr (some (1, 0, 0))), some (zi (nI i)), some (zi (nI j)), some (zi (nI p)), some (zi (nI q)), some (zi (nI 1)), some (zi (nI 0)), none, none, none, none] [] (OM X 1 0 ρ l) Q := by
    intro c1 c2
    have hp1 : p < rM ρ i := (of_decide_eq_true c1).1
    rw [c1, c2] at k
    unfold gPl at k
    rw [if_neg h0] at k
    simp only [] at k
    refine g224_67_10 (by omega) (by omega) (by omega) (by omega) (by omega) (by omega) ?_
    have rn := (r1 (p + 1) q (by omega) (by omega)).2 (Or.inl ⟨rfl, Nat.le_refl q⟩)
    have ei : 31 * (p + 1) + q = 31 * p + 31 + q := by omega
    rw [ei] at rn
    rw [rn.1, rn.2, rpq.1, rpq.2, lN_add, lN_add, Nat.zero_add, Nat.zero_add]
    have kk := k (zu (zu l 29 (31 * p + 31 + q) (lN (S.1 q))) 30 (31 * p + 31 + q) (lN (S.2.1 q))) S.2.2.2.2.2 ⟨fun r c hr30 hc30 => ⟨fun h => ?_, fun h => ?_⟩, ?_, ?_, ?_⟩ rfl (fun x => by rw [zu_i_ne (by omega), zu_i_ne (by omega)])
    · rw [id46 _ rfl] at kk
      exact kk
    · by_cases e2 : r = p + 1 ∧ c = q
      · obtain ⟨rfl, rfl⟩ := e2
        rw [ei, zu_i_ne (by omega), zu_s, zu_s]
        exact ⟨rfl, rfl⟩
      · rw [zu_i_ne (by omega), zu_i_ne (by omega), zu_i_ne (by omega), zu_i_ne (by omega)]
        exact (r1 r c hr30 hc30).1 (by omega)
    · rw [zu_i_ne (by omega), zu_i_ne (by omega), zu_i_ne (by omega), zu_i_ne (by omega)]
      exact (r1 r c hr30 hc30).2 (by omega)
    · rw [zu_i_ne (by omega), zu_i_ne (by omega)]; exact r2
    · rw [zu_i_ne (by omega), zu_i_ne (by omega)]; exact r3
    · rw [zu_i_ne (by omega), zu_i_ne (by omega)]; exact r4
  have k01 : gC ρ i j p q = false → gC ρ j i q p = true → Ev (d + 2) c s 224 67 [some (zr (some (1, 0, 0))), some (zi (nI i)), some (zi (nI j)), some (zi (nI p)), some (zi (nI q)), some (zi (nI 0)), some (zi (nI 1)), none, none, none, none] [] (OM X 1 0 ρ l) Q := by
    intro c1 c2
    have hq1 : q < rM ρ j := (of_decide_eq_true c2).1
    rw [c1, c2] at k
    unfold gPl at k
    rw [if_neg h0] at k
    simp only [] at k
    refine g224_67_01 (by omega) (by omega) (by omega) (by omega) (by omega) (by omega) ?_
    have rm := (r1 p (q + 1) (by omega) (by omega)).1 (Or.inl ⟨rfl, by omega⟩)
    have ej : 31 * p + (q + 1) = 31 * p + q + 1 := by omega
    rw [ej] at rm
    rw [rm.1, rm.2, rpq.1, rpq.2, lN_add, lN_add]
    have kk := k (zu (zu l 29 (31 * p + q + 1) (lN (S.1 (q + 1) + S.1 q))) 30 (31 * p + q + 1) (lN (S.2.1 (q + 1) + S.2.1 q))) S.2.2.2.2.2 ⟨fun r c hr30 hc30 => ⟨fun h => ?_, fun h => ?_⟩, ?_, ?_, ?_⟩ rfl (fun x => by rw [zu_i_ne (by omega), zu_i_ne (by omega)])
    · rw [id46 _ rfl] at kk
      exact kk
    · show _ = lN (zup (zup S.1 q 0) (q + 1) (S.1 (q + 1) + S.1 q) c) ∧ _ = lN (zup (zup S.2.1 q 0) (q + 1) (S.2.1 (q + 1) + S.2.1 q) c)
      by_cases e1 : r = p ∧ c = q + 1
      · obtain ⟨rfl, rfl⟩ := e1
        rw [ej, zu_i_ne (by omega), zu_s, zu_s, zup_s, zup_s]
        exact ⟨rfl, rfl⟩
      · have hcq : ¬ c = q + 1 := by omega
        rw [zu_i_ne (by omega), zu_i_ne (by omega), zu_i_ne (by omega), zu_i_ne (by omega), zup_nn hcq, zup_nn hcq]
        by_cases e2 : c = q
        · subst e2
          rw [zup_s, zup_s]
          exact (r1 r c hr30 hc30).2 (by omega)
        · rw [zup_nn e2, zup_nn e2]
          exact (r1 r c hr30 hc30).1 (by omega)
    · rw [zu_i_ne (by omega), zu_i_ne (by omega), zu_i_ne (by omega), zu_i_ne (by omega)]
      exact (r1 r c hr30 hc30).2 (by omega)
    · rw [zu_i_ne (by omega), zu_i_ne (by omega)]; exact r2
    · rw [zu_i_ne (by omega), zu_i_ne (by omega)]; exact r3
    · rw [zu_i_ne (by omega), zu_i_ne (by omega)]; exact r4
  have k00 : gC ρ i j p q = false → gC ρ j i q p = false → Ev (d + 2) c s 224 67 [some (zr (some (1, 0, 0))), some (zi (nI i)), some (zi (nI j)), some (zi (nI p)), some (zi (nI q)), some (zi (nI 0)), some (zi (nI 0)), none, none, none, none] [] (OM X 1 0 ρ l) Q := by
    intro c1 c2
    rw [c1, c2] at k
    unfold gPl at k
    rw [if_neg h0] at k
    simp only [] at k
    -- the place is left
    have cells : ∀ l' : Nat → Nat → Int64, (∀ x, l' 29 x = l 29 x ∧ l' 30 x = l 30 x) → ∀ r c, r ≤ 30 → c ≤ 30 → ((r = p ∧ q + 1 ≤ c) ∨ (r = p + 1 ∧ c < q + 1) → l' 29 (31 * r + c) = lN (zup S.1 q 0 c) ∧ l' 30 (31 * r + c) = lN (zup S.2.1 q 0 c)) ∧ ((r = p + 1 ∧ q + 1 ≤ c) ∨ p + 1 < r → l' 29 (31 * r + c) = lN 0 ∧ l' 30 (31 * r + c) = lN 0) := by
      intro l' hl r c hr30 hc30
      refine ⟨fun h => ?_, fun h => ?_⟩
      · rw [(hl _).1, (hl _).2]
        by_cases e2 : c = q
        · subst e2
          rw [zup_s, zup_s]
          exact (r1 r c hr30 hc30).2 (by omega)
        · rw [zup_nn e2, zup_nn e2]
          exact (r1 r c hr30 hc30).1 (by omega)
      · rw [(hl _).1, (hl _).2]
        exact (r1 r c hr30 hc30).2 (by omega)
    have stuck : ¬ (p = rM ρ i ∧ q = rM ρ j) → ∀ v, v = gNr (ρ 0 46) (p + q) → Q none (OM X 1 0 (zu ρ 0 46 v) (zu (zu l 0 44 (l 0 44 + l 29 (31 * p + q))) 0 45 ((zu l 0 44 (l 0 44 + l 29 (31 * p + q))) 0 45 + l 30 (31 * p + q)))) := by
      intro hne v hv
      rw [if_neg hne] at k
      have z : zu l 0 44 (l 0 44 + l 29 (31 * p + q)) 0 45 = lN S.2.2.2.2.1 := by rw [zu_i_ne (by omega)]; exact r4
      rw [z, r3, rpq.1, rpq.2, lN_add, lN_add]
      refine k _ v ⟨cells _ (fun x => ⟨by rw [zu_i_ne (by omega), zu_i_ne (by omega)], by rw [zu_i_ne (by omega), zu_i_ne (by omega)]⟩), ?_, ?_, ?_⟩ (by rw [hv, h46]) (fun x => by rw [zu_i_ne (by omega), zu_i_ne (by omega)])
      · rw [zu_i_ne (by omega), zu_i_ne (by omega)]; exact r2
      · rw [zu_i_ne (by omega), zu_s]
      · rw [zu_s]
    unfold gNr at stuck
    refine g224_67_00 ti1 tj1 (by omega) (by omega) (by omega) (by omega) (by omega) (by omega) hi (fun a b => stuck (fun e => a e.1) _ (by rw [if_pos b])) (fun a b b2 => stuck (fun e => a e.1) _ (by rw [if_neg (Int32.not_lt.mpr b), if_neg (Int32.not_lt.mpr b2)])) (fun a b b2 => stuck (fun e => a e.1) _ (by rw [if_neg (Int32.not_lt.mpr b), if_pos b2])) (fun _ => hj) (fun _ a b => stuck (fun e => a e.2) _ (by rw [if_pos b])) (fun _ a b b2 => stuck (fun e => a e.2) _ (by rw [if_neg (Int32.not_lt.mpr b), if_neg (Int32.not_lt.mpr b2)])) (fun _ a b b2 => stuck (fun e => a e.2) _ (by rw [if_neg (Int32.not_lt.mpr b), if_pos b2])) (fun a b => ?_)
    rw [if_pos ⟨a, b⟩] at k
    rw [r2, rpq.1, lN_add]
    have kk := k (zu l 0 43 (lN (S.2.2.1 + S.1 q))) S.2.2.2.2.2 ⟨cells _ (fun x => ⟨by rw [zu_i_ne (by omega)], by rw [zu_i_ne (by omega)]⟩), zu_s _ _ _ _, by rw [zu_i_ne (by omega)]; exact r3, by rw [zu_i_ne (by omega)]; exact r4⟩ rfl (fun x => by rw [zu_i_ne (by omega)])
    rw [id46 _ rfl] at kk
    exact kk
  have f1 : ¬ p < rM ρ i → gC ρ i j p q = false := fun h => decide_eq_false (fun e => h e.1)
  have f2 : ¬ q < rM ρ j → gC ρ j i q p = false := fun h => decide_eq_false (fun e => h e.1)
  have t1 : p < rM ρ i → ¬ rShut ρ i p (ρ 32 q) → gC ρ i j p q = true := fun a b => decide_eq_true ⟨a, by rw [← h32]; exact b⟩
  have t2 : q < rM ρ j → ¬ rShut ρ j q (ρ 31 p) → gC ρ j i q p = true := fun a b => decide_eq_true ⟨a, by rw [← h31]; exact b⟩
  have u1 : rShut ρ i p (ρ 32 q) → gC ρ i j p q = false := fun b => decide_eq_false (fun e => e.2 (by rw [← h32]; exact b))
  have u2 : rShut ρ j q (ρ 31 p) → gC ρ j i q p = false := fun b => decide_eq_false (fun e => e.2 (by rw [← h31]; exact b))
  exact g224_0 ti1 tj1 (by omega) (by omega) (by omega) (by omega) hi (fun _ => hj) (fun a b => k00 (f1 (by omega)) (f2 (by omega))) (fun _ _ => by omega) (fun _ _ => by omega) (fun a b e => k00 (f1 (by omega)) (u2 e)) (fun a b e => k01 (f1 (by omega)) (t2 b e)) (fun _ => by omega) (fun _ => by omega) (fun _ _ => hj) (fun a e b => k00 (u1 e) (f2 (by omega))) (fun _ _ _ => by omega) (fun _ _ _ => by omega) (fun a e b e2 => k00 (u1 e) (u2 e2)) (fun a e b e2 => k01 (u1 e) (t2 b e2)) (fun _ _ => hj) (fun a e b => k10 (t1 a e) (f2 (by omega))) (fun _ _ _ => by omega) (fun _ _ _ => by omega) (fun a e b e2 => k10 (t1 a e) (u2 e2)) (fun a e b e2 => k11 (t1 a e) (t2 b e2))
