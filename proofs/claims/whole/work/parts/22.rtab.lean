/-! the reference: who waits, rings, sets of tasks -/
theorem rHoldL_cases (ρ : Nat → Nat → Int32) (g : Int32) (n : Nat) : rHoldL ρ g n = -4 ∨ ∃ t, t < n ∧ rHoldL ρ g n = nI t := by
  induction n with
  | zero => exact Or.inl rfl
  | succ n ih =>
    unfold rHoldL
    split
    · exact Or.inr ⟨n, by omega, rfl⟩
    · rcases ih with h | ⟨t, h1, h2⟩
      · exact Or.inl h
      · exact Or.inr ⟨t, by omega, h2⟩
/-- one that waits has a step left -/
def rWok (ρ : Nat → Nat → Int32) : Prop := ∀ t, t < 4 → ρ 1 (10 + 4 * t) = nI 2 → rD ρ t < 30
def rWait (ρ : Nat → Nat → Int32) (t : Nat) : Int32 := if ρ 1 (10 + 4 * t) = nI 2 then ρ 11 (30 * t + rD ρ t) else -4
theorem g195_0 {d c s : Nat} {t D : Nat} {X : zM} {ρ : Nat → Nat → Int32} {l : Nat → Nat → Int64} {Q : Option zV → zM → Prop} (hD : ρ 1 (10 + 4 * t + 1) = nI D)
    (b1 : 10 + 4 * t < 270)
    (h1 : (¬ (ρ 1 (10 + 4 * t)) = (nI 2)) → Q (some (zi ((-4)))) (OM X 1 0 ρ l))
    (b2 : ((ρ 1 (10 + 4 * t)) = (nI 2)) → 10 + 4 * t + 1 < 270)
    (b3 : ((ρ 1 (10 + 4 * t)) = (nI 2)) → 30 * t + D < 120)
    (h2 : ((ρ 1 (10 + 4 * t)) = (nI 2)) → Q (some (zi (ρ 11 (30 * t + D)))) (OM X 1 0 ρ l)) : Ev (d + 1) c s 195 0 [some (zr (some (1, 0, 0))), some (zi (nI t))] [] (OM X 1 0 ρ l) Q := by
  refine Ew.ld f195_0 rfl rfl rfl rfl ?_
  refine Ew.ld f195_1 rfl rfl rfl rfl ?_
  refine Ew.op (st' := zi (nI 0) :: _) f195_2 rfl rfl ?_
  refine Ew.call0 (ls0 := [some (zr (some (1, 0, 0))), some (zi (nI t)), some (zi (nI 0))]) f195_3 rfl (Nat.le_of_ble_eq_true rfl) rfl rfl (Nat.le_of_ble_eq_true rfl) rfl (Nat.le_of_ble_eq_true rfl) rfl rfl ?_
  refine Ew.ld f156_0 rfl rfl rfl rfl ?_
  refine Ew.getp (v := some (1, 0, 1)) f156_1 rfl rfl rfl ?_
  refine Ew.op (st' := zi (nI 10) :: _) f156_4 rfl rfl ?_
  refine Ew.op (st' := zi (nI 4) :: _) f156_6 rfl rfl ?_
  refine Ew.ld f156_7 rfl rfl rfl rfl ?_
  refine Ew.muln f156_8 rfl ?_
  refine Ew.addn f156_9 rfl ?_
  refine Ew.ld f156_10 rfl rfl rfl rfl ?_
  refine Ew.addn f156_11 rfl ?_
  refine Ew.ialdnO f156_12 rfl b1 (Nat.le_of_ble_eq_true rfl) rfl ?_
  refine Ew.ireti f156_13 ?_
  show Ev (d + 1) c s 195 6 [some (zr (some (1, 0, 0))), some (zi (nI t))] [zi (ρ 1 (10 + 4 * t))] (OM X 1 0 ρ l) Q
  refine Ew.op (st' := zi (nI 2) :: _) f195_6 rfl rfl ?_
  refine Ew.icmp f195_7 rfl rfl (fun c1 => ?_) (fun c1 => ?_)
  · refine Ew.op (st' := zi ((-4)) :: _) f195_24 rfl rfl ?_
    refine Ew.ireti f195_26 ?_
    exact h1 c1
  · refine Ew.ld f195_10 rfl rfl rfl rfl ?_
    refine Ew.ld f195_11 rfl rfl rfl rfl ?_
    refine Ew.ld f195_12 rfl rfl rfl rfl ?_
    refine Ew.ld f195_13 rfl rfl rfl rfl ?_
    refine Ew.op (st' := zi (nI 1) :: _) f195_14 rfl rfl ?_
    refine Ew.call0 (ls0 := [some (zr (some (1, 0, 0))), some (zi (nI t)), some (zi (nI 1))]) f195_15 rfl (Nat.le_of_ble_eq_true rfl) rfl rfl (Nat.le_of_ble_eq_true rfl) rfl (Nat.le_of_ble_eq_true rfl) rfl rfl ?_
    refine Ew.ld f156_0 rfl rfl rfl rfl ?_
    refine Ew.getp (v := some (1, 0, 1)) f156_1 rfl rfl rfl ?_
    refine Ew.op (st' := zi (nI 10) :: _) f156_4 rfl rfl ?_
    refine Ew.op (st' := zi (nI 4) :: _) f156_6 rfl rfl ?_
    refine Ew.ld f156_7 rfl rfl rfl rfl ?_
    refine Ew.muln f156_8 rfl ?_
    refine Ew.addn f156_9 rfl ?_
    refine Ew.ld f156_10 rfl rfl rfl rfl ?_
    refine Ew.addn f156_11 rfl ?_
    refine Ew.ialdnV (v := nI D) f156_12 rfl (b2 (Classical.not_not.mp c1)) (Nat.le_of_ble_eq_true rfl) rfl (so_v hD) ?_
    refine Ew.ireti f156_13 ?_
    show Ev (d + 1) c s 195 18 [some (zr (some (1, 0, 0))), some (zi (nI t))] [zi (nI D), zi (nI t), zr (some (1, 0, 0))] (OM X 1 0 ρ l) Q
    refine Ew.call0 (ls0 := [some (zr (some (1, 0, 0))), some (zi (nI t)), some (zi (nI D))]) f195_18 rfl (Nat.le_of_ble_eq_true rfl) rfl rfl (Nat.le_of_ble_eq_true rfl) rfl (Nat.le_of_ble_eq_true rfl) rfl rfl ?_
    refine Ew.ld f171_0 rfl rfl rfl rfl ?_
    refine Ew.getp (v := some (1, 0, 11)) f171_1 rfl rfl rfl ?_
    refine Ew.op (st' := zi (nI 30) :: _) f171_4 rfl rfl ?_
    refine Ew.ld f171_6 rfl rfl rfl rfl ?_
    refine Ew.muln f171_7 rfl ?_
    refine Ew.ld f171_8 rfl rfl rfl rfl ?_
    refine Ew.addn f171_9 rfl ?_
    refine Ew.ialdnO f171_10 rfl (b3 (Classical.not_not.mp c1)) (Nat.le_of_ble_eq_true rfl) rfl ?_
    refine Ew.ireti f171_11 ?_
    show Ev (d + 1) c s 195 21 [some (zr (some (1, 0, 0))), some (zi (nI t))] [zi (ρ 11 (30 * t + D))] (OM X 1 0 ρ l) Q
    refine Ew.goto f195_21 rfl ?_
    refine Ew.ireti f195_26 ?_
    exact h2 (Classical.not_not.mp c1)
theorem sp_waitsFor {d c s t : Nat} {X : zM} {ρ : Nat → Nat → Int32} {l : Nat → Nat → Int64} {Q : Option zV → zM → Prop} (ht : t < 4) (h : rDok ρ) (hw : rWok ρ) (k : Q (some (zi (rWait ρ t))) (OM X 1 0 ρ l)) : Ev (d + 1) c s 195 0 [some (zr (some (1, 0, 0))), some (zi (nI t))] [] (OM X 1 0 ρ l) Q := by
  have hd := h t ht
  have hw := hw t ht
  unfold rWait at k
  apply g195_0 hd.1 <;> intros <;> first
    | omega
    | (have := hw ‹_›; omega)
    | simpa [*] using k
def rNext (ρ : Nat → Nat → Int32) (t : Nat) : Int32 := if rWait ρ t < 0 then -4 else rHold ρ (rWait ρ t)
theorem g196_0 {d c s : Nat} {t : Nat} {X : zM} {ρ : Nat → Nat → Int32} {l : Nat → Nat → Int64} {Q : Option zV → zM → Prop}
    (b1 : t < 4)
    (b2 : rDok ρ)
    (b3 : rWok ρ)
    (b4 : (0 ≤ (rWait ρ t)) → t < 4)
    (b5 : (0 ≤ (rWait ρ t)) → rDok ρ)
    (b6 : (0 ≤ (rWait ρ t)) → rWok ρ)
    (b7 : (0 ≤ (rWait ρ t)) → rDok ρ)
    (h1 : (0 ≤ (rWait ρ t)) → Q (some (zi (rHold ρ (rWait ρ t)))) (OM X 1 0 ρ l))
    (h2 : ((rWait ρ t) < 0) → Q (some (zi ((-4)))) (OM X 1 0 ρ l)) : Ev (d + 3) c s 196 0 [some (zr (some (1, 0, 0))), some (zi (nI t))] [] (OM X 1 0 ρ l) Q := by
  refine Ew.ld f196_0 rfl rfl rfl rfl ?_
  refine Ew.ld f196_1 rfl rfl rfl rfl ?_
  refine Ew.call0 (ls0 := [some (zr (some (1, 0, 0))), some (zi (nI t))]) f196_2 rfl (Nat.le_of_ble_eq_true rfl) rfl rfl (Nat.le_of_ble_eq_true rfl) rfl (Nat.le_of_ble_eq_true rfl) rfl rfl ?_
  refine sp_waitsFor b1 b2 b3 ?_
  show Ev (d + 3) c s 196 5 [some (zr (some (1, 0, 0))), some (zi (nI t))] [zi (rWait ρ t)] (OM X 1 0 ρ l) Q
  refine Ew.ifc f196_5 rfl rfl (fun c1 => ?_) (fun c1 => ?_)
  · refine Ew.ld f196_13 rfl rfl rfl rfl ?_
    refine Ew.ld f196_14 rfl rfl rfl rfl ?_
    refine Ew.ld f196_15 rfl rfl rfl rfl ?_
    refine Ew.call0 (ls0 := [some (zr (some (1, 0, 0))), some (zi (nI t))]) f196_16 rfl (Nat.le_of_ble_eq_true rfl) rfl rfl (Nat.le_of_ble_eq_true rfl) rfl (Nat.le_of_ble_eq_true rfl) rfl rfl ?_
    refine sp_waitsFor (b4 c1) (b5 c1) (b6 c1) ?_
    show Ev (d + 3) c s 196 19 [some (zr (some (1, 0, 0))), some (zi (nI t))] [zi (rWait ρ t), zr (some (1, 0, 0))] (OM X 1 0 ρ l) Q
    refine Ew.call0 (ls0 := [some (zr (some (1, 0, 0))), some (zi (rWait ρ t)), none, none]) f196_19 rfl (Nat.le_of_ble_eq_true rfl) rfl rfl (Nat.le_of_ble_eq_true rfl) rfl (Nat.le_of_ble_eq_true rfl) rfl rfl ?_
    refine sp_holder (b7 c1) ?_
    show Ev (d + 3) c s 196 22 [some (zr (some (1, 0, 0))), some (zi (nI t))] [zi (rHold ρ (rWait ρ t))] (OM X 1 0 ρ l) Q
    refine Ew.ireti f196_22 ?_
    exact h1 c1
  · refine Ew.op (st' := zi ((-4)) :: _) f196_8 rfl rfl ?_
    refine Ew.goto f196_10 rfl ?_
    refine Ew.ireti f196_22 ?_
    exact h2 (Int32.not_le.mp c1)
theorem sp_nextOf {d c s t : Nat} {X : zM} {ρ : Nat → Nat → Int32} {l : Nat → Nat → Int64} {Q : Option zV → zM → Prop} (ht : t < 4) (h : rDok ρ) (hw : rWok ρ) (k : Q (some (zi (rNext ρ t))) (OM X 1 0 ρ l)) : Ev (d + 3) c s 196 0 [some (zr (some (1, 0, 0))), some (zi (nI t))] [] (OM X 1 0 ρ l) Q := by
  unfold rNext at k
  apply g196_0 <;> intros <;> first
    | assumption
    | simpa [Int32.not_lt.mpr, *] using k
theorem rNext_cases (ρ : Nat → Nat → Int32) (t : Nat) : rNext ρ t = -4 ∨ ∃ u, u < 4 ∧ rNext ρ t = nI u := by
  unfold rNext
  split
  · exact Or.inl rfl
  · exact rHoldL_cases _ _ _
/-- the ring's walk: so many rounds left, the set so far, the one that is looked at -/
def rRingL (ρ : Nat → Nat → Int32) (t : Nat) : Nat → Int32 → Int32 → Int32
  | 0, _, _ => nI 0
  | n + 1, z, k => if k < 0 then nI 0 else if rNext ρ k.toNatClampNeg = nI t then z ||| (nI 1 <<< (k &&& 31)) else rRingL ρ t n (z ||| (nI 1 <<< (k &&& 31))) (rNext ρ k.toNatClampNeg)
def rRing (ρ : Nat → Nat → Int32) (t : Nat) : Int32 := rRingL ρ t 4 (nI 0) (nI t)
theorem g197_0 {d c s : Nat} {t : Nat} {X : zM} {ρ : Nat → Nat → Int32} {l : Nat → Nat → Int64} {Q : Option zV → zM → Prop}
    (h1 : Ev d c s 197 7 [some (zr (some (1, 0, 0))), some (zi (nI t)), some (zi (nI 0)), some (zi (nI t)), some (zi (nI 0))] [] (OM X 1 0 ρ l) Q) : Ev d c s 197 0 [some (zr (some (1, 0, 0))), some (zi (nI t)), none, none, none] [] (OM X 1 0 ρ l) Q := by
  refine Ew.op (st' := zi (nI 0) :: _) f197_0 rfl rfl ?_
  refine Ew.sr (ls' := [some (zr (some (1, 0, 0))), some (zi (nI t)), some (zi (nI 0)), none, none]) f197_1 rfl rfl (Nat.le_of_ble_eq_true rfl) rfl rfl ?_
  refine Ew.ld f197_2 rfl rfl rfl rfl ?_
  refine Ew.sr (ls' := [some (zr (some (1, 0, 0))), some (zi (nI t)), some (zi (nI 0)), some (zi (nI t)), none]) f197_3 rfl rfl (Nat.le_of_ble_eq_true rfl) rfl rfl ?_
  refine Ew.op (st' := zi (nI 0) :: _) f197_4 rfl rfl ?_
  refine Ew.sr (ls' := [some (zr (some (1, 0, 0))), some (zi (nI t)), some (zi (nI 0)), some (zi (nI t)), some (zi (nI 0))]) f197_5 rfl rfl (Nat.le_of_ble_eq_true rfl) rfl rfl ?_
  exact h1
theorem g197_7 {d c s : Nat} {t u k : Nat} {z : Int32} {X : zM} {ρ : Nat → Nat → Int32} {l : Nat → Nat → Int64} {Q : Option zV → zM → Prop} (nb_u : u < 5000) (nb_k : k < 5000)
    (h1 : (4 ≤ u) → Q (some (zi (nI 0))) (OM X 1 0 ρ l))
    (h2 : (u < 4) → (k < 0) → Q (some (zi (nI 0))) (OM X 1 0 ρ l))
    (b1 : (u < 4) → (0 ≤ k) → k < 4)
    (b2 : (u < 4) → (0 ≤ k) → rDok ρ)
    (b3 : (u < 4) → (0 ≤ k) → rWok ρ)
    (h3 : (u < 4) → (0 ≤ k) → (¬ (rNext ρ k) = (nI t)) → Ev (d + 4) c s 197 7 [some (zr (some (1, 0, 0))), some (zi (nI t)), some (zi (z ||| ((nI 1) <<< ((nI k) &&& 31)))), some (zi (rNext ρ k)), some (zi (nI (u + 1)))] [] (OM X 1 0 ρ l) Q)
    (h4 : (u < 4) → (0 ≤ k) → ((rNext ρ k) = (nI t)) → Q (some (zi (z ||| ((nI 1) <<< ((nI k) &&& 31))))) (OM X 1 0 ρ l)) : Ev (d + 4) c s 197 7 [some (zr (some (1, 0, 0))), some (zi (nI t)), some (zi z), some (zi (nI k)), some (zi (nI u))] [] (OM X 1 0 ρ l) Q := by
  refine Ew.ld f197_7 rfl rfl rfl rfl ?_
  refine Ew.op (st' := zi (nI 4) :: _) f197_9 rfl rfl ?_
  refine Ew.icmp f197_10 rfl rfl (fun c1 => ?_) (fun c1 => ?_)
  · refine Ew.op (st' := zi (nI 0) :: _) f197_42 rfl rfl ?_
    refine Ew.ireti f197_43 ?_
    exact h1 ((zle_iff (by decide) nb_u).mp c1)
  · refine Ew.ld f197_13 rfl rfl rfl rfl ?_
    refine Ew.ifc f197_14 rfl rfl (fun c2 => ?_) (fun c2 => ?_)
    · refine Ew.op (st' := zi (nI 0) :: _) f197_42 rfl rfl ?_
      refine Ew.ireti f197_43 ?_
      exact h2 (Nat.not_le.mp fun e => c1 ((zle_iff (by decide) nb_u).mpr e)) ((zlt_iff nb_k (by decide)).mp c2)
    · refine Ew.ld f197_17 rfl rfl rfl rfl ?_
      refine Ew.op (st' := zi (nI 1) :: _) f197_18 rfl rfl ?_
      refine Ew.ld f197_19 rfl rfl rfl rfl ?_
      refine Ew.op (st' := zi ((nI 1) <<< ((nI k) &&& 31)) :: _) f197_20 rfl rfl ?_
      refine Ew.op (st' := zi (z ||| ((nI 1) <<< ((nI k) &&& 31))) :: _) f197_21 rfl rfl ?_
      refine Ew.sr (ls' := [some (zr (some (1, 0, 0))), some (zi (nI t)), some (zi (z ||| ((nI 1) <<< ((nI k) &&& 31)))), some (zi (nI k)), some (zi (nI u))]) f197_22 rfl rfl (Nat.le_of_ble_eq_true rfl) rfl rfl ?_
      refine Ew.ld f197_23 rfl rfl rfl rfl ?_
      refine Ew.ld f197_24 rfl rfl rfl rfl ?_
      refine Ew.call0 (ls0 := [some (zr (some (1, 0, 0))), some (zi (nI k))]) f197_25 rfl (Nat.le_of_ble_eq_true rfl) rfl rfl (Nat.le_of_ble_eq_true rfl) rfl (Nat.le_of_ble_eq_true rfl) rfl rfl ?_
      refine sp_nextOf (b1 (Nat.not_le.mp fun e => c1 ((zle_iff (by decide) nb_u).mpr e)) (Nat.not_lt.mp fun e => c2 ((zlt_iff nb_k (by decide)).mpr e))) (b2 (Nat.not_le.mp fun e => c1 ((zle_iff (by decide) nb_u).mpr e)) (Nat.not_lt.mp fun e => c2 ((zlt_iff nb_k (by decide)).mpr e))) (b3 (Nat.not_le.mp fun e => c1 ((zle_iff (by decide) nb_u).mpr e)) (Nat.not_lt.mp fun e => c2 ((zlt_iff nb_k (by decide)).mpr e))) ?_
      show Ev (d + 4) c s 197 28 [some (zr (some (1, 0, 0))), some (zi (nI t)), some (zi (z ||| ((nI 1) <<< ((nI k) &&& 31)))), some (zi (nI k)), some (zi (nI u))] [zi (rNext ρ k)] (OM X 1 0 ρ l) Q
      refine Ew.sr (ls' := [some (zr (some (1, 0, 0))), some (zi (nI t)), some (zi (z ||| ((nI 1) <<< ((nI k) &&& 31)))), some (zi (rNext ρ k)), some (zi (nI u))]) f197_28 rfl rfl (Nat.le_of_ble_eq_true rfl) rfl rfl ?_
      refine Ew.ld f197_29 rfl rfl rfl rfl ?_
      refine Ew.ld f197_30 rfl rfl rfl rfl ?_
      refine Ew.icmp f197_31 rfl rfl (fun c3 => ?_) (fun c3 => ?_)
      · refine Ew.iinc (v := nI (u + 1)) (ls' := [some (zr (some (1, 0, 0))), some (zi (nI t)), some (zi (z ||| ((nI 1) <<< ((nI k) &&& 31)))), some (zi (rNext ρ k)), some (zi (nI (u + 1)))]) f197_36 rfl (nI_1 _) rfl rfl ?_
        refine Ew.goto f197_39 rfl ?_
        exact h3 (Nat.not_le.mp fun e => c1 ((zle_iff (by decide) nb_u).mpr e)) (Nat.not_lt.mp fun e => c2 ((zlt_iff nb_k (by decide)).mpr e)) c3
      · refine Ew.ld f197_34 rfl rfl rfl rfl ?_
        refine Ew.ireti f197_35 ?_
        exact h4 (Nat.not_le.mp fun e => c1 ((zle_iff (by decide) nb_u).mpr e)) (Nat.not_lt.mp fun e => c2 ((zlt_iff nb_k (by decide)).mpr e)) (Classical.not_not.mp c3)
theorem g197_7m {d c s : Nat} {t u : Nat} {z : Int32} {X : zM} {ρ : Nat → Nat → Int32} {l : Nat → Nat → Int64} {Q : Option zV → zM → Prop} (nb_u : u < 5000)
    (h1 : (4 ≤ u) → Q (some (zi (nI 0))) (OM X 1 0 ρ l))
    (h2 : (u < 4) → Q (some (zi (nI 0))) (OM X 1 0 ρ l)) : Ev d c s 197 7 [some (zr (some (1, 0, 0))), some (zi (nI t)), some (zi z), some (zi ((-4))), some (zi (nI u))] [] (OM X 1 0 ρ l) Q := by
  refine Ew.ld f197_7 rfl rfl rfl rfl ?_
  refine Ew.op (st' := zi (nI 4) :: _) f197_9 rfl rfl ?_
  refine Ew.icmp f197_10 rfl rfl (fun c1 => ?_) (fun c1 => ?_)
  · refine Ew.op (st' := zi (nI 0) :: _) f197_42 rfl rfl ?_
    refine Ew.ireti f197_43 ?_
    exact h1 ((zle_iff (by decide) nb_u).mp c1)
  · refine Ew.ld f197_13 rfl rfl rfl rfl ?_
    refine Ew.ifc f197_14 rfl rfl (fun _ => ?_) (fun h => absurd (show (((-4)) : Int32) < 0 by decide) h)
    refine Ew.op (st' := zi (nI 0) :: _) f197_42 rfl rfl ?_
    refine Ew.ireti f197_43 ?_
    exact h2 (Nat.not_le.mp fun e => c1 ((zle_iff (by decide) nb_u).mpr e))
theorem sp_ring {d c s t : Nat} {X : zM} {ρ : Nat → Nat → Int32} {l : Nat → Nat → Int64} {Q : Option zV → zM → Prop} (ht : t < 4) (h : rDok ρ) (hw : rWok ρ) (k : Q (some (zi (rRing ρ t))) (OM X 1 0 ρ l)) : Ev (d + 4) c s 197 0 [some (zr (some (1, 0, 0))), some (zi (nI t)), none, none, none] [] (OM X 1 0 ρ l) Q := by
  refine g197_0 ?_
  have key : ∀ n, n ≤ 4 → ∀ z x, (x = -4 ∨ ∃ u, u < 4 ∧ x = nI u) → Q (some (zi (rRingL ρ t n z x))) (OM X 1 0 ρ l) → Ev (d + 4) c s 197 7 [some (zr (some (1, 0, 0))), some (zi (nI t)), some (zi z), some (zi x), some (zi (nI (4 - n)))] [] (OM X 1 0 ρ l) Q := by
    intro n
    induction n with
    | zero =>
      intro _ z x hx hk
      rcases hx with rfl | ⟨u, hu, rfl⟩
      · apply g197_7m <;> intros <;> first | omega | exact hk
      · apply g197_7 <;> intros <;> first | omega | exact hk
    | succ n ih =>
      intro hn z x hx hk
      rcases hx with rfl | ⟨u, hu, rfl⟩
      · apply g197_7m <;> intros <;> first | omega | exact hk
      · have e : (nI u).toNatClampNeg = u := nI_clamp (by omega)
        have e0 : ¬ nI u < 0 := nI_pos (by omega)
        simp only [rRingL, e, e0, if_false] at hk
        apply g197_7 <;> intros <;> first
          | omega
          | assumption
          | (simpa [*] using hk)
          | (rw [show 4 - (n + 1) + 1 = 4 - n by omega]
             refine ih (by omega) _ _ (rNext_cases ρ u) ?_
             simpa [*] using hk)
  exact key 4 (Nat.le_refl 4) _ _ (Or.inr ⟨t, ht, rfl⟩) k
