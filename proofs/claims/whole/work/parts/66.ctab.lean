/-! the class: tables, what they tell -/
theorem cTr.sh {I : zI} {P : zP} {S : zS} {b n : Nat} {T : tT} (h : cTr I P S b n T) : S 3 n 0 = (9, 0) := by
  obtain ⟨_, n1, n2, n3, n4, _, sn, _⟩ := h
  exact sn
/-- the numbers of a table tell a row, its traces being given -/
def cTI (τ ρ : Nat → Nat → Int32) (w : Nat → Int32) : Prop := (ρ 0 2 = w 0 ∧ ρ 0 3 = w 1 ∧ ρ 0 4 = w 3 ∧ ρ 0 5 = w 2) ∧ (∀ g, g < 6 → ρ 3 g = w (4 + g) ∧ ρ 4 g = rHold (zw τ w) (nI g) ∧ ρ 5 g = aDeep τ w (nI g)) ∧ ∀ t, t < 4 → ρ 6 t = w (10 + 4 * t) ∧ ρ 7 t = w (10 + 4 * t + 1) ∧ ρ 8 t = rWait (zw τ w) t ∧ ρ 9 t = w (10 + 4 * t + 2) ∧ ρ 10 t = w (10 + 4 * t + 3)
theorem g62_0 {d c s : Nat} {j : Nat} {x : Int32} {X : zM} {ρ : Nat → Nat → Int32} {l : Nat → Nat → Int64} {Q : Option zV → zM → Prop} (hj : j < 15)
    (h1 : Ev d c s 62 4 [some (zr (some (2, j, 0))), some (zi x), some (zi (nI 0)), some (zi (nI 0))] [] (OM X 2 j ρ l) Q) : Ev d c s 62 0 [some (zr (some (2, j, 0))), some (zi x), none, none] [] (OM X 2 j ρ l) Q := by
  refine Ew.op (st' := zi (nI 0) :: _) f62_0 rfl rfl ?_
  refine Ew.sr (ls' := [some (zr (some (2, j, 0))), some (zi x), some (zi (nI 0)), none]) f62_1 rfl rfl (Nat.le_of_ble_eq_true rfl) rfl rfl ?_
  refine Ew.op (st' := zi (nI 0) :: _) f62_2 rfl rfl ?_
  refine Ew.sr (ls' := [some (zr (some (2, j, 0))), some (zi x), some (zi (nI 0)), some (zi (nI 0))]) f62_3 rfl rfl (Nat.le_of_ble_eq_true rfl) rfl rfl ?_
  exact h1
theorem g62_4 {d c s : Nat} {j t : Nat} {x z : Int32} {X : zM} {ρ : Nat → Nat → Int32} {l : Nat → Nat → Int64} {Q : Option zV → zM → Prop} (hj : j < 15) (nb_t : t < 5000)
    (h1 : (4 ≤ t) → Q (some (zi z)) (OM X 2 j ρ l))
    (b1 : (t < 4) → t < 4)
    (h2 : (t < 4) → (¬ (ρ 6 t) = x) → Ev (d + 1) c s 62 4 [some (zr (some (2, j, 0))), some (zi x), some (zi z), some (zi (nI (t + 1)))] [] (OM X 2 j ρ l) Q)
    (h3 : (t < 4) → ((ρ 6 t) = x) → Ev (d + 1) c s 62 4 [some (zr (some (2, j, 0))), some (zi x), some (zi (z ||| ((nI 1) <<< ((nI t) &&& 31)))), some (zi (nI (t + 1)))] [] (OM X 2 j ρ l) Q) : Ev (d + 1) c s 62 4 [some (zr (some (2, j, 0))), some (zi x), some (zi z), some (zi (nI t))] [] (OM X 2 j ρ l) Q := by
  refine Ew.ld f62_4 rfl rfl rfl rfl ?_
  refine Ew.op (st' := zi (nI 4) :: _) f62_5 rfl rfl ?_
  refine Ew.icmp f62_6 rfl rfl (fun c1 => ?_) (fun c1 => ?_)
  · refine Ew.ld f62_32 rfl rfl rfl rfl ?_
    refine Ew.ireti f62_33 ?_
    exact h1 ((zle_iff (by decide) nb_t).mp c1)
  · refine Ew.ld f62_9 rfl rfl rfl rfl ?_
    refine Ew.getp (v := some (2, j, 6)) f62_10 (by rw [zsj2 _ hj]; rfl) rfl rfl ?_
    refine Ew.ld f62_13 rfl rfl rfl rfl ?_
    refine Ew.ialdnO f62_14 (by rw [zsj2 _ hj]; rfl) (by rw [zsj2 _ hj]; exact (b1 (Nat.not_le.mp fun e => c1 ((zle_iff (by decide) nb_t).mpr e)))) (by rw [zsj2 _ hj]; decide) rfl ?_
    refine Ew.ld f62_15 rfl rfl rfl rfl ?_
    refine Ew.icmp f62_16 rfl rfl (fun c2 => ?_) (fun c2 => ?_)
    · refine Ew.iinc (v := nI (t + 1)) (ls' := [some (zr (some (2, j, 0))), some (zi x), some (zi z), some (zi (nI (t + 1)))]) f62_26 rfl (nI_1 _) rfl rfl ?_
      refine Ew.goto f62_29 rfl ?_
      exact h2 (Nat.not_le.mp fun e => c1 ((zle_iff (by decide) nb_t).mpr e)) c2
    · refine Ew.ld f62_19 rfl rfl rfl rfl ?_
      refine Ew.ld f62_20 rfl rfl rfl rfl ?_
      refine Ew.call0 (ls0 := [some (zi (nI t))]) f62_21 rfl (Nat.le_of_ble_eq_true rfl) rfl rfl (Nat.le_of_ble_eq_true rfl) trivial (Nat.le_of_ble_eq_true rfl) rfl rfl ?_
      refine Ew.op (st' := zi (nI 1) :: _) f146_0 rfl rfl ?_
      refine Ew.ld f146_1 rfl rfl rfl rfl ?_
      refine Ew.op (st' := zi ((nI 1) <<< ((nI t) &&& 31)) :: _) f146_2 rfl rfl ?_
      refine Ew.ireti f146_3 ?_
      show Ev (d + 1) c s 62 24 [some (zr (some (2, j, 0))), some (zi x), some (zi z), some (zi (nI t))] [zi ((nI 1) <<< ((nI t) &&& 31)), zi z] (OM X 2 j ρ l) Q
      refine Ew.op (st' := zi (z ||| ((nI 1) <<< ((nI t) &&& 31))) :: _) f62_24 rfl rfl ?_
      refine Ew.sr (ls' := [some (zr (some (2, j, 0))), some (zi x), some (zi (z ||| ((nI 1) <<< ((nI t) &&& 31)))), some (zi (nI t))]) f62_25 rfl rfl (Nat.le_of_ble_eq_true rfl) rfl rfl ?_
      refine Ew.iinc (v := nI (t + 1)) (ls' := [some (zr (some (2, j, 0))), some (zi x), some (zi (z ||| ((nI 1) <<< ((nI t) &&& 31)))), some (zi (nI (t + 1)))]) f62_26 rfl (nI_1 _) rfl rfl ?_
      refine Ew.goto f62_29 rfl ?_
      exact h3 (Nat.not_le.mp fun e => c1 ((zle_iff (by decide) nb_t).mpr e)) (Classical.not_not.mp c2)
section
variable {d c s j : Nat} {x : Int32} {τ : Nat → Nat → Int32} {w : Nat → Int32} {X : zM} {ρ : Nat → Nat → Int32} {l : Nat → Nat → Int64} {Q : Option zV → zM → Prop}
theorem sp_cAre (hj : j < 15) (h : cTI τ ρ w) (k : Q (some (zi (rThoseL (zw zO w) x 4))) (OM X 2 j ρ l)) : Ev (d + 1) c s 62 0 [some (zr (some (2, j, 0))), some (zi x), none, none] [] (OM X 2 j ρ l) Q := by
  refine g62_0 hj ?_
  refine loopN (fun t => Ev (d + 1) c s 62 4 [some (zr (some (2, j, 0))), some (zi x), some (zi (rThoseL (zw zO w) x t)), some (zi (nI t))] [] (OM X 2 j ρ l) Q) 4 (fun t ht hE => ?_) ?_
  · have e := (h.2.2 t ht).1
    unfold rThoseL at hE
    rw [show zw zO w 1 (10 + 4 * t) = w (10 + 4 * t) from rfl, ← e] at hE
    refine g62_4 hj (by omega) (fun g => by omega) (fun g => g) (fun _ g => ?_) (fun _ g => ?_)
    · rw [if_neg g, zor0] at hE; exact hE
    · rw [if_pos g] at hE; exact hE
  · exact g62_4 hj (by omega) (fun _ => k) (fun g => by omega) (fun g => by omega) (fun g => by omega)
end
theorem g60_0 {d c s : Nat} {j : Nat} {τ : Nat → Nat → Int32} {w : Nat → Int32} {X : zM} {ρ : Nat → Nat → Int32} {l : Nat → Nat → Int64} {Q : Option zV → zM → Prop} (hj : j < 15)
    (b1 : cTI τ ρ w)
    (b2 : cTI τ ρ w)
    (h1 : (((rThoseL (zw zO w) (nI 1) 4) ||| (rThoseL (zw zO w) (nI 2) 4)) = 0) → Q (some (zi (nI 0))) (OM X 2 j ρ l))
    (h2 : (¬ ((rThoseL (zw zO w) (nI 1) 4) ||| (rThoseL (zw zO w) (nI 2) 4)) = 0) → Q (some (zi (nI 1))) (OM X 2 j ρ l)) : Ev (d + 2) c s 60 0 [some (zr (some (2, j, 0)))] [] (OM X 2 j ρ l) Q := by
  refine Ew.ld f60_0 rfl rfl rfl rfl ?_
  refine Ew.op (st' := zi (nI 1) :: _) f60_1 rfl rfl ?_
  refine Ew.call0 (ls0 := [some (zr (some (2, j, 0))), some (zi (nI 1)), none, none]) f60_2 rfl (Nat.le_of_ble_eq_true rfl) rfl rfl (Nat.le_of_ble_eq_true rfl) (by show (zsj X.2.2.2.1 2 j 0).1 = _; rw [zsj2 _ hj]; rfl) (Nat.le_of_ble_eq_true rfl) rfl rfl ?_
  refine sp_cAre hj b1 ?_
  show Ev (d + 2) c s 60 5 [some (zr (some (2, j, 0)))] [zi (rThoseL (zw zO w) (nI 1) 4)] (OM X 2 j ρ l) Q
  refine Ew.ld f60_5 rfl rfl rfl rfl ?_
  refine Ew.op (st' := zi (nI 2) :: _) f60_6 rfl rfl ?_
  refine Ew.call0 (ls0 := [some (zr (some (2, j, 0))), some (zi (nI 2)), none, none]) f60_7 rfl (Nat.le_of_ble_eq_true rfl) rfl rfl (Nat.le_of_ble_eq_true rfl) (by show (zsj X.2.2.2.1 2 j 0).1 = _; rw [zsj2 _ hj]; rfl) (Nat.le_of_ble_eq_true rfl) rfl rfl ?_
  refine sp_cAre hj b2 ?_
  show Ev (d + 2) c s 60 10 [some (zr (some (2, j, 0)))] [zi (rThoseL (zw zO w) (nI 2) 4), zi (rThoseL (zw zO w) (nI 1) 4)] (OM X 2 j ρ l) Q
  refine Ew.op (st' := zi ((rThoseL (zw zO w) (nI 1) 4) ||| (rThoseL (zw zO w) (nI 2) 4)) :: _) f60_10 rfl rfl ?_
  refine Ew.ifc f60_11 rfl rfl (fun c1 => ?_) (fun c1 => ?_)
  · refine Ew.op (st' := zi (nI 0) :: _) f60_18 rfl rfl ?_
    refine Ew.iretb f60_19 (Or.inl rfl) ?_
    exact h1 c1
  · refine Ew.op (st' := zi (nI 1) :: _) f60_14 rfl rfl ?_
    refine Ew.goto f60_15 rfl ?_
    refine Ew.iretb f60_19 (Or.inr rfl) ?_
    exact h2 c1
theorem g61_0 {d c s : Nat} {j : Nat} {τ : Nat → Nat → Int32} {w : Nat → Int32} {X : zM} {ρ : Nat → Nat → Int32} {l : Nat → Nat → Int64} {Q : Option zV → zM → Prop} (hj : j < 15)
    (b1 : cTI τ ρ w)
    (h1 : (¬ (rThoseL (zw zO w) (nI 0) 4) = (((nI 1) <<< ((nI 4) &&& 31)) - (nI 1))) → Q (some (zi (nI 0))) (OM X 2 j ρ l))
    (h2 : ((rThoseL (zw zO w) (nI 0) 4) = (((nI 1) <<< ((nI 4) &&& 31)) - (nI 1))) → (¬ (ρ 0 5) = 0) → Q (some (zi (nI 0))) (OM X 2 j ρ l))
    (h3 : ((rThoseL (zw zO w) (nI 0) 4) = (((nI 1) <<< ((nI 4) &&& 31)) - (nI 1))) → ((ρ 0 5) = 0) → Q (some (zi (nI 1))) (OM X 2 j ρ l)) : Ev (d + 2) c s 61 0 [some (zr (some (2, j, 0)))] [] (OM X 2 j ρ l) Q := by
  refine Ew.ld f61_0 rfl rfl rfl rfl ?_
  refine Ew.op (st' := zi (nI 0) :: _) f61_1 rfl rfl ?_
  refine Ew.call0 (ls0 := [some (zr (some (2, j, 0))), some (zi (nI 0)), none, none]) f61_2 rfl (Nat.le_of_ble_eq_true rfl) rfl rfl (Nat.le_of_ble_eq_true rfl) (by show (zsj X.2.2.2.1 2 j 0).1 = _; rw [zsj2 _ hj]; rfl) (Nat.le_of_ble_eq_true rfl) rfl rfl ?_
  refine sp_cAre hj b1 ?_
  show Ev (d + 2) c s 61 5 [some (zr (some (2, j, 0)))] [zi (rThoseL (zw zO w) (nI 0) 4)] (OM X 2 j ρ l) Q
  refine Ew.op (st' := zi (nI 4) :: _) f61_5 rfl rfl ?_
  refine Ew.call0 (ls0 := [some (zi (nI 4))]) f61_6 rfl (Nat.le_of_ble_eq_true rfl) rfl rfl (Nat.le_of_ble_eq_true rfl) trivial (Nat.le_of_ble_eq_true rfl) rfl rfl ?_
  refine Ew.op (st' := zi (nI 1) :: _) f146_0 rfl rfl ?_
  refine Ew.ld f146_1 rfl rfl rfl rfl ?_
  refine Ew.op (st' := zi ((nI 1) <<< ((nI 4) &&& 31)) :: _) f146_2 rfl rfl ?_
  refine Ew.ireti f146_3 ?_
  show Ev (d + 2) c s 61 9 [some (zr (some (2, j, 0)))] [zi ((nI 1) <<< ((nI 4) &&& 31)), zi (rThoseL (zw zO w) (nI 0) 4)] (OM X 2 j ρ l) Q
  refine Ew.op (st' := zi (nI 1) :: _) f61_9 rfl rfl ?_
  refine Ew.op (st' := zi (((nI 1) <<< ((nI 4) &&& 31)) - (nI 1)) :: _) f61_10 rfl rfl ?_
  refine Ew.icmp f61_11 rfl rfl (fun c1 => ?_) (fun c1 => ?_)
  · refine Ew.op (st' := zi (nI 0) :: _) f61_25 rfl rfl ?_
    refine Ew.iretb f61_26 (Or.inl rfl) ?_
    exact h1 c1
  · refine Ew.ld f61_14 rfl rfl rfl rfl ?_
    refine Ew.getiO f61_15 (by rw [zsj2 _ hj]; rfl) rfl ?_
    refine Ew.ifc f61_18 rfl rfl (fun c2 => ?_) (fun c2 => ?_)
    · refine Ew.op (st' := zi (nI 0) :: _) f61_25 rfl rfl ?_
      refine Ew.iretb f61_26 (Or.inl rfl) ?_
      exact h2 (Classical.not_not.mp c1) c2
    · refine Ew.op (st' := zi (nI 1) :: _) f61_21 rfl rfl ?_
      refine Ew.goto f61_22 rfl ?_
      refine Ew.iretb f61_26 (Or.inr rfl) ?_
      exact h3 (Classical.not_not.mp c1) (Classical.not_not.mp c2)
theorem g63_0 {d c s : Nat} {j : Nat} {τ : Nat → Nat → Int32} {w : Nat → Int32} {X : zM} {ρ : Nat → Nat → Int32} {l : Nat → Nat → Int64} {Q : Option zV → zM → Prop} (hj : j < 15)
    (b1 : cTI τ ρ w)
    (b2 : cTI τ ρ w)
    (b3 : cTI τ ρ w)
    (h1 : Q (some (zi (((rThoseL (zw zO w) (nI 0) 4) ||| (rThoseL (zw zO w) (nI 1) 4)) ||| (rThoseL (zw zO w) (nI 2) 4)))) (OM X 2 j ρ l)) : Ev (d + 2) c s 63 0 [some (zr (some (2, j, 0)))] [] (OM X 2 j ρ l) Q := by
  refine Ew.ld f63_0 rfl rfl rfl rfl ?_
  refine Ew.op (st' := zi (nI 0) :: _) f63_1 rfl rfl ?_
  refine Ew.call0 (ls0 := [some (zr (some (2, j, 0))), some (zi (nI 0)), none, none]) f63_2 rfl (Nat.le_of_ble_eq_true rfl) rfl rfl (Nat.le_of_ble_eq_true rfl) (by show (zsj X.2.2.2.1 2 j 0).1 = _; rw [zsj2 _ hj]; rfl) (Nat.le_of_ble_eq_true rfl) rfl rfl ?_
  refine sp_cAre hj b1 ?_
  show Ev (d + 2) c s 63 5 [some (zr (some (2, j, 0)))] [zi (rThoseL (zw zO w) (nI 0) 4)] (OM X 2 j ρ l) Q
  refine Ew.ld f63_5 rfl rfl rfl rfl ?_
  refine Ew.op (st' := zi (nI 1) :: _) f63_6 rfl rfl ?_
  refine Ew.call0 (ls0 := [some (zr (some (2, j, 0))), some (zi (nI 1)), none, none]) f63_7 rfl (Nat.le_of_ble_eq_true rfl) rfl rfl (Nat.le_of_ble_eq_true rfl) (by show (zsj X.2.2.2.1 2 j 0).1 = _; rw [zsj2 _ hj]; rfl) (Nat.le_of_ble_eq_true rfl) rfl rfl ?_
  refine sp_cAre hj b2 ?_
  show Ev (d + 2) c s 63 10 [some (zr (some (2, j, 0)))] [zi (rThoseL (zw zO w) (nI 1) 4), zi (rThoseL (zw zO w) (nI 0) 4)] (OM X 2 j ρ l) Q
  refine Ew.op (st' := zi ((rThoseL (zw zO w) (nI 0) 4) ||| (rThoseL (zw zO w) (nI 1) 4)) :: _) f63_10 rfl rfl ?_
  refine Ew.ld f63_11 rfl rfl rfl rfl ?_
  refine Ew.op (st' := zi (nI 2) :: _) f63_12 rfl rfl ?_
  refine Ew.call0 (ls0 := [some (zr (some (2, j, 0))), some (zi (nI 2)), none, none]) f63_13 rfl (Nat.le_of_ble_eq_true rfl) rfl rfl (Nat.le_of_ble_eq_true rfl) (by show (zsj X.2.2.2.1 2 j 0).1 = _; rw [zsj2 _ hj]; rfl) (Nat.le_of_ble_eq_true rfl) rfl rfl ?_
  refine sp_cAre hj b3 ?_
  show Ev (d + 2) c s 63 16 [some (zr (some (2, j, 0)))] [zi (rThoseL (zw zO w) (nI 2) 4), zi ((rThoseL (zw zO w) (nI 0) 4) ||| (rThoseL (zw zO w) (nI 1) 4))] (OM X 2 j ρ l) Q
  refine Ew.op (st' := zi (((rThoseL (zw zO w) (nI 0) 4) ||| (rThoseL (zw zO w) (nI 1) 4)) ||| (rThoseL (zw zO w) (nI 2) 4)) :: _) f63_16 rfl rfl ?_
  refine Ew.ireti f63_17 ?_
  exact h1
theorem g58_0 {d c s : Nat} {j t : Nat} {X : zM} {ρ : Nat → Nat → Int32} {l : Nat → Nat → Int64} {Q : Option zV → zM → Prop} (hj : j < 15)
    (b1 : t < 4)
    (h1 : ((ρ 6 t) = (nI 3)) → Q (some (zi (nI 1))) (OM X 2 j ρ l))
    (b2 : (¬ (ρ 6 t) = (nI 3)) → t < 4)
    (h2 : (¬ (ρ 6 t) = (nI 3)) → (¬ (ρ 6 t) = (nI 4)) → Q (some (zi (nI 0))) (OM X 2 j ρ l))
    (h3 : (¬ (ρ 6 t) = (nI 3)) → ((ρ 6 t) = (nI 4)) → Q (some (zi (nI 1))) (OM X 2 j ρ l)) : Ev d c s 58 0 [some (zr (some (2, j, 0))), some (zi (nI t))] [] (OM X 2 j ρ l) Q := by
  refine Ew.ld f58_0 rfl rfl rfl rfl ?_
  refine Ew.getp (v := some (2, j, 6)) f58_1 (by rw [zsj2 _ hj]; rfl) rfl rfl ?_
  refine Ew.ld f58_4 rfl rfl rfl rfl ?_
  refine Ew.ialdnO f58_5 (by rw [zsj2 _ hj]; rfl) (by rw [zsj2 _ hj]; exact b1) (by rw [zsj2 _ hj]; decide) rfl ?_
  refine Ew.op (st' := zi (nI 3) :: _) f58_6 rfl rfl ?_
  refine Ew.icmp f58_7 rfl rfl (fun c1 => ?_) (fun c1 => ?_)
  · refine Ew.op (st' := zi (nI 1) :: _) f58_20 rfl rfl ?_
    refine Ew.goto f58_21 rfl ?_
    refine Ew.iretb f58_25 (Or.inr rfl) ?_
    exact h1 c1
  · refine Ew.ld f58_10 rfl rfl rfl rfl ?_
    refine Ew.getp (v := some (2, j, 6)) f58_11 (by rw [zsj2 _ hj]; rfl) rfl rfl ?_
    refine Ew.ld f58_14 rfl rfl rfl rfl ?_
    refine Ew.ialdnO f58_15 (by rw [zsj2 _ hj]; rfl) (by rw [zsj2 _ hj]; exact (b2 c1)) (by rw [zsj2 _ hj]; decide) rfl ?_
    refine Ew.op (st' := zi (nI 4) :: _) f58_16 rfl rfl ?_
    refine Ew.icmp f58_17 rfl rfl (fun c2 => ?_) (fun c2 => ?_)
    · refine Ew.op (st' := zi (nI 0) :: _) f58_24 rfl rfl ?_
      refine Ew.iretb f58_25 (Or.inl rfl) ?_
      exact h2 c1 c2
    · refine Ew.op (st' := zi (nI 1) :: _) f58_20 rfl rfl ?_
      refine Ew.goto f58_21 rfl ?_
      refine Ew.iretb f58_25 (Or.inr rfl) ?_
      exact h3 c1 (Classical.not_not.mp c2)
theorem g59_0 {d c s : Nat} {j t : Nat} {X : zM} {ρ : Nat → Nat → Int32} {l : Nat → Nat → Int64} {Q : Option zV → zM → Prop} (hj : j < 15)
    (b1 : t < 4)
    (h1 : (¬ (ρ 6 t) = (nI 2)) → Q (some (zi (nI 0))) (OM X 2 j ρ l))
    (h2 : ((ρ 6 t) = (nI 2)) → Q (some (zi (nI 1))) (OM X 2 j ρ l)) : Ev d c s 59 0 [some (zr (some (2, j, 0))), some (zi (nI t))] [] (OM X 2 j ρ l) Q := by
  refine Ew.ld f59_0 rfl rfl rfl rfl ?_
  refine Ew.getp (v := some (2, j, 6)) f59_1 (by rw [zsj2 _ hj]; rfl) rfl rfl ?_
  refine Ew.ld f59_4 rfl rfl rfl rfl ?_
  refine Ew.ialdnO f59_5 (by rw [zsj2 _ hj]; rfl) (by rw [zsj2 _ hj]; exact b1) (by rw [zsj2 _ hj]; decide) rfl ?_
  refine Ew.op (st' := zi (nI 2) :: _) f59_6 rfl rfl ?_
  refine Ew.icmp f59_7 rfl rfl (fun c1 => ?_) (fun c1 => ?_)
  · refine Ew.op (st' := zi (nI 0) :: _) f59_14 rfl rfl ?_
    refine Ew.iretb f59_15 (Or.inl rfl) ?_
    exact h1 c1
  · refine Ew.op (st' := zi (nI 1) :: _) f59_10 rfl rfl ?_
    refine Ew.goto f59_11 rfl ?_
    refine Ew.iretb f59_15 (Or.inr rfl) ?_
    exact h2 (Classical.not_not.mp c1)
/-- states of a row are states -/
def cSt (w : Nat → Int32) : Prop := ∀ t, t < 4 → ∃ s, s ≤ 4 ∧ w (10 + 4 * t) = nI s
/-- sets of tasks by their states, by the four numbers -/
theorem st_set1 (a b c d : Nat) (ha : a < 5) (hb : b < 5) (hc : c < 5) (hd : d < 5) : ∀ w : Nat → Int32, w 10 = nI a → w 14 = nI b → w 18 = nI c → w 22 = nI d → ((rThoseL (zw zO w) (nI 1) 4 ||| rThoseL (zw zO w) (nI 2) 4) = 0 ↔ aBusy w = 0) := by
  intro w e0 e1 e2 e3
  have q : ∀ t, zw zO w 1 t = w t := fun t => rfl
  unfold aBusy
  simp only [rThoseL, rBusyL, rNot0, rLeftL, q, show 10 + 4 * 0 = 10 from rfl, show 10 + 4 * 1 = 14 from rfl, show 10 + 4 * 2 = 18 from rfl, show 10 + 4 * 3 = 22 from rfl, e0, e1, e2, e3]
  clear e0 e1 e2 e3 q w
  revert d
  revert c
  revert b
  revert a
  decide +kernel
theorem st_set2 (a b c d : Nat) (ha : a < 5) (hb : b < 5) (hc : c < 5) (hd : d < 5) : ∀ w : Nat → Int32, w 10 = nI a → w 14 = nI b → w 18 = nI c → w 22 = nI d → (rThoseL (zw zO w) (nI 0) 4 = nI 15 ↔ rNot0 w 4 = 0) := by
  intro w e0 e1 e2 e3
  have q : ∀ t, zw zO w 1 t = w t := fun t => rfl
  simp only [rThoseL, rBusyL, rNot0, rLeftL, q, show 10 + 4 * 0 = 10 from rfl, show 10 + 4 * 1 = 14 from rfl, show 10 + 4 * 2 = 18 from rfl, show 10 + 4 * 3 = 22 from rfl, e0, e1, e2, e3]
  clear e0 e1 e2 e3 q w
  revert d
  revert c
  revert b
  revert a
  decide +kernel
theorem st_set3 (a b c d : Nat) (ha : a < 5) (hb : b < 5) (hc : c < 5) (hd : d < 5) : ∀ w : Nat → Int32, w 10 = nI a → w 14 = nI b → w 18 = nI c → w 22 = nI d → rThoseL (zw zO w) (nI 0) 4 ||| rThoseL (zw zO w) (nI 1) 4 ||| rThoseL (zw zO w) (nI 2) 4 = rLeftL (zw zO w) 4 := by
  intro w e0 e1 e2 e3
  have q : ∀ t, zw zO w 1 t = w t := fun t => rfl
  simp only [rThoseL, rBusyL, rNot0, rLeftL, q, show 10 + 4 * 0 = 10 from rfl, show 10 + 4 * 1 = 14 from rfl, show 10 + 4 * 2 = 18 from rfl, show 10 + 4 * 3 = 22 from rfl, e0, e1, e2, e3]
  clear e0 e1 e2 e3 q w
  revert d
  revert c
  revert b
  revert a
  decide +kernel
section
variable {d c s j t : Nat} {x : Int32} {τ : Nat → Nat → Int32} {w : Nat → Int32} {X : zM} {ρ : Nat → Nat → Int32} {l : Nat → Nat → Int64} {Q : Option zV → zM → Prop}
theorem cSt.sets (h : cSt w) : ((rThoseL (zw zO w) (nI 1) 4 ||| rThoseL (zw zO w) (nI 2) 4) = 0 ↔ aBusy w = 0) ∧ (rThoseL (zw zO w) (nI 0) 4 = nI 15 ↔ rNot0 w 4 = 0) ∧ (rThoseL (zw zO w) (nI 0) 4 ||| rThoseL (zw zO w) (nI 1) 4 ||| rThoseL (zw zO w) (nI 2) 4 = rLeftL (zw zO w) 4) := by
  obtain ⟨a, ha, ea⟩ := h 0 (by decide)
  obtain ⟨b, hb, eb⟩ := h 1 (by decide)
  obtain ⟨c, hc, ec⟩ := h 2 (by decide)
  obtain ⟨d, hd, ed⟩ := h 3 (by decide)
  exact ⟨st_set1 a b c d (by omega) (by omega) (by omega) (by omega) w ea eb ec ed, st_set2 a b c d (by omega) (by omega) (by omega) (by omega) w ea eb ec ed, st_set3 a b c d (by omega) (by omega) (by omega) (by omega) w ea eb ec ed⟩
theorem sp_cBusy (hj : j < 15) (h : cTI τ ρ w) (hs : cSt w) (k1 : ¬ aBusy w = 0 → Q (some (zi (nI 1))) (OM X 2 j ρ l)) (k0 : ¬ ¬ aBusy w = 0 → Q (some (zi (nI 0))) (OM X 2 j ρ l)) : Ev (d + 2) c s 60 0 [some (zr (some (2, j, 0)))] [] (OM X 2 j ρ l) Q := g60_0 hj h h (fun g => k0 (fun e => e (hs.sets.1.mp g))) (fun g => k1 (fun e => g (hs.sets.1.mpr e)))
theorem sp_cUnt (hj : j < 15) (h : cTI τ ρ w) (hs : cSt w) (k1 : (rNot0 w 4 = 0 ∧ w 2 = 0) → Q (some (zi (nI 1))) (OM X 2 j ρ l)) (k0 : ¬ (rNot0 w 4 = 0 ∧ w 2 = 0) → Q (some (zi (nI 0))) (OM X 2 j ρ l)) : Ev (d + 2) c s 61 0 [some (zr (some (2, j, 0)))] [] (OM X 2 j ρ l) Q := by
  have e : nI 1 <<< (nI 4 &&& 31) - nI 1 = nI 15 := by decide
  have e5 := h.1.2.2.2
  refine g61_0 hj h (fun g => k0 (fun q => g ?_)) (fun g g2 => k0 (fun q => g2 ?_)) (fun g g2 => k1 ⟨?_, ?_⟩)
  · rw [e]; exact hs.sets.2.1.mpr q.1
  · rw [e5]; exact q.2
  · rw [e] at g; exact hs.sets.2.1.mp g
  · rw [← e5]; exact g2
theorem sp_cLeft (hj : j < 15) (h : cTI τ ρ w) (hs : cSt w) (k : Q (some (zi (nI (aLf w)))) (OM X 2 j ρ l)) : Ev (d + 2) c s 63 0 [some (zr (some (2, j, 0)))] [] (OM X 2 j ρ l) Q := by
  refine g63_0 hj h h h ?_
  rw [hs.sets.2.2, show rLeftL (zw zO w) 4 = nI (aLf w) from (aLf_ok zO w).1]
  exact k
theorem cSt.over (h : cSt w) {t : Nat} (ht : t < 4) : nI 3 ≤ w (10 + 4 * t) ↔ (w (10 + 4 * t) = nI 3 ∨ w (10 + 4 * t) = nI 4) := by
  obtain ⟨a, ha, ea⟩ := h t ht
  rw [ea]
  have key : ∀ a, a < 5 → (nI 3 ≤ nI a ↔ (nI a = nI 3 ∨ nI a = nI 4)) := by decide
  exact key a (by omega)
theorem sp_cOver (hj : j < 15) (ht : t < 4) (h : cTI τ ρ w) (hs : cSt w) (k1 : nI 3 ≤ w (10 + 4 * t) → Q (some (zi (nI 1))) (OM X 2 j ρ l)) (k0 : ¬ nI 3 ≤ w (10 + 4 * t) → Q (some (zi (nI 0))) (OM X 2 j ρ l)) : Ev d c s 58 0 [some (zr (some (2, j, 0))), some (zi (nI t))] [] (OM X 2 j ρ l) Q := by
  have e := (h.2.2 t ht).1
  have o := hs.over ht
  rw [← e] at o k1 k0
  refine g58_0 hj ht (fun g => k1 (o.mpr (Or.inl g))) (fun _ => ht) (fun g g2 => k0 (fun q => ?_)) (fun _ g => k1 (o.mpr (Or.inr g)))
  rcases o.mp q with q | q
  · exact g q
  · exact g2 q
theorem sp_cWaitg (hj : j < 15) (ht : t < 4) (h : cTI τ ρ w) (k1 : w (10 + 4 * t) = nI 2 → Q (some (zi (nI 1))) (OM X 2 j ρ l)) (k0 : ¬ w (10 + 4 * t) = nI 2 → Q (some (zi (nI 0))) (OM X 2 j ρ l)) : Ev d c s 59 0 [some (zr (some (2, j, 0))), some (zi (nI t))] [] (OM X 2 j ρ l) Q := by
  have e := (h.2.2 t ht).1
  rw [← e] at k1 k0
  exact g59_0 hj ht k0 k1
end
theorem g67_0 {d c s : Nat} {j : Nat} {x : Int32} {X : zM} {ρ : Nat → Nat → Int32} {l : Nat → Nat → Int64} {Q : Option zV → zM → Prop} (hj : j < 15)
    (h1 : Ev d c s 67 4 [some (zr (some (2, j, 0))), some (zi x), some (zi (nI 0)), some (zi (nI 0))] [] (OM X 2 j ρ l) Q) : Ev d c s 67 0 [some (zr (some (2, j, 0))), some (zi x), none, none] [] (OM X 2 j ρ l) Q := by
  refine Ew.op (st' := zi (nI 0) :: _) f67_0 rfl rfl ?_
  refine Ew.sr (ls' := [some (zr (some (2, j, 0))), some (zi x), some (zi (nI 0)), none]) f67_1 rfl rfl (Nat.le_of_ble_eq_true rfl) rfl rfl ?_
  refine Ew.op (st' := zi (nI 0) :: _) f67_2 rfl rfl ?_
  refine Ew.sr (ls' := [some (zr (some (2, j, 0))), some (zi x), some (zi (nI 0)), some (zi (nI 0))]) f67_3 rfl rfl (Nat.le_of_ble_eq_true rfl) rfl rfl ?_
  exact h1
theorem g67_4 {d c s : Nat} {j t : Nat} {x z : Int32} {X : zM} {ρ : Nat → Nat → Int32} {l : Nat → Nat → Int64} {Q : Option zV → zM → Prop} (hj : j < 15) (nb_t : t < 5000)
    (h1 : (4 ≤ t) → Q (some (zi z)) (OM X 2 j ρ l))
    (b1 : (t < 4) → t < 4)
    (h2 : (t < 4) → (¬ (ρ 8 t) = x) → Ev (d + 1) c s 67 4 [some (zr (some (2, j, 0))), some (zi x), some (zi z), some (zi (nI (t + 1)))] [] (OM X 2 j ρ l) Q)
    (h3 : (t < 4) → ((ρ 8 t) = x) → Ev (d + 1) c s 67 4 [some (zr (some (2, j, 0))), some (zi x), some (zi (z ||| ((nI 1) <<< ((nI t) &&& 31)))), some (zi (nI (t + 1)))] [] (OM X 2 j ρ l) Q) : Ev (d + 1) c s 67 4 [some (zr (some (2, j, 0))), some (zi x), some (zi z), some (zi (nI t))] [] (OM X 2 j ρ l) Q := by
  refine Ew.ld f67_4 rfl rfl rfl rfl ?_
  refine Ew.op (st' := zi (nI 4) :: _) f67_5 rfl rfl ?_
  refine Ew.icmp f67_6 rfl rfl (fun c1 => ?_) (fun c1 => ?_)
  · refine Ew.ld f67_32 rfl rfl rfl rfl ?_
    refine Ew.ireti f67_33 ?_
    exact h1 ((zle_iff (by decide) nb_t).mp c1)
  · refine Ew.ld f67_9 rfl rfl rfl rfl ?_
    refine Ew.getp (v := some (2, j, 8)) f67_10 (by rw [zsj2 _ hj]; rfl) rfl rfl ?_
    refine Ew.ld f67_13 rfl rfl rfl rfl ?_
    refine Ew.ialdnO f67_14 (by rw [zsj2 _ hj]; rfl) (by rw [zsj2 _ hj]; exact (b1 (Nat.not_le.mp fun e => c1 ((zle_iff (by decide) nb_t).mpr e)))) (by rw [zsj2 _ hj]; decide) rfl ?_
    refine Ew.ld f67_15 rfl rfl rfl rfl ?_
    refine Ew.icmp f67_16 rfl rfl (fun c2 => ?_) (fun c2 => ?_)
    · refine Ew.iinc (v := nI (t + 1)) (ls' := [some (zr (some (2, j, 0))), some (zi x), some (zi z), some (zi (nI (t + 1)))]) f67_26 rfl (nI_1 _) rfl rfl ?_
      refine Ew.goto f67_29 rfl ?_
      exact h2 (Nat.not_le.mp fun e => c1 ((zle_iff (by decide) nb_t).mpr e)) c2
    · refine Ew.ld f67_19 rfl rfl rfl rfl ?_
      refine Ew.ld f67_20 rfl rfl rfl rfl ?_
      refine Ew.call0 (ls0 := [some (zi (nI t))]) f67_21 rfl (Nat.le_of_ble_eq_true rfl) rfl rfl (Nat.le_of_ble_eq_true rfl) trivial (Nat.le_of_ble_eq_true rfl) rfl rfl ?_
      refine Ew.op (st' := zi (nI 1) :: _) f146_0 rfl rfl ?_
      refine Ew.ld f146_1 rfl rfl rfl rfl ?_
      refine Ew.op (st' := zi ((nI 1) <<< ((nI t) &&& 31)) :: _) f146_2 rfl rfl ?_
      refine Ew.ireti f146_3 ?_
      show Ev (d + 1) c s 67 24 [some (zr (some (2, j, 0))), some (zi x), some (zi z), some (zi (nI t))] [zi ((nI 1) <<< ((nI t) &&& 31)), zi z] (OM X 2 j ρ l) Q
      refine Ew.op (st' := zi (z ||| ((nI 1) <<< ((nI t) &&& 31))) :: _) f67_24 rfl rfl ?_
      refine Ew.sr (ls' := [some (zr (some (2, j, 0))), some (zi x), some (zi (z ||| ((nI 1) <<< ((nI t) &&& 31)))), some (zi (nI t))]) f67_25 rfl rfl (Nat.le_of_ble_eq_true rfl) rfl rfl ?_
      refine Ew.iinc (v := nI (t + 1)) (ls' := [some (zr (some (2, j, 0))), some (zi x), some (zi (z ||| ((nI 1) <<< ((nI t) &&& 31)))), some (zi (nI (t + 1)))]) f67_26 rfl (nI_1 _) rfl rfl ?_
      refine Ew.goto f67_29 rfl ?_
      exact h3 (Nat.not_le.mp fun e => c1 ((zle_iff (by decide) nb_t).mpr e)) (Classical.not_not.mp c2)
theorem g68_0 {d c s : Nat} {j t : Nat} {X : zM} {ρ : Nat → Nat → Int32} {l : Nat → Nat → Int64} {Q : Option zV → zM → Prop} (hj : j < 15)
    (h1 : Ev d c s 68 4 [some (zr (some (2, j, 0))), some (zi (nI t)), some (zi (nI 0)), some (zi (nI 0))] [] (OM X 2 j ρ l) Q) : Ev d c s 68 0 [some (zr (some (2, j, 0))), some (zi (nI t)), none, none] [] (OM X 2 j ρ l) Q := by
  refine Ew.op (st' := zi (nI 0) :: _) f68_0 rfl rfl ?_
  refine Ew.sr (ls' := [some (zr (some (2, j, 0))), some (zi (nI t)), some (zi (nI 0)), none]) f68_1 rfl rfl (Nat.le_of_ble_eq_true rfl) rfl rfl ?_
  refine Ew.op (st' := zi (nI 0) :: _) f68_2 rfl rfl ?_
  refine Ew.sr (ls' := [some (zr (some (2, j, 0))), some (zi (nI t)), some (zi (nI 0)), some (zi (nI 0))]) f68_3 rfl rfl (Nat.le_of_ble_eq_true rfl) rfl rfl ?_
  exact h1
theorem g68_4 {d c s : Nat} {j t g : Nat} {z : Int32} {X : zM} {ρ : Nat → Nat → Int32} {l : Nat → Nat → Int64} {Q : Option zV → zM → Prop} (hj : j < 15) (nb_g : g < 5000)
    (h1 : (6 ≤ g) → Q (some (zi z)) (OM X 2 j ρ l))
    (b1 : (g < 6) → g < 6)
    (h2 : (g < 6) → (¬ (ρ 4 g) = (nI t)) → Ev d c s 68 4 [some (zr (some (2, j, 0))), some (zi (nI t)), some (zi z), some (zi (nI (g + 1)))] [] (OM X 2 j ρ l) Q)
    (h3 : (g < 6) → ((ρ 4 g) = (nI t)) → Ev d c s 68 4 [some (zr (some (2, j, 0))), some (zi (nI t)), some (zi (z ||| ((nI 1) <<< ((nI g) &&& 31)))), some (zi (nI (g + 1)))] [] (OM X 2 j ρ l) Q) : Ev d c s 68 4 [some (zr (some (2, j, 0))), some (zi (nI t)), some (zi z), some (zi (nI g))] [] (OM X 2 j ρ l) Q := by
  refine Ew.ld f68_4 rfl rfl rfl rfl ?_
  refine Ew.op (st' := zi (nI 6) :: _) f68_5 rfl rfl ?_
  refine Ew.icmp f68_7 rfl rfl (fun c1 => ?_) (fun c1 => ?_)
  · refine Ew.ld f68_32 rfl rfl rfl rfl ?_
    refine Ew.ireti f68_33 ?_
    exact h1 ((zle_iff (by decide) nb_g).mp c1)
  · refine Ew.ld f68_10 rfl rfl rfl rfl ?_
    refine Ew.getp (v := some (2, j, 4)) f68_11 (by rw [zsj2 _ hj]; rfl) rfl rfl ?_
    refine Ew.ld f68_14 rfl rfl rfl rfl ?_
    refine Ew.ialdnO f68_15 (by rw [zsj2 _ hj]; rfl) (by rw [zsj2 _ hj]; exact (b1 (Nat.not_le.mp fun e => c1 ((zle_iff (by decide) nb_g).mpr e)))) (by rw [zsj2 _ hj]; decide) rfl ?_
    refine Ew.ld f68_16 rfl rfl rfl rfl ?_
    refine Ew.icmp f68_17 rfl rfl (fun c2 => ?_) (fun c2 => ?_)
    · refine Ew.iinc (v := nI (g + 1)) (ls' := [some (zr (some (2, j, 0))), some (zi (nI t)), some (zi z), some (zi (nI (g + 1)))]) f68_26 rfl (nI_1 _) rfl rfl ?_
      refine Ew.goto f68_29 rfl ?_
      exact h2 (Nat.not_le.mp fun e => c1 ((zle_iff (by decide) nb_g).mpr e)) c2
    · refine Ew.ld f68_20 rfl rfl rfl rfl ?_
      refine Ew.op (st' := zi (nI 1) :: _) f68_21 rfl rfl ?_
      refine Ew.ld f68_22 rfl rfl rfl rfl ?_
      refine Ew.op (st' := zi ((nI 1) <<< ((nI g) &&& 31)) :: _) f68_23 rfl rfl ?_
      refine Ew.op (st' := zi (z ||| ((nI 1) <<< ((nI g) &&& 31))) :: _) f68_24 rfl rfl ?_
      refine Ew.sr (ls' := [some (zr (some (2, j, 0))), some (zi (nI t)), some (zi (z ||| ((nI 1) <<< ((nI g) &&& 31)))), some (zi (nI g))]) f68_25 rfl rfl (Nat.le_of_ble_eq_true rfl) rfl rfl ?_
      refine Ew.iinc (v := nI (g + 1)) (ls' := [some (zr (some (2, j, 0))), some (zi (nI t)), some (zi (z ||| ((nI 1) <<< ((nI g) &&& 31)))), some (zi (nI (g + 1)))]) f68_26 rfl (nI_1 _) rfl rfl ?_
      refine Ew.goto f68_29 rfl ?_
      exact h3 (Nat.not_le.mp fun e => c1 ((zle_iff (by decide) nb_g).mpr e)) (Classical.not_not.mp c2)
theorem g71_0 {d c s : Nat} {j t : Nat} {X : zM} {ρ : Nat → Nat → Int32} {l : Nat → Nat → Int64} {Q : Option zV → zM → Prop} (hj : j < 15)
    (b1 : t < 4)
    (h1 : (aIx (ρ 8 t) 6 = none) → Q (some (zi ((-4)))) (OM X 2 j ρ l))
    (b2 : (¬ (aIx (ρ 8 t) 6 = none)) → vp_in (ρ 8 t) 6)
    (h2 : (¬ (aIx (ρ 8 t) 6 = none)) → Q (some (zi (ρ 4 ((ρ 8 t).toNatClampNeg)))) (OM X 2 j ρ l)) : Ev (d + 1) c s 71 0 [some (zr (some (2, j, 0))), some (zi (nI t)), none] [] (OM X 2 j ρ l) Q := by
  refine Ew.ld f71_0 rfl rfl rfl rfl ?_
  refine Ew.getp (v := some (2, j, 8)) f71_1 (by rw [zsj2 _ hj]; rfl) rfl rfl ?_
  refine Ew.ld f71_4 rfl rfl rfl rfl ?_
  refine Ew.ialdnO f71_5 (by rw [zsj2 _ hj]; rfl) (by rw [zsj2 _ hj]; exact b1) (by rw [zsj2 _ hj]; decide) rfl ?_
  refine Ew.sr (ls' := [some (zr (some (2, j, 0))), some (zi (nI t)), some (zi (ρ 8 t))]) f71_6 rfl rfl (Nat.le_of_ble_eq_true rfl) rfl rfl ?_
  refine Ew.ld f71_7 rfl rfl rfl rfl ?_
  refine Ew.call0 (ls0 := [some (zi (ρ 8 t))]) f71_8 rfl (Nat.le_of_ble_eq_true rfl) rfl rfl (Nat.le_of_ble_eq_true rfl) trivial (Nat.le_of_ble_eq_true rfl) rfl rfl ?_
  refine sp_noGate (fun c1 => ?_) (fun c1 => ?_)
  · refine Ew.ifc f71_11 rfl rfl (fun h => absurd h (show ¬ (((nI 1) : Int32) = 0) by decide)) (fun _ => ?_)
    refine Ew.op (st' := zi ((-4)) :: _) f71_14 rfl rfl ?_
    refine Ew.goto f71_16 rfl ?_
    refine Ew.ireti f71_25 ?_
    exact h1 c1
  · refine Ew.ifc f71_11 rfl rfl (fun _ => ?_) (fun h => absurd (show ((nI 0) : Int32) = 0 by decide) h)
    refine Ew.ld f71_19 rfl rfl rfl rfl ?_
    refine Ew.getp (v := some (2, j, 4)) f71_20 (by rw [zsj2 _ hj]; rfl) rfl rfl ?_
    refine Ew.ld f71_23 rfl rfl rfl rfl ?_
    refine Ew.ialdxO f71_24 (by rw [zsj2 _ hj]; rfl) (by rw [zsj2 _ hj]; exact (b2 c1)) rfl ?_
    refine Ew.ireti f71_25 ?_
    exact h2 c1
/-- no gate has two: the one that is in a gate holds it -/
def cUq (τ : Nat → Nat → Int32) (w : Nat → Int32) : Prop := ∀ g t u, t < 4 → u < 4 → 0 < rIns τ t (rD (zw τ w) t) (nI g) → 0 < rIns τ u (rD (zw τ w) u) (nI g) → t = u
theorem rHoldL_iff {τ : Nat → Nat → Int32} {w : Nat → Int32} (hu : cUq τ w) (g : Nat) : ∀ n, n ≤ 4 → ∀ t, t < n → (rHoldL (zw τ w) (nI g) n = nI t ↔ 0 < rIns τ t (rD (zw τ w) t) (nI g)) := by
  intro n
  induction n with
  | zero => intro _ t ht; omega
  | succ n ih =>
    intro hn t ht
    unfold rHoldL
    rw [rIns_zw]
    by_cases h : 0 < rIns τ n (rD (zw τ w) n) (nI g)
    · rw [if_pos h]
      constructor
      · intro e
        have e := (zeq (by omega) (by omega)).mp e
        subst e
        exact h
      · intro e
        rw [hu g n t (by omega) (by omega) h e]
    · rw [if_neg h]
      by_cases e : t = n
      · subst e
        constructor
        · intro e
          rcases rHoldL_cases (zw τ w) (nI g) t with q | ⟨v, hv, q⟩
          · rw [q] at e
            exact absurd e (by have := nI_pos (n := t) (by omega); intro e; rw [← e] at this; exact this (by decide))
          · rw [q] at e
            have := (zeq (by omega) (by omega)).mp e
            omega
        · intro e; exact absurd e h
      · exact ih (by omega) t (by omega)
theorem rHold_iff {τ : Nat → Nat → Int32} {w : Nat → Int32} (hu : cUq τ w) (g : Nat) {t : Nat} (ht : t < 4) : rHold (zw τ w) (nI g) = nI t ↔ 0 < rIns τ t (rD (zw τ w) t) (nI g) := rHoldL_iff hu g 4 (Nat.le_refl 4) t ht
section
variable {d c s j t : Nat} {x : Int32} {τ : Nat → Nat → Int32} {w : Nat → Int32} {X : zM} {ρ : Nat → Nat → Int32} {l : Nat → Nat → Int64} {Q : Option zV → zM → Prop}
theorem sp_cWtr (hj : j < 15) (h : cTI τ ρ w) (k : Q (some (zi (rWtrL (zw τ w) x 4))) (OM X 2 j ρ l)) : Ev (d + 1) c s 67 0 [some (zr (some (2, j, 0))), some (zi x), none, none] [] (OM X 2 j ρ l) Q := by
  refine g67_0 hj ?_
  refine loopN (fun t => Ev (d + 1) c s 67 4 [some (zr (some (2, j, 0))), some (zi x), some (zi (rWtrL (zw τ w) x t)), some (zi (nI t))] [] (OM X 2 j ρ l) Q) 4 (fun t ht hE => ?_) ?_
  · have e := (h.2.2 t ht).2.2.1
    unfold rWtrL at hE
    rw [← e] at hE
    refine g67_4 hj (by omega) (fun g => by omega) (fun g => g) (fun _ g => ?_) (fun _ g => ?_)
    · rw [if_neg g, zor0] at hE; exact hE
    · rw [if_pos g] at hE; exact hE
  · exact g67_4 hj (by omega) (fun _ => k) (fun g => by omega) (fun g => by omega) (fun g => by omega)
theorem sp_cHeld (hj : j < 15) (ht : t < 4) (h : cTI τ ρ w) (hu : cUq τ w) (k : Q (some (zi (rSet τ t (rD (zw τ w) t)))) (OM X 2 j ρ l)) : Ev d c s 68 0 [some (zr (some (2, j, 0))), some (zi (nI t)), none, none] [] (OM X 2 j ρ l) Q := by
  refine g68_0 hj ?_
  refine loopN (fun g => Ev d c s 68 4 [some (zr (some (2, j, 0))), some (zi (nI t)), some (zi (rSetL τ t (rD (zw τ w) t) g)), some (zi (nI g))] [] (OM X 2 j ρ l) Q) 6 (fun g hg hE => ?_) ?_
  · have e := (h.2.1 g hg).2.1
    have i := rHold_iff hu g ht
    rw [← e] at i
    unfold rSetL at hE
    refine g68_4 hj (by omega) (fun g => by omega) (fun g => g) (fun _ q => ?_) (fun _ q => ?_)
    · rw [if_neg (fun e => q (i.mpr e)), zor0] at hE; exact hE
    · rw [if_pos (i.mp q)] at hE; exact hE
  · exact g68_4 hj (by omega) (fun _ => k) (fun g => by omega) (fun g => by omega) (fun g => by omega)
/-- what is waited for is a gate, or none -/
def cWt (τ : Nat → Nat → Int32) (w : Nat → Int32) : Prop := ∀ t, t < 4 → rWait (zw τ w) t = -4 ∨ ∃ g, g < 6 ∧ rWait (zw τ w) t = nI g
theorem sp_cNext (hj : j < 15) (ht : t < 4) (h : cTI τ ρ w) (hw : cWt τ w) (k : Q (some (zi (rNext (zw τ w) t))) (OM X 2 j ρ l)) : Ev (d + 1) c s 71 0 [some (zr (some (2, j, 0))), some (zi (nI t)), none] [] (OM X 2 j ρ l) Q := by
  have e := (h.2.2 t ht).2.2.1
  unfold rNext at k
  refine g71_0 hj ht (fun g => ?_) (fun g => ?_) (fun g => ?_)
  · rcases hw t ht with q | ⟨v, hv, q⟩
    · rw [q, if_pos (by decide)] at k
      exact k
    · rw [e, q, aIx_some hv (by decide)] at g
      cases g
  · rcases hw t ht with q | ⟨v, hv, q⟩
    · rw [e, q] at g
      exact absurd (aIx_neg (by decide)) g
    · rw [e, q]
      exact zvin hv (by decide)
  · rcases hw t ht with q | ⟨v, hv, q⟩
    · rw [e, q] at g
      exact absurd (aIx_neg (by decide)) g
    · rw [q, if_neg (nI_pos (by omega))] at k
      rw [e, q, nI_clamp (by omega), (h.2.1 v hv).2.1]
      exact k
end
theorem g70_0 {d c s : Nat} {j t : Nat} {X : zM} {ρ : Nat → Nat → Int32} {l : Nat → Nat → Int64} {Q : Option zV → zM → Prop} (hj : j < 15)
    (h1 : Ev d c s 70 7 [some (zr (some (2, j, 0))), some (zi (nI t)), some (zi (nI 0)), some (zi (nI t)), some (zi (nI 0))] [] (OM X 2 j ρ l) Q) : Ev d c s 70 0 [some (zr (some (2, j, 0))), some (zi (nI t)), none, none, none] [] (OM X 2 j ρ l) Q := by
  refine Ew.op (st' := zi (nI 0) :: _) f70_0 rfl rfl ?_
  refine Ew.sr (ls' := [some (zr (some (2, j, 0))), some (zi (nI t)), some (zi (nI 0)), none, none]) f70_1 rfl rfl (Nat.le_of_ble_eq_true rfl) rfl rfl ?_
  refine Ew.ld f70_2 rfl rfl rfl rfl ?_
  refine Ew.sr (ls' := [some (zr (some (2, j, 0))), some (zi (nI t)), some (zi (nI 0)), some (zi (nI t)), none]) f70_3 rfl rfl (Nat.le_of_ble_eq_true rfl) rfl rfl ?_
  refine Ew.op (st' := zi (nI 0) :: _) f70_4 rfl rfl ?_
  refine Ew.sr (ls' := [some (zr (some (2, j, 0))), some (zi (nI t)), some (zi (nI 0)), some (zi (nI t)), some (zi (nI 0))]) f70_5 rfl rfl (Nat.le_of_ble_eq_true rfl) rfl rfl ?_
  exact h1
theorem g70_7 {d c s : Nat} {j t u k : Nat} {z : Int32} {τ : Nat → Nat → Int32} {w : Nat → Int32} {X : zM} {ρ : Nat → Nat → Int32} {l : Nat → Nat → Int64} {Q : Option zV → zM → Prop} (hj : j < 15) (nb_k : k < 5000)
    (h1 : (4 ≤ k) → Q (some (zi (nI 0))) (OM X 2 j ρ l))
    (h2 : (k < 4) → ((nI u) = ((-4))) → Q (some (zi (nI 0))) (OM X 2 j ρ l))
    (b1 : (k < 4) → (¬ (nI u) = ((-4))) → u < 4)
    (b2 : (k < 4) → (¬ (nI u) = ((-4))) → cTI τ ρ w)
    (b3 : (k < 4) → (¬ (nI u) = ((-4))) → cWt τ w)
    (h3 : (k < 4) → (¬ (nI u) = ((-4))) → (¬ (rNext (zw τ w) u) = (nI t)) → Ev (d + 2) c s 70 7 [some (zr (some (2, j, 0))), some (zi (nI t)), some (zi (z ||| ((nI 1) <<< ((nI u) &&& 31)))), some (zi (rNext (zw τ w) u)), some (zi (nI (k + 1)))] [] (OM X 2 j ρ l) Q)
    (h4 : (k < 4) → (¬ (nI u) = ((-4))) → ((rNext (zw τ w) u) = (nI t)) → Q (some (zi (z ||| ((nI 1) <<< ((nI u) &&& 31))))) (OM X 2 j ρ l)) : Ev (d + 2) c s 70 7 [some (zr (some (2, j, 0))), some (zi (nI t)), some (zi z), some (zi (nI u)), some (zi (nI k))] [] (OM X 2 j ρ l) Q := by
  refine Ew.ld f70_7 rfl rfl rfl rfl ?_
  refine Ew.op (st' := zi (nI 4) :: _) f70_9 rfl rfl ?_
  refine Ew.icmp f70_10 rfl rfl (fun c1 => ?_) (fun c1 => ?_)
  · refine Ew.op (st' := zi (nI 0) :: _) f70_45 rfl rfl ?_
    refine Ew.ireti f70_46 ?_
    exact h1 ((zle_iff (by decide) nb_k).mp c1)
  · refine Ew.ld f70_13 rfl rfl rfl rfl ?_
    refine Ew.op (st' := zi ((-4)) :: _) f70_14 rfl rfl ?_
    refine Ew.icmp f70_16 rfl rfl (fun c2 => ?_) (fun c2 => ?_)
    · refine Ew.op (st' := zi (nI 0) :: _) f70_45 rfl rfl ?_
      refine Ew.ireti f70_46 ?_
      exact h2 (Nat.not_le.mp fun e => c1 ((zle_iff (by decide) nb_k).mpr e)) c2
    · refine Ew.ld f70_19 rfl rfl rfl rfl ?_
      refine Ew.ld f70_20 rfl rfl rfl rfl ?_
      refine Ew.call0 (ls0 := [some (zi (nI u))]) f70_21 rfl (Nat.le_of_ble_eq_true rfl) rfl rfl (Nat.le_of_ble_eq_true rfl) trivial (Nat.le_of_ble_eq_true rfl) rfl rfl ?_
      refine Ew.op (st' := zi (nI 1) :: _) f146_0 rfl rfl ?_
      refine Ew.ld f146_1 rfl rfl rfl rfl ?_
      refine Ew.op (st' := zi ((nI 1) <<< ((nI u) &&& 31)) :: _) f146_2 rfl rfl ?_
      refine Ew.ireti f146_3 ?_
      show Ev (d + 2) c s 70 24 [some (zr (some (2, j, 0))), some (zi (nI t)), some (zi z), some (zi (nI u)), some (zi (nI k))] [zi ((nI 1) <<< ((nI u) &&& 31)), zi z] (OM X 2 j ρ l) Q
      refine Ew.op (st' := zi (z ||| ((nI 1) <<< ((nI u) &&& 31))) :: _) f70_24 rfl rfl ?_
      refine Ew.sr (ls' := [some (zr (some (2, j, 0))), some (zi (nI t)), some (zi (z ||| ((nI 1) <<< ((nI u) &&& 31)))), some (zi (nI u)), some (zi (nI k))]) f70_25 rfl rfl (Nat.le_of_ble_eq_true rfl) rfl rfl ?_
      refine Ew.ld f70_26 rfl rfl rfl rfl ?_
      refine Ew.ld f70_27 rfl rfl rfl rfl ?_
      refine Ew.call0 (ls0 := [some (zr (some (2, j, 0))), some (zi (nI u)), none]) f70_28 rfl (Nat.le_of_ble_eq_true rfl) rfl rfl (Nat.le_of_ble_eq_true rfl) (by show (zsj X.2.2.2.1 2 j 0).1 = _; rw [zsj2 _ hj]; rfl) (Nat.le_of_ble_eq_true rfl) rfl rfl ?_
      refine sp_cNext hj (b1 (Nat.not_le.mp fun e => c1 ((zle_iff (by decide) nb_k).mpr e)) c2) (b2 (Nat.not_le.mp fun e => c1 ((zle_iff (by decide) nb_k).mpr e)) c2) (b3 (Nat.not_le.mp fun e => c1 ((zle_iff (by decide) nb_k).mpr e)) c2) ?_
      show Ev (d + 2) c s 70 31 [some (zr (some (2, j, 0))), some (zi (nI t)), some (zi (z ||| ((nI 1) <<< ((nI u) &&& 31)))), some (zi (nI u)), some (zi (nI k))] [zi (rNext (zw τ w) u)] (OM X 2 j ρ l) Q
      refine Ew.sr (ls' := [some (zr (some (2, j, 0))), some (zi (nI t)), some (zi (z ||| ((nI 1) <<< ((nI u) &&& 31)))), some (zi (rNext (zw τ w) u)), some (zi (nI k))]) f70_31 rfl rfl (Nat.le_of_ble_eq_true rfl) rfl rfl ?_
      refine Ew.ld f70_32 rfl rfl rfl rfl ?_
      refine Ew.ld f70_33 rfl rfl rfl rfl ?_
      refine Ew.icmp f70_34 rfl rfl (fun c3 => ?_) (fun c3 => ?_)
      · refine Ew.iinc (v := nI (k + 1)) (ls' := [some (zr (some (2, j, 0))), some (zi (nI t)), some (zi (z ||| ((nI 1) <<< ((nI u) &&& 31)))), some (zi (rNext (zw τ w) u)), some (zi (nI (k + 1)))]) f70_39 rfl (nI_1 _) rfl rfl ?_
        refine Ew.goto f70_42 rfl ?_
        exact h3 (Nat.not_le.mp fun e => c1 ((zle_iff (by decide) nb_k).mpr e)) c2 c3
      · refine Ew.ld f70_37 rfl rfl rfl rfl ?_
        refine Ew.ireti f70_38 ?_
        exact h4 (Nat.not_le.mp fun e => c1 ((zle_iff (by decide) nb_k).mpr e)) c2 (Classical.not_not.mp c3)
theorem g70_7m {d c s : Nat} {j t k : Nat} {z : Int32} {τ : Nat → Nat → Int32} {w : Nat → Int32} {X : zM} {ρ : Nat → Nat → Int32} {l : Nat → Nat → Int64} {Q : Option zV → zM → Prop} (hj : j < 15) (nb_k : k < 5000)
    (h1 : (4 ≤ k) → Q (some (zi (nI 0))) (OM X 2 j ρ l))
    (h2 : (k < 4) → Q (some (zi (nI 0))) (OM X 2 j ρ l)) : Ev d c s 70 7 [some (zr (some (2, j, 0))), some (zi (nI t)), some (zi z), some (zi ((-4))), some (zi (nI k))] [] (OM X 2 j ρ l) Q := by
  refine Ew.ld f70_7 rfl rfl rfl rfl ?_
  refine Ew.op (st' := zi (nI 4) :: _) f70_9 rfl rfl ?_
  refine Ew.icmp f70_10 rfl rfl (fun c1 => ?_) (fun c1 => ?_)
  · refine Ew.op (st' := zi (nI 0) :: _) f70_45 rfl rfl ?_
    refine Ew.ireti f70_46 ?_
    exact h1 ((zle_iff (by decide) nb_k).mp c1)
  · refine Ew.ld f70_13 rfl rfl rfl rfl ?_
    refine Ew.op (st' := zi ((-4)) :: _) f70_14 rfl rfl ?_
    refine Ew.icmp f70_16 rfl rfl (fun _ => ?_) (fun h => absurd (show (((-4)) : Int32) = ((-4)) by decide) h)
    refine Ew.op (st' := zi (nI 0) :: _) f70_45 rfl rfl ?_
    refine Ew.ireti f70_46 ?_
    exact h2 (Nat.not_le.mp fun e => c1 ((zle_iff (by decide) nb_k).mpr e))
theorem sp_cRing {d c s j t : Nat} {τ : Nat → Nat → Int32} {w : Nat → Int32} {X : zM} {ρ : Nat → Nat → Int32} {l : Nat → Nat → Int64} {Q : Option zV → zM → Prop} (hj : j < 15) (ht : t < 4) (h : cTI τ ρ w) (hw : cWt τ w) (k : Q (some (zi (rRing (zw τ w) t))) (OM X 2 j ρ l)) : Ev (d + 2) c s 70 0 [some (zr (some (2, j, 0))), some (zi (nI t)), none, none, none] [] (OM X 2 j ρ l) Q := by
  refine g70_0 hj ?_
  have key : ∀ n, n ≤ 4 → ∀ z x, (x = -4 ∨ ∃ u, u < 4 ∧ x = nI u) → Q (some (zi (rRingL (zw τ w) t n z x))) (OM X 2 j ρ l) → Ev (d + 2) c s 70 7 [some (zr (some (2, j, 0))), some (zi (nI t)), some (zi z), some (zi x), some (zi (nI (4 - n)))] [] (OM X 2 j ρ l) Q := by
    intro n
    induction n with
    | zero =>
      intro _ z x hx hk
      rcases hx with rfl | ⟨u, hu, rfl⟩
      · apply g70_7m (τ := τ) (w := w) hj <;> intros <;> first | omega | exact hk
      · apply g70_7 (τ := τ) (w := w) hj <;> intros <;> first | omega | exact hk
    | succ n ih =>
      intro hn z x hx hk
      rcases hx with rfl | ⟨u, hu, rfl⟩
      · apply g70_7m (τ := τ) (w := w) hj <;> intros <;> first | omega | exact hk
      · have e : (nI u).toNatClampNeg = u := nI_clamp (by omega)
        have e0 : ¬ nI u < 0 := nI_pos (by omega)
        have e4 : ¬ nI u = -4 := by intro g; rw [g] at e0; exact e0 (by decide)
        simp only [rRingL, e, e0, if_false] at hk
        apply g70_7 (τ := τ) (w := w) hj <;> intros <;> first
          | omega
          | assumption
          | contradiction
          | (simpa [*] using hk)
          | (rw [show 4 - (n + 1) + 1 = 4 - n by omega]
             refine ih (by omega) _ _ (rNext_cases (zw τ w) u) ?_
             simpa [*] using hk)
  exact key 4 (Nat.le_refl 4) _ _ (Or.inr ⟨t, ht, rfl⟩) k
