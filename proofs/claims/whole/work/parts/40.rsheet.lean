/-! the reference: sheets -/
theorem g237_0 {d c s : Nat} {j n : Nat} {x i : Int32} {X : zM} {ρ : Nat → Nat → Int32} {l : Nat → Nat → Int64} {Q : Option zV → zM → Prop}
    (b1 : j < 4)
    (b2 : (0 ≤ (ρ 6 j)) → j < 4)
    (h1 : (0 ≤ (ρ 6 j)) → ((ρ 6 j) = x) → (i < 0) → Q (some (zi ((-13)))) (OM X 1 0 ρ l))
    (b3 : (0 ≤ (ρ 6 j)) → ((ρ 6 j) = x) → (0 ≤ i) → j < 4)
    (h2 : (0 ≤ (ρ 6 j)) → ((ρ 6 j) = x) → (0 ≤ i) → ((nI n) ≤ ((ρ 7 j) - i)) → Q (some (zi (nI 0))) (OM X 1 0 ρ l))
    (h3 : (0 ≤ (ρ 6 j)) → ((ρ 6 j) = x) → (0 ≤ i) → (((ρ 7 j) - i) < (nI n)) → Q (some (zi ((-13)))) (OM X 1 0 ρ l))
    (h4 : (0 ≤ (ρ 6 j)) → (¬ (ρ 6 j) = x) → Q (some (zi ((-12)))) (OM X 1 0 ρ l))
    (h5 : ((ρ 6 j) < 0) → Q (some (zi ((-11)))) (OM X 1 0 ρ l)) : Ev d c s 237 0 [some (zr (some (1, 0, 0))), some (zi (nI j)), some (zi x), some (zi i), some (zi (nI n))] [] (OM X 1 0 ρ l) Q := by
  refine Ew.ld f237_0 rfl rfl rfl rfl ?_
  refine Ew.getp (v := some (1, 0, 6)) f237_1 rfl rfl rfl ?_
  refine Ew.ld f237_4 rfl rfl rfl rfl ?_
  refine Ew.ialdnO f237_5 rfl b1 (Nat.le_of_ble_eq_true rfl) rfl ?_
  refine Ew.ifc f237_6 rfl rfl (fun c1 => ?_) (fun c1 => ?_)
  · refine Ew.ld f237_12 rfl rfl rfl rfl ?_
    refine Ew.getp (v := some (1, 0, 6)) f237_13 rfl rfl rfl ?_
    refine Ew.ld f237_16 rfl rfl rfl rfl ?_
    refine Ew.ialdnO f237_17 rfl (b2 c1) (Nat.le_of_ble_eq_true rfl) rfl ?_
    refine Ew.ld f237_18 rfl rfl rfl rfl ?_
    refine Ew.icmp f237_19 rfl rfl (fun c2 => ?_) (fun c2 => ?_)
    · refine Ew.ld f237_25 rfl rfl rfl rfl ?_
      refine Ew.ifc f237_26 rfl rfl (fun c3 => ?_) (fun c3 => ?_)
      · refine Ew.op (st' := zi ((-13)) :: _) f237_42 rfl rfl ?_
        refine Ew.goto f237_44 rfl ?_
        refine Ew.ireti f237_48 ?_
        exact h1 c1 c2 c3
      · refine Ew.ld f237_29 rfl rfl rfl rfl ?_
        refine Ew.ld f237_31 rfl rfl rfl rfl ?_
        refine Ew.getp (v := some (1, 0, 7)) f237_32 rfl rfl rfl ?_
        refine Ew.ld f237_35 rfl rfl rfl rfl ?_
        refine Ew.ialdnO f237_36 rfl (b3 c1 c2 (Int32.not_lt.mp c3)) (Nat.le_of_ble_eq_true rfl) rfl ?_
        refine Ew.ld f237_37 rfl rfl rfl rfl ?_
        refine Ew.op (st' := zi ((ρ 7 j) - i) :: _) f237_38 rfl rfl ?_
        refine Ew.icmp f237_39 rfl rfl (fun c4 => ?_) (fun c4 => ?_)
        · refine Ew.op (st' := zi (nI 0) :: _) f237_47 rfl rfl ?_
          refine Ew.ireti f237_48 ?_
          exact h2 c1 c2 (Int32.not_lt.mp c3) c4
        · refine Ew.op (st' := zi ((-13)) :: _) f237_42 rfl rfl ?_
          refine Ew.goto f237_44 rfl ?_
          refine Ew.ireti f237_48 ?_
          exact h3 c1 c2 (Int32.not_lt.mp c3) (Int32.not_le.mp c4)
    · refine Ew.op (st' := zi ((-12)) :: _) f237_22 rfl rfl ?_
      refine Ew.ireti f237_24 ?_
      exact h4 c1 c2
  · refine Ew.op (st' := zi ((-11)) :: _) f237_9 rfl rfl ?_
    refine Ew.ireti f237_11 ?_
    exact h5 (Int32.not_le.mp c1)
theorem g236_0 {d c s : Nat} {x : Int32} {v : Int64} {X : zM} {ρ : Nat → Nat → Int32} {l : Nat → Nat → Int64} {Q : Option zV → zM → Prop}
    (h1 : (¬ x = 0) → (¬ x = (nI 1)) → (¬ x = (nI 2)) → Q (some (zl v)) (OM X 1 0 ρ l))
    (h2 : (¬ x = 0) → (¬ x = (nI 1)) → (x = (nI 2)) → Q (some (zl v.toInt32.toInt64)) (OM X 1 0 ρ l))
    (h3 : (¬ x = 0) → (x = (nI 1)) → Q (some (zl v.toInt32.toInt16.toInt32.toInt64)) (OM X 1 0 ρ l))
    (h4 : (x = 0) → Q (some (zl v.toInt32.toInt8.toInt32.toInt64)) (OM X 1 0 ρ l)) : Ev d c s 236 0 [some (zi x), some (zl v), none] [] (OM X 1 0 ρ l) Q := by
  refine Ew.ld f236_0 rfl rfl rfl rfl ?_
  refine Ew.ifc f236_1 rfl rfl (fun c1 => ?_) (fun c1 => ?_)
  · refine Ew.ld f236_11 rfl rfl rfl rfl ?_
    refine Ew.op (st' := zi (nI 1) :: _) f236_12 rfl rfl ?_
    refine Ew.icmp f236_13 rfl rfl (fun c2 => ?_) (fun c2 => ?_)
    · refine Ew.ld f236_23 rfl rfl rfl rfl ?_
      refine Ew.op (st' := zi (nI 2) :: _) f236_24 rfl rfl ?_
      refine Ew.icmp f236_25 rfl rfl (fun c3 => ?_) (fun c3 => ?_)
      · refine Ew.ld f236_34 rfl rfl rfl rfl ?_
        refine Ew.lret f236_35 ?_
        exact h1 c1 c2 c3
      · refine Ew.ld f236_28 rfl rfl rfl rfl ?_
        refine Ew.op (st' := zi v.toInt32 :: _) f236_29 rfl rfl ?_
        refine Ew.op (st' := zl v.toInt32.toInt64 :: _) f236_30 rfl rfl ?_
        refine Ew.goto f236_31 rfl ?_
        refine Ew.lret f236_35 ?_
        exact h2 c1 c2 (Classical.not_not.mp c3)
    · refine Ew.ld f236_16 rfl rfl rfl rfl ?_
      refine Ew.op (st' := zi v.toInt32 :: _) f236_17 rfl rfl ?_
      refine Ew.op (st' := zi v.toInt32.toInt16.toInt32 :: _) f236_18 rfl rfl ?_
      refine Ew.op (st' := zl v.toInt32.toInt16.toInt32.toInt64 :: _) f236_19 rfl rfl ?_
      refine Ew.goto f236_20 rfl ?_
      refine Ew.lret f236_35 ?_
      exact h3 c1 (Classical.not_not.mp c2)
  · refine Ew.ld f236_4 rfl rfl rfl rfl ?_
    refine Ew.op (st' := zi v.toInt32 :: _) f236_5 rfl rfl ?_
    refine Ew.op (st' := zi v.toInt32.toInt8.toInt32 :: _) f236_6 rfl rfl ?_
    refine Ew.op (st' := zl v.toInt32.toInt8.toInt32.toInt64 :: _) f236_7 rfl rfl ?_
    refine Ew.goto f236_8 rfl ?_
    refine Ew.lret f236_35 ?_
    exact h4 (Classical.not_not.mp c1)
theorem g240_0 {d c s : Nat} {a x n : Int32} {X : zM} {ρ : Nat → Nat → Int32} {l : Nat → Nat → Int64} {Q : Option zV → zM → Prop}
    (h1 : (lN 0 ≤ a.toInt64 ∧ a.toInt64 ≤ lN 3) → ((lN 0) ≤ x.toInt64 ∧ x.toInt64 ≤ (lN 3)) → (n ≤ (nI 24)) → (0 ≤ n) → Ev (d + 2) c s 240 34 [some (zr (some (1, 0, 0))), some (zi a), some (zi x), some (zi n), none] [] (OM X 1 0 ρ l) Q)
    (h2 : (lN 0 ≤ a.toInt64 ∧ a.toInt64 ≤ lN 3) → ((lN 0) ≤ x.toInt64 ∧ x.toInt64 ≤ (lN 3)) → (n ≤ (nI 24)) → (n < 0) → Q (some (zi ((-14)))) (OM X 1 0 ρ l))
    (h3 : (lN 0 ≤ a.toInt64 ∧ a.toInt64 ≤ lN 3) → ((lN 0) ≤ x.toInt64 ∧ x.toInt64 ≤ (lN 3)) → ((nI 24) < n) → Q (some (zi ((-1)))) (OM X 1 0 ρ l))
    (h4 : (lN 0 ≤ a.toInt64 ∧ a.toInt64 ≤ lN 3) → (¬ ((lN 0) ≤ x.toInt64 ∧ x.toInt64 ≤ (lN 3))) → Q (some (zi ((-1)))) (OM X 1 0 ρ l))
    (h5 : (¬ (lN 0 ≤ a.toInt64 ∧ a.toInt64 ≤ lN 3)) → Q (some (zi ((-1)))) (OM X 1 0 ρ l)) : Ev (d + 2) c s 240 0 [some (zr (some (1, 0, 0))), some (zi a), some (zi x), some (zi n), none] [] (OM X 1 0 ρ l) Q := by
  refine Ew.ld f240_0 rfl rfl rfl rfl ?_
  refine Ew.call0 (ls0 := [some (zi a)]) f240_1 rfl (Nat.le_of_ble_eq_true rfl) rfl rfl (Nat.le_of_ble_eq_true rfl) trivial (Nat.le_of_ble_eq_true rfl) rfl rfl ?_
  refine sp_isSheet (fun c1 => ?_) (fun c1 => ?_)
  · refine Ew.ifc f240_4 rfl rfl (fun h => absurd h (show ¬ (((nI 1) : Int32) = 0) by decide)) (fun _ => ?_)
    refine Ew.ld f240_7 rfl rfl rfl rfl ?_
    refine Ew.op (st' := zl x.toInt64 :: _) f240_8 rfl rfl ?_
    refine Ew.op (st' := zl (lN 0) :: _) f240_9 rfl rfl ?_
    refine Ew.op (st' := zl (lN 3) :: _) f240_10 rfl rfl ?_
    refine Ew.call0 (ls0 := [some (zl x.toInt64), none, some (zl (lN 0)), none, some (zl (lN 3)), none]) f240_13 rfl (Nat.le_of_ble_eq_true rfl) rfl rfl (Nat.le_of_ble_eq_true rfl) trivial (Nat.le_of_ble_eq_true rfl) rfl rfl ?_
    refine sp_in (fun c2 => ?_) (fun c2 => ?_)
    · refine Ew.ifc f240_16 rfl rfl (fun h => absurd h (show ¬ (((nI 1) : Int32) = 0) by decide)) (fun _ => ?_)
      refine Ew.ld f240_19 rfl rfl rfl rfl ?_
      refine Ew.op (st' := zi (nI 24) :: _) f240_20 rfl rfl ?_
      refine Ew.icmp f240_22 rfl rfl (fun c3 => ?_) (fun c3 => ?_)
      · refine Ew.ld f240_27 rfl rfl rfl rfl ?_
        refine Ew.ifc f240_28 rfl rfl (fun c4 => ?_) (fun c4 => ?_)
        · exact h1 c1 c2 c3 c4
        · refine Ew.op (st' := zi ((-14)) :: _) f240_31 rfl rfl ?_
          refine Ew.ireti f240_33 ?_
          exact h2 c1 c2 c3 (Int32.not_le.mp c4)
      · refine Ew.op (st' := zi ((-1)) :: _) f240_25 rfl rfl ?_
        refine Ew.ireti f240_26 ?_
        exact h3 c1 c2 (Int32.not_le.mp c3)
    · refine Ew.ifc f240_16 rfl rfl (fun _ => ?_) (fun h => absurd (show ((nI 0) : Int32) = 0 by decide) h)
      refine Ew.op (st' := zi ((-1)) :: _) f240_25 rfl rfl ?_
      refine Ew.ireti f240_26 ?_
      exact h4 c1 c2
  · refine Ew.ifc f240_4 rfl rfl (fun _ => ?_) (fun h => absurd (show ((nI 0) : Int32) = 0 by decide) h)
    refine Ew.op (st' := zi ((-1)) :: _) f240_25 rfl rfl ?_
    refine Ew.ireti f240_26 ?_
    exact h5 c1
theorem g240_34 {d c s : Nat} {j x n : Nat} {X : zM} {ρ : Nat → Nat → Int32} {l : Nat → Nat → Int64} {Q : Option zV → zM → Prop}
    (b1 : j < 4)
    (b2 : j < 4)
    (h1 : Ev d c s 240 51 [some (zr (some (1, 0, 0))), some (zi (nI j)), some (zi (nI x)), some (zi (nI n)), some (zi (nI 0))] [] (OM X 1 0 (zu (zu ρ 6 j (nI x)) 7 j (nI n)) l) Q) : Ev d c s 240 34 [some (zr (some (1, 0, 0))), some (zi (nI j)), some (zi (nI x)), some (zi (nI n)), none] [] (OM X 1 0 ρ l) Q := by
  refine Ew.ld f240_34 rfl rfl rfl rfl ?_
  refine Ew.getp (v := some (1, 0, 6)) f240_35 rfl rfl rfl ?_
  refine Ew.ld f240_38 rfl rfl rfl rfl ?_
  refine Ew.ld f240_39 rfl rfl rfl rfl ?_
  refine Ew.iastnO f240_40 (by decide) rfl b1 (Nat.le_of_ble_eq_true rfl) rfl ?_
  refine Ew.ld f240_41 rfl rfl rfl rfl ?_
  refine Ew.getp (v := some (1, 0, 7)) f240_42 rfl rfl rfl ?_
  refine Ew.ld f240_45 rfl rfl rfl rfl ?_
  refine Ew.ld f240_46 rfl rfl rfl rfl ?_
  refine Ew.iastnO f240_47 (by decide) rfl b2 (Nat.le_of_ble_eq_true rfl) rfl ?_
  refine Ew.op (st' := zi (nI 0) :: _) f240_48 rfl rfl ?_
  refine Ew.sr (ls' := [some (zr (some (1, 0, 0))), some (zi (nI j)), some (zi (nI x)), some (zi (nI n)), some (zi (nI 0))]) f240_49 rfl rfl (Nat.le_of_ble_eq_true rfl) rfl rfl ?_
  exact h1
theorem g240_51 {d c s : Nat} {j x n k : Nat} {X : zM} {ρ : Nat → Nat → Int32} {l : Nat → Nat → Int64} {Q : Option zV → zM → Prop} (nb_k : k < 5000)
    (h1 : (24 ≤ k) → Q (some (zi (nI n))) (OM X 1 0 ρ l))
    (b1 : (k < 24) → 24 * j + k < 96)
    (h2 : (k < 24) → Ev d c s 240 51 [some (zr (some (1, 0, 0))), some (zi (nI j)), some (zi (nI x)), some (zi (nI n)), some (zi (nI (k + 1)))] [] (OM X 1 0 ρ (zu l 8 (24 * j + k) (lN 0))) Q) : Ev d c s 240 51 [some (zr (some (1, 0, 0))), some (zi (nI j)), some (zi (nI x)), some (zi (nI n)), some (zi (nI k))] [] (OM X 1 0 ρ l) Q := by
  refine Ew.ld f240_51 rfl rfl rfl rfl ?_
  refine Ew.op (st' := zi (nI 24) :: _) f240_53 rfl rfl ?_
  refine Ew.icmp f240_55 rfl rfl (fun c1 => ?_) (fun c1 => ?_)
  · refine Ew.ld f240_77 rfl rfl rfl rfl ?_
    refine Ew.ireti f240_78 ?_
    exact h1 ((zle_iff (by decide) nb_k).mp c1)
  · refine Ew.ld f240_58 rfl rfl rfl rfl ?_
    refine Ew.getp (v := some (1, 0, 8)) f240_59 rfl rfl rfl ?_
    refine Ew.op (st' := zi (nI 24) :: _) f240_62 rfl rfl ?_
    refine Ew.ld f240_64 rfl rfl rfl rfl ?_
    refine Ew.muln f240_65 rfl ?_
    refine Ew.ld f240_66 rfl rfl rfl rfl ?_
    refine Ew.addn f240_68 rfl ?_
    refine Ew.op (st' := zl (lN 0) :: _) f240_69 rfl rfl ?_
    refine Ew.lastnO f240_70 rfl (b1 (Nat.not_le.mp fun e => c1 ((zle_iff (by decide) nb_k).mpr e))) (Nat.le_of_ble_eq_true rfl) rfl ?_
    refine Ew.iinc (v := nI (k + 1)) (ls' := [some (zr (some (1, 0, 0))), some (zi (nI j)), some (zi (nI x)), some (zi (nI n)), some (zi (nI (k + 1)))]) f240_71 rfl (nI_1 _) rfl rfl ?_
    refine Ew.goto f240_74 rfl ?_
    exact h2 (Nat.not_le.mp fun e => c1 ((zle_iff (by decide) nb_k).mpr e))
theorem g241_0 {d c s : Nat} {a : Int32} {X : zM} {ρ : Nat → Nat → Int32} {l : Nat → Nat → Int64} {Q : Option zV → zM → Prop}
    (h1 : (lN 0 ≤ a.toInt64 ∧ a.toInt64 ≤ lN 3) → Ev (d + 2) c s 241 9 [some (zr (some (1, 0, 0))), some (zi a)] [] (OM X 1 0 ρ l) Q)
    (h2 : (¬ (lN 0 ≤ a.toInt64 ∧ a.toInt64 ≤ lN 3)) → Q (some (zi ((-1)))) (OM X 1 0 ρ l)) : Ev (d + 2) c s 241 0 [some (zr (some (1, 0, 0))), some (zi a)] [] (OM X 1 0 ρ l) Q := by
  refine Ew.ld f241_0 rfl rfl rfl rfl ?_
  refine Ew.call0 (ls0 := [some (zi a)]) f241_1 rfl (Nat.le_of_ble_eq_true rfl) rfl rfl (Nat.le_of_ble_eq_true rfl) trivial (Nat.le_of_ble_eq_true rfl) rfl rfl ?_
  refine sp_isSheet (fun c1 => ?_) (fun c1 => ?_)
  · refine Ew.ifc f241_4 rfl rfl (fun _ => ?_) (fun h => absurd (show ¬ ((nI 1) : Int32) = 0 by decide) h)
    exact h1 c1
  · refine Ew.ifc f241_4 rfl rfl (fun h => absurd h (show ¬ (¬ ((nI 0) : Int32) = 0) by decide)) (fun _ => ?_)
    refine Ew.op (st' := zi ((-1)) :: _) f241_7 rfl rfl ?_
    refine Ew.ireti f241_8 ?_
    exact h2 c1
theorem g241_9 {d c s : Nat} {j : Nat} {X : zM} {ρ : Nat → Nat → Int32} {l : Nat → Nat → Int64} {Q : Option zV → zM → Prop}
    (b1 : j < 4)
    (b2 : (0 ≤ (ρ 6 j)) → j < 4)
    (b3 : (0 ≤ (ρ 6 j)) → j < 4)
    (h1 : (0 ≤ (ρ 6 j)) → Q (some (zi (ρ 7 j))) (OM X 1 0 (zu ρ 6 j ((-1))) l))
    (h2 : ((ρ 6 j) < 0) → Q (some (zi ((-11)))) (OM X 1 0 ρ l)) : Ev d c s 241 9 [some (zr (some (1, 0, 0))), some (zi (nI j))] [] (OM X 1 0 ρ l) Q := by
  refine Ew.ld f241_9 rfl rfl rfl rfl ?_
  refine Ew.getp (v := some (1, 0, 6)) f241_10 rfl rfl rfl ?_
  refine Ew.ld f241_13 rfl rfl rfl rfl ?_
  refine Ew.ialdnO f241_14 rfl b1 (Nat.le_of_ble_eq_true rfl) rfl ?_
  refine Ew.ifc f241_15 rfl rfl (fun c1 => ?_) (fun c1 => ?_)
  · refine Ew.ld f241_21 rfl rfl rfl rfl ?_
    refine Ew.getp (v := some (1, 0, 6)) f241_22 rfl rfl rfl ?_
    refine Ew.ld f241_25 rfl rfl rfl rfl ?_
    refine Ew.op (st' := zi ((-1)) :: _) f241_26 rfl rfl ?_
    refine Ew.iastnO f241_27 (by decide) rfl (b2 c1) (Nat.le_of_ble_eq_true rfl) rfl ?_
    refine Ew.ld f241_28 rfl rfl rfl rfl ?_
    refine Ew.getp (v := some (1, 0, 7)) f241_29 rfl rfl rfl ?_
    refine Ew.ld f241_32 rfl rfl rfl rfl ?_
    refine Ew.ialdnO f241_33 rfl (b3 c1) (Nat.le_of_ble_eq_true rfl) rfl ?_
    refine Ew.ireti f241_34 ?_
    exact h1 c1
  · refine Ew.op (st' := zi ((-11)) :: _) f241_18 rfl rfl ?_
    refine Ew.ireti f241_20 ?_
    exact h2 (Int32.not_le.mp c1)
theorem g242_0 {d c s : Nat} {a x i : Int32} {v : Int64} {X : zM} {ρ : Nat → Nat → Int32} {l : Nat → Nat → Int64} {Q : Option zV → zM → Prop}
    (h1 : (lN 0 ≤ a.toInt64 ∧ a.toInt64 ≤ lN 3) → ((lN 0) ≤ x.toInt64 ∧ x.toInt64 ≤ (lN 3)) → Ev (d + 2) c s 242 21 [some (zr (some (1, 0, 0))), some (zi a), some (zi x), some (zi i), some (zl v), none, none] [] (OM X 1 0 ρ l) Q)
    (h2 : (lN 0 ≤ a.toInt64 ∧ a.toInt64 ≤ lN 3) → (¬ ((lN 0) ≤ x.toInt64 ∧ x.toInt64 ≤ (lN 3))) → Q (some (zi ((-1)))) (OM X 1 0 ρ l))
    (h3 : (¬ (lN 0 ≤ a.toInt64 ∧ a.toInt64 ≤ lN 3)) → Q (some (zi ((-1)))) (OM X 1 0 ρ l)) : Ev (d + 2) c s 242 0 [some (zr (some (1, 0, 0))), some (zi a), some (zi x), some (zi i), some (zl v), none, none] [] (OM X 1 0 ρ l) Q := by
  refine Ew.ld f242_0 rfl rfl rfl rfl ?_
  refine Ew.call0 (ls0 := [some (zi a)]) f242_1 rfl (Nat.le_of_ble_eq_true rfl) rfl rfl (Nat.le_of_ble_eq_true rfl) trivial (Nat.le_of_ble_eq_true rfl) rfl rfl ?_
  refine sp_isSheet (fun c1 => ?_) (fun c1 => ?_)
  · refine Ew.ifc f242_4 rfl rfl (fun h => absurd h (show ¬ (((nI 1) : Int32) = 0) by decide)) (fun _ => ?_)
    refine Ew.ld f242_7 rfl rfl rfl rfl ?_
    refine Ew.op (st' := zl x.toInt64 :: _) f242_8 rfl rfl ?_
    refine Ew.op (st' := zl (lN 0) :: _) f242_9 rfl rfl ?_
    refine Ew.op (st' := zl (lN 3) :: _) f242_10 rfl rfl ?_
    refine Ew.call0 (ls0 := [some (zl x.toInt64), none, some (zl (lN 0)), none, some (zl (lN 3)), none]) f242_13 rfl (Nat.le_of_ble_eq_true rfl) rfl rfl (Nat.le_of_ble_eq_true rfl) trivial (Nat.le_of_ble_eq_true rfl) rfl rfl ?_
    refine sp_in (fun c2 => ?_) (fun c2 => ?_)
    · refine Ew.ifc f242_16 rfl rfl (fun _ => ?_) (fun h => absurd (show ¬ ((nI 1) : Int32) = 0 by decide) h)
      exact h1 c1 c2
    · refine Ew.ifc f242_16 rfl rfl (fun h => absurd h (show ¬ (¬ ((nI 0) : Int32) = 0) by decide)) (fun _ => ?_)
      refine Ew.op (st' := zi ((-1)) :: _) f242_19 rfl rfl ?_
      refine Ew.ireti f242_20 ?_
      exact h2 c1 c2
  · refine Ew.ifc f242_4 rfl rfl (fun _ => ?_) (fun h => absurd (show ((nI 0) : Int32) = 0 by decide) h)
    refine Ew.op (st' := zi ((-1)) :: _) f242_19 rfl rfl ?_
    refine Ew.ireti f242_20 ?_
    exact h3 c1
