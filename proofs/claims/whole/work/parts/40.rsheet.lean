/-! the reference: sheets -/
theorem g237_0 {d c s : Nat} {j n : Nat} {x i : Int32} {X : zM} {ρ : Nat → Nat → Int32} {l : Nat → Nat → Int64} {Q : Option zV → zM → Prop}
    (b1 : j < 4)
    (b2 : (0 ≤ (ρ 6 j)) → j < 4)
    (h1 : (0 ≤ (ρ 6 j)) → ((ρ 6 j) = x) → (i < 0) → Q (some (zi ((-13)))) (OM X 1 0 ρ l))
    (b3 : (0 ≤ (ρ 6 j)) → ((ρ 6 j) = x) → (0 ≤ i) → j < 4)
    (h2 : (0 ≤ (ρ 6 j)) → ((ρ 6 j) = x) → (0 ≤ i) → ((nI n) ≤ ((ρ 7 j) - i)) → Q (some (zi (nI 0))) (OM X 1 0 ρ l))
    (h3 : (0 ≤ (ρ 6 j)) → ((ρ 6 j) = x) → (0 ≤ i) → (((ρ 7 j) - i) < (nI n)) → Q (some (zi ((-13)))) (OM X 1 0 ρ l))
    (h4 : (0 ≤ (ρ 6 j)) → (¬ (ρ 6 j) = x) → Q (some (zi ((-12)))) (OM X 1 0 ρ l))
    (h5 : ((ρ 6 j) < 0) → Q (some (zi ((-11)))) (OM X 1 0 ρ l)) : Ev d c s 237 0 [some (zr (some (1, 0, 0))), some (zi (nI j)), some (zi x), some (zi i), some (zi (nI n))] [] (OM X 1 0 ρ l) Q := by
  refine Ew.ld f237_0 rfl rfl rfl rfl ?_
  refine Ew.getp (v := some (1, 0, 6)) f237_1 rfl rfl rfl ?_
  refine Ew.ld f237_4 rfl rfl rfl rfl ?_
  refine Ew.ialdnO f237_5 rfl b1 (Nat.le_of_ble_eq_true rfl) rfl ?_
  refine Ew.ifc f237_6 rfl rfl (fun c1 => ?_) (fun c1 => ?_)
  · refine Ew.ld f237_12 rfl rfl rfl rfl ?_
    refine Ew.getp (v := some (1, 0, 6)) f237_13 rfl rfl rfl ?_
    refine Ew.ld f237_16 rfl rfl rfl rfl ?_
    refine Ew.ialdnO f237_17 rfl (b2 c1) (Nat.le_of_ble_eq_true rfl) rfl ?_
    refine Ew.ld f237_18 rfl rfl rfl rfl ?_
    refine Ew.icmp f237_19 rfl rfl (fun c2 => ?_) (fun c2 => ?_)
    · refine Ew.ld f237_25 rfl rfl rfl rfl ?_
      refine Ew.ifc f237_26 rfl rfl (fun c3 => ?_) (fun c3 => ?_)
      · refine Ew.op (st' := zi ((-13)) :: _) f237_42 rfl rfl ?_
        refine Ew.goto f237_44 rfl ?_
        refine Ew.ireti f237_48 ?_
        exact h1 c1 c2 c3
      · refine Ew.ld f237_29 rfl rfl rfl rfl ?_
        refine Ew.ld f237_31 rfl rfl rfl rfl ?_
        refine Ew.getp (v := some (1, 0, 7)) f237_32 rfl rfl rfl ?_
        refine Ew.ld f237_35 rfl rfl rfl rfl ?_
        refine Ew.ialdnO f237_36 rfl (b3 c1 c2 (Int32.not_lt.mp c3)) (Nat.le_of_ble_eq_true rfl) rfl ?_
        refine Ew.ld f237_37 rfl rfl rfl rfl ?_
        refine Ew.op (st' := zi ((ρ 7 j) - i) :: _) f237_38 rfl rfl ?_
        refine Ew.icmp f237_39 rfl rfl (fun c4 => ?_) (fun c4 => ?_)
        · refine Ew.op (st' := zi (nI 0) :: _) f237_47 rfl rfl ?_
          refine Ew.ireti f237_48 ?_
          exact h2 c1 c2 (Int32.not_lt.mp c3) c4
        · refine Ew.op (st' := zi ((-13)) :: _) f237_42 rfl rfl ?_
          refine Ew.goto f237_44 rfl ?_
          refine Ew.ireti f237_48 ?_
          exact h3 c1 c2 (Int32.not_lt.mp c3) (Int32.not_le.mp c4)
    · refine Ew.op (st' := zi ((-12)) :: _) f237_22 rfl rfl ?_
      refine Ew.ireti f237_24 ?_
      exact h4 c1 c2
  · refine Ew.op (st' := zi ((-11)) :: _) f237_9 rfl rfl ?_
    refine Ew.ireti f237_11 ?_
    exact h5 (Int32.not_le.mp c1)
theorem g236_0 {d c s : Nat} {x : Int32} {v : Int64} {X : zM} {ρ : Nat → Nat → Int32} {l : Nat → Nat → Int64} {Q : Option zV → zM → Prop}
    (h1 : (¬ x = 0) → (¬ x = (nI 1)) → (¬ x = (nI 2)) → Q (some (zl v)) (OM X 1 0 ρ l))
    (h2 : (¬ x = 0) → (¬ x = (nI 1)) → (x = (nI 2)) → Q (some (zl v.toInt32.toInt64)) (OM X 1 0 ρ l))
    (h3 : (¬ x = 0) → (x = (nI 1)) → Q (some (zl v.toInt32.toInt16.toInt32.toInt64)) (OM X 1 0 ρ l))
    (h4 : (x = 0) → Q (some (zl v.toInt32.toInt8.toInt32.toInt64)) (OM X 1 0 ρ l)) : Ev d c s 236 0 [some (zi x), some (zl v), none] [] (OM X 1 0 ρ l) Q := by
  refine Ew.ld f236_0 rfl rfl rfl rfl ?_
  refine Ew.ifc f236_1 rfl rfl (fun c1 => ?_) (fun c1 => ?_)
  · refine Ew.ld f236_11 rfl rfl rfl rfl ?_
    refine Ew.op (st' := zi (nI 1) :: _) f236_12 rfl rfl ?_
    refine Ew.icmp f236_13 rfl rfl (fun c2 => ?_) (fun c2 => ?_)
    · refine Ew.ld f236_23 rfl rfl rfl rfl ?_
      refine Ew.op (st' := zi (nI 2) :: _) f236_24 rfl rfl ?_
      refine Ew.icmp f236_25 rfl rfl (fun c3 => ?_) (fun c3 => ?_)
      · refine Ew.ld f236_34 rfl rfl rfl rfl ?_
        refine Ew.lret f236_35 ?_
        exact h1 c1 c2 c3
      · refine Ew.ld f236_28 rfl rfl rfl rfl ?_
        refine Ew.op (st' := zi v.toInt32 :: _) f236_29 rfl rfl ?_
        refine Ew.op (st' := zl v.toInt32.toInt64 :: _) f236_30 rfl rfl ?_
        refine Ew.goto f236_31 rfl ?_
        refine Ew.lret f236_35 ?_
        exact h2 c1 c2 (Classical.not_not.mp c3)
    · refine Ew.ld f236_16 rfl rfl rfl rfl ?_
      refine Ew.op (st' := zi v.toInt32 :: _) f236_17 rfl rfl ?_
      refine Ew.op (st' := zi v.toInt32.toInt16.toInt32 :: _) f236_18 rfl rfl ?_
      refine Ew.op (st' := zl v.toInt32.toInt16.toInt32.toInt64 :: _) f236_19 rfl rfl ?_
      refine Ew.goto f236_20 rfl ?_
      refine Ew.lret f236_35 ?_
      exact h3 c1 (Classical.not_not.mp c2)
  · refine Ew.ld f236_4 rfl rfl rfl rfl ?_
    refine Ew.op (st' := zi v.toInt32 :: _) f236_5 rfl rfl ?_
    refine Ew.op (st' := zi v.toInt32.toInt8.toInt32 :: _) f236_6 rfl rfl ?_
    refine Ew.op (st' := zl v.toInt32.toInt8.toInt32.toInt64 :: _) f236_7 rfl rfl ?_
    refine Ew.goto f236_8 rfl ?_
    refine Ew.lret f236_35 ?_
    exact h4 (Classical.not_not.mp c1)
theorem g240_0 {d c s : Nat} {a x n : Int32} {X : zM} {ρ : Nat → Nat → Int32} {l : Nat → Nat → Int64} {Q : Option zV → zM → Prop}
    (h1 : (lN 0 ≤ a.toInt64 ∧ a.toInt64 ≤ lN 3) → ((lN 0) ≤ x.toInt64 ∧ x.toInt64 ≤ (lN 3)) → (n ≤ (nI 24)) → (0 ≤ n) → Ev (d + 2) c s 240 34 [some (zr (some (1, 0, 0))), some (zi a), some (zi x), some (zi n), none] [] (OM X 1 0 ρ l) Q)
    (h2 : (lN 0 ≤ a.toInt64 ∧ a.toInt64 ≤ lN 3) → ((lN 0) ≤ x.toInt64 ∧ x.toInt64 ≤ (lN 3)) → (n ≤ (nI 24)) → (n < 0) → Q (some (zi ((-14)))) (OM X 1 0 ρ l))
    (h3 : (lN 0 ≤ a.toInt64 ∧ a.toInt64 ≤ lN 3) → ((lN 0) ≤ x.toInt64 ∧ x.toInt64 ≤ (lN 3)) → ((nI 24) < n) → Q (some (zi ((-1)))) (OM X 1 0 ρ l))
    (h4 : (lN 0 ≤ a.toInt64 ∧ a.toInt64 ≤ lN 3) → (¬ ((lN 0) ≤ x.toInt64 ∧ x.toInt64 ≤ (lN 3))) → Q (some (zi ((-1)))) (OM X 1 0 ρ l))
    (h5 : (¬ (lN 0 ≤ a.toInt64 ∧ a.toInt64 ≤ lN 3)) → Q (some (zi ((-1)))) (OM X 1 0 ρ l)) : Ev (d + 2) c s 240 0 [some (zr (some (1, 0, 0))), some (zi a), some (zi x), some (zi n), none] [] (OM X 1 0 ρ l) Q := by
  refine Ew.ld f240_0 rfl rfl rfl rfl ?_
  refine Ew.call0 (ls0 := [some (zi a)]) f240_1 rfl (Nat.le_of_ble_eq_true rfl) rfl rfl (Nat.le_of_ble_eq_true rfl) trivial (Nat.le_of_ble_eq_true rfl) rfl rfl ?_
  refine sp_isSheet (fun c1 => ?_) (fun c1 => ?_)
  · refine Ew.ifc f240_4 rfl rfl (fun h => absurd h (show ¬ (((nI 1) : Int32) = 0) by decide)) (fun _ => ?_)
    refine Ew.ld f240_7 rfl rfl rfl rfl ?_
    refine Ew.op (st' := zl x.toInt64 :: _) f240_8 rfl rfl ?_
    refine Ew.op (st' := zl (lN 0) :: _) f240_9 rfl rfl ?_
    refine Ew.op (st' := zl (lN 3) :: _) f240_10 rfl rfl ?_
    refine Ew.call0 (ls0 := [some (zl x.toInt64), none, some (zl (lN 0)), none, some (zl (lN 3)), none]) f240_13 rfl (Nat.le_of_ble_eq_true rfl) rfl rfl (Nat.le_of_ble_eq_true rfl) trivial (Nat.le_of_ble_eq_true rfl) rfl rfl ?_
    refine sp_in (fun c2 => ?_) (fun c2 => ?_)
    · refine Ew.ifc f240_16 rfl rfl (fun h => absurd h (show ¬ (((nI 1) : Int32) = 0) by decide)) (fun _ => ?_)
      refine Ew.ld f240_19 rfl rfl rfl rfl ?_
      refine Ew.op (st' := zi (nI 24) :: _) f240_20 rfl rfl ?_
      refine Ew.icmp f240_22 rfl rfl (fun c3 => ?_) (fun c3 => ?_)
      · refine Ew.ld f240_27 rfl rfl rfl rfl ?_
        refine Ew.ifc f240_28 rfl rfl (fun c4 => ?_) (fun c4 => ?_)
        · exact h1 c1 c2 c3 c4
        · refine Ew.op (st' := zi ((-14)) :: _) f240_31 rfl rfl ?_
          refine Ew.ireti f240_33 ?_
          exact h2 c1 c2 c3 (Int32.not_le.mp c4)
      · refine Ew.op (st' := zi ((-1)) :: _) f240_25 rfl rfl ?_
        refine Ew.ireti f240_26 ?_
        exact h3 c1 c2 (Int32.not_le.mp c3)
    · refine Ew.ifc f240_16 rfl rfl (fun _ => ?_) (fun h => absurd (show ((nI 0) : Int32) = 0 by decide) h)
      refine Ew.op (st' := zi ((-1)) :: _) f240_25 rfl rfl ?_
      refine Ew.ireti f240_26 ?_
      exact h4 c1 c2
  · refine Ew.ifc f240_4 rfl rfl (fun _ => ?_) (fun h => absurd (show ((nI 0) : Int32) = 0 by decide) h)
    refine Ew.op (st' := zi ((-1)) :: _) f240_25 rfl rfl ?_
    refine Ew.ireti f240_26 ?_
    exact h5 c1
theorem g240_34 {d c s : Nat} {j x n : Nat} {X : zM} {ρ : Nat → Nat → Int32} {l : Nat → Nat → Int64} {Q : Option zV → zM → Prop}
    (b1 : j < 4)
    (b2 : j < 4)
    (h1 : Ev d c s 240 51 [some (zr (some (1, 0, 0))), some (zi (nI j)), some (zi (nI x)), some (zi (nI n)), some (zi (nI 0))] [] (OM X 1 0 (zu (zu ρ 6 j (nI x)) 7 j (nI n)) l) Q) : Ev d c s 240 34 [some (zr (some (1, 0, 0))), some (zi (nI j)), some (zi (nI x)), some (zi (nI n)), none] [] (OM X 1 0 ρ l) Q := by
  refine Ew.ld f240_34 rfl rfl rfl rfl ?_
  refine Ew.getp (v := some (1, 0, 6)) f240_35 rfl rfl rfl ?_
  refine Ew.ld f240_38 rfl rfl rfl rfl ?_
  refine Ew.ld f240_39 rfl rfl rfl rfl ?_
  refine Ew.iastnO f240_40 (by decide) rfl b1 (Nat.le_of_ble_eq_true rfl) rfl ?_
  refine Ew.ld f240_41 rfl rfl rfl rfl ?_
  refine Ew.getp (v := some (1, 0, 7)) f240_42 rfl rfl rfl ?_
  refine Ew.ld f240_45 rfl rfl rfl rfl ?_
  refine Ew.ld f240_46 rfl rfl rfl rfl ?_
  refine Ew.iastnO f240_47 (by decide) rfl b2 (Nat.le_of_ble_eq_true rfl) rfl ?_
  refine Ew.op (st' := zi (nI 0) :: _) f240_48 rfl rfl ?_
  refine Ew.sr (ls' := [some (zr (some (1, 0, 0))), some (zi (nI j)), some (zi (nI x)), some (zi (nI n)), some (zi (nI 0))]) f240_49 rfl rfl (Nat.le_of_ble_eq_true rfl) rfl rfl ?_
  exact h1
theorem g240_51 {d c s : Nat} {j x n k : Nat} {X : zM} {ρ : Nat → Nat → Int32} {l : Nat → Nat → Int64} {Q : Option zV → zM → Prop} (nb_k : k < 5000)
    (h1 : (24 ≤ k) → Q (some (zi (nI n))) (OM X 1 0 ρ l))
    (b1 : (k < 24) → 24 * j + k < 96)
    (h2 : (k < 24) → Ev d c s 240 51 [some (zr (some (1, 0, 0))), some (zi (nI j)), some (zi (nI x)), some (zi (nI n)), some (zi (nI (k + 1)))] [] (OM X 1 0 ρ (zu l 8 (24 * j + k) (lN 0))) Q) : Ev d c s 240 51 [some (zr (some (1, 0, 0))), some (zi (nI j)), some (zi (nI x)), some (zi (nI n)), some (zi (nI k))] [] (OM X 1 0 ρ l) Q := by
  refine Ew.ld f240_51 rfl rfl rfl rfl ?_
  refine Ew.op (st' := zi (nI 24) :: _) f240_53 rfl rfl ?_
  refine Ew.icmp f240_55 rfl rfl (fun c1 => ?_) (fun c1 => ?_)
  · refine Ew.ld f240_77 rfl rfl rfl rfl ?_
    refine Ew.ireti f240_78 ?_
    exact h1 ((zle_iff (by decide) nb_k).mp c1)
  · refine Ew.ld f240_58 rfl rfl rfl rfl ?_
    refine Ew.getp (v := some (1, 0, 8)) f240_59 rfl rfl rfl ?_
    refine Ew.op (st' := zi (nI 24) :: _) f240_62 rfl rfl ?_
    refine Ew.ld f240_64 rfl rfl rfl rfl ?_
    refine Ew.muln f240_65 rfl ?_
    refine Ew.ld f240_66 rfl rfl rfl rfl ?_
    refine Ew.addn f240_68 rfl ?_
    refine Ew.op (st' := zl (lN 0) :: _) f240_69 rfl rfl ?_
    refine Ew.lastnO f240_70 rfl (b1 (Nat.not_le.mp fun e => c1 ((zle_iff (by decide) nb_k).mpr e))) (Nat.le_of_ble_eq_true rfl) rfl ?_
    refine Ew.iinc (v := nI (k + 1)) (ls' := [some (zr (some (1, 0, 0))), some (zi (nI j)), some (zi (nI x)), some (zi (nI n)), some (zi (nI (k + 1)))]) f240_71 rfl (nI_1 _) rfl rfl ?_
    refine Ew.goto f240_74 rfl ?_
    exact h2 (Nat.not_le.mp fun e => c1 ((zle_iff (by decide) nb_k).mpr e))
theorem g241_0 {d c s : Nat} {a : Int32} {X : zM} {ρ : Nat → Nat → Int32} {l : Nat → Nat → Int64} {Q : Option zV → zM → Prop}
    (h1 : (lN 0 ≤ a.toInt64 ∧ a.toInt64 ≤ lN 3) → Ev (d + 2) c s 241 9 [some (zr (some (1, 0, 0))), some (zi a)] [] (OM X 1 0 ρ l) Q)
    (h2 : (¬ (lN 0 ≤ a.toInt64 ∧ a.toInt64 ≤ lN 3)) → Q (some (zi ((-1)))) (OM X 1 0 ρ l)) : Ev (d + 2) c s 241 0 [some (zr (some (1, 0, 0))), some (zi a)] [] (OM X 1 0 ρ l) Q := by
  refine Ew.ld f241_0 rfl rfl rfl rfl ?_
  refine Ew.call0 (ls0 := [some (zi a)]) f241_1 rfl (Nat.le_of_ble_eq_true rfl) rfl rfl (Nat.le_of_ble_eq_true rfl) trivial (Nat.le_of_ble_eq_true rfl) rfl rfl ?_
  refine sp_isSheet (fun c1 => ?_) (fun c1 => ?_)
  · refine Ew.ifc f241_4 rfl rfl (fun _ => ?_) (fun h => absurd (show ¬ ((nI 1) : Int32) = 0 by decide) h)
    exact h1 c1
  · refine Ew.ifc f241_4 rfl rfl (fun h => absurd h (show ¬ (¬ ((nI 0) : Int32) = 0) by decide)) (fun _ => ?_)
    refine Ew.op (st' := zi ((-1)) :: _) f241_7 rfl rfl ?_
    refine Ew.ireti f241_8 ?_
    exact h2 c1
theorem g241_9 {d c s : Nat} {j : Nat} {X : zM} {ρ : Nat → Nat → Int32} {l : Nat → Nat → Int64} {Q : Option zV → zM → Prop}
    (b1 : j < 4)
    (b2 : (0 ≤ (ρ 6 j)) → j < 4)
    (b3 : (0 ≤ (ρ 6 j)) → j < 4)
    (h1 : (0 ≤ (ρ 6 j)) → Q (some (zi (ρ 7 j))) (OM X 1 0 (zu ρ 6 j ((-1))) l))
    (h2 : ((ρ 6 j) < 0) → Q (some (zi ((-11)))) (OM X 1 0 ρ l)) : Ev d c s 241 9 [some (zr (some (1, 0, 0))), some (zi (nI j))] [] (OM X 1 0 ρ l) Q := by
  refine Ew.ld f241_9 rfl rfl rfl rfl ?_
  refine Ew.getp (v := some (1, 0, 6)) f241_10 rfl rfl rfl ?_
  refine Ew.ld f241_13 rfl rfl rfl rfl ?_
  refine Ew.ialdnO f241_14 rfl b1 (Nat.le_of_ble_eq_true rfl) rfl ?_
  refine Ew.ifc f241_15 rfl rfl (fun c1 => ?_) (fun c1 => ?_)
  · refine Ew.ld f241_21 rfl rfl rfl rfl ?_
    refine Ew.getp (v := some (1, 0, 6)) f241_22 rfl rfl rfl ?_
    refine Ew.ld f241_25 rfl rfl rfl rfl ?_
    refine Ew.op (st' := zi ((-1)) :: _) f241_26 rfl rfl ?_
    refine Ew.iastnO f241_27 (by decide) rfl (b2 c1) (Nat.le_of_ble_eq_true rfl) rfl ?_
    refine Ew.ld f241_28 rfl rfl rfl rfl ?_
    refine Ew.getp (v := some (1, 0, 7)) f241_29 rfl rfl rfl ?_
    refine Ew.ld f241_32 rfl rfl rfl rfl ?_
    refine Ew.ialdnO f241_33 rfl (b3 c1) (Nat.le_of_ble_eq_true rfl) rfl ?_
    refine Ew.ireti f241_34 ?_
    exact h1 c1
  · refine Ew.op (st' := zi ((-11)) :: _) f241_18 rfl rfl ?_
    refine Ew.ireti f241_20 ?_
    exact h2 (Int32.not_le.mp c1)
theorem g242_0 {d c s : Nat} {a x i : Int32} {v : Int64} {X : zM} {ρ : Nat → Nat → Int32} {l : Nat → Nat → Int64} {Q : Option zV → zM → Prop}
    (h1 : (lN 0 ≤ a.toInt64 ∧ a.toInt64 ≤ lN 3) → ((lN 0) ≤ x.toInt64 ∧ x.toInt64 ≤ (lN 3)) → Ev (d + 2) c s 242 21 [some (zr (some (1, 0, 0))), some (zi a), some (zi x), some (zi i), some (zl v), none, none] [] (OM X 1 0 ρ l) Q)
    (h2 : (lN 0 ≤ a.toInt64 ∧ a.toInt64 ≤ lN 3) → (¬ ((lN 0) ≤ x.toInt64 ∧ x.toInt64 ≤ (lN 3))) → Q (some (zi ((-1)))) (OM X 1 0 ρ l))
    (h3 : (¬ (lN 0 ≤ a.toInt64 ∧ a.toInt64 ≤ lN 3)) → Q (some (zi ((-1)))) (OM X 1 0 ρ l)) : Ev (d + 2) c s 242 0 [some (zr (some (1, 0, 0))), some (zi a), some (zi x), some (zi i), some (zl v), none, none] [] (OM X 1 0 ρ l) Q := by
  refine Ew.ld f242_0 rfl rfl rfl rfl ?_
  refine Ew.call0 (ls0 := [some (zi a)]) f242_1 rfl (Nat.le_of_ble_eq_true rfl) rfl rfl (Nat.le_of_ble_eq_true rfl) trivial (Nat.le_of_ble_eq_true rfl) rfl rfl ?_
  refine sp_isSheet (fun c1 => ?_) (fun c1 => ?_)
  · refine Ew.ifc f242_4 rfl rfl (fun h => absurd h (show ¬ (((nI 1) : Int32) = 0) by decide)) (fun _ => ?_)
    refine Ew.ld f242_7 rfl rfl rfl rfl ?_
    refine Ew.op (st' := zl x.toInt64 :: _) f242_8 rfl rfl ?_
    refine Ew.op (st' := zl (lN 0) :: _) f242_9 rfl rfl ?_
    refine Ew.op (st' := zl (lN 3) :: _) f242_10 rfl rfl ?_
    refine Ew.call0 (ls0 := [some (zl x.toInt64), none, some (zl (lN 0)), none, some (zl (lN 3)), none]) f242_13 rfl (Nat.le_of_ble_eq_true rfl) rfl rfl (Nat.le_of_ble_eq_true rfl) trivial (Nat.le_of_ble_eq_true rfl) rfl rfl ?_
    refine sp_in (fun c2 => ?_) (fun c2 => ?_)
    · refine Ew.ifc f242_16 rfl rfl (fun _ => ?_) (fun h => absurd (show ¬ ((nI 1) : Int32) = 0 by decide) h)
      exact h1 c1 c2
    · refine Ew.ifc f242_16 rfl rfl (fun h => absurd h (show ¬ (¬ ((nI 0) : Int32) = 0) by decide)) (fun _ => ?_)
      refine Ew.op (st' := zi ((-1)) :: _) f242_19 rfl rfl ?_
      refine Ew.ireti f242_20 ?_
      exact h2 c1 c2
  · refine Ew.ifc f242_4 rfl rfl (fun _ => ?_) (fun h => absurd (show ((nI 0) : Int32) = 0 by decide) h)
    refine Ew.op (st' := zi ((-1)) :: _) f242_19 rfl rfl ?_
    refine Ew.ireti f242_20 ?_
    exact h3 c1

def aFnd (o : Option (Nat × Nat × (Nat → Int64))) (x i : Int32) (n : Nat) : Int32 := match o with
  | none => -11
  | some y => if nI y.1 = x then (if 0 ≤ i.toInt ∧ i.toInt + n ≤ y.2.1 then 0 else -13) else -12
theorem zsubI {z i : Nat} (hz : z < 5000) (hi : i < 2 ^ 31) : (nI z - nI i).toInt = (z : Int) - i := by
  rw [Int32.toInt_sub, nI_toInt (by omega), nI_toInt hi]
  apply Int.bmod_eq_of_le <;> omega
theorem zroomI {z n : Nat} {i : Int32} (hz : z < 5000) (hn : n < 5000) (hi : 0 ≤ i) : nI n ≤ nI z - i ↔ (0 ≤ i.toInt ∧ i.toInt + n ≤ z) := by
  obtain ⟨j, hj, rfl⟩ := nI_of (Int32.not_lt.mpr hi)
  rw [Int32.le_iff_toInt_le, zsubI hz hj, nI_toInt (by omega), nI_toInt hj]
  omega
theorem sp_found {d c s B j n : Nat} {x i : Int32} {σ : zSt} {X : zM} {ρ : Nat → Nat → Int32} {l : Nat → Nat → Int64} {Q : Option zV → zM → Prop} (hG : zGood B σ) (hS : rShe ρ l σ.S) (hj : j < 4) (hn : n < 5000) (k : Q (some (zi (aFnd (σ.S j) x i n))) (OM X 1 0 ρ l)) : Ev d c s 237 0 [some (zr (some (1, 0, 0))), some (zi (nI j)), some (zi x), some (zi i), some (zi (nI n))] [] (OM X 1 0 ρ l) Q := by
  have h := hS j hj
  have hg := hG.2.2.2.2 j
  unfold aFnd at k
  rcases e : σ.S j with _ | y
  · rw [e] at h k
    have h : ρ 6 j = -1 := h
    simp only [] at k
    refine g237_0 hj (fun _ => hj) (fun g => ?_) (fun _ _ _ => hj) (fun g => ?_) (fun g => ?_) (fun g => ?_) (fun _ => k) <;> (rw [h] at g; exact absurd g (by decide))
  · rw [e] at h k
    obtain ⟨h1, h2, _⟩ := h
    obtain ⟨g1, g2⟩ := hg y hj e
    simp only [] at k
    have p6 : ¬ ρ 6 j < 0 := by rw [h1]; exact nI_pos (by omega)
    refine g237_0 hj (fun _ => hj) (fun _ a b => ?_) (fun _ _ _ => hj) (fun _ a b c' => ?_) (fun _ a b c' => ?_) (fun _ a => ?_) (fun g => absurd g p6)
    · rw [h1] at a
      rw [if_pos a, if_neg ?_] at k
      · exact k
      · intro g
        have := Int32.lt_iff_toInt_lt.mp b
        rw [show (0 : Int32).toInt = 0 from rfl] at this
        omega
    · rw [h1] at a
      rw [h2] at c'
      rw [if_pos a, if_pos ((zroomI (by omega) hn b).mp c')] at k
      exact k
    · rw [h1] at a
      rw [h2] at c'
      rw [if_pos a, if_neg (fun g => absurd ((zroomI (by omega) hn b).mpr g) (Int32.not_le.mpr c'))] at k
      exact k
    · rw [h1] at a
      rw [if_neg a] at k
      exact k
def aCut (x : Int32) (v : Int64) : Int64 := if x = 0 then v.toInt32.toInt8.toInt32.toInt64 else if x = nI 1 then v.toInt32.toInt16.toInt32.toInt64 else if x = nI 2 then v.toInt32.toInt64 else v
theorem sp_cut {d c s : Nat} {x : Int32} {v : Int64} {X : zM} {ρ : Nat → Nat → Int32} {l : Nat → Nat → Int64} {Q : Option zV → zM → Prop} (k : Q (some (zl (aCut x v))) (OM X 1 0 ρ l)) : Ev d c s 236 0 [some (zi x), some (zl v), none] [] (OM X 1 0 ρ l) Q := by
  unfold aCut at k
  refine g236_0 (fun a b c' => ?_) (fun a b c' => ?_) (fun a b => ?_) (fun a => ?_)
  · rw [if_neg a, if_neg b, if_neg c'] at k; exact k
  · rw [if_neg a, if_neg b, if_pos c'] at k; exact k
  · rw [if_neg a, if_pos b] at k; exact k
  · rw [if_pos a] at k; exact k
/-- sheets change, the rest stays -/
def rFs (ρ ρ' : Nat → Nat → Int32) : Prop := ∀ q i, ¬ q = 6 → ¬ q = 7 → ρ' q i = ρ q i
theorem zRef.sheet {ρ ρ' : Nat → Nat → Int32} {l l' : Nat → Nat → Int64} {σ : zSt} (h : zRef ρ l σ) (hf : rFs ρ ρ') {S' : Nat → Option (Nat × Nat × (Nat → Int64))} (hs : rShe ρ' l' S') : zRef ρ' l' (σ.1, σ.2.1, σ.2.2.1, σ.2.2.2.1, S') := by
  have e : ∀ q, ¬ q = 6 → ¬ q = 7 → ρ' q = ρ q := fun q h1 h2 => funext fun i => hf q i h1 h2
  obtain ⟨a1, a2, a3, a4, a5, a6⟩ := h
  refine ⟨(e 1 (by decide) (by decide)).trans a1, ?_, ?_, ?_, hs, ?_⟩
  · unfold rHs
    rw [e 0 (by decide) (by decide), e 2 (by decide) (by decide)]
    exact a2
  · unfold rImg
    rw [e 0 (by decide) (by decide), e 3 (by decide) (by decide), e 4 (by decide) (by decide)]
    exact a3
  · unfold rTape
    rw [e 0 (by decide) (by decide), e 5 (by decide) (by decide)]
    exact a4
  · intro t ht
    unfold zTrR
    rw [e 10 (by decide) (by decide), e 11 (by decide) (by decide), e 12 (by decide) (by decide), e 13 (by decide) (by decide), e 14 (by decide) (by decide), e 15 (by decide) (by decide), e 16 (by decide) (by decide), e 17 (by decide) (by decide), e 18 (by decide) (by decide)]
    exact a6 t ht
def aSh (σ : zSt) (j : Nat) (o : Option (Nat × Nat × (Nat → Int64))) : zSt := (σ.1, σ.2.1, σ.2.2.1, σ.2.2.2.1, zup σ.S j o)
def aDrop (σ : zSt) (a : Int32) : Int32 × zSt := match aIx a 4 with
  | none => (-1, σ)
  | some j => match σ.S j with
    | none => (-11, σ)
    | some y => (nI y.2.1, aSh σ j none)
theorem rp_drop {d c s B : Nat} {a : Int32} {σ : zSt} {X : zM} {ρ : Nat → Nat → Int32} {l : Nat → Nat → Int64} {Q : Option zV → zM → Prop} (hG : zGood B σ) (hR : zRef ρ l σ) (k : ∀ ρ' l', zRef ρ' l' (aDrop σ a).2 → Q (some (zi (aDrop σ a).1)) (OM X 1 0 ρ' l')) : Ev (d + 2) c s 241 0 [some (zr (some (1, 0, 0))), some (zi a)] [] (OM X 1 0 ρ l) Q := by
  unfold aDrop at k
  refine g241_0 (fun h => ?_) (fun h => ?_)
  · obtain ⟨j, hj, rfl⟩ := zrangeL (by decide) h
    have hj : j < 4 := hj
    rw [aIx_some hj (by decide)] at k
    simp only [] at k
    have hS := hR.2.2.2.2.1 j hj
    rcases e : σ.S j with _ | y
    · rw [e] at hS k
      have hS : ρ 6 j = -1 := hS
      simp only [] at k
      refine g241_9 hj (fun _ => hj) (fun _ => hj) (fun g => ?_) (fun _ => k _ _ hR)
      rw [hS] at g
      exact absurd g (by decide)
    · rw [e] at hS k
      obtain ⟨h1, h2, _⟩ := hS
      obtain ⟨g1, g2⟩ := hG.2.2.2.2 j y hj e
      simp only [] at k
      refine g241_9 hj (fun _ => hj) (fun _ => hj) (fun _ => ?_) (fun g => ?_)
      · rw [h2]
        refine k _ _ (hR.sheet (ρ' := zu ρ 6 j (-1)) (fun q i h6 h7 => zu_i_ne (fun g => h6 g.1)) ?_)
        intro u hu
        by_cases eu : u = j
        · subst eu
          rw [zup_s]
          exact zu_s _ _ _ _
        · rw [zup_n _ _ eu]
          have := hR.2.2.2.2.1 u hu
          rw [zu_i_ne (fun g => eu g.2), zu_q _ _ _ _ (by decide)]
          exact this
      · rw [h1] at g
        exact absurd g (nI_pos (by omega))
  · rw [zrangeN (by decide) h] at k
    exact k _ _ hR
def aSheet (σ : zSt) (a x n : Int32) : Int32 × zSt := match aIx a 4, aIx x 4 with
  | some j, some y => if nI 24 < n then (-1, σ) else if n < 0 then (-14, σ) else (n, aSh σ j (some (y, n.toNatClampNeg, fun _ => 0)))
  | _, _ => (-1, σ)
theorem rp_sheet {d c s B : Nat} {a x n : Int32} {σ : zSt} {X : zM} {ρ : Nat → Nat → Int32} {l : Nat → Nat → Int64} {Q : Option zV → zM → Prop} (hG : zGood B σ) (hR : zRef ρ l σ) (k : ∀ ρ' l', zRef ρ' l' (aSheet σ a x n).2 → Q (some (zi (aSheet σ a x n).1)) (OM X 1 0 ρ' l')) : Ev (d + 2) c s 240 0 [some (zr (some (1, 0, 0))), some (zi a), some (zi x), some (zi n), none] [] (OM X 1 0 ρ l) Q := by
  unfold aSheet at k
  refine g240_0 (fun h hx hn h0 => ?_) (fun h hx hn h0 => ?_) (fun h hx hn => ?_) (fun h hx => ?_) (fun h => ?_)
  · obtain ⟨j, hj, rfl⟩ := zrangeL (by decide) h
    have hj : j < 4 := hj
    obtain ⟨y, hy, rfl⟩ := zrangeL (by decide) hx
    have hy : y < 4 := hy
    rw [aIx_some hj (by decide), aIx_some hy (by decide)] at k
    simp only [] at k
    rw [if_neg (Int32.not_lt.mpr hn), if_neg (Int32.not_lt.mpr h0)] at k
    obtain ⟨m, hm, rfl⟩ := nI_of2 (n := 24) rfl (Int32.not_lt.mpr h0) hn
    rw [nI_clamp (by omega)] at k
    refine g240_34 hj hj ?_
    have key : ∀ u, u ≤ 24 → ∀ l' : Nat → Nat → Int64, (∀ q i, ¬ (q = 8 ∧ 24 * j ≤ i ∧ i < 24 * j + 24) → l' q i = l q i) → (∀ i, i < 24 - u → l' 8 (24 * j + i) = 0) → Ev (d + 2) c s 240 51 [some (zr (some (1, 0, 0))), some (zi (nI j)), some (zi (nI y)), some (zi (nI m)), some (zi (nI (24 - u)))] [] (OM X 1 0 (zu (zu ρ 6 j (nI y)) 7 j (nI m)) l') Q := by
      intro u
      induction u with
      | zero =>
        intro _ l' h1 h2
        refine g240_51 (by decide) (fun _ => ?_) (fun h => by omega) (fun h => by omega)
        refine k _ _ (hR.sheet (fun q i h6 h7 => by rw [zu_q _ _ _ _ h7, zu_q _ _ _ _ h6]) ?_)
        intro v hv
        by_cases ev : v = j
        · subst ev
          rw [zup_s]
          refine ⟨?_, zu_s _ _ _ _, fun i hi => ?_⟩
          · rw [zu_q _ _ _ _ (by decide)]; exact zu_s _ _ _ _
          · have hi : i < m := hi
            exact h2 i (by omega)
        · rw [zup_n _ _ ev]
          have := hR.2.2.2.2.1 v hv
          rw [zu_q _ _ _ _ (show ¬ 6 = 7 by decide), zu_i_ne (show ¬ (6 = 6 ∧ v = j) from fun g => ev g.2), zu_i_ne (show ¬ (7 = 7 ∧ v = j) from fun g => ev g.2), zu_q _ _ _ _ (show ¬ 7 = 6 by decide)]
          rcases e : σ.S v with _ | z
          · rw [e] at this
            exact this
          · rw [e] at this
            obtain ⟨g1, g2⟩ := hG.2.2.2.2 v z hv e
            refine ⟨this.1, this.2.1, fun i hi => ?_⟩
            rw [h1 8 (24 * v + i) (by have hi : i < z.2.1 := hi; omega)]
            exact this.2.2 i hi
      | succ u ih =>
        intro hu l' h1 h2
        refine g240_51 (by omega) (fun h => by omega) (fun _ => by omega) (fun _ => ?_)
        rw [show 24 - (u + 1) + 1 = 24 - u by omega]
        refine ih (by omega) _ (fun q i hq => ?_) (fun i hi => ?_)
        · rw [zu_i_ne (by omega)]
          exact h1 q i hq
        · by_cases ei : i = 24 - (u + 1)
          · subst ei
            exact zu_s _ _ _ _
          · rw [zu_i_ne (by omega)]
            exact h2 i (by omega)
    exact key 24 (Nat.le_refl 24) l (fun _ _ _ => rfl) (fun i hi => by omega)
  · obtain ⟨j, hj, rfl⟩ := zrangeL (by decide) h
    obtain ⟨y, hy, rfl⟩ := zrangeL (by decide) hx
    rw [aIx_some (N := 4) hj (by decide), aIx_some (N := 4) hy (by decide)] at k
    simp only [] at k
    rw [if_neg (Int32.not_lt.mpr hn), if_pos h0] at k
    exact k _ _ hR
  · obtain ⟨j, hj, rfl⟩ := zrangeL (by decide) h
    obtain ⟨y, hy, rfl⟩ := zrangeL (by decide) hx
    rw [aIx_some (N := 4) hj (by decide), aIx_some (N := 4) hy (by decide)] at k
    simp only [] at k
    rw [if_pos hn] at k
    exact k _ _ hR
  · obtain ⟨j, hj, rfl⟩ := zrangeL (by decide) h
    rw [aIx_some (N := 4) hj (by decide), zrangeN (m := 3) (by decide) hx] at k
    exact k _ _ hR
  · rw [zrangeN (m := 3) (by decide) h] at k
    exact k _ _ hR
