/-! the reference: items, films, copies -/
theorem g242_21 {d c s : Nat} {j x : Nat} {i : Int32} {v : Int64} {X : zM} {ρ : Nat → Nat → Int32} {l : Nat → Nat → Int64} {Q : Option zV → zM → Prop}
    (h1 : Ev d 0 0 237 0 [some (zr (some (1, 0, 0))), some (zi (nI j)), some (zi (nI x)), some (zi i), some (zi (nI 1))] [] (OM X 1 0 ρ l) (fun r M' => Ev (d + 1) c s 242 29 [some (zr (some (1, 0, 0))), some (zi (nI j)), some (zi (nI x)), some (zi i), some (zl v), none, none] (zpush r []) M' Q)) : Ev (d + 1) c s 242 21 [some (zr (some (1, 0, 0))), some (zi (nI j)), some (zi (nI x)), some (zi i), some (zl v), none, none] [] (OM X 1 0 ρ l) Q := by
  refine Ew.ld f242_21 rfl rfl rfl rfl ?_
  refine Ew.ld f242_22 rfl rfl rfl rfl ?_
  refine Ew.ld f242_23 rfl rfl rfl rfl ?_
  refine Ew.ld f242_24 rfl rfl rfl rfl ?_
  refine Ew.op (st' := zi (nI 1) :: _) f242_25 rfl rfl ?_
  refine Ew.call0 (ls0 := [some (zr (some (1, 0, 0))), some (zi (nI j)), some (zi (nI x)), some (zi i), some (zi (nI 1))]) f242_26 rfl (Nat.le_of_ble_eq_true rfl) rfl rfl (Nat.le_of_ble_eq_true rfl) rfl (Nat.le_of_ble_eq_true rfl) rfl rfl ?_
  exact h1
theorem g242_29 {d c s : Nat} {j x : Nat} {i f : Int32} {v : Int64} {X : zM} {ρ : Nat → Nat → Int32} {l : Nat → Nat → Int64} {Q : Option zV → zM → Prop}
    (h1 : (0 ≤ f) → Ev d c s 242 39 [some (zr (some (1, 0, 0))), some (zi (nI j)), some (zi (nI x)), some (zi i), some (zl v), none, some (zi f)] [] (OM X 1 0 ρ l) Q)
    (h2 : (f < 0) → Q (some (zi f)) (OM X 1 0 ρ l)) : Ev d c s 242 29 [some (zr (some (1, 0, 0))), some (zi (nI j)), some (zi (nI x)), some (zi i), some (zl v), none, none] [zi f] (OM X 1 0 ρ l) Q := by
  refine Ew.sr (ls' := [some (zr (some (1, 0, 0))), some (zi (nI j)), some (zi (nI x)), some (zi i), some (zl v), none, some (zi f)]) f242_29 rfl rfl (Nat.le_of_ble_eq_true rfl) rfl rfl ?_
  refine Ew.ld f242_31 rfl rfl rfl rfl ?_
  refine Ew.ifc f242_33 rfl rfl (fun c1 => ?_) (fun c1 => ?_)
  · exact h1 c1
  · refine Ew.ld f242_36 rfl rfl rfl rfl ?_
    refine Ew.ireti f242_38 ?_
    exact h2 (Int32.not_le.mp c1)
theorem g242_39 {d c s : Nat} {j x i : Nat} {f : Int32} {v : Int64} {X : zM} {ρ : Nat → Nat → Int32} {l : Nat → Nat → Int64} {Q : Option zV → zM → Prop}
    (b1 : 24 * j + i < 96)
    (h1 : Q (some (zi (nI 1))) (OM X 1 0 ρ (zu l 8 (24 * j + i) (aCut (nI x) v)))) : Ev (d + 1) c s 242 39 [some (zr (some (1, 0, 0))), some (zi (nI j)), some (zi (nI x)), some (zi (nI i)), some (zl v), none, some (zi f)] [] (OM X 1 0 ρ l) Q := by
  refine Ew.ld f242_39 rfl rfl rfl rfl ?_
  refine Ew.getp (v := some (1, 0, 8)) f242_40 rfl rfl rfl ?_
  refine Ew.op (st' := zi (nI 24) :: _) f242_43 rfl rfl ?_
  refine Ew.ld f242_45 rfl rfl rfl rfl ?_
  refine Ew.muln f242_46 rfl ?_
  refine Ew.ld f242_47 rfl rfl rfl rfl ?_
  refine Ew.addn f242_48 rfl ?_
  refine Ew.ld f242_49 rfl rfl rfl rfl ?_
  refine Ew.ld f242_50 rfl rfl rfl rfl ?_
  refine Ew.call0 (ls0 := [some (zi (nI x)), some (zl v), none]) f242_52 rfl (Nat.le_of_ble_eq_true rfl) rfl rfl (Nat.le_of_ble_eq_true rfl) trivial (Nat.le_of_ble_eq_true rfl) rfl rfl ?_
  refine sp_cut ?_
  show Ev (d + 1) c s 242 55 [some (zr (some (1, 0, 0))), some (zi (nI j)), some (zi (nI x)), some (zi (nI i)), some (zl v), none, some (zi f)] [zl (aCut (nI x) v), zi (nI (24 * j + i)), zr (some (1, 0, 8))] (OM X 1 0 ρ l) Q
  refine Ew.lastnO f242_55 rfl b1 (Nat.le_of_ble_eq_true rfl) rfl ?_
  refine Ew.op (st' := zi (nI 1) :: _) f242_56 rfl rfl ?_
  refine Ew.ireti f242_57 ?_
  exact h1
theorem g239_0 {d c s : Nat} {a x i : Int32} {X : zM} {ρ : Nat → Nat → Int32} {l : Nat → Nat → Int64} {Q : Option zV → zM → Prop}
    (h1 : (lN 0 ≤ a.toInt64 ∧ a.toInt64 ≤ lN 3) → ((lN 0) ≤ x.toInt64 ∧ x.toInt64 ≤ (lN 3)) → Ev (d + 2) c s 239 21 [some (zr (some (1, 0, 0))), some (zi a), some (zi x), some (zi i), none, none] [] (OM X 1 0 ρ l) Q)
    (h2 : (lN 0 ≤ a.toInt64 ∧ a.toInt64 ≤ lN 3) → (¬ ((lN 0) ≤ x.toInt64 ∧ x.toInt64 ≤ (lN 3))) → Q (some (zi ((-1)))) (OM X 1 0 ρ l))
    (h3 : (¬ (lN 0 ≤ a.toInt64 ∧ a.toInt64 ≤ lN 3)) → Q (some (zi ((-1)))) (OM X 1 0 ρ l)) : Ev (d + 2) c s 239 0 [some (zr (some (1, 0, 0))), some (zi a), some (zi x), some (zi i), none, none] [] (OM X 1 0 ρ l) Q := by
  refine Ew.ld f239_0 rfl rfl rfl rfl ?_
  refine Ew.call0 (ls0 := [some (zi a)]) f239_1 rfl (Nat.le_of_ble_eq_true rfl) rfl rfl (Nat.le_of_ble_eq_true rfl) trivial (Nat.le_of_ble_eq_true rfl) rfl rfl ?_
  refine sp_isSheet (fun c1 => ?_) (fun c1 => ?_)
  · refine Ew.ifc f239_4 rfl rfl (fun h => absurd h (show ¬ (((nI 1) : Int32) = 0) by decide)) (fun _ => ?_)
    refine Ew.ld f239_7 rfl rfl rfl rfl ?_
    refine Ew.op (st' := zl x.toInt64 :: _) f239_8 rfl rfl ?_
    refine Ew.op (st' := zl (lN 0) :: _) f239_9 rfl rfl ?_
    refine Ew.op (st' := zl (lN 3) :: _) f239_10 rfl rfl ?_
    refine Ew.call0 (ls0 := [some (zl x.toInt64), none, some (zl (lN 0)), none, some (zl (lN 3)), none]) f239_13 rfl (Nat.le_of_ble_eq_true rfl) rfl rfl (Nat.le_of_ble_eq_true rfl) trivial (Nat.le_of_ble_eq_true rfl) rfl rfl ?_
    refine sp_in (fun c2 => ?_) (fun c2 => ?_)
    · refine Ew.ifc f239_16 rfl rfl (fun _ => ?_) (fun h => absurd (show ¬ ((nI 1) : Int32) = 0 by decide) h)
      exact h1 c1 c2
    · refine Ew.ifc f239_16 rfl rfl (fun h => absurd h (show ¬ (¬ ((nI 0) : Int32) = 0) by decide)) (fun _ => ?_)
      refine Ew.op (st' := zi ((-1)) :: _) f239_19 rfl rfl ?_
      refine Ew.ireti f239_20 ?_
      exact h2 c1 c2
  · refine Ew.ifc f239_4 rfl rfl (fun _ => ?_) (fun h => absurd (show ((nI 0) : Int32) = 0 by decide) h)
    refine Ew.op (st' := zi ((-1)) :: _) f239_19 rfl rfl ?_
    refine Ew.ireti f239_20 ?_
    exact h3 c1
theorem g239_21 {d c s : Nat} {j x : Nat} {i : Int32} {X : zM} {ρ : Nat → Nat → Int32} {l : Nat → Nat → Int64} {Q : Option zV → zM → Prop}
    (h1 : Ev d 0 0 237 0 [some (zr (some (1, 0, 0))), some (zi (nI j)), some (zi (nI x)), some (zi i), some (zi (nI 4))] [] (OM X 1 0 ρ l) (fun r M' => Ev (d + 1) c s 239 29 [some (zr (some (1, 0, 0))), some (zi (nI j)), some (zi (nI x)), some (zi i), none, none] (zpush r []) M' Q)) : Ev (d + 1) c s 239 21 [some (zr (some (1, 0, 0))), some (zi (nI j)), some (zi (nI x)), some (zi i), none, none] [] (OM X 1 0 ρ l) Q := by
  refine Ew.ld f239_21 rfl rfl rfl rfl ?_
  refine Ew.ld f239_22 rfl rfl rfl rfl ?_
  refine Ew.ld f239_23 rfl rfl rfl rfl ?_
  refine Ew.ld f239_24 rfl rfl rfl rfl ?_
  refine Ew.op (st' := zi (nI 4) :: _) f239_25 rfl rfl ?_
  refine Ew.call0 (ls0 := [some (zr (some (1, 0, 0))), some (zi (nI j)), some (zi (nI x)), some (zi i), some (zi (nI 4))]) f239_26 rfl (Nat.le_of_ble_eq_true rfl) rfl rfl (Nat.le_of_ble_eq_true rfl) rfl (Nat.le_of_ble_eq_true rfl) rfl rfl ?_
  exact h1
theorem g239_29 {d c s : Nat} {j x : Nat} {i f : Int32} {X : zM} {ρ : Nat → Nat → Int32} {l : Nat → Nat → Int64} {Q : Option zV → zM → Prop}
    (h1 : (0 ≤ f) → Ev d c s 239 39 [some (zr (some (1, 0, 0))), some (zi (nI j)), some (zi (nI x)), some (zi i), some (zi f), none] [] (OM X 1 0 ρ l) Q)
    (h2 : (f < 0) → Q (some (zi f)) (OM X 1 0 ρ l)) : Ev d c s 239 29 [some (zr (some (1, 0, 0))), some (zi (nI j)), some (zi (nI x)), some (zi i), none, none] [zi f] (OM X 1 0 ρ l) Q := by
  refine Ew.sr (ls' := [some (zr (some (1, 0, 0))), some (zi (nI j)), some (zi (nI x)), some (zi i), some (zi f), none]) f239_29 rfl rfl (Nat.le_of_ble_eq_true rfl) rfl rfl ?_
  refine Ew.ld f239_31 rfl rfl rfl rfl ?_
  refine Ew.ifc f239_33 rfl rfl (fun c1 => ?_) (fun c1 => ?_)
  · exact h1 c1
  · refine Ew.ld f239_36 rfl rfl rfl rfl ?_
    refine Ew.ireti f239_38 ?_
    exact h2 (Int32.not_le.mp c1)
theorem g239_39 {d c s : Nat} {j x i : Nat} {f : Int32} {X : zM} {ρ : Nat → Nat → Int32} {l : Nat → Nat → Int64} {Q : Option zV → zM → Prop}
    (h1 : Ev d c s 239 42 [some (zr (some (1, 0, 0))), some (zi (nI j)), some (zi (nI x)), some (zi (nI i)), some (zi f), some (zi (nI 0))] [] (OM X 1 0 ρ l) Q) : Ev d c s 239 39 [some (zr (some (1, 0, 0))), some (zi (nI j)), some (zi (nI x)), some (zi (nI i)), some (zi f), none] [] (OM X 1 0 ρ l) Q := by
  refine Ew.op (st' := zi (nI 0) :: _) f239_39 rfl rfl ?_
  refine Ew.sr (ls' := [some (zr (some (1, 0, 0))), some (zi (nI j)), some (zi (nI x)), some (zi (nI i)), some (zi f), some (zi (nI 0))]) f239_40 rfl rfl (Nat.le_of_ble_eq_true rfl) rfl rfl ?_
  exact h1
theorem g239_42 {d c s : Nat} {j x i t : Nat} {f : Int32} {X : zM} {ρ : Nat → Nat → Int32} {l : Nat → Nat → Int64} {Q : Option zV → zM → Prop} (nb_t : t < 5000)
    (h1 : (4 ≤ t) → Q (some (zi (nI 4))) (OM X 1 0 ρ l))
    (b1 : (t < 4) → 10 + 4 * t + 1 < 270)
    (b2 : (t < 4) → 24 * j + i + t < 96)
    (h2 : (t < 4) → Ev (d + 1) c s 239 42 [some (zr (some (1, 0, 0))), some (zi (nI j)), some (zi (nI x)), some (zi (nI i)), some (zi f), some (zi (nI (t + 1)))] [] (OM X 1 0 ρ (zu l 8 (24 * j + i + t) (aCut (nI x) ((ρ 1 (10 + 4 * t + 1)).toInt64)))) Q) : Ev (d + 1) c s 239 42 [some (zr (some (1, 0, 0))), some (zi (nI j)), some (zi (nI x)), some (zi (nI i)), some (zi f), some (zi (nI t))] [] (OM X 1 0 ρ l) Q := by
  refine Ew.ld f239_42 rfl rfl rfl rfl ?_
  refine Ew.op (st' := zi (nI 4) :: _) f239_44 rfl rfl ?_
  refine Ew.icmp f239_45 rfl rfl (fun c1 => ?_) (fun c1 => ?_)
  · refine Ew.op (st' := zi (nI 4) :: _) f239_80 rfl rfl ?_
    refine Ew.ireti f239_81 ?_
    exact h1 ((zle_iff (by decide) nb_t).mp c1)
  · refine Ew.ld f239_48 rfl rfl rfl rfl ?_
    refine Ew.getp (v := some (1, 0, 8)) f239_49 rfl rfl rfl ?_
    refine Ew.op (st' := zi (nI 24) :: _) f239_52 rfl rfl ?_
    refine Ew.ld f239_54 rfl rfl rfl rfl ?_
    refine Ew.muln f239_55 rfl ?_
    refine Ew.ld f239_56 rfl rfl rfl rfl ?_
    refine Ew.addn f239_57 rfl ?_
    refine Ew.ld f239_58 rfl rfl rfl rfl ?_
    refine Ew.addn f239_60 rfl ?_
    refine Ew.ld f239_61 rfl rfl rfl rfl ?_
    refine Ew.ld f239_62 rfl rfl rfl rfl ?_
    refine Ew.ld f239_63 rfl rfl rfl rfl ?_
    refine Ew.op (st' := zi (nI 1) :: _) f239_65 rfl rfl ?_
    refine Ew.call0 (ls0 := [some (zr (some (1, 0, 0))), some (zi (nI t)), some (zi (nI 1))]) f239_66 rfl (Nat.le_of_ble_eq_true rfl) rfl rfl (Nat.le_of_ble_eq_true rfl) rfl (Nat.le_of_ble_eq_true rfl) rfl rfl ?_
    refine Ew.ld f156_0 rfl rfl rfl rfl ?_
    refine Ew.getp (v := some (1, 0, 1)) f156_1 rfl rfl rfl ?_
    refine Ew.op (st' := zi (nI 10) :: _) f156_4 rfl rfl ?_
    refine Ew.op (st' := zi (nI 4) :: _) f156_6 rfl rfl ?_
    refine Ew.ld f156_7 rfl rfl rfl rfl ?_
    refine Ew.muln f156_8 rfl ?_
    refine Ew.addn f156_9 rfl ?_
    refine Ew.ld f156_10 rfl rfl rfl rfl ?_
    refine Ew.addn f156_11 rfl ?_
    refine Ew.ialdnO f156_12 rfl (b1 (Nat.not_le.mp fun e => c1 ((zle_iff (by decide) nb_t).mpr e))) (Nat.le_of_ble_eq_true rfl) rfl ?_
    refine Ew.ireti f156_13 ?_
    show Ev (d + 1) c s 239 69 [some (zr (some (1, 0, 0))), some (zi (nI j)), some (zi (nI x)), some (zi (nI i)), some (zi f), some (zi (nI t))] [zi (ρ 1 (10 + 4 * t + 1)), zi (nI x), zi (nI (24 * j + i + t)), zr (some (1, 0, 8))] (OM X 1 0 ρ l) Q
    refine Ew.op (st' := zl ((ρ 1 (10 + 4 * t + 1)).toInt64) :: _) f239_69 rfl rfl ?_
    refine Ew.call0 (ls0 := [some (zi (nI x)), some (zl ((ρ 1 (10 + 4 * t + 1)).toInt64)), none]) f239_70 rfl (Nat.le_of_ble_eq_true rfl) rfl rfl (Nat.le_of_ble_eq_true rfl) trivial (Nat.le_of_ble_eq_true rfl) rfl rfl ?_
    refine sp_cut ?_
    show Ev (d + 1) c s 239 73 [some (zr (some (1, 0, 0))), some (zi (nI j)), some (zi (nI x)), some (zi (nI i)), some (zi f), some (zi (nI t))] [zl (aCut (nI x) ((ρ 1 (10 + 4 * t + 1)).toInt64)), zi (nI (24 * j + i + t)), zr (some (1, 0, 8))] (OM X 1 0 ρ l) Q
    refine Ew.lastnO f239_73 rfl (b2 (Nat.not_le.mp fun e => c1 ((zle_iff (by decide) nb_t).mpr e))) (Nat.le_of_ble_eq_true rfl) rfl ?_
    refine Ew.iinc (v := nI (t + 1)) (ls' := [some (zr (some (1, 0, 0))), some (zi (nI j)), some (zi (nI x)), some (zi (nI i)), some (zi f), some (zi (nI (t + 1)))]) f239_74 rfl (nI_1 _) rfl rfl ?_
    refine Ew.goto f239_77 rfl ?_
    exact h2 (Nat.not_le.mp fun e => c1 ((zle_iff (by decide) nb_t).mpr e))
theorem g243_0 {d c s : Nat} {a i b k n : Int32} {X : zM} {ρ : Nat → Nat → Int32} {l : Nat → Nat → Int64} {Q : Option zV → zM → Prop}
    (h1 : (lN 0 ≤ a.toInt64 ∧ a.toInt64 ≤ lN 3) → (lN 0 ≤ b.toInt64 ∧ b.toInt64 ≤ lN 3) → Ev (d + 2) c s 243 16 [some (zr (some (1, 0, 0))), some (zi a), some (zi i), some (zi b), some (zi k), some (zi n), none] [] (OM X 1 0 ρ l) Q)
    (h2 : (lN 0 ≤ a.toInt64 ∧ a.toInt64 ≤ lN 3) → (¬ (lN 0 ≤ b.toInt64 ∧ b.toInt64 ≤ lN 3)) → Q (some (zi ((-1)))) (OM X 1 0 ρ l))
    (h3 : (¬ (lN 0 ≤ a.toInt64 ∧ a.toInt64 ≤ lN 3)) → Q (some (zi ((-1)))) (OM X 1 0 ρ l)) : Ev (d + 2) c s 243 0 [some (zr (some (1, 0, 0))), some (zi a), some (zi i), some (zi b), some (zi k), some (zi n), none] [] (OM X 1 0 ρ l) Q := by
  refine Ew.ld f243_0 rfl rfl rfl rfl ?_
  refine Ew.call0 (ls0 := [some (zi a)]) f243_1 rfl (Nat.le_of_ble_eq_true rfl) rfl rfl (Nat.le_of_ble_eq_true rfl) trivial (Nat.le_of_ble_eq_true rfl) rfl rfl ?_
  refine sp_isSheet (fun c1 => ?_) (fun c1 => ?_)
  · refine Ew.ifc f243_4 rfl rfl (fun h => absurd h (show ¬ (((nI 1) : Int32) = 0) by decide)) (fun _ => ?_)
    refine Ew.ld f243_7 rfl rfl rfl rfl ?_
    refine Ew.call0 (ls0 := [some (zi b)]) f243_8 rfl (Nat.le_of_ble_eq_true rfl) rfl rfl (Nat.le_of_ble_eq_true rfl) trivial (Nat.le_of_ble_eq_true rfl) rfl rfl ?_
    refine sp_isSheet (fun c2 => ?_) (fun c2 => ?_)
    · refine Ew.ifc f243_11 rfl rfl (fun _ => ?_) (fun h => absurd (show ¬ ((nI 1) : Int32) = 0 by decide) h)
      exact h1 c1 c2
    · refine Ew.ifc f243_11 rfl rfl (fun h => absurd h (show ¬ (¬ ((nI 0) : Int32) = 0) by decide)) (fun _ => ?_)
      refine Ew.op (st' := zi ((-1)) :: _) f243_14 rfl rfl ?_
      refine Ew.ireti f243_15 ?_
      exact h2 c1 c2
  · refine Ew.ifc f243_4 rfl rfl (fun _ => ?_) (fun h => absurd (show ((nI 0) : Int32) = 0 by decide) h)
    refine Ew.op (st' := zi ((-1)) :: _) f243_14 rfl rfl ?_
    refine Ew.ireti f243_15 ?_
    exact h3 c1
theorem g243_16 {d c s : Nat} {a b : Nat} {i k n : Int32} {X : zM} {ρ : Nat → Nat → Int32} {l : Nat → Nat → Int64} {Q : Option zV → zM → Prop}
    (b1 : a < 4)
    (h1 : ((ρ 6 a) < 0) → Q (some (zi ((-11)))) (OM X 1 0 ρ l))
    (b2 : (0 ≤ (ρ 6 a)) → b < 4)
    (b3 : (0 ≤ (ρ 6 a)) → (0 ≤ (ρ 6 b)) → a < 4)
    (b4 : (0 ≤ (ρ 6 a)) → (0 ≤ (ρ 6 b)) → b < 4)
    (h2 : (0 ≤ (ρ 6 a)) → (0 ≤ (ρ 6 b)) → ((ρ 6 a) = (ρ 6 b)) → (n < 0) → Q (some (zi ((-13)))) (OM X 1 0 ρ l))
    (h3 : (0 ≤ (ρ 6 a)) → (0 ≤ (ρ 6 b)) → ((ρ 6 a) = (ρ 6 b)) → (0 ≤ n) → (i < 0) → Q (some (zi ((-13)))) (OM X 1 0 ρ l))
    (h4 : (0 ≤ (ρ 6 a)) → (0 ≤ (ρ 6 b)) → ((ρ 6 a) = (ρ 6 b)) → (0 ≤ n) → (0 ≤ i) → (k < 0) → Q (some (zi ((-13)))) (OM X 1 0 ρ l))
    (b5 : (0 ≤ (ρ 6 a)) → (0 ≤ (ρ 6 b)) → ((ρ 6 a) = (ρ 6 b)) → (0 ≤ n) → (0 ≤ i) → (0 ≤ k) → a < 4)
    (h5 : (0 ≤ (ρ 6 a)) → (0 ≤ (ρ 6 b)) → ((ρ 6 a) = (ρ 6 b)) → (0 ≤ n) → (0 ≤ i) → (0 ≤ k) → (((ρ 7 a) - i) < n) → Q (some (zi ((-13)))) (OM X 1 0 ρ l))
    (b6 : (0 ≤ (ρ 6 a)) → (0 ≤ (ρ 6 b)) → ((ρ 6 a) = (ρ 6 b)) → (0 ≤ n) → (0 ≤ i) → (0 ≤ k) → (n ≤ ((ρ 7 a) - i)) → b < 4)
    (h6 : (0 ≤ (ρ 6 a)) → (0 ≤ (ρ 6 b)) → ((ρ 6 a) = (ρ 6 b)) → (0 ≤ n) → (0 ≤ i) → (0 ≤ k) → (n ≤ ((ρ 7 a) - i)) → (n ≤ ((ρ 7 b) - k)) → Ev d c s 243 99 [some (zr (some (1, 0, 0))), some (zi (nI a)), some (zi i), some (zi (nI b)), some (zi k), some (zi n), none] [] (OM X 1 0 ρ l) Q)
    (h7 : (0 ≤ (ρ 6 a)) → (0 ≤ (ρ 6 b)) → ((ρ 6 a) = (ρ 6 b)) → (0 ≤ n) → (0 ≤ i) → (0 ≤ k) → (n ≤ ((ρ 7 a) - i)) → (((ρ 7 b) - k) < n) → Q (some (zi ((-13)))) (OM X 1 0 ρ l))
    (h8 : (0 ≤ (ρ 6 a)) → (0 ≤ (ρ 6 b)) → (¬ (ρ 6 a) = (ρ 6 b)) → Q (some (zi ((-12)))) (OM X 1 0 ρ l))
    (h9 : (0 ≤ (ρ 6 a)) → ((ρ 6 b) < 0) → Q (some (zi ((-11)))) (OM X 1 0 ρ l)) : Ev d c s 243 16 [some (zr (some (1, 0, 0))), some (zi (nI a)), some (zi i), some (zi (nI b)), some (zi k), some (zi n), none] [] (OM X 1 0 ρ l) Q := by
  refine Ew.ld f243_16 rfl rfl rfl rfl ?_
  refine Ew.getp (v := some (1, 0, 6)) f243_17 rfl rfl rfl ?_
  refine Ew.ld f243_20 rfl rfl rfl rfl ?_
  refine Ew.ialdnO f243_21 rfl b1 (Nat.le_of_ble_eq_true rfl) rfl ?_
  refine Ew.ifc f243_22 rfl rfl (fun c1 => ?_) (fun c1 => ?_)
  · refine Ew.op (st' := zi ((-11)) :: _) f243_34 rfl rfl ?_
    refine Ew.ireti f243_36 ?_
    exact h1 c1
  · refine Ew.ld f243_25 rfl rfl rfl rfl ?_
    refine Ew.getp (v := some (1, 0, 6)) f243_26 rfl rfl rfl ?_
    refine Ew.ld f243_29 rfl rfl rfl rfl ?_
    refine Ew.ialdnO f243_30 rfl (b2 (Int32.not_lt.mp c1)) (Nat.le_of_ble_eq_true rfl) rfl ?_
    refine Ew.ifc f243_31 rfl rfl (fun c2 => ?_) (fun c2 => ?_)
    · refine Ew.ld f243_37 rfl rfl rfl rfl ?_
      refine Ew.getp (v := some (1, 0, 6)) f243_38 rfl rfl rfl ?_
      refine Ew.ld f243_41 rfl rfl rfl rfl ?_
      refine Ew.ialdnO f243_42 rfl (b3 (Int32.not_lt.mp c1) c2) (Nat.le_of_ble_eq_true rfl) rfl ?_
      refine Ew.ld f243_43 rfl rfl rfl rfl ?_
      refine Ew.getp (v := some (1, 0, 6)) f243_44 rfl rfl rfl ?_
      refine Ew.ld f243_47 rfl rfl rfl rfl ?_
      refine Ew.ialdnO f243_48 rfl (b4 (Int32.not_lt.mp c1) c2) (Nat.le_of_ble_eq_true rfl) rfl ?_
      refine Ew.icmp f243_49 rfl rfl (fun c3 => ?_) (fun c3 => ?_)
      · refine Ew.ld f243_55 rfl rfl rfl rfl ?_
        refine Ew.ifc f243_57 rfl rfl (fun c4 => ?_) (fun c4 => ?_)
        · refine Ew.op (st' := zi ((-13)) :: _) f243_96 rfl rfl ?_
          refine Ew.ireti f243_98 ?_
          exact h2 (Int32.not_lt.mp c1) c2 c3 c4
        · refine Ew.ld f243_60 rfl rfl rfl rfl ?_
          refine Ew.ifc f243_61 rfl rfl (fun c5 => ?_) (fun c5 => ?_)
          · refine Ew.op (st' := zi ((-13)) :: _) f243_96 rfl rfl ?_
            refine Ew.ireti f243_98 ?_
            exact h3 (Int32.not_lt.mp c1) c2 c3 (Int32.not_lt.mp c4) c5
          · refine Ew.ld f243_64 rfl rfl rfl rfl ?_
            refine Ew.ifc f243_66 rfl rfl (fun c6 => ?_) (fun c6 => ?_)
            · refine Ew.op (st' := zi ((-13)) :: _) f243_96 rfl rfl ?_
              refine Ew.ireti f243_98 ?_
              exact h4 (Int32.not_lt.mp c1) c2 c3 (Int32.not_lt.mp c4) (Int32.not_lt.mp c5) c6
            · refine Ew.ld f243_69 rfl rfl rfl rfl ?_
              refine Ew.ld f243_71 rfl rfl rfl rfl ?_
              refine Ew.getp (v := some (1, 0, 7)) f243_72 rfl rfl rfl ?_
              refine Ew.ld f243_75 rfl rfl rfl rfl ?_
              refine Ew.ialdnO f243_76 rfl (b5 (Int32.not_lt.mp c1) c2 c3 (Int32.not_lt.mp c4) (Int32.not_lt.mp c5) (Int32.not_lt.mp c6)) (Nat.le_of_ble_eq_true rfl) rfl ?_
              refine Ew.ld f243_77 rfl rfl rfl rfl ?_
              refine Ew.op (st' := zi ((ρ 7 a) - i) :: _) f243_78 rfl rfl ?_
              refine Ew.icmp f243_79 rfl rfl (fun c7 => ?_) (fun c7 => ?_)
              · refine Ew.op (st' := zi ((-13)) :: _) f243_96 rfl rfl ?_
                refine Ew.ireti f243_98 ?_
                exact h5 (Int32.not_lt.mp c1) c2 c3 (Int32.not_lt.mp c4) (Int32.not_lt.mp c5) (Int32.not_lt.mp c6) c7
              · refine Ew.ld f243_82 rfl rfl rfl rfl ?_
                refine Ew.ld f243_84 rfl rfl rfl rfl ?_
                refine Ew.getp (v := some (1, 0, 7)) f243_85 rfl rfl rfl ?_
                refine Ew.ld f243_88 rfl rfl rfl rfl ?_
                refine Ew.ialdnO f243_89 rfl (b6 (Int32.not_lt.mp c1) c2 c3 (Int32.not_lt.mp c4) (Int32.not_lt.mp c5) (Int32.not_lt.mp c6) (Int32.not_lt.mp c7)) (Nat.le_of_ble_eq_true rfl) rfl ?_
                refine Ew.ld f243_90 rfl rfl rfl rfl ?_
                refine Ew.op (st' := zi ((ρ 7 b) - k) :: _) f243_92 rfl rfl ?_
                refine Ew.icmp f243_93 rfl rfl (fun c8 => ?_) (fun c8 => ?_)
                · exact h6 (Int32.not_lt.mp c1) c2 c3 (Int32.not_lt.mp c4) (Int32.not_lt.mp c5) (Int32.not_lt.mp c6) (Int32.not_lt.mp c7) c8
                · refine Ew.op (st' := zi ((-13)) :: _) f243_96 rfl rfl ?_
                  refine Ew.ireti f243_98 ?_
                  exact h7 (Int32.not_lt.mp c1) c2 c3 (Int32.not_lt.mp c4) (Int32.not_lt.mp c5) (Int32.not_lt.mp c6) (Int32.not_lt.mp c7) (Int32.not_le.mp c8)
      · refine Ew.op (st' := zi ((-12)) :: _) f243_52 rfl rfl ?_
        refine Ew.ireti f243_54 ?_
        exact h8 (Int32.not_lt.mp c1) c2 c3
    · refine Ew.op (st' := zi ((-11)) :: _) f243_34 rfl rfl ?_
      refine Ew.ireti f243_36 ?_
      exact h9 (Int32.not_lt.mp c1) (Int32.not_le.mp c2)
theorem g243_99 {d c s : Nat} {a b i k n : Nat} {X : zM} {ρ : Nat → Nat → Int32} {l : Nat → Nat → Int64} {Q : Option zV → zM → Prop}
    (h1 : Ev d c s 243 102 [some (zr (some (1, 0, 0))), some (zi (nI a)), some (zi (nI i)), some (zi (nI b)), some (zi (nI k)), some (zi (nI n)), some (zi (nI 0))] [] (OM X 1 0 ρ l) Q) : Ev d c s 243 99 [some (zr (some (1, 0, 0))), some (zi (nI a)), some (zi (nI i)), some (zi (nI b)), some (zi (nI k)), some (zi (nI n)), none] [] (OM X 1 0 ρ l) Q := by
  refine Ew.op (st' := zi (nI 0) :: _) f243_99 rfl rfl ?_
  refine Ew.sr (ls' := [some (zr (some (1, 0, 0))), some (zi (nI a)), some (zi (nI i)), some (zi (nI b)), some (zi (nI k)), some (zi (nI n)), some (zi (nI 0))]) f243_100 rfl rfl (Nat.le_of_ble_eq_true rfl) rfl rfl ?_
  exact h1
theorem g243_102 {d c s : Nat} {a b i k n u : Nat} {X : zM} {ρ : Nat → Nat → Int32} {l : Nat → Nat → Int64} {Q : Option zV → zM → Prop} (nb_u : u < 5000) (nb_n : n < 5000)
    (h1 : (n ≤ u) → Ev d c s 243 139 [some (zr (some (1, 0, 0))), some (zi (nI a)), some (zi (nI i)), some (zi (nI b)), some (zi (nI k)), some (zi (nI n)), some (zi (nI 0))] [] (OM X 1 0 ρ l) Q)
    (b1 : (u < n) → 24 * a + i + u < 96)
    (b2 : (u < n) → u < 24)
    (h2 : (u < n) → Ev d c s 243 102 [some (zr (some (1, 0, 0))), some (zi (nI a)), some (zi (nI i)), some (zi (nI b)), some (zi (nI k)), some (zi (nI n)), some (zi (nI (u + 1)))] [] (OM X 1 0 ρ (zu l 9 u (l 8 (24 * a + i + u)))) Q) : Ev d c s 243 102 [some (zr (some (1, 0, 0))), some (zi (nI a)), some (zi (nI i)), some (zi (nI b)), some (zi (nI k)), some (zi (nI n)), some (zi (nI u))] [] (OM X 1 0 ρ l) Q := by
  refine Ew.ld f243_102 rfl rfl rfl rfl ?_
  refine Ew.ld f243_104 rfl rfl rfl rfl ?_
  refine Ew.icmp f243_106 rfl rfl (fun c1 => ?_) (fun c1 => ?_)
  · refine Ew.op (st' := zi (nI 0) :: _) f243_136 rfl rfl ?_
    refine Ew.sr (ls' := [some (zr (some (1, 0, 0))), some (zi (nI a)), some (zi (nI i)), some (zi (nI b)), some (zi (nI k)), some (zi (nI n)), some (zi (nI 0))]) f243_137 rfl rfl (Nat.le_of_ble_eq_true rfl) rfl rfl ?_
    exact h1 ((zle_iff nb_n nb_u).mp c1)
  · refine Ew.ld f243_109 rfl rfl rfl rfl ?_
    refine Ew.getp (v := some (1, 0, 9)) f243_110 rfl rfl rfl ?_
    refine Ew.ld f243_113 rfl rfl rfl rfl ?_
    refine Ew.ld f243_115 rfl rfl rfl rfl ?_
    refine Ew.getp (v := some (1, 0, 8)) f243_116 rfl rfl rfl ?_
    refine Ew.op (st' := zi (nI 24) :: _) f243_119 rfl rfl ?_
    refine Ew.ld f243_121 rfl rfl rfl rfl ?_
    refine Ew.muln f243_122 rfl ?_
    refine Ew.ld f243_123 rfl rfl rfl rfl ?_
    refine Ew.addn f243_124 rfl ?_
    refine Ew.ld f243_125 rfl rfl rfl rfl ?_
    refine Ew.addn f243_127 rfl ?_
    refine Ew.laldnO f243_128 rfl (b1 (Nat.not_le.mp fun e => c1 ((zle_iff nb_n nb_u).mpr e))) (Nat.le_of_ble_eq_true rfl) rfl ?_
    refine Ew.lastnO f243_129 rfl (b2 (Nat.not_le.mp fun e => c1 ((zle_iff nb_n nb_u).mpr e))) (Nat.le_of_ble_eq_true rfl) rfl ?_
    refine Ew.iinc (v := nI (u + 1)) (ls' := [some (zr (some (1, 0, 0))), some (zi (nI a)), some (zi (nI i)), some (zi (nI b)), some (zi (nI k)), some (zi (nI n)), some (zi (nI (u + 1)))]) f243_130 rfl (nI_1 _) rfl rfl ?_
    refine Ew.goto f243_133 rfl ?_
    exact h2 (Nat.not_le.mp fun e => c1 ((zle_iff nb_n nb_u).mpr e))
theorem g243_139 {d c s : Nat} {a b i k n u : Nat} {X : zM} {ρ : Nat → Nat → Int32} {l : Nat → Nat → Int64} {Q : Option zV → zM → Prop} (nb_u : u < 5000) (nb_n : n < 5000)
    (h1 : (n ≤ u) → Q (some (zi (nI n))) (OM X 1 0 ρ l))
    (b1 : (u < n) → u < 24)
    (b2 : (u < n) → 24 * b + k + u < 96)
    (h2 : (u < n) → Ev d c s 243 139 [some (zr (some (1, 0, 0))), some (zi (nI a)), some (zi (nI i)), some (zi (nI b)), some (zi (nI k)), some (zi (nI n)), some (zi (nI (u + 1)))] [] (OM X 1 0 ρ (zu l 8 (24 * b + k + u) (l 9 u))) Q) : Ev d c s 243 139 [some (zr (some (1, 0, 0))), some (zi (nI a)), some (zi (nI i)), some (zi (nI b)), some (zi (nI k)), some (zi (nI n)), some (zi (nI u))] [] (OM X 1 0 ρ l) Q := by
  refine Ew.ld f243_139 rfl rfl rfl rfl ?_
  refine Ew.ld f243_141 rfl rfl rfl rfl ?_
  refine Ew.icmp f243_143 rfl rfl (fun c1 => ?_) (fun c1 => ?_)
  · refine Ew.ld f243_174 rfl rfl rfl rfl ?_
    refine Ew.ireti f243_176 ?_
    exact h1 ((zle_iff nb_n nb_u).mp c1)
  · refine Ew.ld f243_146 rfl rfl rfl rfl ?_
    refine Ew.getp (v := some (1, 0, 8)) f243_147 rfl rfl rfl ?_
    refine Ew.op (st' := zi (nI 24) :: _) f243_150 rfl rfl ?_
    refine Ew.ld f243_152 rfl rfl rfl rfl ?_
    refine Ew.muln f243_153 rfl ?_
    refine Ew.ld f243_154 rfl rfl rfl rfl ?_
    refine Ew.addn f243_156 rfl ?_
    refine Ew.ld f243_157 rfl rfl rfl rfl ?_
    refine Ew.addn f243_159 rfl ?_
    refine Ew.ld f243_160 rfl rfl rfl rfl ?_
    refine Ew.getp (v := some (1, 0, 9)) f243_161 rfl rfl rfl ?_
    refine Ew.ld f243_164 rfl rfl rfl rfl ?_
    refine Ew.laldnO f243_166 rfl (b1 (Nat.not_le.mp fun e => c1 ((zle_iff nb_n nb_u).mpr e))) (Nat.le_of_ble_eq_true rfl) rfl ?_
    refine Ew.lastnO f243_167 rfl (b2 (Nat.not_le.mp fun e => c1 ((zle_iff nb_n nb_u).mpr e))) (Nat.le_of_ble_eq_true rfl) rfl ?_
    refine Ew.iinc (v := nI (u + 1)) (ls' := [some (zr (some (1, 0, 0))), some (zi (nI a)), some (zi (nI i)), some (zi (nI b)), some (zi (nI k)), some (zi (nI n)), some (zi (nI (u + 1)))]) f243_168 rfl (nI_1 _) rfl rfl ?_
    refine Ew.goto f243_171 rfl ?_
    exact h2 (Nat.not_le.mp fun e => c1 ((zle_iff nb_n nb_u).mpr e))
