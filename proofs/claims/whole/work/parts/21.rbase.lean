/-! the reference: small questions, who is in what -/
theorem g151_0 {d c s : Nat} {v a b : Int64} {X : zM} {ρ : Nat → Nat → Int32} {l : Nat → Nat → Int64} {Q : Option zV → zM → Prop}
    (h1 : ((lg_cmp v a) < 0) → Q (some (zi (nI 0))) (OM X 1 0 ρ l))
    (h2 : (0 ≤ (lg_cmp v a)) → (0 < (lg_cmp v b)) → Q (some (zi (nI 0))) (OM X 1 0 ρ l))
    (h3 : (0 ≤ (lg_cmp v a)) → ((lg_cmp v b) ≤ 0) → Q (some (zi (nI 1))) (OM X 1 0 ρ l)) : Ev d c s 151 0 [some (zl v), none, some (zl a), none, some (zl b), none] [] (OM X 1 0 ρ l) Q := by
  refine Ew.ld f151_0 rfl rfl rfl rfl ?_
  refine Ew.ld f151_1 rfl rfl rfl rfl ?_
  refine Ew.op (st' := zi (lg_cmp v a) :: _) f151_2 rfl rfl ?_
  refine Ew.ifc f151_3 rfl rfl (fun c1 => ?_) (fun c1 => ?_)
  · refine Ew.op (st' := zi (nI 0) :: _) f151_17 rfl rfl ?_
    refine Ew.iretb f151_18 (Or.inl rfl) ?_
    exact h1 c1
  · refine Ew.ld f151_6 rfl rfl rfl rfl ?_
    refine Ew.ld f151_7 rfl rfl rfl rfl ?_
    refine Ew.op (st' := zi (lg_cmp v b) :: _) f151_9 rfl rfl ?_
    refine Ew.ifc f151_10 rfl rfl (fun c2 => ?_) (fun c2 => ?_)
    · refine Ew.op (st' := zi (nI 0) :: _) f151_17 rfl rfl ?_
      refine Ew.iretb f151_18 (Or.inl rfl) ?_
      exact h2 (Int32.not_lt.mp c1) c2
    · refine Ew.op (st' := zi (nI 1) :: _) f151_13 rfl rfl ?_
      refine Ew.goto f151_14 rfl ?_
      refine Ew.iretb f151_18 (Or.inr rfl) ?_
      exact h3 (Int32.not_lt.mp c1) (Int32.not_lt.mp c2)
theorem sp_in {d c s : Nat} {v a b : Int64} {X : zM} {ρ : Nat → Nat → Int32} {l : Nat → Nat → Int64} {Q : Option zV → zM → Prop} (k1 : a ≤ v ∧ v ≤ b → Q (some (zi (nI 1))) (OM X 1 0 ρ l)) (k0 : ¬ (a ≤ v ∧ v ≤ b) → Q (some (zi (nI 0))) (OM X 1 0 ρ l)) : Ev d c s 151 0 [some (zl v), none, some (zl a), none, some (zl b), none] [] (OM X 1 0 ρ l) Q := by
  refine g151_0 (fun h => k0 fun g => ?_) (fun h1 h2 => k0 fun g => ?_) (fun h1 h2 => k1 ((zin_iff v a b).mp ⟨Int32.not_lt.mpr h1, Int32.not_lt.mpr h2⟩))
  · exact ((zin_iff v a b).mpr g).1 h
  · exact ((zin_iff v a b).mpr g).2 h2
theorem g154_0 {d c s : Nat} {v : Int64} {X : zM} {ρ : Nat → Nat → Int32} {l : Nat → Nat → Int64} {Q : Option zV → zM → Prop}
    (h1 : ((lN 0) ≤ v ∧ v ≤ (lN 3)) → Q (some (zi (nI 1))) (OM X 1 0 ρ l))
    (h2 : (¬ ((lN 0) ≤ v ∧ v ≤ (lN 3))) → Q (some (zi (nI 0))) (OM X 1 0 ρ l)) : Ev (d + 1) c s 154 0 [some (zl v), none] [] (OM X 1 0 ρ l) Q := by
  refine Ew.ld f154_0 rfl rfl rfl rfl ?_
  refine Ew.op (st' := zl (lN 0) :: _) f154_1 rfl rfl ?_
  refine Ew.op (st' := zl (lN 3) :: _) f154_2 rfl rfl ?_
  refine Ew.call0 (ls0 := [some (zl v), none, some (zl (lN 0)), none, some (zl (lN 3)), none]) f154_5 rfl (Nat.le_of_ble_eq_true rfl) rfl rfl (Nat.le_of_ble_eq_true rfl) trivial (Nat.le_of_ble_eq_true rfl) rfl rfl ?_
  refine sp_in (fun c1 => ?_) (fun c1 => ?_)
  · refine Ew.iretb f154_8 (Or.inr rfl) ?_
    exact h1 c1
  · refine Ew.iretb f154_8 (Or.inl rfl) ?_
    exact h2 c1
theorem sp_isTask {d c s : Nat} {v : Int64} {X : zM} {ρ : Nat → Nat → Int32} {l : Nat → Nat → Int64} {Q : Option zV → zM → Prop} (k1 : lN 0 ≤ v ∧ v ≤ lN 3 → Q (some (zi (nI 1))) (OM X 1 0 ρ l)) (k0 : ¬ (lN 0 ≤ v ∧ v ≤ lN 3) → Q (some (zi (nI 0))) (OM X 1 0 ρ l)) : Ev (d + 1) c s 154 0 [some (zl v), none] [] (OM X 1 0 ρ l) Q := g154_0 k1 k0
theorem g155_0 {d c s : Nat} {v : Int32} {X : zM} {ρ : Nat → Nat → Int32} {l : Nat → Nat → Int64} {Q : Option zV → zM → Prop}
    (h1 : ((lN 0) ≤ v.toInt64 ∧ v.toInt64 ≤ (lN 5)) → Q (some (zi (nI 1))) (OM X 1 0 ρ l))
    (h2 : (¬ ((lN 0) ≤ v.toInt64 ∧ v.toInt64 ≤ (lN 5))) → Q (some (zi (nI 0))) (OM X 1 0 ρ l)) : Ev (d + 1) c s 155 0 [some (zi v)] [] (OM X 1 0 ρ l) Q := by
  refine Ew.ld f155_0 rfl rfl rfl rfl ?_
  refine Ew.op (st' := zl v.toInt64 :: _) f155_1 rfl rfl ?_
  refine Ew.op (st' := zl (lN 0) :: _) f155_2 rfl rfl ?_
  refine Ew.op (st' := zl (lN 5) :: _) f155_3 rfl rfl ?_
  refine Ew.call0 (ls0 := [some (zl v.toInt64), none, some (zl (lN 0)), none, some (zl (lN 5)), none]) f155_6 rfl (Nat.le_of_ble_eq_true rfl) rfl rfl (Nat.le_of_ble_eq_true rfl) trivial (Nat.le_of_ble_eq_true rfl) rfl rfl ?_
  refine sp_in (fun c1 => ?_) (fun c1 => ?_)
  · refine Ew.iretb f155_9 (Or.inr rfl) ?_
    exact h1 c1
  · refine Ew.iretb f155_9 (Or.inl rfl) ?_
    exact h2 c1
theorem sp_isGate {d c s : Nat} {v : Int32} {X : zM} {ρ : Nat → Nat → Int32} {l : Nat → Nat → Int64} {Q : Option zV → zM → Prop} (k1 : lN 0 ≤ v.toInt64 ∧ v.toInt64 ≤ lN 5 → Q (some (zi (nI 1))) (OM X 1 0 ρ l)) (k0 : ¬ (lN 0 ≤ v.toInt64 ∧ v.toInt64 ≤ lN 5) → Q (some (zi (nI 0))) (OM X 1 0 ρ l)) : Ev (d + 1) c s 155 0 [some (zi v)] [] (OM X 1 0 ρ l) Q := g155_0 k1 k0
theorem g235_0 {d c s : Nat} {v : Int32} {X : zM} {ρ : Nat → Nat → Int32} {l : Nat → Nat → Int64} {Q : Option zV → zM → Prop}
    (h1 : ((lN 0) ≤ v.toInt64 ∧ v.toInt64 ≤ (lN 3)) → Q (some (zi (nI 1))) (OM X 1 0 ρ l))
    (h2 : (¬ ((lN 0) ≤ v.toInt64 ∧ v.toInt64 ≤ (lN 3))) → Q (some (zi (nI 0))) (OM X 1 0 ρ l)) : Ev (d + 1) c s 235 0 [some (zi v)] [] (OM X 1 0 ρ l) Q := by
  refine Ew.ld f235_0 rfl rfl rfl rfl ?_
  refine Ew.op (st' := zl v.toInt64 :: _) f235_1 rfl rfl ?_
  refine Ew.op (st' := zl (lN 0) :: _) f235_2 rfl rfl ?_
  refine Ew.op (st' := zl (lN 3) :: _) f235_3 rfl rfl ?_
  refine Ew.call0 (ls0 := [some (zl v.toInt64), none, some (zl (lN 0)), none, some (zl (lN 3)), none]) f235_6 rfl (Nat.le_of_ble_eq_true rfl) rfl rfl (Nat.le_of_ble_eq_true rfl) trivial (Nat.le_of_ble_eq_true rfl) rfl rfl ?_
  refine sp_in (fun c1 => ?_) (fun c1 => ?_)
  · refine Ew.iretb f235_9 (Or.inr rfl) ?_
    exact h1 c1
  · refine Ew.iretb f235_9 (Or.inl rfl) ?_
    exact h2 c1
theorem sp_isSheet {d c s : Nat} {v : Int32} {X : zM} {ρ : Nat → Nat → Int32} {l : Nat → Nat → Int64} {Q : Option zV → zM → Prop} (k1 : lN 0 ≤ v.toInt64 ∧ v.toInt64 ≤ lN 3 → Q (some (zi (nI 1))) (OM X 1 0 ρ l)) (k0 : ¬ (lN 0 ≤ v.toInt64 ∧ v.toInt64 ≤ lN 3) → Q (some (zi (nI 0))) (OM X 1 0 ρ l)) : Ev (d + 1) c s 235 0 [some (zi v)] [] (OM X 1 0 ρ l) Q := g235_0 k1 k0
theorem zn1 : ¬ nI 1 = 0 := by decide
theorem zn2 : ¬ nI 2 = 0 := by decide
theorem zn21 : ¬ nI 2 = nI 1 := by decide
/-- how many times a task is in a gate behind so many steps -/
def rIns (ρ : Nat → Nat → Int32) (t : Nat) : Nat → Int32 → Int32
  | 0, _ => nI 0
  | n + 1, g => rIns ρ t n g + (if ρ 11 (30 * t + n) = g then (if ρ 10 (30 * t + n) = 0 then nI 1 else if ρ 10 (30 * t + n) = nI 1 then -1 else nI 0) else nI 0)
theorem g192_0 {d c s : Nat} {t u : Nat} {g : Int32} {X : zM} {ρ : Nat → Nat → Int32} {l : Nat → Nat → Int64} {Q : Option zV → zM → Prop}
    (h1 : Ev d c s 192 6 [some (zr (some (1, 0, 0))), some (zi (nI t)), some (zi (nI u)), some (zi g), some (zi (nI 0)), some (zi (nI 0))] [] (OM X 1 0 ρ l) Q) : Ev d c s 192 0 [some (zr (some (1, 0, 0))), some (zi (nI t)), some (zi (nI u)), some (zi g), none, none] [] (OM X 1 0 ρ l) Q := by
  refine Ew.op (st' := zi (nI 0) :: _) f192_0 rfl rfl ?_
  refine Ew.sr (ls' := [some (zr (some (1, 0, 0))), some (zi (nI t)), some (zi (nI u)), some (zi g), some (zi (nI 0)), none]) f192_1 rfl rfl (Nat.le_of_ble_eq_true rfl) rfl rfl ?_
  refine Ew.op (st' := zi (nI 0) :: _) f192_3 rfl rfl ?_
  refine Ew.sr (ls' := [some (zr (some (1, 0, 0))), some (zi (nI t)), some (zi (nI u)), some (zi g), some (zi (nI 0)), some (zi (nI 0))]) f192_4 rfl rfl (Nat.le_of_ble_eq_true rfl) rfl rfl ?_
  exact h1
theorem g192_6 {d c s : Nat} {t u k : Nat} {g x : Int32} {X : zM} {ρ : Nat → Nat → Int32} {l : Nat → Nat → Int64} {Q : Option zV → zM → Prop} (nb_k : k < 5000) (nb_u : u < 5000)
    (h1 : (u ≤ k) → Q (some (zi x)) (OM X 1 0 ρ l))
    (b1 : (k < u) → 30 * t + k < 120)
    (b2 : (k < u) → ((ρ 11 (30 * t + k)) = g) → 30 * t + k < 120)
    (b3 : (k < u) → ((ρ 11 (30 * t + k)) = g) → (¬ (ρ 10 (30 * t + k)) = 0) → 30 * t + k < 120)
    (h2 : (k < u) → ((ρ 11 (30 * t + k)) = g) → (¬ (ρ 10 (30 * t + k)) = 0) → (¬ (ρ 10 (30 * t + k)) = (nI 1)) → Ev (d + 1) c s 192 6 [some (zr (some (1, 0, 0))), some (zi (nI t)), some (zi (nI u)), some (zi g), some (zi (x + (nI 0))), some (zi (nI (k + 1)))] [] (OM X 1 0 ρ l) Q)
    (h3 : (k < u) → ((ρ 11 (30 * t + k)) = g) → (¬ (ρ 10 (30 * t + k)) = 0) → ((ρ 10 (30 * t + k)) = (nI 1)) → Ev (d + 1) c s 192 6 [some (zr (some (1, 0, 0))), some (zi (nI t)), some (zi (nI u)), some (zi g), some (zi (x + ((-1)))), some (zi (nI (k + 1)))] [] (OM X 1 0 ρ l) Q)
    (h4 : (k < u) → ((ρ 11 (30 * t + k)) = g) → ((ρ 10 (30 * t + k)) = 0) → Ev (d + 1) c s 192 6 [some (zr (some (1, 0, 0))), some (zi (nI t)), some (zi (nI u)), some (zi g), some (zi (x + (nI 1))), some (zi (nI (k + 1)))] [] (OM X 1 0 ρ l) Q)
    (h5 : (k < u) → (¬ (ρ 11 (30 * t + k)) = g) → Ev (d + 1) c s 192 6 [some (zr (some (1, 0, 0))), some (zi (nI t)), some (zi (nI u)), some (zi g), some (zi (x + (nI 0))), some (zi (nI (k + 1)))] [] (OM X 1 0 ρ l) Q) : Ev (d + 1) c s 192 6 [some (zr (some (1, 0, 0))), some (zi (nI t)), some (zi (nI u)), some (zi g), some (zi x), some (zi (nI k))] [] (OM X 1 0 ρ l) Q := by
  refine Ew.ld f192_6 rfl rfl rfl rfl ?_
  refine Ew.ld f192_8 rfl rfl rfl rfl ?_
  refine Ew.icmp f192_9 rfl rfl (fun c1 => ?_) (fun c1 => ?_)
  · refine Ew.ld f192_68 rfl rfl rfl rfl ?_
    refine Ew.ireti f192_70 ?_
    exact h1 ((zle_iff nb_u nb_k).mp c1)
  · refine Ew.ld f192_12 rfl rfl rfl rfl ?_
    refine Ew.ld f192_14 rfl rfl rfl rfl ?_
    refine Ew.ld f192_15 rfl rfl rfl rfl ?_
    refine Ew.ld f192_16 rfl rfl rfl rfl ?_
    refine Ew.call0 (ls0 := [some (zr (some (1, 0, 0))), some (zi (nI t)), some (zi (nI k))]) f192_18 rfl (Nat.le_of_ble_eq_true rfl) rfl rfl (Nat.le_of_ble_eq_true rfl) rfl (Nat.le_of_ble_eq_true rfl) rfl rfl ?_
    refine Ew.ld f171_0 rfl rfl rfl rfl ?_
    refine Ew.getp (v := some (1, 0, 11)) f171_1 rfl rfl rfl ?_
    refine Ew.op (st' := zi (nI 30) :: _) f171_4 rfl rfl ?_
    refine Ew.ld f171_6 rfl rfl rfl rfl ?_
    refine Ew.muln f171_7 rfl ?_
    refine Ew.ld f171_8 rfl rfl rfl rfl ?_
    refine Ew.addn f171_9 rfl ?_
    refine Ew.ialdnO f171_10 rfl (b1 (Nat.not_le.mp fun e => c1 ((zle_iff nb_u nb_k).mpr e))) (Nat.le_of_ble_eq_true rfl) rfl ?_
    refine Ew.ireti f171_11 ?_
    show Ev (d + 1) c s 192 21 [some (zr (some (1, 0, 0))), some (zi (nI t)), some (zi (nI u)), some (zi g), some (zi x), some (zi (nI k))] [zi (ρ 11 (30 * t + k)), zi x] (OM X 1 0 ρ l) Q
    refine Ew.ld f192_21 rfl rfl rfl rfl ?_
    refine Ew.icmp f192_22 rfl rfl (fun c2 => ?_) (fun c2 => ?_)
    · refine Ew.ld f192_29 rfl rfl rfl rfl ?_
      refine Ew.ld f192_30 rfl rfl rfl rfl ?_
      refine Ew.ld f192_31 rfl rfl rfl rfl ?_
      refine Ew.call0 (ls0 := [some (zr (some (1, 0, 0))), some (zi (nI t)), some (zi (nI k))]) f192_33 rfl (Nat.le_of_ble_eq_true rfl) rfl rfl (Nat.le_of_ble_eq_true rfl) rfl (Nat.le_of_ble_eq_true rfl) rfl rfl ?_
      refine Ew.ld f170_0 rfl rfl rfl rfl ?_
      refine Ew.getp (v := some (1, 0, 10)) f170_1 rfl rfl rfl ?_
      refine Ew.op (st' := zi (nI 30) :: _) f170_4 rfl rfl ?_
      refine Ew.ld f170_6 rfl rfl rfl rfl ?_
      refine Ew.muln f170_7 rfl ?_
      refine Ew.ld f170_8 rfl rfl rfl rfl ?_
      refine Ew.addn f170_9 rfl ?_
      refine Ew.ialdnO f170_10 rfl (b2 (Nat.not_le.mp fun e => c1 ((zle_iff nb_u nb_k).mpr e)) c2) (Nat.le_of_ble_eq_true rfl) rfl ?_
      refine Ew.ireti f170_11 ?_
      show Ev (d + 1) c s 192 36 [some (zr (some (1, 0, 0))), some (zi (nI t)), some (zi (nI u)), some (zi g), some (zi x), some (zi (nI k))] [zi (ρ 10 (30 * t + k)), zi x] (OM X 1 0 ρ l) Q
      refine Ew.ifc f192_36 rfl rfl (fun c3 => ?_) (fun c3 => ?_)
      · refine Ew.ld f192_43 rfl rfl rfl rfl ?_
        refine Ew.ld f192_44 rfl rfl rfl rfl ?_
        refine Ew.ld f192_45 rfl rfl rfl rfl ?_
        refine Ew.call0 (ls0 := [some (zr (some (1, 0, 0))), some (zi (nI t)), some (zi (nI k))]) f192_47 rfl (Nat.le_of_ble_eq_true rfl) rfl rfl (Nat.le_of_ble_eq_true rfl) rfl (Nat.le_of_ble_eq_true rfl) rfl rfl ?_
        refine Ew.ld f170_0 rfl rfl rfl rfl ?_
        refine Ew.getp (v := some (1, 0, 10)) f170_1 rfl rfl rfl ?_
        refine Ew.op (st' := zi (nI 30) :: _) f170_4 rfl rfl ?_
        refine Ew.ld f170_6 rfl rfl rfl rfl ?_
        refine Ew.muln f170_7 rfl ?_
        refine Ew.ld f170_8 rfl rfl rfl rfl ?_
        refine Ew.addn f170_9 rfl ?_
        refine Ew.ialdnO f170_10 rfl (b3 (Nat.not_le.mp fun e => c1 ((zle_iff nb_u nb_k).mpr e)) c2 c3) (Nat.le_of_ble_eq_true rfl) rfl ?_
        refine Ew.ireti f170_11 ?_
        show Ev (d + 1) c s 192 50 [some (zr (some (1, 0, 0))), some (zi (nI t)), some (zi (nI u)), some (zi g), some (zi x), some (zi (nI k))] [zi (ρ 10 (30 * t + k)), zi x] (OM X 1 0 ρ l) Q
        refine Ew.op (st' := zi (nI 1) :: _) f192_50 rfl rfl ?_
        refine Ew.icmp f192_51 rfl rfl (fun c4 => ?_) (fun c4 => ?_)
        · refine Ew.op (st' := zi (nI 0) :: _) f192_58 rfl rfl ?_
          refine Ew.op (st' := zi (x + (nI 0)) :: _) f192_59 rfl rfl ?_
          refine Ew.sr (ls' := [some (zr (some (1, 0, 0))), some (zi (nI t)), some (zi (nI u)), some (zi g), some (zi (x + (nI 0))), some (zi (nI k))]) f192_60 rfl rfl (Nat.le_of_ble_eq_true rfl) rfl rfl ?_
          refine Ew.iinc (v := nI (k + 1)) (ls' := [some (zr (some (1, 0, 0))), some (zi (nI t)), some (zi (nI u)), some (zi g), some (zi (x + (nI 0))), some (zi (nI (k + 1)))]) f192_62 rfl (nI_1 _) rfl rfl ?_
          refine Ew.goto f192_65 rfl ?_
          exact h2 (Nat.not_le.mp fun e => c1 ((zle_iff nb_u nb_k).mpr e)) c2 c3 c4
        · refine Ew.op (st' := zi ((-1)) :: _) f192_54 rfl rfl ?_
          refine Ew.goto f192_55 rfl ?_
          refine Ew.op (st' := zi (x + ((-1))) :: _) f192_59 rfl rfl ?_
          refine Ew.sr (ls' := [some (zr (some (1, 0, 0))), some (zi (nI t)), some (zi (nI u)), some (zi g), some (zi (x + ((-1)))), some (zi (nI k))]) f192_60 rfl rfl (Nat.le_of_ble_eq_true rfl) rfl rfl ?_
          refine Ew.iinc (v := nI (k + 1)) (ls' := [some (zr (some (1, 0, 0))), some (zi (nI t)), some (zi (nI u)), some (zi g), some (zi (x + ((-1)))), some (zi (nI (k + 1)))]) f192_62 rfl (nI_1 _) rfl rfl ?_
          refine Ew.goto f192_65 rfl ?_
          exact h3 (Nat.not_le.mp fun e => c1 ((zle_iff nb_u nb_k).mpr e)) c2 c3 (Classical.not_not.mp c4)
      · refine Ew.op (st' := zi (nI 1) :: _) f192_39 rfl rfl ?_
        refine Ew.goto f192_40 rfl ?_
        refine Ew.op (st' := zi (x + (nI 1)) :: _) f192_59 rfl rfl ?_
        refine Ew.sr (ls' := [some (zr (some (1, 0, 0))), some (zi (nI t)), some (zi (nI u)), some (zi g), some (zi (x + (nI 1))), some (zi (nI k))]) f192_60 rfl rfl (Nat.le_of_ble_eq_true rfl) rfl rfl ?_
        refine Ew.iinc (v := nI (k + 1)) (ls' := [some (zr (some (1, 0, 0))), some (zi (nI t)), some (zi (nI u)), some (zi g), some (zi (x + (nI 1))), some (zi (nI (k + 1)))]) f192_62 rfl (nI_1 _) rfl rfl ?_
        refine Ew.goto f192_65 rfl ?_
        exact h4 (Nat.not_le.mp fun e => c1 ((zle_iff nb_u nb_k).mpr e)) c2 (Classical.not_not.mp c3)
    · refine Ew.op (st' := zi (nI 0) :: _) f192_25 rfl rfl ?_
      refine Ew.goto f192_26 rfl ?_
      refine Ew.op (st' := zi (x + (nI 0)) :: _) f192_59 rfl rfl ?_
      refine Ew.sr (ls' := [some (zr (some (1, 0, 0))), some (zi (nI t)), some (zi (nI u)), some (zi g), some (zi (x + (nI 0))), some (zi (nI k))]) f192_60 rfl rfl (Nat.le_of_ble_eq_true rfl) rfl rfl ?_
      refine Ew.iinc (v := nI (k + 1)) (ls' := [some (zr (some (1, 0, 0))), some (zi (nI t)), some (zi (nI u)), some (zi g), some (zi (x + (nI 0))), some (zi (nI (k + 1)))]) f192_62 rfl (nI_1 _) rfl rfl ?_
      refine Ew.goto f192_65 rfl ?_
      exact h5 (Nat.not_le.mp fun e => c1 ((zle_iff nb_u nb_k).mpr e)) c2
theorem sp_insides {d c s t u : Nat} {g : Int32} {X : zM} {ρ : Nat → Nat → Int32} {l : Nat → Nat → Int64} {Q : Option zV → zM → Prop} (ht : t < 4) (hu : u ≤ 30) (k : Q (some (zi (rIns ρ t u g))) (OM X 1 0 ρ l)) : Ev (d + 1) c s 192 0 [some (zr (some (1, 0, 0))), some (zi (nI t)), some (zi (nI u)), some (zi g), none, none] [] (OM X 1 0 ρ l) Q := by
  refine g192_0 ?_
  refine loopN (fun k => Ev (d + 1) c s 192 6 [some (zr (some (1, 0, 0))), some (zi (nI t)), some (zi (nI u)), some (zi g), some (zi (rIns ρ t k g)), some (zi (nI k))] [] (OM X 1 0 ρ l) Q) u (fun k hk hE => ?_) ?_
  · apply g192_6 <;> intros <;> first
      | omega
      | simpa [rIns, zn1, *] using hE
  · apply g192_6 <;> intros <;> first
      | omega
      | exact k
/-- the steps that a task has done, as a natural number -/
def rD (ρ : Nat → Nat → Int32) (t : Nat) : Nat := (ρ 1 (10 + 4 * t + 1)).toNatClampNeg
/-- the gates that a task is in behind so many steps, of the first g gates -/
def rSetL (ρ : Nat → Nat → Int32) (t n : Nat) : Nat → Int32
  | 0 => nI 0
  | g + 1 => rSetL ρ t n g ||| (if 0 < rIns ρ t n (nI g) then nI 1 <<< (nI g &&& 31) else nI 0)
abbrev rSet (ρ : Nat → Nat → Int32) (t n : Nat) : Int32 := rSetL ρ t n 6
theorem g193_0 {d c s : Nat} {t u : Nat} {X : zM} {ρ : Nat → Nat → Int32} {l : Nat → Nat → Int64} {Q : Option zV → zM → Prop}
    (h1 : Ev d c s 193 5 [some (zr (some (1, 0, 0))), some (zi (nI t)), some (zi (nI u)), some (zi (nI 0)), some (zi (nI 0))] [] (OM X 1 0 ρ l) Q) : Ev d c s 193 0 [some (zr (some (1, 0, 0))), some (zi (nI t)), some (zi (nI u)), none, none] [] (OM X 1 0 ρ l) Q := by
  refine Ew.op (st' := zi (nI 0) :: _) f193_0 rfl rfl ?_
  refine Ew.sr (ls' := [some (zr (some (1, 0, 0))), some (zi (nI t)), some (zi (nI u)), some (zi (nI 0)), none]) f193_1 rfl rfl (Nat.le_of_ble_eq_true rfl) rfl rfl ?_
  refine Ew.op (st' := zi (nI 0) :: _) f193_2 rfl rfl ?_
  refine Ew.sr (ls' := [some (zr (some (1, 0, 0))), some (zi (nI t)), some (zi (nI u)), some (zi (nI 0)), some (zi (nI 0))]) f193_3 rfl rfl (Nat.le_of_ble_eq_true rfl) rfl rfl ?_
  exact h1
theorem g193_5 {d c s : Nat} {t u k : Nat} {x : Int32} {X : zM} {ρ : Nat → Nat → Int32} {l : Nat → Nat → Int64} {Q : Option zV → zM → Prop} (nb_k : k < 5000)
    (h1 : (6 ≤ k) → Q (some (zi x)) (OM X 1 0 ρ l))
    (b1 : (k < 6) → t < 4)
    (b2 : (k < 6) → u ≤ 30)
    (h2 : (k < 6) → ((rIns ρ t u (nI k)) ≤ 0) → Ev (d + 2) c s 193 5 [some (zr (some (1, 0, 0))), some (zi (nI t)), some (zi (nI u)), some (zi (x ||| (nI 0))), some (zi (nI (k + 1)))] [] (OM X 1 0 ρ l) Q)
    (h3 : (k < 6) → (0 < (rIns ρ t u (nI k))) → Ev (d + 2) c s 193 5 [some (zr (some (1, 0, 0))), some (zi (nI t)), some (zi (nI u)), some (zi (x ||| ((nI 1) <<< ((nI k) &&& 31)))), some (zi (nI (k + 1)))] [] (OM X 1 0 ρ l) Q) : Ev (d + 2) c s 193 5 [some (zr (some (1, 0, 0))), some (zi (nI t)), some (zi (nI u)), some (zi x), some (zi (nI k))] [] (OM X 1 0 ρ l) Q := by
  refine Ew.ld f193_5 rfl rfl rfl rfl ?_
  refine Ew.op (st' := zi (nI 6) :: _) f193_7 rfl rfl ?_
  refine Ew.icmp f193_9 rfl rfl (fun c1 => ?_) (fun c1 => ?_)
  · refine Ew.ld f193_40 rfl rfl rfl rfl ?_
    refine Ew.ireti f193_41 ?_
    exact h1 ((zle_iff (by decide) nb_k).mp c1)
  · refine Ew.ld f193_12 rfl rfl rfl rfl ?_
    refine Ew.ld f193_13 rfl rfl rfl rfl ?_
    refine Ew.ld f193_14 rfl rfl rfl rfl ?_
    refine Ew.ld f193_15 rfl rfl rfl rfl ?_
    refine Ew.ld f193_16 rfl rfl rfl rfl ?_
    refine Ew.call0 (ls0 := [some (zr (some (1, 0, 0))), some (zi (nI t)), some (zi (nI u)), some (zi (nI k)), none, none]) f193_18 rfl (Nat.le_of_ble_eq_true rfl) rfl rfl (Nat.le_of_ble_eq_true rfl) rfl (Nat.le_of_ble_eq_true rfl) rfl rfl ?_
    refine sp_insides (b1 (Nat.not_le.mp fun e => c1 ((zle_iff (by decide) nb_k).mpr e))) (b2 (Nat.not_le.mp fun e => c1 ((zle_iff (by decide) nb_k).mpr e))) ?_
    show Ev (d + 2) c s 193 21 [some (zr (some (1, 0, 0))), some (zi (nI t)), some (zi (nI u)), some (zi x), some (zi (nI k))] [zi (rIns ρ t u (nI k)), zi x] (OM X 1 0 ρ l) Q
    refine Ew.ifc f193_21 rfl rfl (fun c2 => ?_) (fun c2 => ?_)
    · refine Ew.op (st' := zi (nI 0) :: _) f193_31 rfl rfl ?_
      refine Ew.op (st' := zi (x ||| (nI 0)) :: _) f193_32 rfl rfl ?_
      refine Ew.sr (ls' := [some (zr (some (1, 0, 0))), some (zi (nI t)), some (zi (nI u)), some (zi (x ||| (nI 0))), some (zi (nI k))]) f193_33 rfl rfl (Nat.le_of_ble_eq_true rfl) rfl rfl ?_
      refine Ew.iinc (v := nI (k + 1)) (ls' := [some (zr (some (1, 0, 0))), some (zi (nI t)), some (zi (nI u)), some (zi (x ||| (nI 0))), some (zi (nI (k + 1)))]) f193_34 rfl (nI_1 _) rfl rfl ?_
      refine Ew.goto f193_37 rfl ?_
      exact h2 (Nat.not_le.mp fun e => c1 ((zle_iff (by decide) nb_k).mpr e)) c2
    · refine Ew.op (st' := zi (nI 1) :: _) f193_24 rfl rfl ?_
      refine Ew.ld f193_25 rfl rfl rfl rfl ?_
      refine Ew.op (st' := zi ((nI 1) <<< ((nI k) &&& 31)) :: _) f193_27 rfl rfl ?_
      refine Ew.goto f193_28 rfl ?_
      refine Ew.op (st' := zi (x ||| ((nI 1) <<< ((nI k) &&& 31))) :: _) f193_32 rfl rfl ?_
      refine Ew.sr (ls' := [some (zr (some (1, 0, 0))), some (zi (nI t)), some (zi (nI u)), some (zi (x ||| ((nI 1) <<< ((nI k) &&& 31)))), some (zi (nI k))]) f193_33 rfl rfl (Nat.le_of_ble_eq_true rfl) rfl rfl ?_
      refine Ew.iinc (v := nI (k + 1)) (ls' := [some (zr (some (1, 0, 0))), some (zi (nI t)), some (zi (nI u)), some (zi (x ||| ((nI 1) <<< ((nI k) &&& 31)))), some (zi (nI (k + 1)))]) f193_34 rfl (nI_1 _) rfl rfl ?_
      refine Ew.goto f193_37 rfl ?_
      exact h3 (Nat.not_le.mp fun e => c1 ((zle_iff (by decide) nb_k).mpr e)) (Int32.not_le.mp c2)
theorem sp_heldBy {d c s t u : Nat} {X : zM} {ρ : Nat → Nat → Int32} {l : Nat → Nat → Int64} {Q : Option zV → zM → Prop} (ht : t < 4) (hu : u ≤ 30) (k : Q (some (zi (rSet ρ t u))) (OM X 1 0 ρ l)) : Ev (d + 2) c s 193 0 [some (zr (some (1, 0, 0))), some (zi (nI t)), some (zi (nI u)), none, none] [] (OM X 1 0 ρ l) Q := by
  refine g193_0 ?_
  refine loopN (fun k => Ev (d + 2) c s 193 5 [some (zr (some (1, 0, 0))), some (zi (nI t)), some (zi (nI u)), some (zi (rSetL ρ t u k)), some (zi (nI k))] [] (OM X 1 0 ρ l) Q) 6 (fun k hk hE => ?_) ?_
  · apply g193_5 <;> intros <;> first
      | omega
      | simpa [rSetL, Int32.not_lt.mpr, *] using hE
  · apply g193_5 <;> intros <;> first
      | omega
      | exact k
/-- the one that holds a gate, of the first t tasks -/
def rHoldL (ρ : Nat → Nat → Int32) (g : Int32) : Nat → Int32
  | 0 => -4
  | t + 1 => if 0 < rIns ρ t (rD ρ t) g then nI t else rHoldL ρ g t
abbrev rHold (ρ : Nat → Nat → Int32) (g : Int32) : Int32 := rHoldL ρ g 4
/-- steps done are few -/
def rDok (ρ : Nat → Nat → Int32) : Prop := ∀ t, t < 4 → ρ 1 (10 + 4 * t + 1) = nI (rD ρ t) ∧ rD ρ t ≤ 30
theorem g194_0 {d c s : Nat} {g : Int32} {X : zM} {ρ : Nat → Nat → Int32} {l : Nat → Nat → Int64} {Q : Option zV → zM → Prop}
    (h1 : Ev d c s 194 5 [some (zr (some (1, 0, 0))), some (zi g), some (zi ((-4))), some (zi (nI 0))] [] (OM X 1 0 ρ l) Q) : Ev d c s 194 0 [some (zr (some (1, 0, 0))), some (zi g), none, none] [] (OM X 1 0 ρ l) Q := by
  refine Ew.op (st' := zi ((-4)) :: _) f194_0 rfl rfl ?_
  refine Ew.sr (ls' := [some (zr (some (1, 0, 0))), some (zi g), some (zi ((-4))), none]) f194_2 rfl rfl (Nat.le_of_ble_eq_true rfl) rfl rfl ?_
  refine Ew.op (st' := zi (nI 0) :: _) f194_3 rfl rfl ?_
  refine Ew.sr (ls' := [some (zr (some (1, 0, 0))), some (zi g), some (zi ((-4))), some (zi (nI 0))]) f194_4 rfl rfl (Nat.le_of_ble_eq_true rfl) rfl rfl ?_
  exact h1
theorem g194_5 {d c s : Nat} {t D : Nat} {g f : Int32} {X : zM} {ρ : Nat → Nat → Int32} {l : Nat → Nat → Int64} {Q : Option zV → zM → Prop} (hD : t < 4 → ρ 1 (10 + 4 * t + 1) = nI D) (nb_t : t < 5000)
    (h1 : (4 ≤ t) → Q (some (zi f)) (OM X 1 0 ρ l))
    (b1 : (t < 4) → 10 + 4 * t + 1 < 270)
    (b2 : (t < 4) → t < 4)
    (b3 : (t < 4) → D ≤ 30)
    (h2 : (t < 4) → ((rIns ρ t D g) ≤ 0) → Ev (d + 2) c s 194 5 [some (zr (some (1, 0, 0))), some (zi g), some (zi f), some (zi (nI (t + 1)))] [] (OM X 1 0 ρ l) Q)
    (h3 : (t < 4) → (0 < (rIns ρ t D g)) → Ev (d + 2) c s 194 5 [some (zr (some (1, 0, 0))), some (zi g), some (zi (nI t)), some (zi (nI (t + 1)))] [] (OM X 1 0 ρ l) Q) : Ev (d + 2) c s 194 5 [some (zr (some (1, 0, 0))), some (zi g), some (zi f), some (zi (nI t))] [] (OM X 1 0 ρ l) Q := by
  refine Ew.ld f194_5 rfl rfl rfl rfl ?_
  refine Ew.op (st' := zi (nI 4) :: _) f194_6 rfl rfl ?_
  refine Ew.icmp f194_7 rfl rfl (fun c1 => ?_) (fun c1 => ?_)
  · refine Ew.ld f194_37 rfl rfl rfl rfl ?_
    refine Ew.ireti f194_38 ?_
    exact h1 ((zle_iff (by decide) nb_t).mp c1)
  · refine Ew.ld f194_10 rfl rfl rfl rfl ?_
    refine Ew.ld f194_11 rfl rfl rfl rfl ?_
    refine Ew.ld f194_12 rfl rfl rfl rfl ?_
    refine Ew.ld f194_13 rfl rfl rfl rfl ?_
    refine Ew.op (st' := zi (nI 1) :: _) f194_14 rfl rfl ?_
    refine Ew.call0 (ls0 := [some (zr (some (1, 0, 0))), some (zi (nI t)), some (zi (nI 1))]) f194_15 rfl (Nat.le_of_ble_eq_true rfl) rfl rfl (Nat.le_of_ble_eq_true rfl) rfl (Nat.le_of_ble_eq_true rfl) rfl rfl ?_
    refine Ew.ld f156_0 rfl rfl rfl rfl ?_
    refine Ew.getp (v := some (1, 0, 1)) f156_1 rfl rfl rfl ?_
    refine Ew.op (st' := zi (nI 10) :: _) f156_4 rfl rfl ?_
    refine Ew.op (st' := zi (nI 4) :: _) f156_6 rfl rfl ?_
    refine Ew.ld f156_7 rfl rfl rfl rfl ?_
    refine Ew.muln f156_8 rfl ?_
    refine Ew.addn f156_9 rfl ?_
    refine Ew.ld f156_10 rfl rfl rfl rfl ?_
    refine Ew.addn f156_11 rfl ?_
    refine Ew.ialdnV (v := nI D) f156_12 rfl (b1 (Nat.not_le.mp fun e => c1 ((zle_iff (by decide) nb_t).mpr e))) (Nat.le_of_ble_eq_true rfl) rfl (so_v (hD (Nat.not_le.mp fun e => c1 ((zle_iff (by decide) nb_t).mpr e)))) ?_
    refine Ew.ireti f156_13 ?_
    show Ev (d + 2) c s 194 18 [some (zr (some (1, 0, 0))), some (zi g), some (zi f), some (zi (nI t))] [zi (nI D), zi (nI t), zr (some (1, 0, 0))] (OM X 1 0 ρ l) Q
    refine Ew.ld f194_18 rfl rfl rfl rfl ?_
    refine Ew.call0 (ls0 := [some (zr (some (1, 0, 0))), some (zi (nI t)), some (zi (nI D)), some (zi g), none, none]) f194_19 rfl (Nat.le_of_ble_eq_true rfl) rfl rfl (Nat.le_of_ble_eq_true rfl) rfl (Nat.le_of_ble_eq_true rfl) rfl rfl ?_
    refine sp_insides (b2 (Nat.not_le.mp fun e => c1 ((zle_iff (by decide) nb_t).mpr e))) (b3 (Nat.not_le.mp fun e => c1 ((zle_iff (by decide) nb_t).mpr e))) ?_
    show Ev (d + 2) c s 194 22 [some (zr (some (1, 0, 0))), some (zi g), some (zi f), some (zi (nI t))] [zi (rIns ρ t D g)] (OM X 1 0 ρ l) Q
    refine Ew.ifc f194_22 rfl rfl (fun c2 => ?_) (fun c2 => ?_)
    · refine Ew.ld f194_29 rfl rfl rfl rfl ?_
      refine Ew.sr (ls' := [some (zr (some (1, 0, 0))), some (zi g), some (zi f), some (zi (nI t))]) f194_30 rfl rfl (Nat.le_of_ble_eq_true rfl) rfl rfl ?_
      refine Ew.iinc (v := nI (t + 1)) (ls' := [some (zr (some (1, 0, 0))), some (zi g), some (zi f), some (zi (nI (t + 1)))]) f194_31 rfl (nI_1 _) rfl rfl ?_
      refine Ew.goto f194_34 rfl ?_
      exact h2 (Nat.not_le.mp fun e => c1 ((zle_iff (by decide) nb_t).mpr e)) c2
    · refine Ew.ld f194_25 rfl rfl rfl rfl ?_
      refine Ew.goto f194_26 rfl ?_
      refine Ew.sr (ls' := [some (zr (some (1, 0, 0))), some (zi g), some (zi (nI t)), some (zi (nI t))]) f194_30 rfl rfl (Nat.le_of_ble_eq_true rfl) rfl rfl ?_
      refine Ew.iinc (v := nI (t + 1)) (ls' := [some (zr (some (1, 0, 0))), some (zi g), some (zi (nI t)), some (zi (nI (t + 1)))]) f194_31 rfl (nI_1 _) rfl rfl ?_
      refine Ew.goto f194_34 rfl ?_
      exact h3 (Nat.not_le.mp fun e => c1 ((zle_iff (by decide) nb_t).mpr e)) (Int32.not_le.mp c2)
theorem sp_holder {d c s : Nat} {g : Int32} {X : zM} {ρ : Nat → Nat → Int32} {l : Nat → Nat → Int64} {Q : Option zV → zM → Prop} (h : rDok ρ) (k : Q (some (zi (rHold ρ g))) (OM X 1 0 ρ l)) : Ev (d + 2) c s 194 0 [some (zr (some (1, 0, 0))), some (zi g), none, none] [] (OM X 1 0 ρ l) Q := by
  refine g194_0 ?_
  refine loopN (fun t => Ev (d + 2) c s 194 5 [some (zr (some (1, 0, 0))), some (zi g), some (zi (rHoldL ρ g t)), some (zi (nI t))] [] (OM X 1 0 ρ l) Q) 4 (fun t ht hE => ?_) ?_
  · have hd := h t ht
    apply g194_5 (fun _ => hd.1) <;> intros <;> first
      | omega
      | simpa [rHoldL, Int32.not_lt.mpr, *] using hE
  · apply g194_5 (D := 0) (fun h => absurd h (by decide)) <;> intros <;> first
      | omega
      | exact k
