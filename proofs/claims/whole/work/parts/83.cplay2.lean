/-! the class: the player enters and leaves -/
theorem g32_0 {d c s : Nat} {g m b f : Nat} {X : zM} {ρ : Nat → Nat → Int32} {l : Nat → Nat → Int64} {Q : Option zV → zM → Prop} (hm : ρ 9 g = nI m) (hb : ρ 4 10 = nI b) (hf : ρ 4 11 = nI f) (nb_m : m < 5000)
    (b1 : g < 6)
    (b2 : (m ≤ 0) → g < 6)
    (b3 : (m ≤ 0) → g < 6)
    (h1 : (m ≤ 0) → Ev d 0 0 35 0 [some (zr (some (0, 0, 4))), some (zi (nI 0)), some (zi (nI g)), some (zi (nI 0))] [] (OM X 0 0 (zu (zu (zu (zu ρ 9 g (nI (m + 1))) 4 9 ((ρ 4 9) ||| ((nI 1) <<< ((nI g) &&& 31)))) 4 10 (nI (b + 1))) 4 11 ((if (nI f) < (nI (b + 1)) then nI (b + 1) else nI f))) l) (fun r M' => Ev (d + 1) c s 32 74 [some (zr (some (0, 0, 4))), some (zi (nI g))] (zpush r []) M' Q))
    (b4 : (0 < m) → g < 6)
    (b5 : (0 < m) → g < 6)
    (h2 : (0 < m) → Ev d 0 0 35 0 [some (zr (some (0, 0, 4))), some (zi (nI 0)), some (zi (nI g)), some (zi (nI 0))] [] (OM X 0 0 (zu (zu (zu (zu (zu ρ 4 17 ((ρ 4 17) + (nI 1))) 9 g (nI (m + 1))) 4 9 ((ρ 4 9) ||| ((nI 1) <<< ((nI g) &&& 31)))) 4 10 (nI (b + 1))) 4 11 ((if (nI f) < (nI (b + 1)) then nI (b + 1) else nI f))) l) (fun r M' => Ev (d + 1) c s 32 74 [some (zr (some (0, 0, 4))), some (zi (nI g))] (zpush r []) M' Q)) : Ev (d + 1) c s 32 0 [some (zr (some (0, 0, 4))), some (zi (nI g))] [] (OM X 0 0 ρ l) Q := by
  refine Ew.ld f32_0 rfl rfl rfl rfl ?_
  refine Ew.getp (v := some (0, 0, 9)) f32_1 rfl rfl rfl ?_
  refine Ew.ld f32_4 rfl rfl rfl rfl ?_
  refine Ew.ialdnV (v := nI m) f32_5 rfl b1 (Nat.le_of_ble_eq_true rfl) rfl (so_v hm) ?_
  refine Ew.ifc f32_6 rfl rfl (fun c1 => ?_) (fun c1 => ?_)
  · refine Ew.ld f32_19 rfl rfl rfl rfl ?_
    refine Ew.getp (v := some (0, 0, 9)) f32_20 rfl rfl rfl ?_
    refine Ew.ld f32_23 rfl rfl rfl rfl ?_
    refine Ew.op (st' := zi (nI g) :: zr (some (0, 0, 9)) :: zi (nI g) :: zr (some (0, 0, 9)) :: _) f32_24 rfl rfl ?_
    refine Ew.ialdnV (v := nI m) f32_25 rfl (b2 ((zle_iff nb_m (by decide)).mp c1)) (Nat.le_of_ble_eq_true rfl) rfl (so_v hm) ?_
    refine Ew.op (st' := zi (nI 1) :: _) f32_26 rfl rfl ?_
    refine Ew.addn f32_27 rfl ?_
    refine Ew.iastnO f32_28 (by decide) rfl (b3 ((zle_iff nb_m (by decide)).mp c1)) (Nat.le_of_ble_eq_true rfl) rfl ?_
    refine Ew.ld f32_29 rfl rfl rfl rfl ?_
    refine Ew.op (st' := zr (some (0, 0, 4)) :: zr (some (0, 0, 4)) :: _) f32_30 rfl rfl ?_
    refine Ew.getiO f32_31 rfl rfl ?_
    refine Ew.ld f32_34 rfl rfl rfl rfl ?_
    refine Ew.call0 (ls0 := [some (zi (nI g))]) f32_35 rfl (Nat.le_of_ble_eq_true rfl) rfl rfl (Nat.le_of_ble_eq_true rfl) trivial (Nat.le_of_ble_eq_true rfl) rfl rfl ?_
    refine Ew.op (st' := zi (nI 1) :: _) f146_0 rfl rfl ?_
    refine Ew.ld f146_1 rfl rfl rfl rfl ?_
    refine Ew.op (st' := zi ((nI 1) <<< ((nI g) &&& 31)) :: _) f146_2 rfl rfl ?_
    refine Ew.ireti f146_3 ?_
    show Ev (d + 1) c s 32 38 [some (zr (some (0, 0, 4))), some (zi (nI g))] [zi ((nI 1) <<< ((nI g) &&& 31)), zi (ρ 4 9), zr (some (0, 0, 4))] (OM X 0 0 (zu ρ 9 g (nI (m + 1))) l) Q
    refine Ew.op (st' := zi ((ρ 4 9) ||| ((nI 1) <<< ((nI g) &&& 31))) :: _) f32_38 rfl rfl ?_
    refine Ew.putiO f32_39 rfl rfl ?_
    refine Ew.ld f32_42 rfl rfl rfl rfl ?_
    refine Ew.op (st' := zr (some (0, 0, 4)) :: zr (some (0, 0, 4)) :: _) f32_43 rfl rfl ?_
    refine Ew.getiV (v := nI b) f32_44 rfl (so_v hb) rfl ?_
    refine Ew.op (st' := zi (nI 1) :: _) f32_47 rfl rfl ?_
    refine Ew.addn f32_48 rfl ?_
    refine Ew.putiO f32_49 rfl rfl ?_
    refine Ew.ld f32_52 rfl rfl rfl rfl ?_
    refine Ew.ld f32_53 rfl rfl rfl rfl ?_
    refine Ew.getiV (v := nI f) f32_54 rfl (so_v hf) rfl ?_
    refine Ew.ld f32_57 rfl rfl rfl rfl ?_
    refine Ew.getiV (v := nI (b + 1)) f32_58 rfl (so_v rfl) rfl ?_
    refine Ew.nat (st' := zi ((if (nI f) < (nI (b + 1)) then nI (b + 1) else nI f)) :: _) f32_61 rfl (fun k h => ⟨Nat.le_of_ble_eq_true rfl, h⟩) rfl ?_
    refine Ew.putiO f32_64 rfl rfl ?_
    refine Ew.ld f32_67 rfl rfl rfl rfl ?_
    refine Ew.op (st' := zi (nI 0) :: _) f32_68 rfl rfl ?_
    refine Ew.ld f32_69 rfl rfl rfl rfl ?_
    refine Ew.op (st' := zi (nI 0) :: _) f32_70 rfl rfl ?_
    refine Ew.call0 (ls0 := [some (zr (some (0, 0, 4))), some (zi (nI 0)), some (zi (nI g)), some (zi (nI 0))]) f32_71 rfl (Nat.le_of_ble_eq_true rfl) rfl rfl (Nat.le_of_ble_eq_true rfl) rfl (Nat.le_of_ble_eq_true rfl) rfl rfl ?_
    exact h1 ((zle_iff nb_m (by decide)).mp c1)
  · refine Ew.ld f32_9 rfl rfl rfl rfl ?_
    refine Ew.op (st' := zr (some (0, 0, 4)) :: zr (some (0, 0, 4)) :: _) f32_10 rfl rfl ?_
    refine Ew.getiO f32_11 rfl rfl ?_
    refine Ew.op (st' := zi (nI 1) :: _) f32_14 rfl rfl ?_
    refine Ew.op (st' := zi ((ρ 4 17) + (nI 1)) :: _) f32_15 rfl rfl ?_
    refine Ew.putiO f32_16 rfl rfl ?_
    refine Ew.ld f32_19 rfl rfl rfl rfl ?_
    refine Ew.getp (v := some (0, 0, 9)) f32_20 rfl rfl rfl ?_
    refine Ew.ld f32_23 rfl rfl rfl rfl ?_
    refine Ew.op (st' := zi (nI g) :: zr (some (0, 0, 9)) :: zi (nI g) :: zr (some (0, 0, 9)) :: _) f32_24 rfl rfl ?_
    refine Ew.ialdnV (v := nI m) f32_25 rfl (b4 (Nat.not_le.mp fun e => c1 ((zle_iff nb_m (by decide)).mpr e))) (Nat.le_of_ble_eq_true rfl) rfl (so_v hm) ?_
    refine Ew.op (st' := zi (nI 1) :: _) f32_26 rfl rfl ?_
    refine Ew.addn f32_27 rfl ?_
    refine Ew.iastnO f32_28 (by decide) rfl (b5 (Nat.not_le.mp fun e => c1 ((zle_iff nb_m (by decide)).mpr e))) (Nat.le_of_ble_eq_true rfl) rfl ?_
    refine Ew.ld f32_29 rfl rfl rfl rfl ?_
    refine Ew.op (st' := zr (some (0, 0, 4)) :: zr (some (0, 0, 4)) :: _) f32_30 rfl rfl ?_
    refine Ew.getiV (v := ρ 4 9) f32_31 rfl (so_v rfl) rfl ?_
    refine Ew.ld f32_34 rfl rfl rfl rfl ?_
    refine Ew.call0 (ls0 := [some (zi (nI g))]) f32_35 rfl (Nat.le_of_ble_eq_true rfl) rfl rfl (Nat.le_of_ble_eq_true rfl) trivial (Nat.le_of_ble_eq_true rfl) rfl rfl ?_
    refine Ew.op (st' := zi (nI 1) :: _) f146_0 rfl rfl ?_
    refine Ew.ld f146_1 rfl rfl rfl rfl ?_
    refine Ew.op (st' := zi ((nI 1) <<< ((nI g) &&& 31)) :: _) f146_2 rfl rfl ?_
    refine Ew.ireti f146_3 ?_
    show Ev (d + 1) c s 32 38 [some (zr (some (0, 0, 4))), some (zi (nI g))] [zi ((nI 1) <<< ((nI g) &&& 31)), zi (ρ 4 9), zr (some (0, 0, 4))] (OM X 0 0 (zu (zu ρ 4 17 ((ρ 4 17) + (nI 1))) 9 g (nI (m + 1))) l) Q
    refine Ew.op (st' := zi ((ρ 4 9) ||| ((nI 1) <<< ((nI g) &&& 31))) :: _) f32_38 rfl rfl ?_
    refine Ew.putiO f32_39 rfl rfl ?_
    refine Ew.ld f32_42 rfl rfl rfl rfl ?_
    refine Ew.op (st' := zr (some (0, 0, 4)) :: zr (some (0, 0, 4)) :: _) f32_43 rfl rfl ?_
    refine Ew.getiV (v := nI b) f32_44 rfl (so_v hb) rfl ?_
    refine Ew.op (st' := zi (nI 1) :: _) f32_47 rfl rfl ?_
    refine Ew.addn f32_48 rfl ?_
    refine Ew.putiO f32_49 rfl rfl ?_
    refine Ew.ld f32_52 rfl rfl rfl rfl ?_
    refine Ew.ld f32_53 rfl rfl rfl rfl ?_
    refine Ew.getiV (v := nI f) f32_54 rfl (so_v hf) rfl ?_
    refine Ew.ld f32_57 rfl rfl rfl rfl ?_
    refine Ew.getiV (v := nI (b + 1)) f32_58 rfl (so_v rfl) rfl ?_
    refine Ew.nat (st' := zi ((if (nI f) < (nI (b + 1)) then nI (b + 1) else nI f)) :: _) f32_61 rfl (fun k h => ⟨Nat.le_of_ble_eq_true rfl, h⟩) rfl ?_
    refine Ew.putiO f32_64 rfl rfl ?_
    refine Ew.ld f32_67 rfl rfl rfl rfl ?_
    refine Ew.op (st' := zi (nI 0) :: _) f32_68 rfl rfl ?_
    refine Ew.ld f32_69 rfl rfl rfl rfl ?_
    refine Ew.op (st' := zi (nI 0) :: _) f32_70 rfl rfl ?_
    refine Ew.call0 (ls0 := [some (zr (some (0, 0, 4))), some (zi (nI 0)), some (zi (nI g)), some (zi (nI 0))]) f32_71 rfl (Nat.le_of_ble_eq_true rfl) rfl rfl (Nat.le_of_ble_eq_true rfl) rfl (Nat.le_of_ble_eq_true rfl) rfl rfl ?_
    exact h2 (Nat.not_le.mp fun e => c1 ((zle_iff nb_m (by decide)).mpr e))
theorem g32_74 {d c s : Nat} {g : Nat} {X : zM} {ρ : Nat → Nat → Int32} {l : Nat → Nat → Int64} {Q : Option zV → zM → Prop}
    (h1 : Q none (OM X 0 0 ρ l)) : Ev d c s 32 74 [some (zr (some (0, 0, 4))), some (zi (nI g))] [] (OM X 0 0 ρ l) Q := by
  refine Ew.vret f32_74 ?_
  exact h1
theorem g33_0 {d c s : Nat} {g : Nat} {X : zM} {ρ : Nat → Nat → Int32} {l : Nat → Nat → Int64} {Q : Option zV → zM → Prop}
    (b1 : g < 6)
    (b2 : g < 6)
    (b3 : g < 6)
    (h1 : (¬ ((ρ 9 g) - (nI 1)) = 0) → Ev d 0 0 35 0 [some (zr (some (0, 0, 4))), some (zi (nI 1)), some (zi (nI g)), some (zi (nI 0))] [] (OM X 0 0 (zu (zu ρ 9 g ((ρ 9 g) - (nI 1))) 4 10 ((ρ 4 10) - (nI 1))) l) (fun r M' => Ev (d + 1) c s 33 51 [some (zr (some (0, 0, 4))), some (zi (nI g))] (zpush r []) M' Q))
    (h2 : (((ρ 9 g) - (nI 1)) = 0) → Ev d 0 0 35 0 [some (zr (some (0, 0, 4))), some (zi (nI 1)), some (zi (nI g)), some (zi (nI 0))] [] (OM X 0 0 (zu (zu (zu ρ 9 g ((ρ 9 g) - (nI 1))) 4 9 ((ρ 4 9) &&& (((nI 1) <<< ((nI g) &&& 31)) ^^^ ((-1))))) 4 10 ((ρ 4 10) - (nI 1))) l) (fun r M' => Ev (d + 1) c s 33 51 [some (zr (some (0, 0, 4))), some (zi (nI g))] (zpush r []) M' Q)) : Ev (d + 1) c s 33 0 [some (zr (some (0, 0, 4))), some (zi (nI g))] [] (OM X 0 0 ρ l) Q := by
  refine Ew.ld f33_0 rfl rfl rfl rfl ?_
  refine Ew.getp (v := some (0, 0, 9)) f33_1 rfl rfl rfl ?_
  refine Ew.ld f33_4 rfl rfl rfl rfl ?_
  refine Ew.op (st' := zi (nI g) :: zr (some (0, 0, 9)) :: zi (nI g) :: zr (some (0, 0, 9)) :: _) f33_5 rfl rfl ?_
  refine Ew.ialdnO f33_6 rfl b1 (Nat.le_of_ble_eq_true rfl) rfl ?_
  refine Ew.op (st' := zi (nI 1) :: _) f33_7 rfl rfl ?_
  refine Ew.op (st' := zi ((ρ 9 g) - (nI 1)) :: _) f33_8 rfl rfl ?_
  refine Ew.iastnO f33_9 (by decide) rfl b2 (Nat.le_of_ble_eq_true rfl) rfl ?_
  refine Ew.ld f33_10 rfl rfl rfl rfl ?_
  refine Ew.getp (v := some (0, 0, 9)) f33_11 rfl rfl rfl ?_
  refine Ew.ld f33_14 rfl rfl rfl rfl ?_
  refine Ew.ialdnV (v := (ρ 9 g) - (nI 1)) f33_15 rfl b3 (Nat.le_of_ble_eq_true rfl) rfl (so_v zu_e) ?_
  refine Ew.ifc f33_16 rfl rfl (fun c1 => ?_) (fun c1 => ?_)
  · refine Ew.ld f33_34 rfl rfl rfl rfl ?_
    refine Ew.op (st' := zr (some (0, 0, 4)) :: zr (some (0, 0, 4)) :: _) f33_35 rfl rfl ?_
    refine Ew.getiO f33_36 rfl rfl ?_
    refine Ew.op (st' := zi (nI 1) :: _) f33_39 rfl rfl ?_
    refine Ew.op (st' := zi ((ρ 4 10) - (nI 1)) :: _) f33_40 rfl rfl ?_
    refine Ew.putiO f33_41 rfl rfl ?_
    refine Ew.ld f33_44 rfl rfl rfl rfl ?_
    refine Ew.op (st' := zi (nI 1) :: _) f33_45 rfl rfl ?_
    refine Ew.ld f33_46 rfl rfl rfl rfl ?_
    refine Ew.op (st' := zi (nI 0) :: _) f33_47 rfl rfl ?_
    refine Ew.call0 (ls0 := [some (zr (some (0, 0, 4))), some (zi (nI 1)), some (zi (nI g)), some (zi (nI 0))]) f33_48 rfl (Nat.le_of_ble_eq_true rfl) rfl rfl (Nat.le_of_ble_eq_true rfl) rfl (Nat.le_of_ble_eq_true rfl) rfl rfl ?_
    exact h1 c1
  · refine Ew.ld f33_19 rfl rfl rfl rfl ?_
    refine Ew.op (st' := zr (some (0, 0, 4)) :: zr (some (0, 0, 4)) :: _) f33_20 rfl rfl ?_
    refine Ew.getiO f33_21 rfl rfl ?_
    refine Ew.ld f33_24 rfl rfl rfl rfl ?_
    refine Ew.call0 (ls0 := [some (zi (nI g))]) f33_25 rfl (Nat.le_of_ble_eq_true rfl) rfl rfl (Nat.le_of_ble_eq_true rfl) trivial (Nat.le_of_ble_eq_true rfl) rfl rfl ?_
    refine Ew.op (st' := zi (nI 1) :: _) f146_0 rfl rfl ?_
    refine Ew.ld f146_1 rfl rfl rfl rfl ?_
    refine Ew.op (st' := zi ((nI 1) <<< ((nI g) &&& 31)) :: _) f146_2 rfl rfl ?_
    refine Ew.ireti f146_3 ?_
    show Ev (d + 1) c s 33 28 [some (zr (some (0, 0, 4))), some (zi (nI g))] [zi ((nI 1) <<< ((nI g) &&& 31)), zi (ρ 4 9), zr (some (0, 0, 4))] (OM X 0 0 (zu ρ 9 g ((ρ 9 g) - (nI 1))) l) Q
    refine Ew.op (st' := zi ((-1)) :: _) f33_28 rfl rfl ?_
    refine Ew.op (st' := zi (((nI 1) <<< ((nI g) &&& 31)) ^^^ ((-1))) :: _) f33_29 rfl rfl ?_
    refine Ew.op (st' := zi ((ρ 4 9) &&& (((nI 1) <<< ((nI g) &&& 31)) ^^^ ((-1)))) :: _) f33_30 rfl rfl ?_
    refine Ew.putiO f33_31 rfl rfl ?_
    refine Ew.ld f33_34 rfl rfl rfl rfl ?_
    refine Ew.op (st' := zr (some (0, 0, 4)) :: zr (some (0, 0, 4)) :: _) f33_35 rfl rfl ?_
    refine Ew.getiV (v := ρ 4 10) f33_36 rfl (so_v rfl) rfl ?_
    refine Ew.op (st' := zi (nI 1) :: _) f33_39 rfl rfl ?_
    refine Ew.op (st' := zi ((ρ 4 10) - (nI 1)) :: _) f33_40 rfl rfl ?_
    refine Ew.putiO f33_41 rfl rfl ?_
    refine Ew.ld f33_44 rfl rfl rfl rfl ?_
    refine Ew.op (st' := zi (nI 1) :: _) f33_45 rfl rfl ?_
    refine Ew.ld f33_46 rfl rfl rfl rfl ?_
    refine Ew.op (st' := zi (nI 0) :: _) f33_47 rfl rfl ?_
    refine Ew.call0 (ls0 := [some (zr (some (0, 0, 4))), some (zi (nI 1)), some (zi (nI g)), some (zi (nI 0))]) f33_48 rfl (Nat.le_of_ble_eq_true rfl) rfl rfl (Nat.le_of_ble_eq_true rfl) rfl (Nat.le_of_ble_eq_true rfl) rfl rfl ?_
    exact h2 (Classical.not_not.mp c1)
theorem g33_51 {d c s : Nat} {g : Nat} {X : zM} {ρ : Nat → Nat → Int32} {l : Nat → Nat → Int64} {Q : Option zV → zM → Prop}
    (h1 : Q none (OM X 0 0 ρ l)) : Ev d c s 33 51 [some (zr (some (0, 0, 4))), some (zi (nI g))] [] (OM X 0 0 ρ l) Q := by
  refine Ew.vret f33_51 ?_
  exact h1
theorem cInL_nat (c : Nat → Nat) : ∀ n, n ≤ 6 → ∃ v, v < 2 ^ n ∧ cInL c n = nI v ∧ ∀ t, t < n → (v.testBit t = true ↔ 0 < c t) := by
  intro n
  induction n with
  | zero => intro _; exact ⟨0, by decide, rfl, fun t ht => absurd ht (Nat.not_lt_zero t)⟩
  | succ n ih =>
    intro hn
    obtain ⟨v, hv, e, hb⟩ := ih (by omega)
    have h2 : 2 ^ (n + 1) = 2 ^ n + 2 ^ n := by rw [Nat.pow_succ]; omega
    unfold cInL
    rw [e]
    by_cases hc : 0 < c n
    · rw [if_pos hc, zor (by omega) hv]
      refine ⟨v + 2 ^ n, by omega, rfl, fun t ht => ?_⟩
      by_cases et : t = n
      · subst et
        rw [Nat.add_comm, Nat.testBit_two_pow_add_eq, Nat.testBit_lt_two_pow hv]
        exact ⟨fun _ => hc, fun _ => rfl⟩
      · rw [Nat.add_comm, Nat.testBit_two_pow_add_gt (by omega)]
        exact hb t (by omega)
    · rw [if_neg hc, zor0]
      refine ⟨v, by omega, rfl, fun t ht => ?_⟩
      by_cases et : t = n
      · subst et
        rw [Nat.testBit_lt_two_pow hv]
        exact ⟨fun h => absurd h (by decide), fun h => absurd h hc⟩
      · exact hb t (by omega)
theorem bit_on : ∀ g, g < 6 → ∀ v, v < 64 → nI v ||| (nI 1 <<< (nI g &&& 31)) = nI (v ||| 2 ^ g) := by decide
theorem bit_off : ∀ g, g < 6 → ∀ v, v < 64 → nI v &&& ((nI 1 <<< (nI g &&& 31)) ^^^ (-1)) = nI (v &&& (63 ^^^ 2 ^ g)) := by decide
theorem bits6 {v v' : Nat} (hv : v < 64) (hv' : v' < 64) (h : ∀ i, i < 6 → (v'.testBit i = true ↔ v.testBit i = true)) : v' = v := by
  apply Nat.eq_of_testBit_eq
  intro i
  by_cases hi : i < 6
  · exact Bool.eq_iff_iff.mpr (h i hi)
  · have p : 2 ^ 6 ≤ 2 ^ i := Nat.pow_le_pow_right (by decide) (by omega)
    rw [Nat.testBit_lt_two_pow (by omega), Nat.testBit_lt_two_pow (by omega)]
section
variable {c c' : Nat → Nat} {g : Nat}
theorem cIn_iff (h : ∀ i, i < 6 → (0 < c' i ↔ 0 < c i)) : cIn c' = cIn c := by
  obtain ⟨v, hv, e, hb⟩ := cInL_nat c 6 (Nat.le_refl 6)
  obtain ⟨v', hv', e', hb'⟩ := cInL_nat c' 6 (Nat.le_refl 6)
  show cInL c' 6 = cInL c 6
  rw [e, e', bits6 hv hv' (fun i hi => (hb' i hi).trans ((h i hi).trans (hb i hi).symm))]
theorem cIn_on (hg : g < 6) (ho : ∀ i, i < 6 → ¬ i = g → c' i = c i) (h : 0 < c' g) : cIn c' = cIn c ||| (nI 1 <<< (nI g &&& 31)) := by
  obtain ⟨v, hv, e, hb⟩ := cInL_nat c 6 (Nat.le_refl 6)
  obtain ⟨v', hv', e', hb'⟩ := cInL_nat c' 6 (Nat.le_refl 6)
  show cInL c' 6 = cInL c 6 ||| _
  have lt : v ||| 2 ^ g < 2 ^ 6 := Nat.or_lt_two_pow hv (Nat.pow_lt_pow_right (by decide) hg)
  rw [e, e', bit_on g hg v hv, bits6 lt hv' (fun i hi => ?_)]
  rw [hb' i hi, Nat.testBit_or, Nat.testBit_two_pow, Bool.or_eq_true, decide_eq_true_iff, hb i hi]
  by_cases q : i = g
  · subst q; exact ⟨fun _ => Or.inr rfl, fun _ => h⟩
  · rw [ho i hi q]
    exact ⟨fun p => Or.inl p, fun p => p.resolve_right (fun r => q r.symm)⟩
theorem bit63 : ∀ g, g < 6 → ∀ i, i < 6 → ((63 ^^^ 2 ^ g).testBit i = true ↔ ¬ i = g) := by decide
theorem cIn_off (hg : g < 6) (ho : ∀ i, i < 6 → ¬ i = g → c' i = c i) (h : c' g = 0) : cIn c' = cIn c &&& ((nI 1 <<< (nI g &&& 31)) ^^^ (-1)) := by
  obtain ⟨v, hv, e, hb⟩ := cInL_nat c 6 (Nat.le_refl 6)
  obtain ⟨v', hv', e', hb'⟩ := cInL_nat c' 6 (Nat.le_refl 6)
  show cInL c' 6 = cInL c 6 &&& _
  have lt : v &&& (63 ^^^ 2 ^ g) < 2 ^ 6 := Nat.lt_of_le_of_lt Nat.and_le_left hv
  rw [e, e', bit_off g hg v hv, bits6 lt hv' (fun i hi => ?_)]
  rw [hb' i hi, Nat.testBit_and, Bool.and_eq_true, bit63 g hg i hi, hb i hi]
  by_cases q : i = g
  · subst q; rw [h]; exact ⟨fun p => absurd p (by decide), fun p => absurd rfl p.2⟩
  · rw [ho i hi q]
    exact ⟨fun p => ⟨p, q⟩, fun p => p.1⟩
end
/-- counts change -/
theorem cPl_c {ρ ρ' : Nat → Nat → Int32} {z : pS} {c' : Nat → Nat} (h : cPl ρ z) (hq : ∀ q i, ¬ (q = 9 ∨ (q = 4 ∧ (i = 9 ∨ i = 10 ∨ i = 11 ∨ i = 16 ∨ i = 17))) → ρ' q i = ρ q i) (h9 : ∀ g, g < 6 → ρ' 9 g = nI (c' g)) (h4 : ρ' 4 10 = nI (c' 6) ∧ ρ' 4 11 = nI (c' 7) ∧ ρ' 4 17 = nI (c' 8) ∧ ρ' 4 16 = nI (c' 9)) (hi : ρ' 4 9 = cIn c') (h10 : c' 10 = z.2.1 10) : cPl ρ' (z.1, c', z.2.2) := by
  obtain ⟨⟨h30, h6, h7⟩, hr, _, _, ⟨h13, hu⟩, _, h8⟩ := h
  refine ⟨⟨h30, ?_, ?_⟩, fun k hk => ?_, h9, h4, ⟨?_, fun i hi => ?_⟩, hi, fun e k hk => ?_⟩
  · rw [hq _ _ (by omega)]; exact h6
  · show ρ' 4 7 = if c' 10 = 0 then nI 0 else nI 1
    rw [hq _ _ (by omega), h10]; exact h7
  · rw [hq _ _ (by omega), hq _ _ (by omega), hq _ _ (by omega)]; exact hr k hk
  · rw [hq _ _ (by omega)]; exact h13
  · obtain ⟨p, hp, e1, e2, e3⟩ := hu i hi
    exact ⟨p, hp, by rw [hq _ _ (by omega)]; exact e1, e2, e3⟩
  · rw [hq _ _ (by omega)]
    exact h8 (h10.symm.trans e) k hk
