/-! the reference: is the tape a body? -/
theorem kS_l {O : List Nat} {c : Nat} (h : 97 ≤ c ∧ c ≤ 102) : kStep (0, O) c = some (1, O) := by
  show (if (0 : Nat) = 1 then _ else if (0 : Nat) = 2 then _ else if (0 : Nat) = 3 then _ else if 97 ≤ c ∧ c ≤ 102 then some (1, O) else _) = _
  rw [if_neg (by decide), if_neg (by decide), if_neg (by decide), if_pos h]
theorem kS_f {O : List Nat} {c : Nat} (h : 50 ≤ c ∧ c ≤ 53) : kStep (0, O) c = some (3, O) := by
  show (if (0 : Nat) = 1 then _ else if (0 : Nat) = 2 then _ else if (0 : Nat) = 3 then _ else if 97 ≤ c ∧ c ≤ 102 then _ else if 50 ≤ c ∧ c ≤ 53 then some (3, O) else _) = _
  rw [if_neg (by decide), if_neg (by decide), if_neg (by decide), if_neg (by omega), if_pos h]
theorem kS_t {O : List Nat} : kStep (0, O) 91 = if O.length < 6 then some (0, 93 :: O) else none := by
  show (if (0 : Nat) = 1 then _ else if (0 : Nat) = 2 then _ else if (0 : Nat) = 3 then _ else if 97 ≤ 91 ∧ 91 ≤ 102 then _ else if 50 ≤ 91 ∧ 91 ≤ 53 then _ else if 91 = 91 then (if O.length < 6 then some (0, 93 :: O) else none) else _) = _
  rw [if_neg (by decide), if_neg (by decide), if_neg (by decide), if_neg (by omega), if_neg (by omega), if_pos rfl]
theorem kS_b {O : List Nat} : kStep (0, O) 33 = some (0, O) := by
  show (if (0 : Nat) = 1 then _ else if (0 : Nat) = 2 then _ else if (0 : Nat) = 3 then _ else if 97 ≤ 33 ∧ 33 ≤ 102 then _ else if 50 ≤ 33 ∧ 33 ≤ 53 then _ else if 33 = 91 then _ else if 33 = 33 then some (0, O) else _) = _
  rw [if_neg (by decide), if_neg (by decide), if_neg (by decide), if_neg (by omega), if_neg (by omega), if_neg (by decide), if_pos rfl]
theorem kS_c {O : List Nat} {c : Nat} (h1 : ¬ (97 ≤ c ∧ c ≤ 102)) (h2 : ¬ (50 ≤ c ∧ c ≤ 53)) (h3 : ¬ c = 91) (h4 : ¬ c = 33) : kStep (0, O) c = match O with | [] => none | d :: r => if c = d then some (0, r) else none := by
  show (if (0 : Nat) = 1 then _ else if (0 : Nat) = 2 then _ else if (0 : Nat) = 3 then _ else if 97 ≤ c ∧ c ≤ 102 then _ else if 50 ≤ c ∧ c ≤ 53 then _ else if c = 91 then _ else if c = 33 then _ else match O with | [] => none | d :: r => if c = d then some (0, r) else none) = _
  rw [if_neg (by decide), if_neg (by decide), if_neg (by decide), if_neg h1, if_neg h2, if_neg h3, if_neg h4]
theorem kS_1 {O : List Nat} {c : Nat} : kStep (1, O) c = if c = 43 ∨ c = 45 then some (2, O) else if c = 40 ∧ O.length < 6 then some (0, 41 :: O) else none := by
  show (if (1 : Nat) = 1 then (if c = 43 ∨ c = 45 then some (2, O) else if c = 40 ∧ O.length < 6 then some (0, 41 :: O) else none) else _) = _
  rw [if_pos rfl]
theorem kS_2 {O : List Nat} {c : Nat} : kStep (2, O) c = if 49 ≤ c ∧ c ≤ 57 then some (0, O) else none := by
  show (if (2 : Nat) = 1 then _ else if (2 : Nat) = 2 then (if 49 ≤ c ∧ c ≤ 57 then some (0, O) else none) else _) = _
  rw [if_neg (by decide), if_pos rfl]
theorem kS_3 {O : List Nat} {c : Nat} : kStep (3, O) c = if c = 123 ∧ O.length < 6 then some (0, 125 :: O) else none := by
  show (if (3 : Nat) = 1 then _ else if (3 : Nat) = 2 then _ else if (3 : Nat) = 3 then (if c = 123 ∧ O.length < 6 then some (0, 125 :: O) else none) else _) = _
  rw [if_neg (by decide), if_neg (by decide), if_pos rfl]
theorem kP.len {T : List Nat} {p q : Nat} {O D : List Nat} (h : kP T p q O D) : D.length ≤ p := by
  rw [h.2.1]
  have := aDense_len (T.take p)
  have := List.length_take_le p T
  omega
/-- a place where nothing can stand, or the end -/
theorem kP.bad {T : List Nat} {p q : Nat} {O D : List Nat} (h : kP T p q O D) (hN : kN T p) (hq : ¬ q = 0 ∨ p < T.length) (hs : p < T.length → kStep (q, O) (T.getD p 0) = none) : aFlt T = some p := by
  by_cases hp : p < T.length
  · exact h.fault hp (hN hp) (hs hp)
  · have e : p = T.length := by have := h.2.2.1; omega
    subst e
    rw [h.fin.1, if_neg]
    intro g
    rcases hq with hq | hq
    · exact hq g.1
    · omega
theorem T0 {T : List Nat} (h32 : ∀ x, x ∈ T → 32 ≤ x ∧ x < 127) {k : Nat} : T.getD k 0 = 0 ↔ T.length ≤ k := by
  rw [List.getD_eq_getElem?_getD]
  by_cases hk : k < T.length
  · rw [List.getElem?_eq_getElem hk]
    have := h32 _ (List.getElem_mem hk)
    show T[k] = 0 ↔ _
    omega
  · rw [List.getElem?_eq_none (by omega)]
    exact ⟨fun _ => by omega, fun _ => rfl⟩
theorem g185_0 {d c s : Nat} {X : zM} {ρ : Nat → Nat → Int32} {l : Nat → Nat → Int64} {Q : Option zV → zM → Prop}
    (h1 : Ev d 0 0 181 0 [some (zr (some (1, 0, 0)))] [] (OM X 1 0 ρ l) (fun r M' => Ev (d + 1) c s 185 4 [some (zr (some (1, 0, 0)))] (zpush r []) M' Q)) : Ev (d + 1) c s 185 0 [some (zr (some (1, 0, 0)))] [] (OM X 1 0 ρ l) Q := by
  refine Ew.ld f185_0 rfl rfl rfl rfl ?_
  refine Ew.call0 (ls0 := [some (zr (some (1, 0, 0)))]) f185_1 rfl (Nat.le_of_ble_eq_true rfl) rfl rfl (Nat.le_of_ble_eq_true rfl) rfl (Nat.le_of_ble_eq_true rfl) rfl rfl ?_
  exact h1
theorem g185_4 {d c s : Nat} {X : zM} {ρ : Nat → Nat → Int32} {l : Nat → Nat → Int64} {Q : Option zV → zM → Prop}
    (h1 : Ev d 0 0 180 0 [some (zr (some (1, 0, 0)))] [] (OM X 1 0 ρ l) (fun r M' => Ev (d + 1) c s 185 8 [some (zr (some (1, 0, 0)))] (zpush r []) M' Q)) : Ev (d + 1) c s 185 4 [some (zr (some (1, 0, 0)))] [] (OM X 1 0 ρ l) Q := by
  refine Ew.ld f185_4 rfl rfl rfl rfl ?_
  refine Ew.call0 (ls0 := [some (zr (some (1, 0, 0)))]) f185_5 rfl (Nat.le_of_ble_eq_true rfl) rfl rfl (Nat.le_of_ble_eq_true rfl) rfl (Nat.le_of_ble_eq_true rfl) rfl rfl ?_
  exact h1
theorem g185_8 {d c s : Nat} {x : Nat} {X : zM} {ρ : Nat → Nat → Int32} {l : Nat → Nat → Int64} {Q : Option zV → zM → Prop} (nb_x : x < 5000)
    (h1 : (¬ x = 40) → Ev (d + 1) c s 185 18 [some (zr (some (1, 0, 0)))] [] (OM X 1 0 ρ l) Q)
    (h2 : (x = 40) → Ev d 0 0 183 0 [some (zr (some (1, 0, 0)))] [] (OM X 1 0 ρ l) (fun r M' => Ev (d + 1) c s 185 17 [some (zr (some (1, 0, 0)))] (zpush r []) M' Q)) : Ev (d + 1) c s 185 8 [some (zr (some (1, 0, 0)))] [zi (nI x)] (OM X 1 0 ρ l) Q := by
  refine Ew.op (st' := zi (nI 40) :: _) f185_8 rfl rfl ?_
  refine Ew.icmp f185_10 rfl rfl (fun c1 => ?_) (fun c1 => ?_)
  · exact h1 (fun e => c1 ((zeq nb_x (by decide)).mpr e))
  · refine Ew.ld f185_13 rfl rfl rfl rfl ?_
    refine Ew.call0 (ls0 := [some (zr (some (1, 0, 0)))]) f185_14 rfl (Nat.le_of_ble_eq_true rfl) rfl rfl (Nat.le_of_ble_eq_true rfl) rfl (Nat.le_of_ble_eq_true rfl) rfl rfl ?_
    exact h2 ((zeq nb_x (by decide)).mp (Classical.not_not.mp c1))
theorem g185_17 {d c s : Nat} {x : Nat} {X : zM} {ρ : Nat → Nat → Int32} {l : Nat → Nat → Int64} {Q : Option zV → zM → Prop}
    (b1 : nI x = 0 ∨ nI x = 1)
    (h1 : Q (some (zi (nI x))) (OM X 1 0 ρ l)) : Ev d c s 185 17 [some (zr (some (1, 0, 0)))] [zi (nI x)] (OM X 1 0 ρ l) Q := by
  refine Ew.iretb f185_17 b1 ?_
  exact h1
theorem g185_18 {d c s : Nat} {X : zM} {ρ : Nat → Nat → Int32} {l : Nat → Nat → Int64} {Q : Option zV → zM → Prop}
    (h1 : Ev d 0 0 180 0 [some (zr (some (1, 0, 0)))] [] (OM X 1 0 ρ l) (fun r M' => Ev (d + 1) c s 185 23 [some (zr (some (1, 0, 0)))] (zpush r [zr (some (1, 0, 0))]) M' Q)) : Ev (d + 1) c s 185 18 [some (zr (some (1, 0, 0)))] [] (OM X 1 0 ρ l) Q := by
  refine Ew.ld f185_18 rfl rfl rfl rfl ?_
  refine Ew.ld f185_19 rfl rfl rfl rfl ?_
  refine Ew.call0 (ls0 := [some (zr (some (1, 0, 0)))]) f185_20 rfl (Nat.le_of_ble_eq_true rfl) rfl rfl (Nat.le_of_ble_eq_true rfl) rfl (Nat.le_of_ble_eq_true rfl) rfl rfl ?_
  exact h1
theorem g185_23 {d c s : Nat} {x : Nat} {X : zM} {ρ : Nat → Nat → Int32} {l : Nat → Nat → Int64} {Q : Option zV → zM → Prop} (nb_x : x < 5000)
    (h1 : (x = 43) → Ev d 0 0 182 0 [some (zr (some (1, 0, 0))), some (zi (nI 1))] [] (OM X 1 0 ρ l) (fun r M' => Ev (d + 1) c s 185 45 [some (zr (some (1, 0, 0)))] (zpush r []) M' Q))
    (h2 : (¬ x = 43) → Ev d 0 0 180 0 [some (zr (some (1, 0, 0)))] [] (OM X 1 0 ρ l) (fun r M' => Ev (d + 1) c s 185 32 [some (zr (some (1, 0, 0)))] (zpush r [zr (some (1, 0, 0))]) M' Q)) : Ev (d + 1) c s 185 23 [some (zr (some (1, 0, 0)))] [zi (nI x), zr (some (1, 0, 0))] (OM X 1 0 ρ l) Q := by
  refine Ew.op (st' := zi (nI 43) :: _) f185_23 rfl rfl ?_
  refine Ew.icmp f185_25 rfl rfl (fun c1 => ?_) (fun c1 => ?_)
  · refine Ew.op (st' := zi (nI 1) :: _) f185_37 rfl rfl ?_
    refine Ew.goto f185_38 rfl ?_
    refine Ew.call0 (ls0 := [some (zr (some (1, 0, 0))), some (zi (nI 1))]) f185_42 rfl (Nat.le_of_ble_eq_true rfl) rfl rfl (Nat.le_of_ble_eq_true rfl) rfl (Nat.le_of_ble_eq_true rfl) rfl rfl ?_
    exact h1 ((zeq nb_x (by decide)).mp c1)
  · refine Ew.ld f185_28 rfl rfl rfl rfl ?_
    refine Ew.call0 (ls0 := [some (zr (some (1, 0, 0)))]) f185_29 rfl (Nat.le_of_ble_eq_true rfl) rfl rfl (Nat.le_of_ble_eq_true rfl) rfl (Nat.le_of_ble_eq_true rfl) rfl rfl ?_
    exact h2 (fun e => c1 ((zeq nb_x (by decide)).mpr e))
theorem g185_32 {d c s : Nat} {x : Nat} {X : zM} {ρ : Nat → Nat → Int32} {l : Nat → Nat → Int64} {Q : Option zV → zM → Prop} (nb_x : x < 5000)
    (h1 : (¬ x = 45) → Ev d 0 0 182 0 [some (zr (some (1, 0, 0))), some (zi (nI 0))] [] (OM X 1 0 ρ l) (fun r M' => Ev (d + 1) c s 185 45 [some (zr (some (1, 0, 0)))] (zpush r []) M' Q))
    (h2 : (x = 45) → Ev d 0 0 182 0 [some (zr (some (1, 0, 0))), some (zi (nI 1))] [] (OM X 1 0 ρ l) (fun r M' => Ev (d + 1) c s 185 45 [some (zr (some (1, 0, 0)))] (zpush r []) M' Q)) : Ev (d + 1) c s 185 32 [some (zr (some (1, 0, 0)))] [zi (nI x), zr (some (1, 0, 0))] (OM X 1 0 ρ l) Q := by
  refine Ew.op (st' := zi (nI 45) :: _) f185_32 rfl rfl ?_
  refine Ew.icmp f185_34 rfl rfl (fun c1 => ?_) (fun c1 => ?_)
  · refine Ew.op (st' := zi (nI 0) :: _) f185_41 rfl rfl ?_
    refine Ew.call0 (ls0 := [some (zr (some (1, 0, 0))), some (zi (nI 0))]) f185_42 rfl (Nat.le_of_ble_eq_true rfl) rfl rfl (Nat.le_of_ble_eq_true rfl) rfl (Nat.le_of_ble_eq_true rfl) rfl rfl ?_
    exact h1 (fun e => c1 ((zeq nb_x (by decide)).mpr e))
  · refine Ew.op (st' := zi (nI 1) :: _) f185_37 rfl rfl ?_
    refine Ew.goto f185_38 rfl ?_
    refine Ew.call0 (ls0 := [some (zr (some (1, 0, 0))), some (zi (nI 1))]) f185_42 rfl (Nat.le_of_ble_eq_true rfl) rfl rfl (Nat.le_of_ble_eq_true rfl) rfl (Nat.le_of_ble_eq_true rfl) rfl rfl ?_
    exact h2 ((zeq nb_x (by decide)).mp (Classical.not_not.mp c1))
theorem g185_45 {d c s : Nat} {X : zM} {ρ : Nat → Nat → Int32} {l : Nat → Nat → Int64} {Q : Option zV → zM → Prop}
    (h1 : Ev d 0 0 180 0 [some (zr (some (1, 0, 0)))] [] (OM X 1 0 ρ l) (fun r M' => Ev (d + 1) c s 185 53 [some (zr (some (1, 0, 0)))] (zpush r [zr (some (1, 0, 0))]) M' Q)) : Ev (d + 1) c s 185 45 [some (zr (some (1, 0, 0)))] [zi (nI 1)] (OM X 1 0 ρ l) Q := by
  refine Ew.ifc f185_45 rfl rfl (fun h => absurd h (show ¬ (((nI 1) : Int32) = 0) by decide)) (fun _ => ?_)
  refine Ew.ld f185_48 rfl rfl rfl rfl ?_
  refine Ew.ld f185_49 rfl rfl rfl rfl ?_
  refine Ew.call0 (ls0 := [some (zr (some (1, 0, 0)))]) f185_50 rfl (Nat.le_of_ble_eq_true rfl) rfl rfl (Nat.le_of_ble_eq_true rfl) rfl (Nat.le_of_ble_eq_true rfl) rfl rfl ?_
  exact h1
theorem g185_45z {d c s : Nat} {X : zM} {ρ : Nat → Nat → Int32} {l : Nat → Nat → Int64} {Q : Option zV → zM → Prop}
    (h1 : Q (some (zi (nI 0))) (OM X 1 0 ρ l)) : Ev d c s 185 45 [some (zr (some (1, 0, 0)))] [zi (nI 0)] (OM X 1 0 ρ l) Q := by
  refine Ew.ifc f185_45 rfl rfl (fun _ => ?_) (fun h => absurd (show ((nI 0) : Int32) = 0 by decide) h)
  refine Ew.op (st' := zi (nI 0) :: _) f185_73 rfl rfl ?_
  refine Ew.iretb f185_74 (Or.inl rfl) ?_
  exact h1
theorem g185_53 {d c s : Nat} {x : Nat} {X : zM} {ρ : Nat → Nat → Int32} {l : Nat → Nat → Int64} {Q : Option zV → zM → Prop}
    (h1 : ((lN 49) ≤ ((nI x).toInt64) ∧ ((nI x).toInt64) ≤ (lN 57)) → Ev d 0 0 182 0 [some (zr (some (1, 0, 0))), some (zi (nI 1))] [] (OM X 1 0 ρ l) (fun r M' => Ev (d + 1) c s 185 66 [some (zr (some (1, 0, 0)))] (zpush r []) M' Q))
    (h2 : (¬ ((lN 49) ≤ ((nI x).toInt64) ∧ ((nI x).toInt64) ≤ (lN 57))) → Ev d 0 0 182 0 [some (zr (some (1, 0, 0))), some (zi (nI 0))] [] (OM X 1 0 ρ l) (fun r M' => Ev (d + 1) c s 185 66 [some (zr (some (1, 0, 0)))] (zpush r []) M' Q)) : Ev (d + 1) c s 185 53 [some (zr (some (1, 0, 0)))] [zi (nI x), zr (some (1, 0, 0))] (OM X 1 0 ρ l) Q := by
  refine Ew.op (st' := zl ((nI x).toInt64) :: _) f185_53 rfl rfl ?_
  refine Ew.op (st' := zl (lN 49) :: _) f185_54 rfl rfl ?_
  refine Ew.op (st' := zl (lN 57) :: _) f185_57 rfl rfl ?_
  refine Ew.call0 (ls0 := [some (zl ((nI x).toInt64)), none, some (zl (lN 49)), none, some (zl (lN 57)), none]) f185_60 rfl (Nat.le_of_ble_eq_true rfl) rfl rfl (Nat.le_of_ble_eq_true rfl) trivial (Nat.le_of_ble_eq_true rfl) rfl rfl ?_
  refine sp_in (fun c1 => ?_) (fun c1 => ?_)
  · refine Ew.call0 (ls0 := [some (zr (some (1, 0, 0))), some (zi (nI 1))]) f185_63 rfl (Nat.le_of_ble_eq_true rfl) rfl rfl (Nat.le_of_ble_eq_true rfl) rfl (Nat.le_of_ble_eq_true rfl) rfl rfl ?_
    exact h1 c1
  · refine Ew.call0 (ls0 := [some (zr (some (1, 0, 0))), some (zi (nI 0))]) f185_63 rfl (Nat.le_of_ble_eq_true rfl) rfl rfl (Nat.le_of_ble_eq_true rfl) rfl (Nat.le_of_ble_eq_true rfl) rfl rfl ?_
    exact h2 c1
theorem g185_66 {d c s : Nat} {X : zM} {ρ : Nat → Nat → Int32} {l : Nat → Nat → Int64} {Q : Option zV → zM → Prop}
    (h1 : Q (some (zi (nI 1))) (OM X 1 0 ρ l)) : Ev d c s 185 66 [some (zr (some (1, 0, 0)))] [zi (nI 1)] (OM X 1 0 ρ l) Q := by
  refine Ew.ifc f185_66 rfl rfl (fun h => absurd h (show ¬ (((nI 1) : Int32) = 0) by decide)) (fun _ => ?_)
  refine Ew.op (st' := zi (nI 1) :: _) f185_69 rfl rfl ?_
  refine Ew.goto f185_70 rfl ?_
  refine Ew.iretb f185_74 (Or.inr rfl) ?_
  exact h1
theorem g185_66z {d c s : Nat} {X : zM} {ρ : Nat → Nat → Int32} {l : Nat → Nat → Int64} {Q : Option zV → zM → Prop}
    (h1 : Q (some (zi (nI 0))) (OM X 1 0 ρ l)) : Ev d c s 185 66 [some (zr (some (1, 0, 0)))] [zi (nI 0)] (OM X 1 0 ρ l) Q := by
  refine Ew.ifc f185_66 rfl rfl (fun _ => ?_) (fun h => absurd (show ((nI 0) : Int32) = 0 by decide) h)
  refine Ew.op (st' := zi (nI 0) :: _) f185_73 rfl rfl ?_
  refine Ew.iretb f185_74 (Or.inl rfl) ?_
  exact h1
theorem sp_isVisit {d c s p : Nat} {T O D : List Nat} {X : zM} {ρ0 ρ : Nat → Nat → Int32} {l : Nat → Nat → Int64} {Q : Option zV → zM → Prop} (h60 : T.length ≤ 60) (h32 : ∀ x, x ∈ T → 32 ≤ x ∧ x < 127) (hT : rTape ρ0 T) (h : kR ρ0 ρ p O D) (hP : kP T p 0 O D) (hp : p < T.length) (hN : kN T p) (hc : 97 ≤ T.getD p 0 ∧ T.getD p 0 ≤ 102) (k1 : ∀ ρ' p' O' D', kR ρ0 ρ' p' O' D' → kP T p' 0 O' D' → p < p' → Q (some (zi (nI 1))) (OM X 1 0 ρ' l)) (k0 : ∀ ρ' p' O' D', kR ρ0 ρ' p' O' D' → p' ≤ T.length → kN T p' → aFlt T = some p' → Q (some (zi (nI 0))) (OM X 1 0 ρ' l)) : Ev (d + 3) c s 185 0 [some (zr (some (1, 0, 0)))] [] (OM X 1 0 ρ l) Q := by
  have h127 : ∀ x, x ∈ T → x < 127 := fun x hx => (h32 x hx).2
  refine g185_0 (sp_takes h60 h127 hT h hp hN hP.len (fun ρ1 h1 => g185_4 ?_))
  have hP1 := hP.take hp (hN hp) (kS_l hc)
  refine sp_here h60 h127 hT (T.length - (p + 1)) (p + 1) ρ1 (by omega) h1 (fun ρ2 p2 h2 hp2 hN2 f2 _ => ?_)
  have hP2 := f2 1 hP1
  have hx2 := L127 h127 p2
  -- behind the sign
  have sgn : ∀ ρ3, kR ρ0 ρ3 p2 O (D ++ [T.getD p 0]) → p2 < T.length → (T.getD p2 0 = 43 ∨ T.getD p2 0 = 45) → p < p2 → Ev (d + 2) 0 0 182 0 [some (zr (some (1, 0, 0))), some (zi (nI 1))] [] (OM X 1 0 ρ3 l) (fun r M' => Ev (d + 3) c s 185 45 [some (zr (some (1, 0, 0)))] (zpush r []) M' Q) := by
    intro ρ3 h3 hlt hs hp2'
    refine g182_0 (sp_takes h60 h127 hT h3 hlt hN2 hP2.len (fun ρ4 h4 => g182_8 (g185_45 ?_)))
    have hP4 := hP2.take hlt (hN2 hlt) (by rw [kS_1, if_pos hs])
    refine sp_here h60 h127 hT (T.length - (p2 + 1)) (p2 + 1) ρ4 (by omega) h4 (fun ρ5 p5 h5 hp5 hN5 f5 _ => ?_)
    have hP5 := f5 2 hP4
    have hx5 := L127 h127 p5
    have ii := zinN (x := T.getD p5 0) (a := 49) (b := 57) (by omega) (by decide) (by decide)
    refine g185_53 (fun g => ?_) (fun g => ?_)
    · have g := ii.mp g
      have hlt5 : p5 < T.length := by
        refine Nat.lt_of_not_le fun hle => ?_
        have := (T0 h32).mpr hle
        omega
      refine g182_0 (sp_takes h60 h127 hT h5 hlt5 hN5 hP5.len (fun ρ6 h6 => g182_8 (g185_66 (k1 ρ6 _ _ _ h6 (hP5.take hlt5 (hN5 hlt5) (by rw [kS_2, if_pos g])) ?_))))
      refine Nat.lt_of_not_le fun hle => ?_
      -- places only grow
      have l1 := hP5.len
      have l2 := hP4.2.2.1
      exact absurd hle (by
        have e1 : (D ++ [T.getD p 0] ++ [T.getD p2 0]).length = D.length + 2 := by simp
        have := hP.2.1
        have q1 : aDense (T.take p5) = aDense (T.take (p2 + 1)) := hP5.2.1.symm.trans hP4.2.1
        intro hle
        have hpl : p5 + 1 ≤ p := hle
        have q2 : (aDense (T.take p5)).length ≤ (aDense (T.take p)).length := by
          have : T.take p5 = (T.take p).take p5 := by rw [List.take_take, Nat.min_eq_left (by omega)]
          rw [this]
          have sub := (List.take_sublist p5 (T.take p)).filter (fun x => decide (¬ x = 32))
          exact sub.length_le
        rw [q1, ← hP4.2.1, ← hP.2.1, e1] at q2
        omega)
    · refine g182_0z (g185_66z (k0 ρ5 p5 _ _ h5 hp5 hN5 (hP5.bad hN5 (Or.inl (by decide)) (fun _ => ?_))))
      rw [kS_2, if_neg (fun e => g (ii.mpr e))]
  have grow : p < p2 := by
    refine Nat.lt_of_not_le fun hle => ?_
    have q2 : (aDense (T.take p2)).length ≤ (aDense (T.take p)).length := by
      have : T.take p2 = (T.take p).take p2 := by rw [List.take_take, Nat.min_eq_left (by omega)]
      rw [this]
      have sub := (List.take_sublist p2 (T.take p)).filter (fun x => decide (¬ x = 32))
      exact sub.length_le
    rw [← hP2.2.1, ← hP.2.1, List.length_append, List.length_singleton] at q2
    omega
  refine g185_8 (by omega) (fun g => ?_) (fun g => ?_)
  · refine g185_18 (sp_here h60 h127 hT (T.length - p2) p2 ρ2 (by omega) h2 (fun ρ3 p3 h3 hp3 hN3 f3 e3 => ?_))
    have e3 := e3 hN2
    subst e3
    refine g185_23 (by omega) (fun g43 => ?_) (fun g43 => ?_)
    · have hlt : p3 < T.length := by
        refine Nat.lt_of_not_le fun hle => ?_
        have := (T0 h32).mpr hle
        omega
      exact sgn ρ3 h3 hlt (Or.inl g43) grow
    · refine sp_here h60 h127 hT (T.length - p3) p3 ρ3 (by omega) h3 (fun ρ4 p4 h4 hp4 hN4 f4 e4 => ?_)
      have e4 := e4 hN3
      subst e4
      refine g185_32 (by omega) (fun g45 => ?_) (fun g45 => ?_)
      · refine g182_0z (g185_45z (k0 ρ4 p4 _ _ h4 hp4 hN4 (hP2.bad hN4 (Or.inl (by decide)) (fun _ => ?_))))
        rw [kS_1, if_neg (by omega), if_neg (fun e => g e.1)]
      · have hlt : p4 < T.length := by
          refine Nat.lt_of_not_le fun hle => ?_
          have := (T0 h32).mpr hle
          omega
        exact sgn ρ4 h4 hlt (Or.inr g45) grow
  · have hlt : p2 < T.length := by
      refine Nat.lt_of_not_le fun hle => ?_
      have := (T0 h32).mpr hle
      omega
    refine sp_isOpened h60 h127 hT h2 hlt hN2 hP2.len hP2.2.2.2.1 (Or.inl g) (fun h6 ρ3 h3 => ?_) (fun h6 => ?_)
    · refine g185_17 (Or.inr rfl) (k1 ρ3 _ _ _ h3 ?_ (by omega))
      have := hP2.take (q' := 0) (O' := 41 :: O) hlt (hN2 hlt) (by rw [kS_1, if_neg (by omega), if_pos ⟨g, h6⟩])
      rw [g] at this ⊢
      exact this
    · refine g185_17 (Or.inl rfl) (k0 ρ2 p2 _ _ h2 hp2 hN2 (hP2.bad hN2 (Or.inl (by decide)) (fun _ => ?_)))
      rw [kS_1, if_neg (by omega), if_neg (fun e => h6 e.2)]
