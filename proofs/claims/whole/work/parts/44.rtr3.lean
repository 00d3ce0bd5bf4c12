/-! the reference: brackets that are shut, what breaks -/
/-- a task's text in the row -/
def tTxt (ρ : Nat → Nat → Int32) (t : Nat) (L : List Nat) : Prop := ρ 1 (26 + 61 * t) = nI L.length ∧ L.length ≤ 60 ∧ ∀ k (h : k < L.length), ρ 1 (26 + 61 * t + 1 + k) = nI (L[k])
theorem g163_0 {d c s : Nat} {t k n : Nat} {X : zM} {ρ : Nat → Nat → Int32} {l : Nat → Nat → Int64} {Q : Option zV → zM → Prop} (e1 : ρ 1 (26 + 61 * t) = nI n) (nb_k : k < 5000) (nb_n : n < 5000)
    (b1 : 26 + 61 * t < 270)
    (h1 : (n ≤ k) → Q (some (zi (nI 0))) (OM X 1 0 ρ l))
    (b2 : (k < n) → 26 + 61 * t + 1 + k < 270)
    (h2 : (k < n) → Q (some (zi (ρ 1 (26 + 61 * t + 1 + k)))) (OM X 1 0 ρ l)) : Ev d c s 163 0 [some (zr (some (1, 0, 0))), some (zi (nI t)), some (zi (nI k))] [] (OM X 1 0 ρ l) Q := by
  refine Ew.ld f163_0 rfl rfl rfl rfl ?_
  refine Ew.ld f163_1 rfl rfl rfl rfl ?_
  refine Ew.getp (v := some (1, 0, 1)) f163_2 rfl rfl rfl ?_
  refine Ew.op (st' := zi (nI 26) :: _) f163_5 rfl rfl ?_
  refine Ew.op (st' := zi (nI 61) :: _) f163_7 rfl rfl ?_
  refine Ew.ld f163_9 rfl rfl rfl rfl ?_
  refine Ew.muln f163_10 rfl ?_
  refine Ew.addn f163_11 rfl ?_
  refine Ew.ialdnV (v := nI n) f163_12 rfl b1 (Nat.le_of_ble_eq_true rfl) rfl (so_v e1) ?_
  refine Ew.icmp f163_13 rfl rfl (fun c1 => ?_) (fun c1 => ?_)
  · refine Ew.op (st' := zi (nI 0) :: _) f163_35 rfl rfl ?_
    refine Ew.ireti f163_36 ?_
    exact h1 ((zle_iff nb_n nb_k).mp c1)
  · refine Ew.ld f163_16 rfl rfl rfl rfl ?_
    refine Ew.getp (v := some (1, 0, 1)) f163_17 rfl rfl rfl ?_
    refine Ew.op (st' := zi (nI 26) :: _) f163_20 rfl rfl ?_
    refine Ew.op (st' := zi (nI 61) :: _) f163_22 rfl rfl ?_
    refine Ew.ld f163_24 rfl rfl rfl rfl ?_
    refine Ew.muln f163_25 rfl ?_
    refine Ew.addn f163_26 rfl ?_
    refine Ew.op (st' := zi (nI 1) :: _) f163_27 rfl rfl ?_
    refine Ew.addn f163_28 rfl ?_
    refine Ew.ld f163_29 rfl rfl rfl rfl ?_
    refine Ew.addn f163_30 rfl ?_
    refine Ew.ialdnO f163_31 rfl (b2 (Nat.not_le.mp fun e => c1 ((zle_iff nb_n nb_k).mpr e))) (Nat.le_of_ble_eq_true rfl) rfl ?_
    refine Ew.goto f163_32 rfl ?_
    refine Ew.ireti f163_36 ?_
    exact h2 (Nat.not_le.mp fun e => c1 ((zle_iff nb_n nb_k).mpr e))
theorem sp_letterAt {d c s t k : Nat} {L : List Nat} {X : zM} {ρ : Nat → Nat → Int32} {l : Nat → Nat → Int64} {Q : Option zV → zM → Prop} (ht : t < 4) (hL : tTxt ρ t L) (hk : k < 4000) (q : Q (some (zi (nI (L.getD k 0)))) (OM X 1 0 ρ l)) : Ev d c s 163 0 [some (zr (some (1, 0, 0))), some (zi (nI t)), some (zi (nI k))] [] (OM X 1 0 ρ l) Q := by
  have := hL.2.1
  refine g163_0 hL.1 (by omega) (by omega) (by omega) (fun h => ?_) (fun h => by omega) (fun h => ?_)
  · rw [List.getD_eq_getElem?_getD, List.getElem?_eq_none h] at q
    exact q
  · rw [List.getD_eq_getElem?_getD, List.getElem?_eq_getElem h] at q
    rw [hL.2.2 k h]
    exact q
/-- from a place on, so many brackets being open: they are all shut at another -/
def mSh (f : Nat → Nat) : Nat → Nat → Nat → Nat → Prop
  | 0, _, _, _ => False
  | m + 1, k, D, r => if f k = 40 ∨ f k = 91 ∨ f k = 123 then mSh f m (k + 1) (D + 1) r else if f k = 41 ∨ f k = 93 ∨ f k = 125 then (if D ≤ 1 then r = k else mSh f m (k + 1) (D - 1) r) else if D = 0 then r = k else mSh f m (k + 1) D r
theorem g164_0 {d c s : Nat} {t a : Nat} {X : zM} {ρ : Nat → Nat → Int32} {l : Nat → Nat → Int64} {Q : Option zV → zM → Prop}
    (h1 : Ev d c s 164 5 [some (zr (some (1, 0, 0))), some (zi (nI t)), some (zi (nI a)), some (zi (nI 0)), some (zi (nI a)), none] [] (OM X 1 0 ρ l) Q) : Ev d c s 164 0 [some (zr (some (1, 0, 0))), some (zi (nI t)), some (zi (nI a)), none, none, none] [] (OM X 1 0 ρ l) Q := by
  refine Ew.op (st' := zi (nI 0) :: _) f164_0 rfl rfl ?_
  refine Ew.sr (ls' := [some (zr (some (1, 0, 0))), some (zi (nI t)), some (zi (nI a)), some (zi (nI 0)), none, none]) f164_1 rfl rfl (Nat.le_of_ble_eq_true rfl) rfl rfl ?_
  refine Ew.ld f164_2 rfl rfl rfl rfl ?_
  refine Ew.sr (ls' := [some (zr (some (1, 0, 0))), some (zi (nI t)), some (zi (nI a)), some (zi (nI 0)), some (zi (nI a)), none]) f164_3 rfl rfl (Nat.le_of_ble_eq_true rfl) rfl rfl ?_
  exact h1
theorem g164_5 {d c s : Nat} {t a D k : Nat} {L : List Nat} {o5 : Option zV} {X : zM} {ρ : Nat → Nat → Int32} {l : Nat → Nat → Int64} {Q : Option zV → zM → Prop}
    (b1 : t < 4)
    (b2 : tTxt ρ t L)
    (b3 : k < 4000)
    (h1 : Ev (d + 1) c s 164 14 [some (zr (some (1, 0, 0))), some (zi (nI t)), some (zi (nI a)), some (zi (nI D)), some (zi (nI k)), some (zi (nI (L.getD k 0)))] [] (OM X 1 0 ρ l) Q) : Ev (d + 1) c s 164 5 [some (zr (some (1, 0, 0))), some (zi (nI t)), some (zi (nI a)), some (zi (nI D)), some (zi (nI k)), o5] [] (OM X 1 0 ρ l) Q := by
  refine Ew.ld f164_5 rfl rfl rfl rfl ?_
  refine Ew.ld f164_6 rfl rfl rfl rfl ?_
  refine Ew.ld f164_7 rfl rfl rfl rfl ?_
  refine Ew.call0 (ls0 := [some (zr (some (1, 0, 0))), some (zi (nI t)), some (zi (nI k))]) f164_9 rfl (Nat.le_of_ble_eq_true rfl) rfl rfl (Nat.le_of_ble_eq_true rfl) rfl (Nat.le_of_ble_eq_true rfl) rfl rfl ?_
  refine sp_letterAt b1 b2 b3 ?_
  show Ev (d + 1) c s 164 12 [some (zr (some (1, 0, 0))), some (zi (nI t)), some (zi (nI a)), some (zi (nI D)), some (zi (nI k)), o5] [zi (nI (L.getD k 0))] (OM X 1 0 ρ l) Q
  refine Ew.sr (ls' := [some (zr (some (1, 0, 0))), some (zi (nI t)), some (zi (nI a)), some (zi (nI D)), some (zi (nI k)), some (zi (nI (L.getD k 0)))]) f164_12 rfl rfl (Nat.le_of_ble_eq_true rfl) rfl rfl ?_
  exact h1
theorem g164_14 {d c s : Nat} {t a D k x : Nat} {X : zM} {ρ : Nat → Nat → Int32} {l : Nat → Nat → Int64} {Q : Option zV → zM → Prop} (nb_x : x < 5000) (nb_D : D < 5000)
    (h1 : (x = 40) → (0 < (nI (D + 1))) → Ev d c s 164 5 [some (zr (some (1, 0, 0))), some (zi (nI t)), some (zi (nI a)), some (zi (nI (D + 1))), some (zi (nI (k + 1))), some (zi (nI x))] [] (OM X 1 0 ρ l) Q)
    (h2 : (x = 40) → ((nI (D + 1)) ≤ 0) → Q (some (zi ((nI (k + 1)) - (nI 1)))) (OM X 1 0 ρ l))
    (h3 : (¬ x = 40) → (x = 91) → (0 < (nI (D + 1))) → Ev d c s 164 5 [some (zr (some (1, 0, 0))), some (zi (nI t)), some (zi (nI a)), some (zi (nI (D + 1))), some (zi (nI (k + 1))), some (zi (nI x))] [] (OM X 1 0 ρ l) Q)
    (h4 : (¬ x = 40) → (x = 91) → ((nI (D + 1)) ≤ 0) → Q (some (zi ((nI (k + 1)) - (nI 1)))) (OM X 1 0 ρ l))
    (h5 : (¬ x = 40) → (¬ x = 91) → (¬ x = 123) → (x = 41) → (0 < ((nI D) + ((-1)))) → Ev d c s 164 5 [some (zr (some (1, 0, 0))), some (zi (nI t)), some (zi (nI a)), some (zi ((nI D) + ((-1)))), some (zi (nI (k + 1))), some (zi (nI x))] [] (OM X 1 0 ρ l) Q)
    (h6 : (¬ x = 40) → (¬ x = 91) → (¬ x = 123) → (x = 41) → (((nI D) + ((-1))) ≤ 0) → Q (some (zi ((nI (k + 1)) - (nI 1)))) (OM X 1 0 ρ l))
    (h7 : (¬ x = 40) → (¬ x = 91) → (¬ x = 123) → (¬ x = 41) → (x = 93) → (0 < ((nI D) + ((-1)))) → Ev d c s 164 5 [some (zr (some (1, 0, 0))), some (zi (nI t)), some (zi (nI a)), some (zi ((nI D) + ((-1)))), some (zi (nI (k + 1))), some (zi (nI x))] [] (OM X 1 0 ρ l) Q)
    (h8 : (¬ x = 40) → (¬ x = 91) → (¬ x = 123) → (¬ x = 41) → (x = 93) → (((nI D) + ((-1))) ≤ 0) → Q (some (zi ((nI (k + 1)) - (nI 1)))) (OM X 1 0 ρ l))
    (h9 : (¬ x = 40) → (¬ x = 91) → (¬ x = 123) → (¬ x = 41) → (¬ x = 93) → (¬ x = 125) → (0 < D) → Ev d c s 164 5 [some (zr (some (1, 0, 0))), some (zi (nI t)), some (zi (nI a)), some (zi (nI D)), some (zi (nI (k + 1))), some (zi (nI x))] [] (OM X 1 0 ρ l) Q)
    (h10 : (¬ x = 40) → (¬ x = 91) → (¬ x = 123) → (¬ x = 41) → (¬ x = 93) → (¬ x = 125) → (D ≤ 0) → Q (some (zi ((nI (k + 1)) - (nI 1)))) (OM X 1 0 ρ l))
    (h11 : (¬ x = 40) → (¬ x = 91) → (¬ x = 123) → (¬ x = 41) → (¬ x = 93) → (x = 125) → (0 < ((nI D) + ((-1)))) → Ev d c s 164 5 [some (zr (some (1, 0, 0))), some (zi (nI t)), some (zi (nI a)), some (zi ((nI D) + ((-1)))), some (zi (nI (k + 1))), some (zi (nI x))] [] (OM X 1 0 ρ l) Q)
    (h12 : (¬ x = 40) → (¬ x = 91) → (¬ x = 123) → (¬ x = 41) → (¬ x = 93) → (x = 125) → (((nI D) + ((-1))) ≤ 0) → Q (some (zi ((nI (k + 1)) - (nI 1)))) (OM X 1 0 ρ l))
    (h13 : (¬ x = 40) → (¬ x = 91) → (x = 123) → (0 < (nI (D + 1))) → Ev d c s 164 5 [some (zr (some (1, 0, 0))), some (zi (nI t)), some (zi (nI a)), some (zi (nI (D + 1))), some (zi (nI (k + 1))), some (zi (nI x))] [] (OM X 1 0 ρ l) Q)
    (h14 : (¬ x = 40) → (¬ x = 91) → (x = 123) → ((nI (D + 1)) ≤ 0) → Q (some (zi ((nI (k + 1)) - (nI 1)))) (OM X 1 0 ρ l)) : Ev d c s 164 14 [some (zr (some (1, 0, 0))), some (zi (nI t)), some (zi (nI a)), some (zi (nI D)), some (zi (nI k)), some (zi (nI x))] [] (OM X 1 0 ρ l) Q := by
  refine Ew.ld f164_14 rfl rfl rfl rfl ?_
  refine Ew.ld f164_15 rfl rfl rfl rfl ?_
  refine Ew.op (st' := zi (nI 40) :: _) f164_17 rfl rfl ?_
  refine Ew.icmp f164_19 rfl rfl (fun c1 => ?_) (fun c1 => ?_)
  · refine Ew.op (st' := zi (nI 1) :: _) f164_36 rfl rfl ?_
    refine Ew.goto f164_37 rfl ?_
    refine Ew.addn f164_66 rfl ?_
    refine Ew.sr (ls' := [some (zr (some (1, 0, 0))), some (zi (nI t)), some (zi (nI a)), some (zi (nI (D + 1))), some (zi (nI k)), some (zi (nI x))]) f164_67 rfl rfl (Nat.le_of_ble_eq_true rfl) rfl rfl ?_
    refine Ew.iinc (v := nI (k + 1)) (ls' := [some (zr (some (1, 0, 0))), some (zi (nI t)), some (zi (nI a)), some (zi (nI (D + 1))), some (zi (nI (k + 1))), some (zi (nI x))]) f164_68 rfl (nI_1 _) rfl rfl ?_
    refine Ew.ld f164_71 rfl rfl rfl rfl ?_
    refine Ew.ifc f164_72 rfl rfl (fun c2 => ?_) (fun c2 => ?_)
    · exact h1 ((zeq nb_x (by decide)).mp c1) c2
    · refine Ew.ld f164_75 rfl rfl rfl rfl ?_
      refine Ew.op (st' := zi (nI 1) :: _) f164_77 rfl rfl ?_
      refine Ew.op (st' := zi ((nI (k + 1)) - (nI 1)) :: _) f164_78 rfl rfl ?_
      refine Ew.ireti f164_79 ?_
      exact h2 ((zeq nb_x (by decide)).mp c1) (Int32.not_lt.mp c2)
  · refine Ew.ld f164_22 rfl rfl rfl rfl ?_
    refine Ew.op (st' := zi (nI 91) :: _) f164_24 rfl rfl ?_
    refine Ew.icmp f164_26 rfl rfl (fun c3 => ?_) (fun c3 => ?_)
    · refine Ew.op (st' := zi (nI 1) :: _) f164_36 rfl rfl ?_
      refine Ew.goto f164_37 rfl ?_
      refine Ew.addn f164_66 rfl ?_
      refine Ew.sr (ls' := [some (zr (some (1, 0, 0))), some (zi (nI t)), some (zi (nI a)), some (zi (nI (D + 1))), some (zi (nI k)), some (zi (nI x))]) f164_67 rfl rfl (Nat.le_of_ble_eq_true rfl) rfl rfl ?_
      refine Ew.iinc (v := nI (k + 1)) (ls' := [some (zr (some (1, 0, 0))), some (zi (nI t)), some (zi (nI a)), some (zi (nI (D + 1))), some (zi (nI (k + 1))), some (zi (nI x))]) f164_68 rfl (nI_1 _) rfl rfl ?_
      refine Ew.ld f164_71 rfl rfl rfl rfl ?_
      refine Ew.ifc f164_72 rfl rfl (fun c4 => ?_) (fun c4 => ?_)
      · exact h3 (fun e => c1 ((zeq nb_x (by decide)).mpr e)) ((zeq nb_x (by decide)).mp c3) c4
      · refine Ew.ld f164_75 rfl rfl rfl rfl ?_
        refine Ew.op (st' := zi (nI 1) :: _) f164_77 rfl rfl ?_
        refine Ew.op (st' := zi ((nI (k + 1)) - (nI 1)) :: _) f164_78 rfl rfl ?_
        refine Ew.ireti f164_79 ?_
        exact h4 (fun e => c1 ((zeq nb_x (by decide)).mpr e)) ((zeq nb_x (by decide)).mp c3) (Int32.not_lt.mp c4)
    · refine Ew.ld f164_29 rfl rfl rfl rfl ?_
      refine Ew.op (st' := zi (nI 123) :: _) f164_31 rfl rfl ?_
      refine Ew.icmp f164_33 rfl rfl (fun c5 => ?_) (fun c5 => ?_)
      · refine Ew.ld f164_40 rfl rfl rfl rfl ?_
        refine Ew.op (st' := zi (nI 41) :: _) f164_42 rfl rfl ?_
        refine Ew.icmp f164_44 rfl rfl (fun c6 => ?_) (fun c6 => ?_)
        · refine Ew.op (st' := zi ((-1)) :: _) f164_61 rfl rfl ?_
          refine Ew.goto f164_62 rfl ?_
          refine Ew.op (st' := zi ((nI D) + ((-1))) :: _) f164_66 rfl rfl ?_
          refine Ew.sr (ls' := [some (zr (some (1, 0, 0))), some (zi (nI t)), some (zi (nI a)), some (zi ((nI D) + ((-1)))), some (zi (nI k)), some (zi (nI x))]) f164_67 rfl rfl (Nat.le_of_ble_eq_true rfl) rfl rfl ?_
          refine Ew.iinc (v := nI (k + 1)) (ls' := [some (zr (some (1, 0, 0))), some (zi (nI t)), some (zi (nI a)), some (zi ((nI D) + ((-1)))), some (zi (nI (k + 1))), some (zi (nI x))]) f164_68 rfl (nI_1 _) rfl rfl ?_
          refine Ew.ld f164_71 rfl rfl rfl rfl ?_
          refine Ew.ifc f164_72 rfl rfl (fun c7 => ?_) (fun c7 => ?_)
          · exact h5 (fun e => c1 ((zeq nb_x (by decide)).mpr e)) (fun e => c3 ((zeq nb_x (by decide)).mpr e)) (fun e => c5 ((zeq nb_x (by decide)).mpr e)) ((zeq nb_x (by decide)).mp c6) c7
          · refine Ew.ld f164_75 rfl rfl rfl rfl ?_
            refine Ew.op (st' := zi (nI 1) :: _) f164_77 rfl rfl ?_
            refine Ew.op (st' := zi ((nI (k + 1)) - (nI 1)) :: _) f164_78 rfl rfl ?_
            refine Ew.ireti f164_79 ?_
            exact h6 (fun e => c1 ((zeq nb_x (by decide)).mpr e)) (fun e => c3 ((zeq nb_x (by decide)).mpr e)) (fun e => c5 ((zeq nb_x (by decide)).mpr e)) ((zeq nb_x (by decide)).mp c6) (Int32.not_lt.mp c7)
        · refine Ew.ld f164_47 rfl rfl rfl rfl ?_
          refine Ew.op (st' := zi (nI 93) :: _) f164_49 rfl rfl ?_
          refine Ew.icmp f164_51 rfl rfl (fun c8 => ?_) (fun c8 => ?_)
          · refine Ew.op (st' := zi ((-1)) :: _) f164_61 rfl rfl ?_
            refine Ew.goto f164_62 rfl ?_
            refine Ew.op (st' := zi ((nI D) + ((-1))) :: _) f164_66 rfl rfl ?_
            refine Ew.sr (ls' := [some (zr (some (1, 0, 0))), some (zi (nI t)), some (zi (nI a)), some (zi ((nI D) + ((-1)))), some (zi (nI k)), some (zi (nI x))]) f164_67 rfl rfl (Nat.le_of_ble_eq_true rfl) rfl rfl ?_
            refine Ew.iinc (v := nI (k + 1)) (ls' := [some (zr (some (1, 0, 0))), some (zi (nI t)), some (zi (nI a)), some (zi ((nI D) + ((-1)))), some (zi (nI (k + 1))), some (zi (nI x))]) f164_68 rfl (nI_1 _) rfl rfl ?_
            refine Ew.ld f164_71 rfl rfl rfl rfl ?_
            refine Ew.ifc f164_72 rfl rfl (fun c9 => ?_) (fun c9 => ?_)
            · exact h7 (fun e => c1 ((zeq nb_x (by decide)).mpr e)) (fun e => c3 ((zeq nb_x (by decide)).mpr e)) (fun e => c5 ((zeq nb_x (by decide)).mpr e)) (fun e => c6 ((zeq nb_x (by decide)).mpr e)) ((zeq nb_x (by decide)).mp c8) c9
            · refine Ew.ld f164_75 rfl rfl rfl rfl ?_
              refine Ew.op (st' := zi (nI 1) :: _) f164_77 rfl rfl ?_
              refine Ew.op (st' := zi ((nI (k + 1)) - (nI 1)) :: _) f164_78 rfl rfl ?_
              refine Ew.ireti f164_79 ?_
              exact h8 (fun e => c1 ((zeq nb_x (by decide)).mpr e)) (fun e => c3 ((zeq nb_x (by decide)).mpr e)) (fun e => c5 ((zeq nb_x (by decide)).mpr e)) (fun e => c6 ((zeq nb_x (by decide)).mpr e)) ((zeq nb_x (by decide)).mp c8) (Int32.not_lt.mp c9)
          · refine Ew.ld f164_54 rfl rfl rfl rfl ?_
            refine Ew.op (st' := zi (nI 125) :: _) f164_56 rfl rfl ?_
            refine Ew.icmp f164_58 rfl rfl (fun c10 => ?_) (fun c10 => ?_)
            · refine Ew.op (st' := zi (nI 0) :: _) f164_65 rfl rfl ?_
              refine Ew.addn f164_66 rfl ?_
              refine Ew.sr (ls' := [some (zr (some (1, 0, 0))), some (zi (nI t)), some (zi (nI a)), some (zi (nI D)), some (zi (nI k)), some (zi (nI x))]) f164_67 rfl rfl (Nat.le_of_ble_eq_true rfl) rfl rfl ?_
              refine Ew.iinc (v := nI (k + 1)) (ls' := [some (zr (some (1, 0, 0))), some (zi (nI t)), some (zi (nI a)), some (zi (nI D)), some (zi (nI (k + 1))), some (zi (nI x))]) f164_68 rfl (nI_1 _) rfl rfl ?_
              refine Ew.ld f164_71 rfl rfl rfl rfl ?_
              refine Ew.ifc f164_72 rfl rfl (fun c11 => ?_) (fun c11 => ?_)
              · exact h9 (fun e => c1 ((zeq nb_x (by decide)).mpr e)) (fun e => c3 ((zeq nb_x (by decide)).mpr e)) (fun e => c5 ((zeq nb_x (by decide)).mpr e)) (fun e => c6 ((zeq nb_x (by decide)).mpr e)) (fun e => c8 ((zeq nb_x (by decide)).mpr e)) (fun e => c10 ((zeq nb_x (by decide)).mpr e)) ((zlt_iff (by decide) nb_D).mp c11)
              · refine Ew.ld f164_75 rfl rfl rfl rfl ?_
                refine Ew.op (st' := zi (nI 1) :: _) f164_77 rfl rfl ?_
                refine Ew.op (st' := zi ((nI (k + 1)) - (nI 1)) :: _) f164_78 rfl rfl ?_
                refine Ew.ireti f164_79 ?_
                exact h10 (fun e => c1 ((zeq nb_x (by decide)).mpr e)) (fun e => c3 ((zeq nb_x (by decide)).mpr e)) (fun e => c5 ((zeq nb_x (by decide)).mpr e)) (fun e => c6 ((zeq nb_x (by decide)).mpr e)) (fun e => c8 ((zeq nb_x (by decide)).mpr e)) (fun e => c10 ((zeq nb_x (by decide)).mpr e)) (Nat.not_lt.mp fun e => c11 ((zlt_iff (by decide) nb_D).mpr e))
            · refine Ew.op (st' := zi ((-1)) :: _) f164_61 rfl rfl ?_
              refine Ew.goto f164_62 rfl ?_
              refine Ew.op (st' := zi ((nI D) + ((-1))) :: _) f164_66 rfl rfl ?_
              refine Ew.sr (ls' := [some (zr (some (1, 0, 0))), some (zi (nI t)), some (zi (nI a)), some (zi ((nI D) + ((-1)))), some (zi (nI k)), some (zi (nI x))]) f164_67 rfl rfl (Nat.le_of_ble_eq_true rfl) rfl rfl ?_
              refine Ew.iinc (v := nI (k + 1)) (ls' := [some (zr (some (1, 0, 0))), some (zi (nI t)), some (zi (nI a)), some (zi ((nI D) + ((-1)))), some (zi (nI (k + 1))), some (zi (nI x))]) f164_68 rfl (nI_1 _) rfl rfl ?_
              refine Ew.ld f164_71 rfl rfl rfl rfl ?_
              refine Ew.ifc f164_72 rfl rfl (fun c12 => ?_) (fun c12 => ?_)
              · exact h11 (fun e => c1 ((zeq nb_x (by decide)).mpr e)) (fun e => c3 ((zeq nb_x (by decide)).mpr e)) (fun e => c5 ((zeq nb_x (by decide)).mpr e)) (fun e => c6 ((zeq nb_x (by decide)).mpr e)) (fun e => c8 ((zeq nb_x (by decide)).mpr e)) ((zeq nb_x (by decide)).mp (Classical.not_not.mp c10)) c12
              · refine Ew.ld f164_75 rfl rfl rfl rfl ?_
                refine Ew.op (st' := zi (nI 1) :: _) f164_77 rfl rfl ?_
                refine Ew.op (st' := zi ((nI (k + 1)) - (nI 1)) :: _) f164_78 rfl rfl ?_
                refine Ew.ireti f164_79 ?_
                exact h12 (fun e => c1 ((zeq nb_x (by decide)).mpr e)) (fun e => c3 ((zeq nb_x (by decide)).mpr e)) (fun e => c5 ((zeq nb_x (by decide)).mpr e)) (fun e => c6 ((zeq nb_x (by decide)).mpr e)) (fun e => c8 ((zeq nb_x (by decide)).mpr e)) ((zeq nb_x (by decide)).mp (Classical.not_not.mp c10)) (Int32.not_lt.mp c12)
      · refine Ew.op (st' := zi (nI 1) :: _) f164_36 rfl rfl ?_
        refine Ew.goto f164_37 rfl ?_
        refine Ew.addn f164_66 rfl ?_
        refine Ew.sr (ls' := [some (zr (some (1, 0, 0))), some (zi (nI t)), some (zi (nI a)), some (zi (nI (D + 1))), some (zi (nI k)), some (zi (nI x))]) f164_67 rfl rfl (Nat.le_of_ble_eq_true rfl) rfl rfl ?_
        refine Ew.iinc (v := nI (k + 1)) (ls' := [some (zr (some (1, 0, 0))), some (zi (nI t)), some (zi (nI a)), some (zi (nI (D + 1))), some (zi (nI (k + 1))), some (zi (nI x))]) f164_68 rfl (nI_1 _) rfl rfl ?_
        refine Ew.ld f164_71 rfl rfl rfl rfl ?_
        refine Ew.ifc f164_72 rfl rfl (fun c13 => ?_) (fun c13 => ?_)
        · exact h13 (fun e => c1 ((zeq nb_x (by decide)).mpr e)) (fun e => c3 ((zeq nb_x (by decide)).mpr e)) ((zeq nb_x (by decide)).mp (Classical.not_not.mp c5)) c13
        · refine Ew.ld f164_75 rfl rfl rfl rfl ?_
          refine Ew.op (st' := zi (nI 1) :: _) f164_77 rfl rfl ?_
          refine Ew.op (st' := zi ((nI (k + 1)) - (nI 1)) :: _) f164_78 rfl rfl ?_
          refine Ew.ireti f164_79 ?_
          exact h14 (fun e => c1 ((zeq nb_x (by decide)).mpr e)) (fun e => c3 ((zeq nb_x (by decide)).mpr e)) ((zeq nb_x (by decide)).mp (Classical.not_not.mp c5)) (Int32.not_lt.mp c13)
theorem sp_shutOf {d c s t a r m : Nat} {L : List Nat} {X : zM} {ρ : Nat → Nat → Int32} {l : Nat → Nat → Int64} {Q : Option zV → zM → Prop} (ht : t < 4) (hL : tTxt ρ t L) (h127 : ∀ x, x ∈ L → x < 127) (hm : m ≤ 200) (ha : a ≤ 200) (h : mSh (fun k => L.getD k 0) m a 0 r) (q : Q (some (zi (nI r))) (OM X 1 0 ρ l)) : Ev (d + 1) c s 164 0 [some (zr (some (1, 0, 0))), some (zi (nI t)), some (zi (nI a)), none, none, none] [] (OM X 1 0 ρ l) Q := by
  have hx : ∀ k, L.getD k 0 < 127 := by
    intro k
    rw [List.getD_eq_getElem?_getD]
    by_cases hk : k < L.length
    · rw [List.getElem?_eq_getElem hk]
      exact h127 _ (List.getElem_mem hk)
    · rw [List.getElem?_eq_none (by omega)]
      decide
  refine g164_0 ?_
  have key : ∀ m D k (o5 : Option zV), k + m ≤ 400 → D + m ≤ 200 → mSh (fun k => L.getD k 0) m k D r → Ev (d + 1) c s 164 5 [some (zr (some (1, 0, 0))), some (zi (nI t)), some (zi (nI a)), some (zi (nI D)), some (zi (nI k)), o5] [] (OM X 1 0 ρ l) Q := by
    intro m
    induction m with
    | zero => intro D k o5 _ _ h; exact h.elim
    | succ m ih =>
      intro D k o5 hk hD h
      refine g164_5 ht hL (by omega) ?_
      have hc := hx k
      have h : if L.getD k 0 = 40 ∨ L.getD k 0 = 91 ∨ L.getD k 0 = 123 then mSh (fun k => L.getD k 0) m (k + 1) (D + 1) r else if L.getD k 0 = 41 ∨ L.getD k 0 = 93 ∨ L.getD k 0 = 125 then (if D ≤ 1 then r = k else mSh (fun k => L.getD k 0) m (k + 1) (D - 1) r) else if D = 0 then r = k else mSh (fun k => L.getD k 0) m (k + 1) D r := h
      generalize L.getD k 0 = x at h hc
      have ek : nI (k + 1) - nI 1 = nI k := by rw [pk_sub (by omega), Nat.add_sub_cancel]
      have eD : 0 < D → nI D + (-1) = nI (D - 1) := by
        intro h0
        rw [← pk_sub (show 1 ≤ D by omega)]
        exact (Int32.sub_eq_add_neg _ _).symm
      have p1 : ¬ (nI (D + 1) ≤ 0) := nI_nle (by omega) (by omega)
      have cl : (pIsO x → False) → pIsC x → (0 < nI D + (-1) → Ev (d + 1) c s 164 5 [some (zr (some (1, 0, 0))), some (zi (nI t)), some (zi (nI a)), some (zi (nI D + (-1))), some (zi (nI (k + 1))), some (zi (nI x))] [] (OM X 1 0 ρ l) Q) ∧ (nI D + (-1) ≤ 0 → Q (some (zi (nI (k + 1) - nI 1))) (OM X 1 0 ρ l)) := by
        intro ho hcx
        unfold pIsO at ho
        unfold pIsC at hcx
        rw [if_neg ho, if_pos hcx] at h
        by_cases hD1 : D ≤ 1
        · rw [if_pos hD1] at h
          subst h
          refine ⟨fun g => ?_, fun _ => by rw [ek]; exact q⟩
          exfalso
          rcases (show D = 0 ∨ D = 1 by omega) with rfl | rfl
          · exact absurd g (by decide)
          · exact absurd g (by decide)
        · rw [if_neg hD1] at h
          rw [eD (by omega)]
          refine ⟨fun _ => ih _ _ _ (by omega) (by omega) h, fun g => absurd g (nI_nle (by omega) (by omega))⟩
      have op : pIsO x → Ev (d + 1) c s 164 5 [some (zr (some (1, 0, 0))), some (zi (nI t)), some (zi (nI a)), some (zi (nI (D + 1))), some (zi (nI (k + 1))), some (zi (nI x))] [] (OM X 1 0 ρ l) Q := by
        intro ho
        unfold pIsO at ho
        rw [if_pos ho] at h
        exact ih _ _ _ (by omega) (by omega) h
      refine g164_14 (by omega) (by omega) (fun e _ => op (Or.inl e)) (fun _ g => absurd g p1) (fun _ e _ => op (Or.inr (Or.inl e))) (fun _ _ g => absurd g p1)
        (fun e1 e2 e3 e4 => (cl (fun g => by rcases g with g | g | g <;> contradiction) (Or.inl e4)).1) (fun e1 e2 e3 e4 => (cl (fun g => by rcases g with g | g | g <;> contradiction) (Or.inl e4)).2)
        (fun e1 e2 e3 e4 e5 => (cl (fun g => by rcases g with g | g | g <;> contradiction) (Or.inr (Or.inl e5))).1) (fun e1 e2 e3 e4 e5 => (cl (fun g => by rcases g with g | g | g <;> contradiction) (Or.inr (Or.inl e5))).2)
        (fun e1 e2 e3 e4 e5 e6 g => ?_) (fun e1 e2 e3 e4 e5 e6 g => ?_)
        (fun e1 e2 e3 e4 e5 e6 => (cl (fun g => by rcases g with g | g | g <;> contradiction) (Or.inr (Or.inr e6))).1) (fun e1 e2 e3 e4 e5 e6 => (cl (fun g => by rcases g with g | g | g <;> contradiction) (Or.inr (Or.inr e6))).2)
        (fun _ _ e _ => op (Or.inr (Or.inr e))) (fun _ _ _ g => absurd g p1)
      · rw [if_neg (by omega), if_neg (by omega), if_neg (by omega)] at h
        exact ih _ _ _ (by omega) (by omega) h
      · rw [if_neg (by omega), if_neg (by omega), if_pos (by omega)] at h
        subst h
        rw [ek]
        exact q
  exact key m 0 a _ (by omega) (by omega) h
/-- the place changes -/
theorem mR.at {ρ0 ρ : Nat → Nat → Int32} {t : Nat} {s : pS} {st : List mF} {a : Nat} {w : Nat × Int32} (h : mR ρ0 t ρ (s, st, a, w)) (b : Nat) : mR ρ0 t (zu ρ 0 31 (nI b)) (s, st, b, w) := by
  obtain ⟨⟨s1, s2, s3⟩, ⟨c1, c2, c3, c4, c5, c6⟩, ⟨a1, a2, a3⟩, ⟨o1, o2, o3⟩, ⟨w1, w2, w3⟩, fr⟩ := h
  refine ⟨⟨?_, s2, fun k hk => ?_⟩, ⟨fun i hi => ?_, ?_, ?_, ?_, ?_, ?_⟩, ⟨?_, a2, mAds_ext (fun k hk => ⟨?_, ?_⟩) a3⟩, ⟨?_, o2, mStk_ext (fun k hk => ⟨?_, ?_, ?_, ?_⟩) o3⟩, ⟨?_, ?_, ?_⟩, fun q i hq => ?_⟩
  all_goals first
    | exact zu_s _ _ _ _
    | (rw [zu_i_ne (by omega)]; assumption)
    | (rw [zu_i_ne (by omega)]; exact c1 i hi)
    | (rw [zu_i_ne (by omega), zu_i_ne (by omega), zu_i_ne (by omega)]; exact s3 k hk)
    | (rw [zu_i_ne (by omega)]; done)
    | (rw [zu_i_ne (by unfold mScr at hq; omega)]; exact fr q i hq)
/-- how many are open changes -/
theorem mR.cut {ρ0 ρ ρ' : Nat → Nat → Int32} {t : Nat} {s : pS} {st st' : List mF} {y : Nat × (Nat × Int32)} (h : mR ρ0 t ρ (s, st, y)) (h6 : st'.length ≤ 6) (hs : mStk ρ st') (hρ : ρ' = zu ρ 0 26 (nI st'.length)) : mR ρ0 t ρ' (s, st', y) := by
  subst hρ
  obtain ⟨⟨s1, s2, s3⟩, ⟨c1, c2, c3, c4, c5, c6⟩, ⟨a1, a2, a3⟩, ⟨o1, o2, o3⟩, ⟨w1, w2, w3⟩, fr⟩ := h
  refine ⟨⟨?_, s2, fun k hk => ?_⟩, ⟨fun i hi => ?_, ?_, ?_, ?_, ?_, ?_⟩, ⟨?_, a2, mAds_ext (fun k hk => ⟨?_, ?_⟩) a3⟩, ⟨?_, h6, mStk_ext (fun k hk => ⟨?_, ?_, ?_, ?_⟩) hs⟩, ⟨?_, ?_, ?_⟩, fun q i hq => ?_⟩
  all_goals first
    | exact zu_s _ _ _ _
    | (rw [zu_i_ne (by omega)]; assumption)
    | (rw [zu_i_ne (by omega)]; exact c1 i hi)
    | (rw [zu_i_ne (by omega), zu_i_ne (by omega), zu_i_ne (by omega)]; exact s3 k hk)
    | (rw [zu_i_ne (by omega)]; done)
    | (rw [zu_i_ne (by unfold mScr at hq; omega)]; exact fr q i hq)
theorem mR.why {ρ0 ρ : Nat → Nat → Int32} {t : Nat} {s : pS} {st : List mF} {a : Nat} {w : Nat × Int32} (h : mR ρ0 t ρ (s, st, a, w)) (y : Nat) (z : Int32) : mR ρ0 t (zu (zu ρ 14 t (nI y)) 15 t z) (s, st, a, (y, z)) := by
  obtain ⟨⟨s1, s2, s3⟩, ⟨c1, c2, c3, c4, c5, c6⟩, ⟨a1, a2, a3⟩, ⟨o1, o2, o3⟩, ⟨w1, w2, w3⟩, fr⟩ := h
  refine ⟨⟨?_, s2, fun k hk => ?_⟩, ⟨fun i hi => ?_, ?_, ?_, ?_, ?_, ?_⟩, ⟨?_, a2, mAds_ext (fun k hk => ⟨?_, ?_⟩) a3⟩, ⟨?_, o2, mStk_ext (fun k hk => ⟨?_, ?_, ?_, ?_⟩) o3⟩, ⟨?_, ?_, ?_⟩, fun q i hq => ?_⟩
  all_goals first
    | exact zu_s _ _ _ _
    | (rw [zu_i_ne (by omega), zu_s]; done)
    | (rw [zu_i_ne (by omega), zu_i_ne (by omega)]; assumption)
    | (rw [zu_i_ne (by omega), zu_i_ne (by omega)]; exact c1 i hi)
    | (rw [zu_i_ne (by omega), zu_i_ne (by omega), zu_i_ne (by omega), zu_i_ne (by omega), zu_i_ne (by omega), zu_i_ne (by omega)]; exact s3 k hk)
    | (rw [zu_i_ne (by omega), zu_i_ne (by omega)]; done)
    | (rw [zu_i_ne (by unfold mScr at hq; omega), zu_i_ne (by unfold mScr at hq; omega)]; exact fr q i hq)
/-- so often a gate stands in what is open -/
def mCg (g : Nat) : List mF → Nat
  | [] => 0
  | x :: u => mCg g u + if x.1 = 0 ∧ x.2.2.1 = g then 1 else 0
def mC6 : List mF → Nat
  | [] => 0
  | x :: u => mC6 u + if x.1 = 0 then 1 else 0
def mCs (c : Nat → Nat) (st : List mF) : Prop := (∀ g, g < 6 → c g = mCg g st) ∧ c 6 = mC6 st ∧ c 7 ≤ 6
theorem mCg_le (g : Nat) : ∀ st, mCg g st ≤ mC6 st ∧ mC6 st ≤ st.length := by
  intro st
  induction st with
  | nil => exact ⟨Nat.le_refl 0, Nat.le_refl 0⟩
  | cons x u ih =>
    unfold mCg mC6
    rw [List.length_cons]
    by_cases h0 : x.1 = 0
    · rw [if_pos h0]
      split <;> omega
    · rw [if_neg h0, if_neg (fun e => h0 e.1)]
      omega
/-- an open bracket is as brackets are -/
def mFo (L : List Nat) (x : mF) : Prop := (x.1 = 0 → x.2.2.1 < 6) ∧ x.1 < 3 ∧ x.2.1 ≤ 100 ∧ (x.1 = 1 → mSh (fun k => L.getD k 0) 61 x.2.1 0 (pShut (pF L) 61 x.2.1 0)) ∧ (x.1 = 2 → 1 ≤ x.2.2.1 ∧ x.2.2.1 ≤ 5) ∧ x.2.2.2 ≤ 30
/-- what breaks goes outwards -/
def mBrk (L : List Nat) (b : Nat × Int32) : List mF → pS → Nat → (Nat × Int32) → mC
  | [], s, a, _ => (s, [], a, b)
  | x :: u, s, a, w => if x.1 = 0 then mBrk L b u (pLeave (mTake x.2.2.2 s) x.2.2.1) a w else if x.1 = 1 then (((mTake x.2.2.2 s).1, zup (mTake x.2.2.2 s).2.1 9 ((mTake x.2.2.2 s).2.1 9 + 1), (mTake x.2.2.2 s).2.2), u, pShut (pF L) 61 x.2.1 0 + 1, w) else mBrk L b u s a w
theorem mTakeL_c : ∀ (u : List (Nat × Int32)) (m : Nat) (s : pS) (i : Nat), ¬ i = 10 → (mTakeL u m s).2.1 i = s.2.1 i := by
  intro u
  induction u with
  | nil => intro m s i _; rfl
  | cons x u ih =>
    intro m s i hi
    unfold mTakeL
    split
    · split
      · exact ih m _ i hi
      · rw [ih m _ i hi]
        exact pPut_c _ _ _ _ hi
    · rfl
theorem mTake_c (m : Nat) (s : pS) {i : Nat} (hi : ¬ i = 10) : (mTake m s).2.1 i = s.2.1 i := mTakeL_c _ _ _ _ hi
theorem mCs.pop {c : Nat → Nat} {x : mF} {u : List mF} (h : mCs c (x :: u)) (h0 : x.1 = 0) (hg : x.2.2.1 < 6) : 0 < c x.2.2.1 ∧ 0 < c 6 ∧ mCs (pLc c x.2.2.1) u := by
  obtain ⟨h1, h2, h3⟩ := h
  have e1 := h1 _ hg
  unfold mCg at e1
  rw [if_pos ⟨h0, rfl⟩] at e1
  unfold mC6 at h2
  rw [if_pos h0] at h2
  refine ⟨by omega, by omega, fun g hg' => ?_, ?_, ?_⟩
  · rw [pLc_g _ hg hg']
    have e2 := h1 g hg'
    unfold mCg at e2
    by_cases e : g = x.2.2.1
    · subst e
      rw [if_pos rfl]
      omega
    · rw [if_neg e]
      rw [if_neg (fun g => e g.2.symm)] at e2
      omega
  · rw [pLc_6]
    omega
  · rw [pLc_9 _ hg (by omega)]
    exact h3
theorem mCs.skip {c : Nat → Nat} {x : mF} {u : List mF} (h : mCs c (x :: u)) (h0 : ¬ x.1 = 0) : mCs c u := by
  obtain ⟨h1, h2, h3⟩ := h
  refine ⟨fun g hg => ?_, ?_, h3⟩
  · have e := h1 g hg
    unfold mCg at e
    rw [if_neg (fun g => h0 g.1)] at e
    exact e
  · unfold mC6 at h2
    rw [if_neg h0] at h2
    exact h2
theorem mCs.eq {c c' : Nat → Nat} {u : List mF} (h : mCs c u) (he : ∀ i, i < 8 → c' i = c i) : mCs c' u := ⟨fun g hg => (he g (by omega)).trans (h.1 g hg), (he 6 (by omega)).trans h.2.1, by rw [he 7 (by omega)]; exact h.2.2⟩
theorem g165_0 {d c s : Nat} {t y : Nat} {z : Int32} {X : zM} {ρ : Nat → Nat → Int32} {l : Nat → Nat → Int64} {Q : Option zV → zM → Prop}
    (h1 : Ev d c s 165 3 [some (zr (some (1, 0, 0))), some (zi (nI t)), some (zi (nI y)), some (zi z), some (zi (nI 1))] [] (OM X 1 0 ρ l) Q) : Ev d c s 165 0 [some (zr (some (1, 0, 0))), some (zi (nI t)), some (zi (nI y)), some (zi z), none] [] (OM X 1 0 ρ l) Q := by
  refine Ew.op (st' := zi (nI 1) :: _) f165_0 rfl rfl ?_
  refine Ew.sr (ls' := [some (zr (some (1, 0, 0))), some (zi (nI t)), some (zi (nI y)), some (zi z), some (zi (nI 1))]) f165_1 rfl rfl (Nat.le_of_ble_eq_true rfl) rfl rfl ?_
  exact h1
theorem g165_3 {d c s : Nat} {t y o : Nat} {z : Int32} {X : zM} {ρ : Nat → Nat → Int32} {l : Nat → Nat → Int64} {Q : Option zV → zM → Prop} (e1 : ρ 0 26 = nI o) (nb_o : o < 5000)
    (b1 : (o ≤ 0) → t < 4)
    (b2 : (o ≤ 0) → t < 4)
    (h1 : (o ≤ 0) → Q none (OM X 1 0 (zu (zu ρ 14 t (nI y)) 15 t z) l))
    (h2 : (0 < o) → Ev d c s 165 25 [some (zr (some (1, 0, 0))), some (zi (nI t)), some (zi (nI y)), some (zi z), some (zi (nI 1))] [] (OM X 1 0 (zu ρ 0 26 ((nI o) - (nI 1))) l) Q) : Ev d c s 165 3 [some (zr (some (1, 0, 0))), some (zi (nI t)), some (zi (nI y)), some (zi z), some (zi (nI 1))] [] (OM X 1 0 ρ l) Q := by
  refine Ew.ld f165_3 rfl rfl rfl rfl ?_
  refine Ew.ifc f165_5 rfl rfl (fun h => absurd h (show ¬ (((nI 1) : Int32) = 0) by decide)) (fun _ => ?_)
  refine Ew.ld f165_8 rfl rfl rfl rfl ?_
  refine Ew.getiV (v := nI o) f165_9 rfl (so_v e1) rfl ?_
  refine Ew.ifc f165_12 rfl rfl (fun c1 => ?_) (fun c1 => ?_)
  · refine Ew.ld f165_104 rfl rfl rfl rfl ?_
    refine Ew.ifc f165_106 rfl rfl (fun h => absurd h (show ¬ (((nI 1) : Int32) = 0) by decide)) (fun _ => ?_)
    refine Ew.ld f165_109 rfl rfl rfl rfl ?_
    refine Ew.getp (v := some (1, 0, 14)) f165_110 rfl rfl rfl ?_
    refine Ew.ld f165_113 rfl rfl rfl rfl ?_
    refine Ew.ld f165_114 rfl rfl rfl rfl ?_
    refine Ew.iastnO f165_115 (by decide) rfl (b1 ((zle_iff nb_o (by decide)).mp c1)) (Nat.le_of_ble_eq_true rfl) rfl ?_
    refine Ew.ld f165_116 rfl rfl rfl rfl ?_
    refine Ew.getp (v := some (1, 0, 15)) f165_117 rfl rfl rfl ?_
    refine Ew.ld f165_120 rfl rfl rfl rfl ?_
    refine Ew.ld f165_121 rfl rfl rfl rfl ?_
    refine Ew.iastnO f165_122 (by decide) rfl (b2 ((zle_iff nb_o (by decide)).mp c1)) (Nat.le_of_ble_eq_true rfl) rfl ?_
    refine Ew.vret f165_123 ?_
    exact h1 ((zle_iff nb_o (by decide)).mp c1)
  · refine Ew.ld f165_15 rfl rfl rfl rfl ?_
    refine Ew.op (st' := zr (some (1, 0, 0)) :: zr (some (1, 0, 0)) :: _) f165_16 rfl rfl ?_
    refine Ew.getiV (v := nI o) f165_17 rfl (so_v e1) rfl ?_
    refine Ew.op (st' := zi (nI 1) :: _) f165_20 rfl rfl ?_
    refine Ew.op (st' := zi ((nI o) - (nI 1)) :: _) f165_21 rfl rfl ?_
    refine Ew.putiO f165_22 rfl rfl ?_
    exact h2 (Nat.not_le.mp fun e => c1 ((zle_iff nb_o (by decide)).mpr e))
theorem g165_3z {d c s : Nat} {t y : Nat} {z : Int32} {X : zM} {ρ : Nat → Nat → Int32} {l : Nat → Nat → Int64} {Q : Option zV → zM → Prop}
    (h1 : Q none (OM X 1 0 ρ l)) : Ev d c s 165 3 [some (zr (some (1, 0, 0))), some (zi (nI t)), some (zi (nI y)), some (zi z), some (zi (nI 0))] [] (OM X 1 0 ρ l) Q := by
  refine Ew.ld f165_3 rfl rfl rfl rfl ?_
  refine Ew.ifc f165_5 rfl rfl (fun _ => ?_) (fun h => absurd (show ((nI 0) : Int32) = 0 by decide) h)
  refine Ew.ld f165_104 rfl rfl rfl rfl ?_
  refine Ew.ifc f165_106 rfl rfl (fun _ => ?_) (fun h => absurd (show ((nI 0) : Int32) = 0 by decide) h)
  refine Ew.vret f165_123 ?_
  exact h1
theorem g165_25 {d c s : Nat} {t y o kd : Nat} {z : Int32} {X : zM} {ρ : Nat → Nat → Int32} {l : Nat → Nat → Int64} {Q : Option zV → zM → Prop} (e1 : ρ 0 26 = nI o) (e2 : ρ 19 o = nI kd) (nb_kd : kd < 5000)
    (b1 : o < 6)
    (b2 : (¬ kd = 0) → o < 6)
    (h1 : (¬ kd = 0) → (¬ kd = 1) → Ev (d + 1) c s 165 3 [some (zr (some (1, 0, 0))), some (zi (nI t)), some (zi (nI y)), some (zi z), some (zi (nI 1))] [] (OM X 1 0 ρ l) Q)
    (h2 : (¬ kd = 0) → (kd = 1) → Ev d 0 0 162 0 [some (zr (some (1, 0, 0))), some (zi (nI t))] [] (OM X 1 0 ρ l) (fun r M' => Ev (d + 1) c s 165 68 [some (zr (some (1, 0, 0))), some (zi (nI t)), some (zi (nI y)), some (zi z), some (zi (nI 1))] (zpush r []) M' Q))
    (h3 : (kd = 0) → Ev d 0 0 162 0 [some (zr (some (1, 0, 0))), some (zi (nI t))] [] (OM X 1 0 ρ l) (fun r M' => Ev (d + 1) c s 165 42 [some (zr (some (1, 0, 0))), some (zi (nI t)), some (zi (nI y)), some (zi z), some (zi (nI 1))] (zpush r []) M' Q)) : Ev (d + 1) c s 165 25 [some (zr (some (1, 0, 0))), some (zi (nI t)), some (zi (nI y)), some (zi z), some (zi (nI 1))] [] (OM X 1 0 ρ l) Q := by
  refine Ew.ld f165_25 rfl rfl rfl rfl ?_
  refine Ew.getp (v := some (1, 0, 19)) f165_26 rfl rfl rfl ?_
  refine Ew.ld f165_29 rfl rfl rfl rfl ?_
  refine Ew.getiV (v := nI o) f165_30 rfl (so_v e1) rfl ?_
  refine Ew.ialdnV (v := nI kd) f165_33 rfl b1 (Nat.le_of_ble_eq_true rfl) rfl (so_v e2) ?_
  refine Ew.ifc f165_34 rfl rfl (fun c1 => ?_) (fun c1 => ?_)
  · refine Ew.ld f165_50 rfl rfl rfl rfl ?_
    refine Ew.getp (v := some (1, 0, 19)) f165_51 rfl rfl rfl ?_
    refine Ew.ld f165_54 rfl rfl rfl rfl ?_
    refine Ew.getiV (v := nI o) f165_55 rfl (so_v e1) rfl ?_
    refine Ew.ialdnV (v := nI kd) f165_58 rfl (b2 (fun e => c1 ((zeq nb_kd (by decide)).mpr e))) (Nat.le_of_ble_eq_true rfl) rfl (so_v e2) ?_
    refine Ew.op (st' := zi (nI 1) :: _) f165_59 rfl rfl ?_
    refine Ew.icmp f165_60 rfl rfl (fun c2 => ?_) (fun c2 => ?_)
    · exact h1 (fun e => c1 ((zeq nb_kd (by decide)).mpr e)) (fun e => c2 ((zeq nb_kd (by decide)).mpr e))
    · refine Ew.ld f165_63 rfl rfl rfl rfl ?_
      refine Ew.ld f165_64 rfl rfl rfl rfl ?_
      refine Ew.call0 (ls0 := [some (zr (some (1, 0, 0))), some (zi (nI t))]) f165_65 rfl (Nat.le_of_ble_eq_true rfl) rfl rfl (Nat.le_of_ble_eq_true rfl) rfl (Nat.le_of_ble_eq_true rfl) rfl rfl ?_
      exact h2 (fun e => c1 ((zeq nb_kd (by decide)).mpr e)) ((zeq nb_kd (by decide)).mp (Classical.not_not.mp c2))
  · refine Ew.ld f165_37 rfl rfl rfl rfl ?_
    refine Ew.ld f165_38 rfl rfl rfl rfl ?_
    refine Ew.call0 (ls0 := [some (zr (some (1, 0, 0))), some (zi (nI t))]) f165_39 rfl (Nat.le_of_ble_eq_true rfl) rfl rfl (Nat.le_of_ble_eq_true rfl) rfl (Nat.le_of_ble_eq_true rfl) rfl rfl ?_
    exact h3 ((zeq nb_kd (by decide)).mp (Classical.not_not.mp c1))
theorem g165_42 {d c s : Nat} {t y : Nat} {z : Int32} {X : zM} {ρ : Nat → Nat → Int32} {l : Nat → Nat → Int64} {Q : Option zV → zM → Prop}
    (h1 : Ev d 0 0 161 0 [some (zr (some (1, 0, 0))), some (zi (nI t))] [] (OM X 1 0 ρ l) (fun r M' => Ev (d + 1) c s 165 47 [some (zr (some (1, 0, 0))), some (zi (nI t)), some (zi (nI y)), some (zi z), some (zi (nI 1))] (zpush r []) M' Q)) : Ev (d + 1) c s 165 42 [some (zr (some (1, 0, 0))), some (zi (nI t)), some (zi (nI y)), some (zi z), some (zi (nI 1))] [] (OM X 1 0 ρ l) Q := by
  refine Ew.ld f165_42 rfl rfl rfl rfl ?_
  refine Ew.ld f165_43 rfl rfl rfl rfl ?_
  refine Ew.call0 (ls0 := [some (zr (some (1, 0, 0))), some (zi (nI t))]) f165_44 rfl (Nat.le_of_ble_eq_true rfl) rfl rfl (Nat.le_of_ble_eq_true rfl) rfl (Nat.le_of_ble_eq_true rfl) rfl rfl ?_
  exact h1
theorem g165_47 {d c s : Nat} {t y : Nat} {z : Int32} {X : zM} {ρ : Nat → Nat → Int32} {l : Nat → Nat → Int64} {Q : Option zV → zM → Prop}
    (h1 : Ev d c s 165 3 [some (zr (some (1, 0, 0))), some (zi (nI t)), some (zi (nI y)), some (zi z), some (zi (nI 1))] [] (OM X 1 0 ρ l) Q) : Ev d c s 165 47 [some (zr (some (1, 0, 0))), some (zi (nI t)), some (zi (nI y)), some (zi z), some (zi (nI 1))] [] (OM X 1 0 ρ l) Q := by
  refine Ew.goto f165_47 rfl ?_
  exact h1
theorem g165_68 {d c s : Nat} {t y o a u : Nat} {z : Int32} {X : zM} {ρ : Nat → Nat → Int32} {l : Nat → Nat → Int64} {Q : Option zV → zM → Prop} (e1 : ρ 0 26 = nI o) (e2 : ρ 20 o = nI a) (e3 : ρ 16 t = nI u)
    (b1 : t < 4)
    (b2 : t < 4)
    (b3 : o < 6)
    (h1 : Ev d 0 0 164 0 [some (zr (some (1, 0, 0))), some (zi (nI t)), some (zi (nI a)), none, none, none] [] (OM X 1 0 (zu ρ 16 t (nI (u + 1))) l) (fun r M' => Ev (d + 1) c s 165 93 [some (zr (some (1, 0, 0))), some (zi (nI t)), some (zi (nI y)), some (zi z), some (zi (nI 1))] (zpush r [zr (some (1, 0, 0))]) M' Q)) : Ev (d + 1) c s 165 68 [some (zr (some (1, 0, 0))), some (zi (nI t)), some (zi (nI y)), some (zi z), some (zi (nI 1))] [] (OM X 1 0 ρ l) Q := by
  refine Ew.ld f165_68 rfl rfl rfl rfl ?_
  refine Ew.getp (v := some (1, 0, 16)) f165_69 rfl rfl rfl ?_
  refine Ew.ld f165_72 rfl rfl rfl rfl ?_
  refine Ew.op (st' := zi (nI t) :: zr (some (1, 0, 16)) :: zi (nI t) :: zr (some (1, 0, 16)) :: _) f165_73 rfl rfl ?_
  refine Ew.ialdnV (v := nI u) f165_74 rfl b1 (Nat.le_of_ble_eq_true rfl) rfl (so_v e3) ?_
  refine Ew.op (st' := zi (nI 1) :: _) f165_75 rfl rfl ?_
  refine Ew.addn f165_76 rfl ?_
  refine Ew.iastnO f165_77 (by decide) rfl b2 (Nat.le_of_ble_eq_true rfl) rfl ?_
  refine Ew.ld f165_78 rfl rfl rfl rfl ?_
  refine Ew.ld f165_79 rfl rfl rfl rfl ?_
  refine Ew.ld f165_80 rfl rfl rfl rfl ?_
  refine Ew.ld f165_81 rfl rfl rfl rfl ?_
  refine Ew.getp (v := some (1, 0, 20)) f165_82 rfl rfl rfl ?_
  refine Ew.ld f165_85 rfl rfl rfl rfl ?_
  refine Ew.getiV (v := nI o) f165_86 rfl (so_v e1) rfl ?_
  refine Ew.ialdnV (v := nI a) f165_89 rfl b3 (Nat.le_of_ble_eq_true rfl) rfl (so_v e2) ?_
  refine Ew.call0 (ls0 := [some (zr (some (1, 0, 0))), some (zi (nI t)), some (zi (nI a)), none, none, none]) f165_90 rfl (Nat.le_of_ble_eq_true rfl) rfl rfl (Nat.le_of_ble_eq_true rfl) rfl (Nat.le_of_ble_eq_true rfl) rfl rfl ?_
  exact h1
theorem g165_93 {d c s : Nat} {t y e : Nat} {z : Int32} {X : zM} {ρ : Nat → Nat → Int32} {l : Nat → Nat → Int64} {Q : Option zV → zM → Prop}
    (h1 : Ev d c s 165 3 [some (zr (some (1, 0, 0))), some (zi (nI t)), some (zi (nI y)), some (zi z), some (zi (nI 0))] [] (OM X 1 0 (zu ρ 0 31 (nI (e + 1))) l) Q) : Ev d c s 165 93 [some (zr (some (1, 0, 0))), some (zi (nI t)), some (zi (nI y)), some (zi z), some (zi (nI 1))] [zi (nI e), zr (some (1, 0, 0))] (OM X 1 0 ρ l) Q := by
  refine Ew.op (st' := zi (nI 1) :: _) f165_93 rfl rfl ?_
  refine Ew.addn f165_94 rfl ?_
  refine Ew.putiO f165_95 rfl rfl ?_
  refine Ew.op (st' := zi (nI 0) :: _) f165_98 rfl rfl ?_
  refine Ew.sr (ls' := [some (zr (some (1, 0, 0))), some (zi (nI t)), some (zi (nI y)), some (zi z), some (zi (nI 0))]) f165_99 rfl rfl (Nat.le_of_ble_eq_true rfl) rfl rfl ?_
  refine Ew.goto f165_101 rfl ?_
  exact h1
theorem tTxt_mR {ρ0 ρ : Nat → Nat → Int32} {t : Nat} {x : mC} {L : List Nat} (h : mR ρ0 t ρ x) (hL : tTxt ρ0 t L) : tTxt ρ t L := by
  have e : ρ 1 = ρ0 1 := by
    funext i
    exact h.2.2.2.2.2 1 i (by unfold mScr; omega)
  unfold tTxt
  rw [e]
  exact hL
theorem sp_breaks {d c s t y : Nat} {z : Int32} {L : List Nat} {X : zM} {ρ0 : Nat → Nat → Int32} {l : Nat → Nat → Int64} {Q : Option zV → zM → Prop} (ht : t < 4) (hL : tTxt ρ0 t L) (h127 : ∀ x, x ∈ L → x < 127) {a : Nat} {w : Nat × Int32} {st : List mF} {s1 : pS} {ρ : Nat → Nat → Int32} (h : mR ρ0 t ρ (s1, st, a, w)) (hc : mCs s1.2.1 st) (hf : ∀ x, x ∈ st → mFo L x) (k : ∀ ρ', mR ρ0 t ρ' (mBrk L (y, z) st s1 a w) → Q none (OM X 1 0 ρ' l)) : Ev (d + 2) c s 165 0 [some (zr (some (1, 0, 0))), some (zi (nI t)), some (zi (nI y)), some (zi z), none] [] (OM X 1 0 ρ l) Q := by
  refine g165_0 ?_
  have key : ∀ (st : List mF) (s1 : pS) (ρ : Nat → Nat → Int32), mR ρ0 t ρ (s1, st, a, w) → mCs s1.2.1 st → (∀ x, x ∈ st → mFo L x) → (∀ ρ', mR ρ0 t ρ' (mBrk L (y, z) st s1 a w) → Q none (OM X 1 0 ρ' l)) → Ev (d + 2) c s 165 3 [some (zr (some (1, 0, 0))), some (zi (nI t)), some (zi (nI y)), some (zi z), some (zi (nI 1))] [] (OM X 1 0 ρ l) Q := by
    intro st
    induction st with
    | nil =>
      intro s1 ρ h hc hf k
      refine g165_3 (o := 0) h.2.2.2.1.1 (by decide) (fun _ => ht) (fun _ => ht) (fun _ => k _ (h.why y z)) (fun g => absurd g (by decide))
    | cons x u ih =>
      intro s1 ρ h hc hf k
      have hx := hf x List.mem_cons_self
      have hs : mStk ρ (x :: u) := h.2.2.2.1.2.2
      have h6 : u.length + 1 ≤ 6 := h.2.2.2.1.2.1
      refine g165_3 (o := u.length + 1) h.2.2.2.1.1 (by omega) (fun g => by omega) (fun g => by omega) (fun g => by omega) (fun _ => ?_)
      rw [pk_sub (by omega), Nat.add_sub_cancel]
      have h1 : mR ρ0 t (zu ρ 0 26 (nI u.length)) (s1, u, a, w) := h.cut (by omega) hs.2.2.2.2 rfl
      have hk1 : mKp ρ (zu ρ 0 26 (nI u.length)) := fun q i b1 b2 => zu_i_ne (by omega)
      refine g165_25 (o := u.length) (kd := x.1) h1.2.2.2.1.1 (by rw [hk1 _ _ (by decide) (by decide)]; exact hs.1) (by have := hx.2.1; omega) (by omega) (fun _ => by omega) (fun g0 g1 => ?_) (fun g0 g1 => ?_) (fun g0 => ?_)
      · refine ih s1 _ h1 (hc.skip g0) (fun x hx => hf x (List.mem_cons_of_mem _ hx)) ?_
        unfold mBrk at k
        rw [if_neg g0, if_neg g1] at k
        exact k
      · unfold mBrk at k
        rw [if_neg g0, if_pos g1] at k
        refine sp_takesBack ht (show u.length < 6 by omega) hx.2.2.2.2.2 s1.2.2 s1 _ rfl h1 (by rw [hk1 _ _ (by decide) (by decide)]; exact hs.2.2.2.1) (fun ρ2 h2 hk2 => ?_)
        have hk12 := hk1.trans hk2
        refine g165_68 (o := u.length) (a := x.2.1) (u := (mTake x.2.2.2 s1).2.1 9) h2.2.2.2.1.1 (by rw [hk12 _ _ (by decide) (by decide)]; exact hs.2.1) h2.2.1.2.2.2.2.1 ht ht (by omega) ?_
        have h3 : mR ρ0 t (zu ρ2 16 t (nI ((mTake x.2.2.2 s1).2.1 9 + 1))) (((mTake x.2.2.2 s1).1, zup (mTake x.2.2.2 s1).2.1 9 ((mTake x.2.2.2 s1).2.1 9 + 1), (mTake x.2.2.2 s1).2.2), u, a, w) := by
          obtain ⟨c1, c2, c3, c4, c5, c6⟩ := h2.2.1
          refine h2.cnt (s' := ((mTake x.2.2.2 s1).1, zup (mTake x.2.2.2 s1).2.1 9 ((mTake x.2.2.2 s1).2.1 9 + 1), (mTake x.2.2.2 s1).2.2)) rfl rfl ⟨fun i hi => ?_, ?_, ?_, ?_, ?_, ?_⟩ (fun q i b1 b2 b3 => ?_) (fun q i b1 b2 b3 => ?_)
          · rw [zu_i_ne (by omega)]; show _ = nI (zup (mTake x.2.2.2 s1).2.1 9 ((mTake x.2.2.2 s1).2.1 9 + 1) i); rw [zup_nn (by omega)]; exact c1 i hi
          · rw [zu_i_ne (by omega)]; show _ = nI (zup (mTake x.2.2.2 s1).2.1 9 ((mTake x.2.2.2 s1).2.1 9 + 1) 6); rw [zup_nn (by omega)]; exact c2
          · rw [zu_i_ne (by omega)]; show _ = nI (zup (mTake x.2.2.2 s1).2.1 9 ((mTake x.2.2.2 s1).2.1 9 + 1) 7); rw [zup_nn (by omega)]; exact c3
          · rw [zu_i_ne (by omega)]; show _ = nI (zup (mTake x.2.2.2 s1).2.1 9 ((mTake x.2.2.2 s1).2.1 9 + 1) 8); rw [zup_nn (by omega)]; exact c4
          · rw [zu_s]; show _ = nI (zup (mTake x.2.2.2 s1).2.1 9 ((mTake x.2.2.2 s1).2.1 9 + 1) 9); rw [zup_s]
          · rw [zu_i_ne (by omega)]; show _ = nI (zup (mTake x.2.2.2 s1).2.1 9 ((mTake x.2.2.2 s1).2.1 9 + 1) 10); rw [zup_nn (by omega)]; exact c6
          · rw [zu_i_ne (by omega)]
          · rw [zu_i_ne (by omega)]
        have hxa := hx.2.2.1
        refine sp_shutOf ht (tTxt_mR h3 hL) h127 (by decide) (by omega) (hx.2.2.2.1 g1) ?_
        show Ev (d + 2) c s 165 93 _ [zi (nI (pShut (pF L) 61 x.2.1 0)), zr (some (1, 0, 0))] _ Q
        exact g165_93 (g165_3z (k _ (h3.at _)))
      · unfold mBrk at k
        rw [if_pos g0] at k
        have hg := hx.1 g0
        obtain ⟨p1, p2, p3⟩ := hc.pop g0 hg
        refine sp_takesBack ht (show u.length < 6 by omega) hx.2.2.2.2.2 s1.2.2 s1 _ rfl h1 (by rw [hk1 _ _ (by decide) (by decide)]; exact hs.2.2.2.1) (fun ρ2 h2 hk2 => ?_)
        have hk12 := hk1.trans hk2
        refine g165_42 (sp_leaves ht hg h2 (show u.length < 6 by omega) (by rw [hk12 _ _ (by decide) (by decide)]; exact hs.2.2.1) ?_ ?_ (fun ρ3 h3 _ => g165_47 (ih _ ρ3 h3 ?_ (fun x hx => hf x (List.mem_cons_of_mem _ hx)) k)))
        · show 0 < (mTake x.2.2.2 s1).2.1 x.2.2.1
          rw [mTake_c _ _ (by omega)]
          exact p1
        · show 0 < (mTake x.2.2.2 s1).2.1 6
          rw [mTake_c _ _ (by omega)]
          exact p2
        · refine p3.eq fun i hi => ?_
          rw [pLeave_c _ _ (by omega)]
          unfold pLc zup
          rw [mTake_c _ _ (by omega), mTake_c _ _ (by omega), mTake_c _ _ (show ¬ i = 10 by omega)]
  exact key st s1 ρ h hc hf k
