/-! the reference: go, drift -/
theorem g208_0 {d c s : Nat} {x : Int32} {w : Nat → Int32} {X : zM} {ρ : Nat → Nat → Int32} {l : Nat → Nat → Int64} {Q : Option zV → zM → Prop}
    (h1 : ((lN 1) ≤ x.toInt64 ∧ x.toInt64 ≤ (lN 40)) → ∀ ρ1 : Nat → Nat → Int32, (rHd ρ w ρ1) → Ev (d + 1) c s 208 20 [some (zr (some (1, 0, 0))), some (zi x), some (zi (nI 0)), none, none] [] (OM X 1 0 (zw ρ1 w) l) Q)
    (h2 : (¬ ((lN 1) ≤ x.toInt64 ∧ x.toInt64 ≤ (lN 40))) → Q (some (zi ((-1)))) (OM X 1 0 (zw ρ w) l)) : Ev (d + 1) c s 208 0 [some (zr (some (1, 0, 0))), some (zi x), none, none, none] [] (OM X 1 0 (zw ρ w) l) Q := by
  refine Ew.ld f208_0 rfl rfl rfl rfl ?_
  refine Ew.op (st' := zl x.toInt64 :: _) f208_1 rfl rfl ?_
  refine Ew.op (st' := zl (lN 1) :: _) f208_2 rfl rfl ?_
  refine Ew.op (st' := zl (lN 40) :: _) f208_3 rfl rfl ?_
  refine Ew.call0 (ls0 := [some (zl x.toInt64), none, some (zl (lN 1)), none, some (zl (lN 40)), none]) f208_6 rfl (Nat.le_of_ble_eq_true rfl) rfl rfl (Nat.le_of_ble_eq_true rfl) trivial (Nat.le_of_ble_eq_true rfl) rfl rfl ?_
  refine sp_in (fun c1 => ?_) (fun c1 => ?_)
  · refine Ew.ifc f208_9 rfl rfl (fun _ => ?_) (fun h => absurd (show ¬ ((nI 1) : Int32) = 0 by decide) h)
    refine Ew.ld f208_14 rfl rfl rfl rfl ?_
    refine Ew.call0 (ls0 := [some (zr (some (1, 0, 0))), none]) f208_15 rfl (Nat.le_of_ble_eq_true rfl) rfl rfl (Nat.le_of_ble_eq_true rfl) rfl (Nat.le_of_ble_eq_true rfl) rfl rfl ?_
    refine sp_holds' (fun ρ1 f1 => ?_)
    show Ev (d + 1) c s 208 18 [some (zr (some (1, 0, 0))), some (zi x), none, none, none] [] (OM X 1 0 (zw ρ1 w) l) Q
    refine Ew.op (st' := zi (nI 0) :: _) f208_18 rfl rfl ?_
    refine Ew.sr (ls' := [some (zr (some (1, 0, 0))), some (zi x), some (zi (nI 0)), none, none]) f208_19 rfl rfl (Nat.le_of_ble_eq_true rfl) rfl rfl ?_
    exact h1 c1 ρ1 f1
  · refine Ew.ifc f208_9 rfl rfl (fun h => absurd h (show ¬ (¬ ((nI 0) : Int32) = 0) by decide)) (fun _ => ?_)
    refine Ew.op (st' := zi ((-1)) :: _) f208_12 rfl rfl ?_
    refine Ew.ireti f208_13 ?_
    exact h2 c1
theorem g208_20 {d c s : Nat} {n g : Nat} {H : List (Nat → Int32)} {w v : Nat → Int32} {X : zM} {ρ : Nat → Nat → Int32} {l : Nat → Nat → Int64} {Q : Option zV → zM → Prop} (nb_g : g < 5000) (nb_n : n < 5000)
    (h1 : (n ≤ g) → (g ≤ 0) → Q (some (zi (nI g))) (OM X 1 0 (zw ρ w) l))
    (b1 : (n ≤ g) → (0 < g) → rHs ρ H)
    (b2 : (n ≤ g) → (0 < g) → ∀ i, i < 270 → ρ 26 i = v i)
    (h2 : (n ≤ g) → (0 < g) → ∀ ρ1 : Nat → Nat → Int32, (rNo ρ ρ1 (hNote H v)) → Q (some (zi (nI g))) (OM X 1 0 (zw ρ1 w) l))
    (h3 : (g < n) → ((rLeft (zw ρ w)) = 0) → (g ≤ 0) → Q (some (zi (nI g))) (OM X 1 0 (zw ρ w) l))
    (b3 : (g < n) → ((rLeft (zw ρ w)) = 0) → (0 < g) → rHs ρ H)
    (b4 : (g < n) → ((rLeft (zw ρ w)) = 0) → (0 < g) → ∀ i, i < 270 → ρ 26 i = v i)
    (h4 : (g < n) → ((rLeft (zw ρ w)) = 0) → (0 < g) → ∀ ρ2 : Nat → Nat → Int32, (rNo ρ ρ2 (hNote H v)) → Q (some (zi (nI g))) (OM X 1 0 (zw ρ2 w) l))
    (h5 : (g < n) → (¬ (rLeft (zw ρ w)) = 0) → Ev (d + 3) c s 208 32 [some (zr (some (1, 0, 0))), some (zi (nI n)), some (zi (nI g)), none, none] [] (OM X 1 0 (zw ρ w) l) Q) : Ev (d + 3) c s 208 20 [some (zr (some (1, 0, 0))), some (zi (nI n)), some (zi (nI g)), none, none] [] (OM X 1 0 (zw ρ w) l) Q := by
  refine Ew.ld f208_20 rfl rfl rfl rfl ?_
  refine Ew.ld f208_21 rfl rfl rfl rfl ?_
  refine Ew.icmp f208_22 rfl rfl (fun c1 => ?_) (fun c1 => ?_)
  · refine Ew.ld f208_68 rfl rfl rfl rfl ?_
    refine Ew.ifc f208_69 rfl rfl (fun c2 => ?_) (fun c2 => ?_)
    · refine Ew.ld f208_76 rfl rfl rfl rfl ?_
      refine Ew.ireti f208_77 ?_
      exact h1 ((zle_iff nb_n nb_g).mp c1) ((zle_iff nb_g (by decide)).mp c2)
    · refine Ew.ld f208_72 rfl rfl rfl rfl ?_
      refine Ew.call0 (ls0 := [some (zr (some (1, 0, 0))), none]) f208_73 rfl (Nat.le_of_ble_eq_true rfl) rfl rfl (Nat.le_of_ble_eq_true rfl) rfl (Nat.le_of_ble_eq_true rfl) rfl rfl ?_
      refine sp_notes' (b1 ((zle_iff nb_n nb_g).mp c1) (Nat.not_le.mp fun e => c2 ((zle_iff nb_g (by decide)).mpr e))) (b2 ((zle_iff nb_n nb_g).mp c1) (Nat.not_le.mp fun e => c2 ((zle_iff nb_g (by decide)).mpr e))) (fun ρ1 f1 => ?_)
      show Ev (d + 3) c s 208 76 [some (zr (some (1, 0, 0))), some (zi (nI n)), some (zi (nI g)), none, none] [] (OM X 1 0 (zw ρ1 w) l) Q
      refine Ew.ld f208_76 rfl rfl rfl rfl ?_
      refine Ew.ireti f208_77 ?_
      exact h2 ((zle_iff nb_n nb_g).mp c1) (Nat.not_le.mp fun e => c2 ((zle_iff nb_g (by decide)).mpr e)) ρ1 f1
  · refine Ew.ld f208_25 rfl rfl rfl rfl ?_
    refine Ew.call0 (ls0 := [some (zr (some (1, 0, 0))), none, none]) f208_26 rfl (Nat.le_of_ble_eq_true rfl) rfl rfl (Nat.le_of_ble_eq_true rfl) rfl (Nat.le_of_ble_eq_true rfl) rfl rfl ?_
    refine sp_lefts ?_
    show Ev (d + 3) c s 208 29 [some (zr (some (1, 0, 0))), some (zi (nI n)), some (zi (nI g)), none, none] [zi (rLeft (zw ρ w))] (OM X 1 0 (zw ρ w) l) Q
    refine Ew.ifc f208_29 rfl rfl (fun c3 => ?_) (fun c3 => ?_)
    · refine Ew.ld f208_68 rfl rfl rfl rfl ?_
      refine Ew.ifc f208_69 rfl rfl (fun c4 => ?_) (fun c4 => ?_)
      · refine Ew.ld f208_76 rfl rfl rfl rfl ?_
        refine Ew.ireti f208_77 ?_
        exact h3 (Nat.not_le.mp fun e => c1 ((zle_iff nb_n nb_g).mpr e)) c3 ((zle_iff nb_g (by decide)).mp c4)
      · refine Ew.ld f208_72 rfl rfl rfl rfl ?_
        refine Ew.call0 (ls0 := [some (zr (some (1, 0, 0))), none]) f208_73 rfl (Nat.le_of_ble_eq_true rfl) rfl rfl (Nat.le_of_ble_eq_true rfl) rfl (Nat.le_of_ble_eq_true rfl) rfl rfl ?_
        refine sp_notes' (b3 (Nat.not_le.mp fun e => c1 ((zle_iff nb_n nb_g).mpr e)) c3 (Nat.not_le.mp fun e => c4 ((zle_iff nb_g (by decide)).mpr e))) (b4 (Nat.not_le.mp fun e => c1 ((zle_iff nb_n nb_g).mpr e)) c3 (Nat.not_le.mp fun e => c4 ((zle_iff nb_g (by decide)).mpr e))) (fun ρ2 f2 => ?_)
        show Ev (d + 3) c s 208 76 [some (zr (some (1, 0, 0))), some (zi (nI n)), some (zi (nI g)), none, none] [] (OM X 1 0 (zw ρ2 w) l) Q
        refine Ew.ld f208_76 rfl rfl rfl rfl ?_
        refine Ew.ireti f208_77 ?_
        exact h4 (Nat.not_le.mp fun e => c1 ((zle_iff nb_n nb_g).mpr e)) c3 (Nat.not_le.mp fun e => c4 ((zle_iff nb_g (by decide)).mpr e)) ρ2 f2
    · exact h5 (Nat.not_le.mp fun e => c1 ((zle_iff nb_n nb_g).mpr e)) c3
theorem g230_0 {d c s : Nat} {x : Int32} {w : Nat → Int32} {X : zM} {ρ : Nat → Nat → Int32} {l : Nat → Nat → Int64} {Q : Option zV → zM → Prop}
    (h1 : ((lN 1) ≤ x.toInt64 ∧ x.toInt64 ≤ (lN 40)) → Ev (d + 1) c s 230 16 [some (zr (some (1, 0, 0))), some (zi x), some (zi (nI 0)), none, none, none] [] (OM X 1 0 (zw ρ w) l) Q)
    (h2 : (¬ ((lN 1) ≤ x.toInt64 ∧ x.toInt64 ≤ (lN 40))) → Q (some (zi ((-1)))) (OM X 1 0 (zw ρ w) l)) : Ev (d + 1) c s 230 0 [some (zr (some (1, 0, 0))), some (zi x), none, none, none, none] [] (OM X 1 0 (zw ρ w) l) Q := by
  refine Ew.ld f230_0 rfl rfl rfl rfl ?_
  refine Ew.op (st' := zl x.toInt64 :: _) f230_1 rfl rfl ?_
  refine Ew.op (st' := zl (lN 1) :: _) f230_2 rfl rfl ?_
  refine Ew.op (st' := zl (lN 40) :: _) f230_3 rfl rfl ?_
  refine Ew.call0 (ls0 := [some (zl x.toInt64), none, some (zl (lN 1)), none, some (zl (lN 40)), none]) f230_6 rfl (Nat.le_of_ble_eq_true rfl) rfl rfl (Nat.le_of_ble_eq_true rfl) trivial (Nat.le_of_ble_eq_true rfl) rfl rfl ?_
  refine sp_in (fun c1 => ?_) (fun c1 => ?_)
  · refine Ew.ifc f230_9 rfl rfl (fun _ => ?_) (fun h => absurd (show ¬ ((nI 1) : Int32) = 0 by decide) h)
    refine Ew.op (st' := zi (nI 0) :: _) f230_14 rfl rfl ?_
    refine Ew.sr (ls' := [some (zr (some (1, 0, 0))), some (zi x), some (zi (nI 0)), none, none, none]) f230_15 rfl rfl (Nat.le_of_ble_eq_true rfl) rfl rfl ?_
    exact h1 c1
  · refine Ew.ifc f230_9 rfl rfl (fun h => absurd h (show ¬ (¬ ((nI 0) : Int32) = 0) by decide)) (fun _ => ?_)
    refine Ew.op (st' := zi ((-1)) :: _) f230_12 rfl rfl ?_
    refine Ew.ireti f230_13 ?_
    exact h2 c1
theorem g230_16 {d c s : Nat} {n g : Nat} {H : List (Nat → Int32)} {w v : Nat → Int32} {X : zM} {ρ : Nat → Nat → Int32} {l : Nat → Nat → Int64} {Q : Option zV → zM → Prop} (nb_g : g < 5000) (nb_n : n < 5000)
    (h1 : (n ≤ g) → Q (some (zi (rThose (zw ρ w) (nI 0)))) (OM X 1 0 (zw ρ w) l))
    (b1 : (g < n) → ∀ ρ1 : Nat → Nat → Int32, (rHd ρ w ρ1) → rHs ρ1 H)
    (b2 : (g < n) → ∀ ρ1 : Nat → Nat → Int32, (rHd ρ w ρ1) → ∀ i, i < 270 → ρ1 26 i = v i)
    (h2 : (g < n) → ∀ ρ1 : Nat → Nat → Int32, (rHd ρ w ρ1) → ∀ ρ2 : Nat → Nat → Int32, (rNo ρ1 ρ2 (hNote H v)) → Ev (d + 2) c s 230 34 [some (zr (some (1, 0, 0))), some (zi (nI n)), some (zi (nI g)), some (zi (nI (rX w))), none, none] [] (OM X 1 0 (zw ρ2 (rDrwW w)) l) Q) : Ev (d + 2) c s 230 16 [some (zr (some (1, 0, 0))), some (zi (nI n)), some (zi (nI g)), none, none, none] [] (OM X 1 0 (zw ρ w) l) Q := by
  refine Ew.ld f230_16 rfl rfl rfl rfl ?_
  refine Ew.ld f230_17 rfl rfl rfl rfl ?_
  refine Ew.icmp f230_18 rfl rfl (fun c1 => ?_) (fun c1 => ?_)
  · refine Ew.ld f230_112 rfl rfl rfl rfl ?_
    refine Ew.op (st' := zi (nI 0) :: _) f230_113 rfl rfl ?_
    refine Ew.call0 (ls0 := [some (zr (some (1, 0, 0))), some (zi (nI 0)), none, none]) f230_114 rfl (Nat.le_of_ble_eq_true rfl) rfl rfl (Nat.le_of_ble_eq_true rfl) rfl (Nat.le_of_ble_eq_true rfl) rfl rfl ?_
    refine sp_those ?_
    show Ev (d + 2) c s 230 117 [some (zr (some (1, 0, 0))), some (zi (nI n)), some (zi (nI g)), none, none, none] [zi (rThose (zw ρ w) (nI 0))] (OM X 1 0 (zw ρ w) l) Q
    refine Ew.ireti f230_117 ?_
    exact h1 ((zle_iff nb_n nb_g).mp c1)
  · refine Ew.ld f230_21 rfl rfl rfl rfl ?_
    refine Ew.call0 (ls0 := [some (zr (some (1, 0, 0))), none]) f230_22 rfl (Nat.le_of_ble_eq_true rfl) rfl rfl (Nat.le_of_ble_eq_true rfl) rfl (Nat.le_of_ble_eq_true rfl) rfl rfl ?_
    refine sp_holds' (fun ρ1 f1 => ?_)
    show Ev (d + 2) c s 230 25 [some (zr (some (1, 0, 0))), some (zi (nI n)), some (zi (nI g)), none, none, none] [] (OM X 1 0 (zw ρ1 w) l) Q
    refine Ew.ld f230_25 rfl rfl rfl rfl ?_
    refine Ew.call0 (ls0 := [some (zr (some (1, 0, 0))), none]) f230_26 rfl (Nat.le_of_ble_eq_true rfl) rfl rfl (Nat.le_of_ble_eq_true rfl) rfl (Nat.le_of_ble_eq_true rfl) rfl rfl ?_
    refine sp_notes' (b1 (Nat.not_le.mp fun e => c1 ((zle_iff nb_n nb_g).mpr e)) ρ1 f1) (b2 (Nat.not_le.mp fun e => c1 ((zle_iff nb_n nb_g).mpr e)) ρ1 f1) (fun ρ2 f2 => ?_)
    show Ev (d + 2) c s 230 29 [some (zr (some (1, 0, 0))), some (zi (nI n)), some (zi (nI g)), none, none, none] [] (OM X 1 0 (zw ρ2 w) l) Q
    refine Ew.ld f230_29 rfl rfl rfl rfl ?_
    refine Ew.call0 (ls0 := [some (zr (some (1, 0, 0)))]) f230_30 rfl (Nat.le_of_ble_eq_true rfl) rfl rfl (Nat.le_of_ble_eq_true rfl) rfl (Nat.le_of_ble_eq_true rfl) rfl rfl ?_
    refine sp_draws ?_
    show Ev (d + 2) c s 230 33 [some (zr (some (1, 0, 0))), some (zi (nI n)), some (zi (nI g)), none, none, none] [zi (nI (rX w))] (OM X 1 0 (zw ρ2 (rDrwW w)) l) Q
    refine Ew.sr (ls' := [some (zr (some (1, 0, 0))), some (zi (nI n)), some (zi (nI g)), some (zi (nI (rX w))), none, none]) f230_33 rfl rfl (Nat.le_of_ble_eq_true rfl) rfl rfl ?_
    exact h2 (Nat.not_le.mp fun e => c1 ((zle_iff nb_n nb_g).mpr e)) ρ1 f1 ρ2 f2
