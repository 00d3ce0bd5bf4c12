/-! the reference: go, drift -/
theorem g208_0 {d c s : Nat} {x : Int32} {w : Nat → Int32} {X : zM} {ρ : Nat → Nat → Int32} {l : Nat → Nat → Int64} {Q : Option zV → zM → Prop}
    (h1 : ((lN 1) ≤ x.toInt64 ∧ x.toInt64 ≤ (lN 40)) → ∀ ρ1 : Nat → Nat → Int32, (rHd ρ w ρ1) → Ev (d + 1) c s 208 20 [some (zr (some (1, 0, 0))), some (zi x), some (zi (nI 0)), none, none] [] (OM X 1 0 (zw ρ1 w) l) Q)
    (h2 : (¬ ((lN 1) ≤ x.toInt64 ∧ x.toInt64 ≤ (lN 40))) → Q (some (zi ((-1)))) (OM X 1 0 (zw ρ w) l)) : Ev (d + 1) c s 208 0 [some (zr (some (1, 0, 0))), some (zi x), none, none, none] [] (OM X 1 0 (zw ρ w) l) Q := by
  refine Ew.ld f208_0 rfl rfl rfl rfl ?_
  refine Ew.op (st' := zl x.toInt64 :: _) f208_1 rfl rfl ?_
  refine Ew.op (st' := zl (lN 1) :: _) f208_2 rfl rfl ?_
  refine Ew.op (st' := zl (lN 40) :: _) f208_3 rfl rfl ?_
  refine Ew.call0 (ls0 := [some (zl x.toInt64), none, some (zl (lN 1)), none, some (zl (lN 40)), none]) f208_6 rfl (Nat.le_of_ble_eq_true rfl) rfl rfl (Nat.le_of_ble_eq_true rfl) trivial (Nat.le_of_ble_eq_true rfl) rfl rfl ?_
  refine sp_in (fun c1 => ?_) (fun c1 => ?_)
  · refine Ew.ifc f208_9 rfl rfl (fun _ => ?_) (fun h => absurd (show ¬ ((nI 1) : Int32) = 0 by decide) h)
    refine Ew.ld f208_14 rfl rfl rfl rfl ?_
    refine Ew.call0 (ls0 := [some (zr (some (1, 0, 0))), none]) f208_15 rfl (Nat.le_of_ble_eq_true rfl) rfl rfl (Nat.le_of_ble_eq_true rfl) rfl (Nat.le_of_ble_eq_true rfl) rfl rfl ?_
    refine sp_holds' (fun ρ1 f1 => ?_)
    show Ev (d + 1) c s 208 18 [some (zr (some (1, 0, 0))), some (zi x), none, none, none] [] (OM X 1 0 (zw ρ1 w) l) Q
    refine Ew.op (st' := zi (nI 0) :: _) f208_18 rfl rfl ?_
    refine Ew.sr (ls' := [some (zr (some (1, 0, 0))), some (zi x), some (zi (nI 0)), none, none]) f208_19 rfl rfl (Nat.le_of_ble_eq_true rfl) rfl rfl ?_
    exact h1 c1 ρ1 f1
  · refine Ew.ifc f208_9 rfl rfl (fun h => absurd h (show ¬ (¬ ((nI 0) : Int32) = 0) by decide)) (fun _ => ?_)
    refine Ew.op (st' := zi ((-1)) :: _) f208_12 rfl rfl ?_
    refine Ew.ireti f208_13 ?_
    exact h2 c1
theorem g208_20 {d c s : Nat} {o3 o4 : Option zV} {n g : Nat} {H : List (Nat → Int32)} {w v : Nat → Int32} {X : zM} {ρ : Nat → Nat → Int32} {l : Nat → Nat → Int64} {Q : Option zV → zM → Prop} (nb_g : g < 5000) (nb_n : n < 5000)
    (h1 : (n ≤ g) → (g ≤ 0) → Q (some (zi (nI g))) (OM X 1 0 (zw ρ w) l))
    (b1 : (n ≤ g) → (0 < g) → rHs ρ H)
    (b2 : (n ≤ g) → (0 < g) → ∀ i, i < 270 → ρ 26 i = v i)
    (h2 : (n ≤ g) → (0 < g) → ∀ ρ1 : Nat → Nat → Int32, (rNo ρ ρ1 (hNote H v)) → Q (some (zi (nI g))) (OM X 1 0 (zw ρ1 w) l))
    (h3 : (g < n) → ((rLeft (zw ρ w)) = 0) → (g ≤ 0) → Q (some (zi (nI g))) (OM X 1 0 (zw ρ w) l))
    (b3 : (g < n) → ((rLeft (zw ρ w)) = 0) → (0 < g) → rHs ρ H)
    (b4 : (g < n) → ((rLeft (zw ρ w)) = 0) → (0 < g) → ∀ i, i < 270 → ρ 26 i = v i)
    (h4 : (g < n) → ((rLeft (zw ρ w)) = 0) → (0 < g) → ∀ ρ2 : Nat → Nat → Int32, (rNo ρ ρ2 (hNote H v)) → Q (some (zi (nI g))) (OM X 1 0 (zw ρ2 w) l))
    (h5 : (g < n) → (¬ (rLeft (zw ρ w)) = 0) → Ev (d + 3) c s 208 32 [some (zr (some (1, 0, 0))), some (zi (nI n)), some (zi (nI g)), o3, o4] [] (OM X 1 0 (zw ρ w) l) Q) : Ev (d + 3) c s 208 20 [some (zr (some (1, 0, 0))), some (zi (nI n)), some (zi (nI g)), o3, o4] [] (OM X 1 0 (zw ρ w) l) Q := by
  refine Ew.ld f208_20 rfl rfl rfl rfl ?_
  refine Ew.ld f208_21 rfl rfl rfl rfl ?_
  refine Ew.icmp f208_22 rfl rfl (fun c1 => ?_) (fun c1 => ?_)
  · refine Ew.ld f208_68 rfl rfl rfl rfl ?_
    refine Ew.ifc f208_69 rfl rfl (fun c2 => ?_) (fun c2 => ?_)
    · refine Ew.ld f208_76 rfl rfl rfl rfl ?_
      refine Ew.ireti f208_77 ?_
      exact h1 ((zle_iff nb_n nb_g).mp c1) ((zle_iff nb_g (by decide)).mp c2)
    · refine Ew.ld f208_72 rfl rfl rfl rfl ?_
      refine Ew.call0 (ls0 := [some (zr (some (1, 0, 0))), none]) f208_73 rfl (Nat.le_of_ble_eq_true rfl) rfl rfl (Nat.le_of_ble_eq_true rfl) rfl (Nat.le_of_ble_eq_true rfl) rfl rfl ?_
      refine sp_notes' (b1 ((zle_iff nb_n nb_g).mp c1) (Nat.not_le.mp fun e => c2 ((zle_iff nb_g (by decide)).mpr e))) (b2 ((zle_iff nb_n nb_g).mp c1) (Nat.not_le.mp fun e => c2 ((zle_iff nb_g (by decide)).mpr e))) (fun ρ1 f1 => ?_)
      show Ev (d + 3) c s 208 76 [some (zr (some (1, 0, 0))), some (zi (nI n)), some (zi (nI g)), o3, o4] [] (OM X 1 0 (zw ρ1 w) l) Q
      refine Ew.ld f208_76 rfl rfl rfl rfl ?_
      refine Ew.ireti f208_77 ?_
      exact h2 ((zle_iff nb_n nb_g).mp c1) (Nat.not_le.mp fun e => c2 ((zle_iff nb_g (by decide)).mpr e)) ρ1 f1
  · refine Ew.ld f208_25 rfl rfl rfl rfl ?_
    refine Ew.call0 (ls0 := [some (zr (some (1, 0, 0))), none, none]) f208_26 rfl (Nat.le_of_ble_eq_true rfl) rfl rfl (Nat.le_of_ble_eq_true rfl) rfl (Nat.le_of_ble_eq_true rfl) rfl rfl ?_
    refine sp_lefts ?_
    show Ev (d + 3) c s 208 29 [some (zr (some (1, 0, 0))), some (zi (nI n)), some (zi (nI g)), o3, o4] [zi (rLeft (zw ρ w))] (OM X 1 0 (zw ρ w) l) Q
    refine Ew.ifc f208_29 rfl rfl (fun c3 => ?_) (fun c3 => ?_)
    · refine Ew.ld f208_68 rfl rfl rfl rfl ?_
      refine Ew.ifc f208_69 rfl rfl (fun c4 => ?_) (fun c4 => ?_)
      · refine Ew.ld f208_76 rfl rfl rfl rfl ?_
        refine Ew.ireti f208_77 ?_
        exact h3 (Nat.not_le.mp fun e => c1 ((zle_iff nb_n nb_g).mpr e)) c3 ((zle_iff nb_g (by decide)).mp c4)
      · refine Ew.ld f208_72 rfl rfl rfl rfl ?_
        refine Ew.call0 (ls0 := [some (zr (some (1, 0, 0))), none]) f208_73 rfl (Nat.le_of_ble_eq_true rfl) rfl rfl (Nat.le_of_ble_eq_true rfl) rfl (Nat.le_of_ble_eq_true rfl) rfl rfl ?_
        refine sp_notes' (b3 (Nat.not_le.mp fun e => c1 ((zle_iff nb_n nb_g).mpr e)) c3 (Nat.not_le.mp fun e => c4 ((zle_iff nb_g (by decide)).mpr e))) (b4 (Nat.not_le.mp fun e => c1 ((zle_iff nb_n nb_g).mpr e)) c3 (Nat.not_le.mp fun e => c4 ((zle_iff nb_g (by decide)).mpr e))) (fun ρ2 f2 => ?_)
        show Ev (d + 3) c s 208 76 [some (zr (some (1, 0, 0))), some (zi (nI n)), some (zi (nI g)), o3, o4] [] (OM X 1 0 (zw ρ2 w) l) Q
        refine Ew.ld f208_76 rfl rfl rfl rfl ?_
        refine Ew.ireti f208_77 ?_
        exact h4 (Nat.not_le.mp fun e => c1 ((zle_iff nb_n nb_g).mpr e)) c3 (Nat.not_le.mp fun e => c4 ((zle_iff nb_g (by decide)).mpr e)) ρ2 f2
    · exact h5 (Nat.not_le.mp fun e => c1 ((zle_iff nb_n nb_g).mpr e)) c3
theorem g208_32 {d c s : Nat} {o3 o4 : Option zV} {n g : Nat} {w : Nat → Int32} {X : zM} {ρ : Nat → Nat → Int32} {l : Nat → Nat → Int64} {Q : Option zV → zM → Prop}
    (h1 : Ev (d + 3) c s 208 43 [some (zr (some (1, 0, 0))), some (zi (nI n)), some (zi (nI g)), some (zi (rLeft (zw ρ w))), some (zi (nI (rX w)))] [] (OM X 1 0 (zw ρ (rDrwW w)) l) Q) : Ev (d + 3) c s 208 32 [some (zr (some (1, 0, 0))), some (zi (nI n)), some (zi (nI g)), o3, o4] [] (OM X 1 0 (zw ρ w) l) Q := by
  refine Ew.ld f208_32 rfl rfl rfl rfl ?_
  refine Ew.call0 (ls0 := [some (zr (some (1, 0, 0))), none, none]) f208_33 rfl (Nat.le_of_ble_eq_true rfl) rfl rfl (Nat.le_of_ble_eq_true rfl) rfl (Nat.le_of_ble_eq_true rfl) rfl rfl ?_
  refine sp_lefts ?_
  show Ev (d + 3) c s 208 36 [some (zr (some (1, 0, 0))), some (zi (nI n)), some (zi (nI g)), o3, o4] [zi (rLeft (zw ρ w))] (OM X 1 0 (zw ρ w) l) Q
  refine Ew.sr (ls' := [some (zr (some (1, 0, 0))), some (zi (nI n)), some (zi (nI g)), some (zi (rLeft (zw ρ w))), o4]) f208_36 rfl rfl (Nat.le_of_ble_eq_true rfl) rfl rfl ?_
  refine Ew.ld f208_37 rfl rfl rfl rfl ?_
  refine Ew.call0 (ls0 := [some (zr (some (1, 0, 0)))]) f208_38 rfl (Nat.le_of_ble_eq_true rfl) rfl rfl (Nat.le_of_ble_eq_true rfl) rfl (Nat.le_of_ble_eq_true rfl) rfl rfl ?_
  refine sp_draws ?_
  show Ev (d + 3) c s 208 41 [some (zr (some (1, 0, 0))), some (zi (nI n)), some (zi (nI g)), some (zi (rLeft (zw ρ w))), o4] [zi (nI (rX w))] (OM X 1 0 (zw ρ (rDrwW w)) l) Q
  refine Ew.sr (ls' := [some (zr (some (1, 0, 0))), some (zi (nI n)), some (zi (nI g)), some (zi (rLeft (zw ρ w))), some (zi (nI (rX w)))]) f208_41 rfl rfl (Nat.le_of_ble_eq_true rfl) rfl rfl ?_
  exact h1
theorem g208_43 {d c s : Nat} {n g a x : Nat} {w : Nat → Int32} {X : zM} {ρ : Nat → Nat → Int32} {l : Nat → Nat → Int64} {Q : Option zV → zM → Prop}
    (b1 : rEnd 7 (nI a))
    (b2 : ¬ (rSz (nI a)) = 0)
    (h1 : Ev d 0 0 207 0 [some (zi (nI a)), some (zi ((nI x) - (nI x) / (rSz (nI a)) * (rSz (nI a)))), none, none] [] (OM X 1 0 (zw ρ w) l) (fun r M' => Ev (d + 1) c s 208 56 [some (zr (some (1, 0, 0))), some (zi (nI n)), some (zi (nI g)), some (zi (nI a)), some (zi (nI x))] (zpush r [zr (some (1, 0, 0)), zr (some (1, 0, 0))]) M' Q)) : Ev (d + 1) c s 208 43 [some (zr (some (1, 0, 0))), some (zi (nI n)), some (zi (nI g)), some (zi (nI a)), some (zi (nI x))] [] (OM X 1 0 (zw ρ w) l) Q := by
  refine Ew.ld f208_43 rfl rfl rfl rfl ?_
  refine Ew.ld f208_44 rfl rfl rfl rfl ?_
  refine Ew.ld f208_45 rfl rfl rfl rfl ?_
  refine Ew.ld f208_46 rfl rfl rfl rfl ?_
  refine Ew.ld f208_48 rfl rfl rfl rfl ?_
  refine Ew.call0 (ls0 := [some (zi (nI a)), none, none]) f208_49 rfl (Nat.le_of_ble_eq_true rfl) rfl rfl (Nat.le_of_ble_eq_true rfl) trivial (Nat.le_of_ble_eq_true rfl) rfl rfl ?_
  refine sp_sizeOf b1 ?_
  show Ev (d + 1) c s 208 52 [some (zr (some (1, 0, 0))), some (zi (nI n)), some (zi (nI g)), some (zi (nI a)), some (zi (nI x))] [zi (rSz (nI a)), zi (nI x), zi (nI a), zr (some (1, 0, 0)), zr (some (1, 0, 0))] (OM X 1 0 (zw ρ w) l) Q
  refine Ew.irem f208_52 b2 rfl ?_
  refine Ew.call0 (ls0 := [some (zi (nI a)), some (zi ((nI x) - (nI x) / (rSz (nI a)) * (rSz (nI a)))), none, none]) f208_53 rfl (Nat.le_of_ble_eq_true rfl) rfl rfl (Nat.le_of_ble_eq_true rfl) trivial (Nat.le_of_ble_eq_true rfl) rfl rfl ?_
  exact h1
theorem g208_56 {d c s : Nat} {n g a x t : Nat} {w : Nat → Int32} {X : zM} {ρ : Nat → Nat → Int32} {l : Nat → Nat → Int64} {Q : Option zV → zM → Prop}
    (b1 : t < 4)
    (b2 : rTr ρ)
    (b3 : rRw ρ w)
    (h1 : Ev (d + 7) c s 208 20 [some (zr (some (1, 0, 0))), some (zi (nI n)), some (zi (nI (g + 1))), some (zi (nI a)), some (zi (nI x))] [] (OM X 1 0 (zw (zu ρ 0 37 (rTurnR ρ t w)) (rTurnW ρ t w)) l) Q) : Ev (d + 7) c s 208 56 [some (zr (some (1, 0, 0))), some (zi (nI n)), some (zi (nI g)), some (zi (nI a)), some (zi (nI x))] [zi (nI t), zr (some (1, 0, 0)), zr (some (1, 0, 0))] (OM X 1 0 (zw ρ w) l) Q := by
  refine Ew.call0 (ls0 := [some (zr (some (1, 0, 0))), some (zi (nI t)), none, none]) f208_56 rfl (Nat.le_of_ble_eq_true rfl) rfl rfl (Nat.le_of_ble_eq_true rfl) rfl (Nat.le_of_ble_eq_true rfl) rfl rfl ?_
  refine sp_turns b1 b2 b3 ?_
  show Ev (d + 7) c s 208 59 [some (zr (some (1, 0, 0))), some (zi (nI n)), some (zi (nI g)), some (zi (nI a)), some (zi (nI x))] [zi (rTurnR ρ t w), zr (some (1, 0, 0))] (OM X 1 0 (zw ρ (rTurnW ρ t w)) l) Q
  refine Ew.putiO f208_59 rfl rfl ?_
  rw [zw_uq _ _ (by decide)]
  refine Ew.iinc (v := nI (g + 1)) (ls' := [some (zr (some (1, 0, 0))), some (zi (nI n)), some (zi (nI (g + 1))), some (zi (nI a)), some (zi (nI x))]) f208_62 rfl (nI_1 _) rfl rfl ?_
  refine Ew.goto f208_65 rfl ?_
  exact h1
theorem g230_0 {d c s : Nat} {x : Int32} {w : Nat → Int32} {X : zM} {ρ : Nat → Nat → Int32} {l : Nat → Nat → Int64} {Q : Option zV → zM → Prop}
    (h1 : ((lN 1) ≤ x.toInt64 ∧ x.toInt64 ≤ (lN 40)) → Ev (d + 1) c s 230 16 [some (zr (some (1, 0, 0))), some (zi x), some (zi (nI 0)), none, none, none] [] (OM X 1 0 (zw ρ w) l) Q)
    (h2 : (¬ ((lN 1) ≤ x.toInt64 ∧ x.toInt64 ≤ (lN 40))) → Q (some (zi ((-1)))) (OM X 1 0 (zw ρ w) l)) : Ev (d + 1) c s 230 0 [some (zr (some (1, 0, 0))), some (zi x), none, none, none, none] [] (OM X 1 0 (zw ρ w) l) Q := by
  refine Ew.ld f230_0 rfl rfl rfl rfl ?_
  refine Ew.op (st' := zl x.toInt64 :: _) f230_1 rfl rfl ?_
  refine Ew.op (st' := zl (lN 1) :: _) f230_2 rfl rfl ?_
  refine Ew.op (st' := zl (lN 40) :: _) f230_3 rfl rfl ?_
  refine Ew.call0 (ls0 := [some (zl x.toInt64), none, some (zl (lN 1)), none, some (zl (lN 40)), none]) f230_6 rfl (Nat.le_of_ble_eq_true rfl) rfl rfl (Nat.le_of_ble_eq_true rfl) trivial (Nat.le_of_ble_eq_true rfl) rfl rfl ?_
  refine sp_in (fun c1 => ?_) (fun c1 => ?_)
  · refine Ew.ifc f230_9 rfl rfl (fun _ => ?_) (fun h => absurd (show ¬ ((nI 1) : Int32) = 0 by decide) h)
    refine Ew.op (st' := zi (nI 0) :: _) f230_14 rfl rfl ?_
    refine Ew.sr (ls' := [some (zr (some (1, 0, 0))), some (zi x), some (zi (nI 0)), none, none, none]) f230_15 rfl rfl (Nat.le_of_ble_eq_true rfl) rfl rfl ?_
    exact h1 c1
  · refine Ew.ifc f230_9 rfl rfl (fun h => absurd h (show ¬ (¬ ((nI 0) : Int32) = 0) by decide)) (fun _ => ?_)
    refine Ew.op (st' := zi ((-1)) :: _) f230_12 rfl rfl ?_
    refine Ew.ireti f230_13 ?_
    exact h2 c1
theorem g230_16 {d c s : Nat} {o3 o4 o5 : Option zV} {n g : Nat} {H : List (Nat → Int32)} {w v : Nat → Int32} {X : zM} {ρ : Nat → Nat → Int32} {l : Nat → Nat → Int64} {Q : Option zV → zM → Prop} (nb_g : g < 5000) (nb_n : n < 5000)
    (h1 : (n ≤ g) → Q (some (zi (rThose (zw ρ w) (nI 0)))) (OM X 1 0 (zw ρ w) l))
    (b1 : (g < n) → ∀ ρ1 : Nat → Nat → Int32, (rHd ρ w ρ1) → rHs ρ1 H)
    (b2 : (g < n) → ∀ ρ1 : Nat → Nat → Int32, (rHd ρ w ρ1) → ∀ i, i < 270 → ρ1 26 i = v i)
    (h2 : (g < n) → ∀ ρ1 : Nat → Nat → Int32, (rHd ρ w ρ1) → ∀ ρ2 : Nat → Nat → Int32, (rNo ρ1 ρ2 (hNote H v)) → Ev (d + 2) c s 230 34 [some (zr (some (1, 0, 0))), some (zi (nI n)), some (zi (nI g)), some (zi (nI (rX w))), o4, o5] [] (OM X 1 0 (zw ρ2 (rDrwW w)) l) Q) : Ev (d + 2) c s 230 16 [some (zr (some (1, 0, 0))), some (zi (nI n)), some (zi (nI g)), o3, o4, o5] [] (OM X 1 0 (zw ρ w) l) Q := by
  refine Ew.ld f230_16 rfl rfl rfl rfl ?_
  refine Ew.ld f230_17 rfl rfl rfl rfl ?_
  refine Ew.icmp f230_18 rfl rfl (fun c1 => ?_) (fun c1 => ?_)
  · refine Ew.ld f230_112 rfl rfl rfl rfl ?_
    refine Ew.op (st' := zi (nI 0) :: _) f230_113 rfl rfl ?_
    refine Ew.call0 (ls0 := [some (zr (some (1, 0, 0))), some (zi (nI 0)), none, none]) f230_114 rfl (Nat.le_of_ble_eq_true rfl) rfl rfl (Nat.le_of_ble_eq_true rfl) rfl (Nat.le_of_ble_eq_true rfl) rfl rfl ?_
    refine sp_those ?_
    show Ev (d + 2) c s 230 117 [some (zr (some (1, 0, 0))), some (zi (nI n)), some (zi (nI g)), o3, o4, o5] [zi (rThose (zw ρ w) (nI 0))] (OM X 1 0 (zw ρ w) l) Q
    refine Ew.ireti f230_117 ?_
    exact h1 ((zle_iff nb_n nb_g).mp c1)
  · refine Ew.ld f230_21 rfl rfl rfl rfl ?_
    refine Ew.call0 (ls0 := [some (zr (some (1, 0, 0))), none]) f230_22 rfl (Nat.le_of_ble_eq_true rfl) rfl rfl (Nat.le_of_ble_eq_true rfl) rfl (Nat.le_of_ble_eq_true rfl) rfl rfl ?_
    refine sp_holds' (fun ρ1 f1 => ?_)
    show Ev (d + 2) c s 230 25 [some (zr (some (1, 0, 0))), some (zi (nI n)), some (zi (nI g)), o3, o4, o5] [] (OM X 1 0 (zw ρ1 w) l) Q
    refine Ew.ld f230_25 rfl rfl rfl rfl ?_
    refine Ew.call0 (ls0 := [some (zr (some (1, 0, 0))), none]) f230_26 rfl (Nat.le_of_ble_eq_true rfl) rfl rfl (Nat.le_of_ble_eq_true rfl) rfl (Nat.le_of_ble_eq_true rfl) rfl rfl ?_
    refine sp_notes' (b1 (Nat.not_le.mp fun e => c1 ((zle_iff nb_n nb_g).mpr e)) ρ1 f1) (b2 (Nat.not_le.mp fun e => c1 ((zle_iff nb_n nb_g).mpr e)) ρ1 f1) (fun ρ2 f2 => ?_)
    show Ev (d + 2) c s 230 29 [some (zr (some (1, 0, 0))), some (zi (nI n)), some (zi (nI g)), o3, o4, o5] [] (OM X 1 0 (zw ρ2 w) l) Q
    refine Ew.ld f230_29 rfl rfl rfl rfl ?_
    refine Ew.call0 (ls0 := [some (zr (some (1, 0, 0)))]) f230_30 rfl (Nat.le_of_ble_eq_true rfl) rfl rfl (Nat.le_of_ble_eq_true rfl) rfl (Nat.le_of_ble_eq_true rfl) rfl rfl ?_
    refine sp_draws ?_
    show Ev (d + 2) c s 230 33 [some (zr (some (1, 0, 0))), some (zi (nI n)), some (zi (nI g)), o3, o4, o5] [zi (nI (rX w))] (OM X 1 0 (zw ρ2 (rDrwW w)) l) Q
    refine Ew.sr (ls' := [some (zr (some (1, 0, 0))), some (zi (nI n)), some (zi (nI g)), some (zi (nI (rX w))), o4, o5]) f230_33 rfl rfl (Nat.le_of_ble_eq_true rfl) rfl rfl ?_
    exact h2 (Nat.not_le.mp fun e => c1 ((zle_iff nb_n nb_g).mpr e)) ρ1 f1 ρ2 f2
theorem g230_34 {d c s : Nat} {o4 o5 : Option zV} {n g x : Nat} {w v : Nat → Int32} {X : zM} {ρ : Nat → Nat → Int32} {l : Nat → Nat → Int64} {Q : Option zV → zM → Prop}
    (h1 : Ev d c s 230 48 [some (zr (some (1, 0, 0))), some (zi (nI n)), some (zi (nI g)), some (zi (nI x)), some (zi ((nI x) - (nI x) / (nI 8) * (nI 8))), some (zi (((nI x) / (nI 8)) - ((nI x) / (nI 8)) / (nI 4) * (nI 4)))] [] (OM X 1 0 (zw ρ w) l) Q) : Ev d c s 230 34 [some (zr (some (1, 0, 0))), some (zi (nI n)), some (zi (nI g)), some (zi (nI x)), o4, o5] [] (OM X 1 0 (zw ρ w) l) Q := by
  refine Ew.ld f230_34 rfl rfl rfl rfl ?_
  refine Ew.op (st' := zi (nI 8) :: _) f230_35 rfl rfl ?_
  refine Ew.irem f230_37 (by decide) rfl ?_
  refine Ew.sr (ls' := [some (zr (some (1, 0, 0))), some (zi (nI n)), some (zi (nI g)), some (zi (nI x)), some (zi ((nI x) - (nI x) / (nI 8) * (nI 8))), o5]) f230_38 rfl rfl (Nat.le_of_ble_eq_true rfl) rfl rfl ?_
  refine Ew.ld f230_40 rfl rfl rfl rfl ?_
  refine Ew.op (st' := zi (nI 8) :: _) f230_41 rfl rfl ?_
  refine Ew.idiv f230_43 (by decide) rfl ?_
  refine Ew.op (st' := zi (nI 4) :: _) f230_44 rfl rfl ?_
  refine Ew.irem f230_45 (by decide) rfl ?_
  refine Ew.sr (ls' := [some (zr (some (1, 0, 0))), some (zi (nI n)), some (zi (nI g)), some (zi (nI x)), some (zi ((nI x) - (nI x) / (nI 8) * (nI 8))), some (zi (((nI x) / (nI 8)) - ((nI x) / (nI 8)) / (nI 4) * (nI 4)))]) f230_46 rfl rfl (Nat.le_of_ble_eq_true rfl) rfl rfl ?_
  exact h1
theorem g230_48 {d c s : Nat} {n g x m t : Nat} {w v : Nat → Int32} {X : zM} {ρ : Nat → Nat → Int32} {l : Nat → Nat → Int64} {Q : Option zV → zM → Prop} (nb_m : m < 5000)
    (b1 : (¬ m = 6) → (¬ m = 7) → 10 + 4 * t < 270)
    (b2 : (¬ m = 6) → (¬ m = 7) → ((w (10 + 4 * t)) < (nI 3)) → t < 4)
    (b3 : (¬ m = 6) → (¬ m = 7) → ((w (10 + 4 * t)) < (nI 3)) → rTr ρ)
    (b4 : (¬ m = 6) → (¬ m = 7) → ((w (10 + 4 * t)) < (nI 3)) → rRw ρ w)
    (h1 : (¬ m = 6) → (¬ m = 7) → ((w (10 + 4 * t)) < (nI 3)) → Ev (d + 7) c s 230 16 [some (zr (some (1, 0, 0))), some (zi (nI n)), some (zi (nI (g + 1))), some (zi (nI x)), some (zi (nI m)), some (zi (nI t))] [] (OM X 1 0 (zw (zu ρ 0 37 (rTurnR ρ t w)) (rTurnW ρ t w)) l) Q)
    (h2 : (¬ m = 6) → (¬ m = 7) → ((nI 3) ≤ (w (10 + 4 * t))) → Ev (d + 7) c s 230 16 [some (zr (some (1, 0, 0))), some (zi (nI n)), some (zi (nI (g + 1))), some (zi (nI x)), some (zi (nI m)), some (zi (nI t))] [] (OM X 1 0 (zw (zu ρ 0 37 ((-2))) w) l) Q)
    (h3 : (¬ m = 6) → (m = 7) → Ev (d + 6) 0 0 210 0 [some (zr (some (1, 0, 0))), some (zi (((nI x) / (nI 8)) - ((nI x) / (nI 8)) / (nI 5) * (nI 5))), none] [] (OM X 1 0 (zw ρ w) l) (fun r M' => Ev (d + 7) c s 230 80 [some (zr (some (1, 0, 0))), some (zi (nI n)), some (zi (nI g)), some (zi (nI x)), some (zi (nI m)), some (zi (nI t))] (zpush r [zr (some (1, 0, 0))]) M' Q))
    (b5 : (m = 6) → rTr ρ)
    (b6 : (m = 6) → rRw ρ w)
    (h4 : (m = 6) → Ev (d + 7) c s 230 16 [some (zr (some (1, 0, 0))), some (zi (nI n)), some (zi (nI (g + 1))), some (zi (nI x)), some (zi (nI m)), some (zi (nI t))] [] (OM X 1 0 (zw (zu ρ 0 37 (rLaysR w)) (rLaysW ρ w)) l) Q) : Ev (d + 7) c s 230 48 [some (zr (some (1, 0, 0))), some (zi (nI n)), some (zi (nI g)), some (zi (nI x)), some (zi (nI m)), some (zi (nI t))] [] (OM X 1 0 (zw ρ w) l) Q := by
  refine Ew.ld f230_48 rfl rfl rfl rfl ?_
  refine Ew.ld f230_49 rfl rfl rfl rfl ?_
  refine Ew.op (st' := zi (nI 6) :: _) f230_51 rfl rfl ?_
  refine Ew.icmp f230_53 rfl rfl (fun c1 => ?_) (fun c1 => ?_)
  · refine Ew.ld f230_63 rfl rfl rfl rfl ?_
    refine Ew.op (st' := zi (nI 7) :: _) f230_65 rfl rfl ?_
    refine Ew.icmp f230_67 rfl rfl (fun c2 => ?_) (fun c2 => ?_)
    · refine Ew.ld f230_83 rfl rfl rfl rfl ?_
      refine Ew.ld f230_84 rfl rfl rfl rfl ?_
      refine Ew.call0 (ls0 := [some (zr (some (1, 0, 0))), some (zi (nI t))]) f230_86 rfl (Nat.le_of_ble_eq_true rfl) rfl rfl (Nat.le_of_ble_eq_true rfl) rfl (Nat.le_of_ble_eq_true rfl) rfl rfl ?_
      refine Ew.ld f201_0 rfl rfl rfl rfl ?_
      refine Ew.ld f201_1 rfl rfl rfl rfl ?_
      refine Ew.op (st' := zi (nI 0) :: _) f201_2 rfl rfl ?_
      refine Ew.call0 (ls0 := [some (zr (some (1, 0, 0))), some (zi (nI t)), some (zi (nI 0))]) f201_3 rfl (Nat.le_of_ble_eq_true rfl) rfl rfl (Nat.le_of_ble_eq_true rfl) rfl (Nat.le_of_ble_eq_true rfl) rfl rfl ?_
      refine Ew.ld f156_0 rfl rfl rfl rfl ?_
      refine Ew.getp (v := some (1, 0, 1)) f156_1 rfl rfl rfl ?_
      refine Ew.op (st' := zi (nI 10) :: _) f156_4 rfl rfl ?_
      refine Ew.op (st' := zi (nI 4) :: _) f156_6 rfl rfl ?_
      refine Ew.ld f156_7 rfl rfl rfl rfl ?_
      refine Ew.muln f156_8 rfl ?_
      refine Ew.addn f156_9 rfl ?_
      refine Ew.ld f156_10 rfl rfl rfl rfl ?_
      refine Ew.addn f156_11 rfl ?_
      refine Ew.ialdnO f156_12 rfl (b1 (fun e => c1 ((zeq nb_m (by decide)).mpr e)) (fun e => c2 ((zeq nb_m (by decide)).mpr e))) (Nat.le_of_ble_eq_true rfl) rfl ?_
      refine Ew.ireti f156_13 ?_
      show Ev (d + 6) 0 0 201 6 [some (zr (some (1, 0, 0))), some (zi (nI t))] [zi (w (10 + 4 * t))] (OM X 1 0 (zw ρ w) l) (fun r M' => Ev (d + 7) c s 230 89 [some (zr (some (1, 0, 0))), some (zi (nI n)), some (zi (nI g)), some (zi (nI x)), some (zi (nI m)), some (zi (nI t))] (zpush r [zr (some (1, 0, 0))]) M' Q)
      refine Ew.op (st' := zi (nI 3) :: _) f201_6 rfl rfl ?_
      refine Ew.icmp f201_7 rfl rfl (fun c3 => ?_) (fun c3 => ?_)
      · refine Ew.op (st' := zi (nI 0) :: _) f201_14 rfl rfl ?_
        refine Ew.iretb f201_15 (Or.inl rfl) ?_
        show Ev (d + 7) c s 230 89 [some (zr (some (1, 0, 0))), some (zi (nI n)), some (zi (nI g)), some (zi (nI x)), some (zi (nI m)), some (zi (nI t))] [zi (nI 0), zr (some (1, 0, 0))] (OM X 1 0 (zw ρ w) l) Q
        refine Ew.ifc f230_89 rfl rfl (fun _ => ?_) (fun h => absurd (show ((nI 0) : Int32) = 0 by decide) h)
        refine Ew.ld f230_97 rfl rfl rfl rfl ?_
        refine Ew.ld f230_98 rfl rfl rfl rfl ?_
        refine Ew.call0 (ls0 := [some (zr (some (1, 0, 0))), some (zi (nI t)), none, none]) f230_100 rfl (Nat.le_of_ble_eq_true rfl) rfl rfl (Nat.le_of_ble_eq_true rfl) rfl (Nat.le_of_ble_eq_true rfl) rfl rfl ?_
        refine sp_turns (b2 (fun e => c1 ((zeq nb_m (by decide)).mpr e)) (fun e => c2 ((zeq nb_m (by decide)).mpr e)) c3) (b3 (fun e => c1 ((zeq nb_m (by decide)).mpr e)) (fun e => c2 ((zeq nb_m (by decide)).mpr e)) c3) (b4 (fun e => c1 ((zeq nb_m (by decide)).mpr e)) (fun e => c2 ((zeq nb_m (by decide)).mpr e)) c3) ?_
        show Ev (d + 7) c s 230 103 [some (zr (some (1, 0, 0))), some (zi (nI n)), some (zi (nI g)), some (zi (nI x)), some (zi (nI m)), some (zi (nI t))] [zi (rTurnR ρ t w), zr (some (1, 0, 0))] (OM X 1 0 (zw ρ (rTurnW ρ t w)) l) Q
        refine Ew.putiO f230_103 rfl rfl ?_
        rw [zw_uq _ _ (by decide)]
        refine Ew.iinc (v := nI (g + 1)) (ls' := [some (zr (some (1, 0, 0))), some (zi (nI n)), some (zi (nI (g + 1))), some (zi (nI x)), some (zi (nI m)), some (zi (nI t))]) f230_106 rfl (nI_1 _) rfl rfl ?_
        refine Ew.goto f230_109 rfl ?_
        exact h1 (fun e => c1 ((zeq nb_m (by decide)).mpr e)) (fun e => c2 ((zeq nb_m (by decide)).mpr e)) c3
      · refine Ew.op (st' := zi (nI 1) :: _) f201_10 rfl rfl ?_
        refine Ew.goto f201_11 rfl ?_
        refine Ew.iretb f201_15 (Or.inr rfl) ?_
        show Ev (d + 7) c s 230 89 [some (zr (some (1, 0, 0))), some (zi (nI n)), some (zi (nI g)), some (zi (nI x)), some (zi (nI m)), some (zi (nI t))] [zi (nI 1), zr (some (1, 0, 0))] (OM X 1 0 (zw ρ w) l) Q
        refine Ew.ifc f230_89 rfl rfl (fun h => absurd h (show ¬ (((nI 1) : Int32) = 0) by decide)) (fun _ => ?_)
        refine Ew.op (st' := zi ((-2)) :: _) f230_92 rfl rfl ?_
        refine Ew.goto f230_94 rfl ?_
        refine Ew.putiO f230_103 rfl rfl ?_
        rw [zw_uq _ _ (by decide)]
        refine Ew.iinc (v := nI (g + 1)) (ls' := [some (zr (some (1, 0, 0))), some (zi (nI n)), some (zi (nI (g + 1))), some (zi (nI x)), some (zi (nI m)), some (zi (nI t))]) f230_106 rfl (nI_1 _) rfl rfl ?_
        refine Ew.goto f230_109 rfl ?_
        exact h2 (fun e => c1 ((zeq nb_m (by decide)).mpr e)) (fun e => c2 ((zeq nb_m (by decide)).mpr e)) (Int32.not_lt.mp c3)
    · refine Ew.ld f230_70 rfl rfl rfl rfl ?_
      refine Ew.ld f230_71 rfl rfl rfl rfl ?_
      refine Ew.op (st' := zi (nI 8) :: _) f230_72 rfl rfl ?_
      refine Ew.idiv f230_74 (by decide) rfl ?_
      refine Ew.op (st' := zi (nI 5) :: _) f230_75 rfl rfl ?_
      refine Ew.irem f230_76 (by decide) rfl ?_
      refine Ew.call0 (ls0 := [some (zr (some (1, 0, 0))), some (zi (((nI x) / (nI 8)) - ((nI x) / (nI 8)) / (nI 5) * (nI 5))), none]) f230_77 rfl (Nat.le_of_ble_eq_true rfl) rfl rfl (Nat.le_of_ble_eq_true rfl) rfl (Nat.le_of_ble_eq_true rfl) rfl rfl ?_
      exact h3 (fun e => c1 ((zeq nb_m (by decide)).mpr e)) ((zeq nb_m (by decide)).mp (Classical.not_not.mp c2))
  · refine Ew.ld f230_56 rfl rfl rfl rfl ?_
    refine Ew.call0 (ls0 := [some (zr (some (1, 0, 0))), none, none]) f230_57 rfl (Nat.le_of_ble_eq_true rfl) rfl rfl (Nat.le_of_ble_eq_true rfl) rfl (Nat.le_of_ble_eq_true rfl) rfl rfl ?_
    refine sp_lays (b5 ((zeq nb_m (by decide)).mp (Classical.not_not.mp c1))) (b6 ((zeq nb_m (by decide)).mp (Classical.not_not.mp c1))) ?_
    show Ev (d + 7) c s 230 60 [some (zr (some (1, 0, 0))), some (zi (nI n)), some (zi (nI g)), some (zi (nI x)), some (zi (nI m)), some (zi (nI t))] [zi (rLaysR w), zr (some (1, 0, 0))] (OM X 1 0 (zw ρ (rLaysW ρ w)) l) Q
    refine Ew.goto f230_60 rfl ?_
    refine Ew.putiO f230_103 rfl rfl ?_
    rw [zw_uq _ _ (by decide)]
    refine Ew.iinc (v := nI (g + 1)) (ls' := [some (zr (some (1, 0, 0))), some (zi (nI n)), some (zi (nI (g + 1))), some (zi (nI x)), some (zi (nI m)), some (zi (nI t))]) f230_106 rfl (nI_1 _) rfl rfl ?_
    refine Ew.goto f230_109 rfl ?_
    exact h4 ((zeq nb_m (by decide)).mp (Classical.not_not.mp c1))
theorem g230_80 {d c s : Nat} {n g x m t : Nat} {y : Int32} {w v : Nat → Int32} {X : zM} {ρ : Nat → Nat → Int32} {l : Nat → Nat → Int64} {Q : Option zV → zM → Prop}
    (h1 : Ev d c s 230 16 [some (zr (some (1, 0, 0))), some (zi (nI n)), some (zi (nI (g + 1))), some (zi (nI x)), some (zi (nI m)), some (zi (nI t))] [] (OM X 1 0 (zw (zu ρ 0 37 y) w) l) Q) : Ev d c s 230 80 [some (zr (some (1, 0, 0))), some (zi (nI n)), some (zi (nI g)), some (zi (nI x)), some (zi (nI m)), some (zi (nI t))] [zi y, zr (some (1, 0, 0))] (OM X 1 0 (zw ρ w) l) Q := by
  refine Ew.goto f230_80 rfl ?_
  refine Ew.putiO f230_103 rfl rfl ?_
  rw [zw_uq _ _ (by decide)]
  refine Ew.iinc (v := nI (g + 1)) (ls' := [some (zr (some (1, 0, 0))), some (zi (nI n)), some (zi (nI (g + 1))), some (zi (nI x)), some (zi (nI m)), some (zi (nI t))]) f230_106 rfl (nI_1 _) rfl rfl ?_
  refine Ew.goto f230_109 rfl ?_
  exact h1

theorem zrange1 (x : Int32) (m : Nat) (hm : m < 5000) : (lN 1 ≤ x.toInt64 ∧ x.toInt64 ≤ lN m) ↔ ∃ t, 1 ≤ t ∧ t ≤ m ∧ x = nI t := by
  constructor
  · rintro ⟨h1, h2⟩
    have h0 : lN 0 ≤ x.toInt64 := Int64.le_trans ((lN_le (by decide) (by decide)).mpr (by decide)) h1
    obtain ⟨t, ht, e⟩ := (zrange x m hm).mp ⟨h0, h2⟩
    subst e
    rw [nI_l (by omega)] at h1
    exact ⟨t, (lN_le (by decide) (by omega)).mp h1, ht, rfl⟩
  · rintro ⟨t, h1, h2, rfl⟩
    rw [nI_l (by omega)]
    exact ⟨(lN_le (by decide) (by omega)).mpr h1, (lN_le (by omega) (by omega)).mpr h2⟩
/-- those left, as a number -/
def aLf (w : Nat → Int32) : Nat := (rLeftL (zw zO w) 4).toNatClampNeg
theorem aLf_ok (ρ : Nat → Nat → Int32) (w : Nat → Int32) : rLeft (zw ρ w) = nI (aLf w) ∧ aLf w < 16 ∧ ∀ t, t < 4 → ((aLf w).testBit t = true ↔ ¬ nI 3 ≤ w (10 + 4 * t)) := by
  obtain ⟨v, hv, e, hb⟩ := rLeftL_nat (zw zO w) 4 (Nat.le_refl 4)
  have e2 : aLf w = v := by
    unfold aLf
    rw [e]
    exact nI_clamp (by omega)
  rw [e2]
  exact ⟨(rLeftL_zw _ _ _ _).trans e, hv, hb⟩
def aGoT (w : Nat → Int32) : Nat := rNth (aLf w) (rX w % rSzL 7 (nI (aLf w)))
theorem rSz_ok : ∀ a, a < 16 → rSzL 7 (nI a) ≤ 4 ∧ (¬ a = 0 → 0 < rSzL 7 (nI a)) := by decide
theorem aGoT_ok {w : Nat → Int32} (h : ¬ aLf w = 0) : aGoT w < 4 ∧ ¬ nI 3 ≤ w (10 + 4 * aGoT w) := by
  obtain ⟨_, h16, hb⟩ := aLf_ok zO w
  have hs := (rSz_ok _ h16).2 h
  obtain ⟨h4, ht⟩ := rNth_ok (aLf w) h16 (rX w % rSzL 7 (nI (aLf w))) (Nat.mod_lt _ hs)
  exact ⟨h4, (hb _ h4).mp ht⟩
def aGo1 (τ : Nat → Nat → Int32) (w : Nat → Int32) : Nat → Int32 := rTurnW τ (aGoT w) (rDrwW w)
def aGoL (τ : Nat → Nat → Int32) : Nat → (Nat → Int32) → Nat × (Nat → Int32)
  | 0, w => (0, w)
  | n + 1, w => if aLf w = 0 then (0, w) else ((aGoL τ n (aGo1 τ w)).1 + 1, (aGoL τ n (aGo1 τ w)).2)
def aGo (σ : zSt) (x : Int32) : Int32 × zSt := match aIx x 41 with
  | none => (-1, σ)
  | some n => if n = 0 then (-1, σ) else (nI (aGoL (tτ σ.w) n σ.w).1, if (aGoL (tτ σ.w) n σ.w).1 = 0 then σ else ((aGoL (tτ σ.w) n σ.w).2, hNote σ.H σ.w, σ.2.2))
theorem rRw.drw {ρ : Nat → Nat → Int32} {w : Nat → Int32} (h : rRw ρ w) : rRw ρ (rDrwW w) := h.agree fun t ht => ⟨zup_n _ _ (by omega), zup_n _ _ (by omega)⟩
theorem aGoL_le (τ : Nat → Nat → Int32) : ∀ n w, (aGoL τ n w).1 ≤ n := by
  intro n
  induction n with
  | zero => intro w; exact Nat.le_refl 0
  | succ n ih =>
    intro w
    unfold aGoL
    split
    · exact Nat.zero_le _
    · exact Nat.succ_le_succ (ih _)
theorem rp_go {d c s B : Nat} {x : Int32} {σ : zSt} {X : zM} {ρ : Nat → Nat → Int32} {l : Nat → Nat → Int64} {Q : Option zV → zM → Prop} (hG : zGood B σ) (hR : zRef ρ l σ) (k : ∀ ρ' l', zRef ρ' l' (aGo σ x).2 → Q (some (zi (aGo σ x).1)) (OM X 1 0 ρ' l')) : Ev (d + 7) c s 208 0 [some (zr (some (1, 0, 0))), some (zi x), none, none, none] [] (OM X 1 0 ρ l) Q := by
  have hTx := hG.1.2.1
  have hag : ∀ ρ2, rFr ρ ρ2 → rTr ρ2 ∧ rAg ρ2 (tτ σ.w) ∧ rRw ρ2 σ.w := by
    intro ρ2 hf
    have h2 := rTrs_fr hR.2.2.2.2.2 hf
    exact ⟨rTr_of hTx h2, rAg_τ hTx h2, rRw_of hTx h2 hG.1.2.2.1⟩
  have loop : ∀ m g (n : Nat) (w : Nat → Int32) (ρ' : Nat → Nat → Int32) (o3 o4 : Option zV), n = g + m → n < 5000 → rFr ρ ρ' → rHs ρ' σ.H → (∀ i, i < 270 → ρ' 26 i = σ.w i) → rRw ρ' w → (∀ i, (i = 0 ∨ 26 ≤ i) → w i = σ.w i) → (∀ ρ2, rFr ρ ρ2 → rHs ρ2 (if g + (aGoL (tτ σ.w) m w).1 = 0 then σ.H else hNote σ.H σ.w) → (∀ i, (i = 0 ∨ 26 ≤ i) → (aGoL (tτ σ.w) m w).2 i = σ.w i) → Q (some (zi (nI (g + (aGoL (tτ σ.w) m w).1)))) (OM X 1 0 (zw ρ2 (aGoL (tτ σ.w) m w).2) l)) → Ev (d + 7) c s 208 20 [some (zr (some (1, 0, 0))), some (zi (nI n)), some (zi (nI g)), o3, o4] [] (OM X 1 0 (zw ρ' w) l) Q := by
    intro m
    induction m with
    | zero =>
      intro g n w ρ' o3 o4 hn h5 hf hH h26 hw htx hk
      have hk : ∀ ρ2, rFr ρ ρ2 → rHs ρ2 (if g + 0 = 0 then σ.H else hNote σ.H σ.w) → (∀ i, (i = 0 ∨ 26 ≤ i) → w i = σ.w i) → Q (some (zi (nI (g + 0)))) (OM X 1 0 (zw ρ2 w) l) := hk
      refine g208_20 (H := σ.H) (v := σ.w) (by omega) h5 (fun _ h => ?_) (fun _ _ => hH) (fun _ _ => h26) (fun _ h ρ2 hn => ?_) (fun h => by omega) (fun h => by omega) (fun h => by omega) (fun h => by omega) (fun h => by omega)
      · exact hk ρ' hf (by rw [if_pos (by omega)]; exact hH) htx
      · exact hk ρ2 (hf.trans hn.1) (by rw [if_neg (by omega)]; exact hn.2) htx
    | succ m ih =>
      intro g n w ρ' o3 o4 hn h5 hf hH h26 hw htx hk
      obtain ⟨eL, h16, hb⟩ := aLf_ok ρ' w
      unfold aGoL at hk
      refine g208_20 (H := σ.H) (v := σ.w) (by omega) h5 (fun h => by omega) (fun h => by omega) (fun h => by omega) (fun h => by omega) (fun _ h0 h => ?_) (fun _ _ _ => hH) (fun _ _ _ => h26) (fun _ h0 h ρ2 hn => ?_) (fun _ h0 => ?_)
      · rw [eL] at h0
        have h0 : aLf w = 0 := (zeq (by omega) (by decide)).mp h0
        rw [if_pos h0] at hk
        exact hk ρ' hf (by rw [if_pos (by omega)]; exact hH) htx
      · rw [eL] at h0
        have h0 : aLf w = 0 := (zeq (by omega) (by decide)).mp h0
        rw [if_pos h0] at hk
        exact hk ρ2 (hf.trans hn.1) (by rw [if_neg (by omega)]; exact hn.2) htx
      · rw [eL] at h0
        have h0 : ¬ aLf w = 0 := fun e => h0 (by rw [e]; rfl)
        rw [if_neg h0] at hk
        refine g208_32 ?_
        rw [eL]
        have hs := rSz_ok _ h16
        have hs2 := hs.2 h0
        have hx := rX_lt w
        refine g208_43 (rEnd_nat _ (by omega)) (nI_ne0 hs2 (by omega)) ?_
        have ex : nI (rX w) - nI (rX w) / rSz (nI (aLf w)) * rSz (nI (aLf w)) = nI (rX w % rSzL 7 (nI (aLf w))) := pk_rem (by omega) hs2 (by omega)
        rw [ex]
        obtain ⟨h4, h3⟩ := aGoT_ok h0
        have hml := Nat.mod_lt (rX w) hs2
        refine sp_nth h16 (by omega) h4 ?_
        obtain ⟨g1, g2, g3⟩ := hag ρ' hf
        have hw2 := hw.drw
        obtain ⟨t1, t2⟩ := rTurn_ag g2 g1 hw2 h4
        refine g208_56 h4 g1 hw2 ?_
        show Ev (d + 7) c s 208 20 _ [] (OM X 1 0 (zw (zu ρ' 0 37 (rTurnR ρ' (aGoT w) (rDrwW w))) (rTurnW ρ' (aGoT w) (rDrwW w))) l) Q
        rw [← t2]
        refine ih (g + 1) n _ _ _ _ (by omega) h5 (zu37 hf _) (rHs37 hH _) (fun i hi => by rw [zu_i_ne (by omega)]; exact h26 i hi) ?_ ?_ ?_
        · rw [t2]; exact hw2.turn g1 h4
        · intro i hi
          rw [t2, rTurnW_tx g1 h4 hw2 hi, show rDrwW w i = w i from zup_n _ _ (by omega)]
          exact htx i hi
        · intro ρ2 k1 k2 k3
          rw [Nat.add_assoc, Nat.add_comm 1] at k2 ⊢
          exact hk ρ2 k1 k2 k3
  rw [← hR.zw]
  refine g208_0 (fun h ρ1 hd => ?_) (fun h => ?_)
  · obtain ⟨n, hn1, hn2, rfl⟩ := (zrange1 x 40 (by decide)).mp h
    unfold aGo at k
    rw [aIx_some (show n < 41 by omega) (by decide)] at k
    simp only [] at k
    rw [if_neg (by omega)] at k
    refine loop n 0 n σ.w ρ1 _ _ (by omega) (by omega) hd.1 (rHs_hd hR.2.1 hd) hd.2.2.2 (hag ρ1 hd.1).2.2 (fun _ _ => rfl) (fun ρ2 k1 k2 k3 => ?_)
    rw [Nat.zero_add] at k2 ⊢
    by_cases e : (aGoL (tτ σ.w) n σ.w).1 = 0
    · rw [if_pos e] at k k2
      have e2 : (aGoL (tτ σ.w) n σ.w).2 = σ.w := by
        obtain ⟨m, rfl⟩ : ∃ m, n = m + 1 := ⟨n - 1, by omega⟩
        unfold aGoL at e ⊢
        by_cases h0 : aLf σ.w = 0
        · rw [if_pos h0]
        · rw [if_neg h0] at e
          exact absurd e (Nat.succ_ne_zero _)
      rw [e2]
      exact k _ _ (hR.step k1 k2 (fun _ _ => rfl))
    · rw [if_neg e] at k k2
      exact k _ _ (hR.step k1 k2 k3)
  · unfold aGo at k
    rw [hR.zw]
    rcases ha : aIx x 41 with _ | n
    · rw [ha] at k
      exact k _ _ hR
    · rw [ha] at k
      simp only [] at k
      have e : n = 0 := by
        unfold aIx at ha
        by_cases h0 : x < 0
        · rw [if_pos h0] at ha; cases ha
        · rw [if_neg h0] at ha
          obtain ⟨j, hj, ej⟩ := nI_of h0
          rw [ej, nI_clamp hj] at ha
          by_cases hn : 41 ≤ j
          · rw [if_pos hn] at ha; cases ha
          · rw [if_neg hn] at ha
            injection ha with ha
            by_cases hz : n = 0
            · exact hz
            · exact absurd ((zrange1 x 40 (by decide)).mpr ⟨j, by omega, by omega, ej⟩) h
      rw [if_pos e] at k
      exact k _ _ hR
