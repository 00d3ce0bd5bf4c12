/-! the reference: tried -/
theorem zrangeL64 {v : Int64} {m : Nat} (hm : m < 5000) (h : lN 0 ≤ v ∧ v ≤ lN m) : ∃ t, t < m + 1 ∧ v = lN t := by
  obtain ⟨h1, h2⟩ := h
  have a1 := Int64.le_iff_toInt_le.mp h1
  have a2 := Int64.le_iff_toInt_le.mp h2
  rw [show (lN 0).toInt = 0 from rfl] at a1
  rw [lN_toInt (by omega)] at a2
  refine ⟨v.toInt.toNat, by omega, ?_⟩
  apply Int64.toInt_inj.mp
  rw [lN_toInt (by omega)]
  omega
theorem zlN_i {t : Nat} (h : t < 5000) : (lN t).toInt32 = nI t := by
  apply Int32.toInt_inj.mp
  rw [Int64.toInt_toInt32, lN_toInt (by omega), nI_toInt (by omega)]
  apply Int.bmod_eq_of_le <;> omega
def aTskN (v : Int64) : Nat := v.toInt32.toNatClampNeg
def aTriL (τ : Nat → Nat → Int32) (g : Nat → Int64) : Nat → Nat → (Nat → Int32) → Nat
  | 0, _, _ => 0
  | n + 1, u, w => if nI 3 ≤ w (10 + 4 * aTskN (g u)) then 0 else if rTurnW τ (aTskN (g u)) w (10 + 4 * aTskN (g u)) = nI 2 then 0 else aTriL τ g n (u + 1) (rTurnW τ (aTskN (g u)) w) + 1
def aTried (σ : zSt) (a x i n : Int32) : Int32 := match aIx a 4, aIx x 4, aIx n 25 with
  | some j, some _, some m => if m = 0 then -1 else if aFnd (σ.S j) x i m < 0 then aFnd (σ.S j) x i m else (match σ.S j with
    | some z => if ∀ u, u < m → lN 0 ≤ z.2.2 (i.toNatClampNeg + u) ∧ z.2.2 (i.toNatClampNeg + u) ≤ lN 3 then nI (aTriL (tτ σ.w) (fun u => z.2.2 (i.toNatClampNeg + u)) m 0 σ.w) else -2
    | none => -1)
  | _, _, _ => -1
theorem g238_0 {d c s : Nat} {a x i n : Int32} {w : Nat → Int32} {X : zM} {ρ : Nat → Nat → Int32} {l : Nat → Nat → Int64} {Q : Option zV → zM → Prop}
    (h1 : (lN 0 ≤ a.toInt64 ∧ a.toInt64 ≤ lN 3) → ((lN 0) ≤ x.toInt64 ∧ x.toInt64 ≤ (lN 3)) → ((lN 1) ≤ n.toInt64 ∧ n.toInt64 ≤ (lN 24)) → Ev (d + 2) c s 238 34 [some (zr (some (1, 0, 0))), some (zi a), some (zi x), some (zi i), some (zi n), none, none, none, none, none] [] (OM X 1 0 (zw ρ w) l) Q)
    (h2 : (lN 0 ≤ a.toInt64 ∧ a.toInt64 ≤ lN 3) → ((lN 0) ≤ x.toInt64 ∧ x.toInt64 ≤ (lN 3)) → (¬ ((lN 1) ≤ n.toInt64 ∧ n.toInt64 ≤ (lN 24))) → Q (some (zi ((-1)))) (OM X 1 0 (zw ρ w) l))
    (h3 : (lN 0 ≤ a.toInt64 ∧ a.toInt64 ≤ lN 3) → (¬ ((lN 0) ≤ x.toInt64 ∧ x.toInt64 ≤ (lN 3))) → Q (some (zi ((-1)))) (OM X 1 0 (zw ρ w) l))
    (h4 : (¬ (lN 0 ≤ a.toInt64 ∧ a.toInt64 ≤ lN 3)) → Q (some (zi ((-1)))) (OM X 1 0 (zw ρ w) l)) : Ev (d + 2) c s 238 0 [some (zr (some (1, 0, 0))), some (zi a), some (zi x), some (zi i), some (zi n), none, none, none, none, none] [] (OM X 1 0 (zw ρ w) l) Q := by
  refine Ew.ld f238_0 rfl rfl rfl rfl ?_
  refine Ew.call0 (ls0 := [some (zi a)]) f238_1 rfl (Nat.le_of_ble_eq_true rfl) rfl rfl (Nat.le_of_ble_eq_true rfl) trivial (Nat.le_of_ble_eq_true rfl) rfl rfl ?_
  refine sp_isSheet (fun c1 => ?_) (fun c1 => ?_)
  · refine Ew.ifc f238_4 rfl rfl (fun h => absurd h (show ¬ (((nI 1) : Int32) = 0) by decide)) (fun _ => ?_)
    refine Ew.ld f238_7 rfl rfl rfl rfl ?_
    refine Ew.op (st' := zl x.toInt64 :: _) f238_8 rfl rfl ?_
    refine Ew.op (st' := zl (lN 0) :: _) f238_9 rfl rfl ?_
    refine Ew.op (st' := zl (lN 3) :: _) f238_10 rfl rfl ?_
    refine Ew.call0 (ls0 := [some (zl x.toInt64), none, some (zl (lN 0)), none, some (zl (lN 3)), none]) f238_13 rfl (Nat.le_of_ble_eq_true rfl) rfl rfl (Nat.le_of_ble_eq_true rfl) trivial (Nat.le_of_ble_eq_true rfl) rfl rfl ?_
    refine sp_in (fun c2 => ?_) (fun c2 => ?_)
    · refine Ew.ifc f238_16 rfl rfl (fun h => absurd h (show ¬ (((nI 1) : Int32) = 0) by decide)) (fun _ => ?_)
      refine Ew.ld f238_19 rfl rfl rfl rfl ?_
      refine Ew.op (st' := zl n.toInt64 :: _) f238_21 rfl rfl ?_
      refine Ew.op (st' := zl (lN 1) :: _) f238_22 rfl rfl ?_
      refine Ew.op (st' := zl (lN 24) :: _) f238_23 rfl rfl ?_
      refine Ew.call0 (ls0 := [some (zl n.toInt64), none, some (zl (lN 1)), none, some (zl (lN 24)), none]) f238_26 rfl (Nat.le_of_ble_eq_true rfl) rfl rfl (Nat.le_of_ble_eq_true rfl) trivial (Nat.le_of_ble_eq_true rfl) rfl rfl ?_
      refine sp_in (fun c3 => ?_) (fun c3 => ?_)
      · refine Ew.ifc f238_29 rfl rfl (fun _ => ?_) (fun h => absurd (show ¬ ((nI 1) : Int32) = 0 by decide) h)
        exact h1 c1 c2 c3
      · refine Ew.ifc f238_29 rfl rfl (fun h => absurd h (show ¬ (¬ ((nI 0) : Int32) = 0) by decide)) (fun _ => ?_)
        refine Ew.op (st' := zi ((-1)) :: _) f238_32 rfl rfl ?_
        refine Ew.ireti f238_33 ?_
        exact h2 c1 c2 c3
    · refine Ew.ifc f238_16 rfl rfl (fun _ => ?_) (fun h => absurd (show ((nI 0) : Int32) = 0 by decide) h)
      refine Ew.op (st' := zi ((-1)) :: _) f238_32 rfl rfl ?_
      refine Ew.ireti f238_33 ?_
      exact h3 c1 c2
  · refine Ew.ifc f238_4 rfl rfl (fun _ => ?_) (fun h => absurd (show ((nI 0) : Int32) = 0 by decide) h)
    refine Ew.op (st' := zi ((-1)) :: _) f238_32 rfl rfl ?_
    refine Ew.ireti f238_33 ?_
    exact h4 c1
theorem g238_34 {d c s : Nat} {j x n : Nat} {i : Int32} {w : Nat → Int32} {X : zM} {ρ : Nat → Nat → Int32} {l : Nat → Nat → Int64} {Q : Option zV → zM → Prop}
    (h1 : Ev d 0 0 237 0 [some (zr (some (1, 0, 0))), some (zi (nI j)), some (zi (nI x)), some (zi i), some (zi (nI n))] [] (OM X 1 0 (zw ρ w) l) (fun r M' => Ev (d + 1) c s 238 43 [some (zr (some (1, 0, 0))), some (zi (nI j)), some (zi (nI x)), some (zi i), some (zi (nI n)), none, none, none, none, none] (zpush r []) M' Q)) : Ev (d + 1) c s 238 34 [some (zr (some (1, 0, 0))), some (zi (nI j)), some (zi (nI x)), some (zi i), some (zi (nI n)), none, none, none, none, none] [] (OM X 1 0 (zw ρ w) l) Q := by
  refine Ew.ld f238_34 rfl rfl rfl rfl ?_
  refine Ew.ld f238_35 rfl rfl rfl rfl ?_
  refine Ew.ld f238_36 rfl rfl rfl rfl ?_
  refine Ew.ld f238_37 rfl rfl rfl rfl ?_
  refine Ew.ld f238_38 rfl rfl rfl rfl ?_
  refine Ew.call0 (ls0 := [some (zr (some (1, 0, 0))), some (zi (nI j)), some (zi (nI x)), some (zi i), some (zi (nI n))]) f238_40 rfl (Nat.le_of_ble_eq_true rfl) rfl rfl (Nat.le_of_ble_eq_true rfl) rfl (Nat.le_of_ble_eq_true rfl) rfl rfl ?_
  exact h1
theorem g238_43 {d c s : Nat} {j x n : Nat} {i f : Int32} {w : Nat → Int32} {X : zM} {ρ : Nat → Nat → Int32} {l : Nat → Nat → Int64} {Q : Option zV → zM → Prop}
    (h1 : (0 ≤ f) → Ev d c s 238 53 [some (zr (some (1, 0, 0))), some (zi (nI j)), some (zi (nI x)), some (zi i), some (zi (nI n)), some (zi f), none, none, none, none] [] (OM X 1 0 (zw ρ w) l) Q)
    (h2 : (f < 0) → Q (some (zi f)) (OM X 1 0 (zw ρ w) l)) : Ev d c s 238 43 [some (zr (some (1, 0, 0))), some (zi (nI j)), some (zi (nI x)), some (zi i), some (zi (nI n)), none, none, none, none, none] [zi f] (OM X 1 0 (zw ρ w) l) Q := by
  refine Ew.sr (ls' := [some (zr (some (1, 0, 0))), some (zi (nI j)), some (zi (nI x)), some (zi i), some (zi (nI n)), some (zi f), none, none, none, none]) f238_43 rfl rfl (Nat.le_of_ble_eq_true rfl) rfl rfl ?_
  refine Ew.ld f238_45 rfl rfl rfl rfl ?_
  refine Ew.ifc f238_47 rfl rfl (fun c1 => ?_) (fun c1 => ?_)
  · exact h1 c1
  · refine Ew.ld f238_50 rfl rfl rfl rfl ?_
    refine Ew.ireti f238_52 ?_
    exact h2 (Int32.not_le.mp c1)
theorem g238_53 {d c s : Nat} {j x n i : Nat} {f : Int32} {w : Nat → Int32} {X : zM} {ρ : Nat → Nat → Int32} {l : Nat → Nat → Int64} {Q : Option zV → zM → Prop}
    (h1 : Ev d c s 238 56 [some (zr (some (1, 0, 0))), some (zi (nI j)), some (zi (nI x)), some (zi (nI i)), some (zi (nI n)), some (zi f), some (zi (nI 0)), none, none, none] [] (OM X 1 0 (zw ρ w) l) Q) : Ev d c s 238 53 [some (zr (some (1, 0, 0))), some (zi (nI j)), some (zi (nI x)), some (zi (nI i)), some (zi (nI n)), some (zi f), none, none, none, none] [] (OM X 1 0 (zw ρ w) l) Q := by
  refine Ew.op (st' := zi (nI 0) :: _) f238_53 rfl rfl ?_
  refine Ew.sr (ls' := [some (zr (some (1, 0, 0))), some (zi (nI j)), some (zi (nI x)), some (zi (nI i)), some (zi (nI n)), some (zi f), some (zi (nI 0)), none, none, none]) f238_54 rfl rfl (Nat.le_of_ble_eq_true rfl) rfl rfl ?_
  exact h1
theorem g238_56 {d c s : Nat} {j x n i u : Nat} {f : Int32} {w : Nat → Int32} {X : zM} {ρ : Nat → Nat → Int32} {l : Nat → Nat → Int64} {Q : Option zV → zM → Prop} (nb_u : u < 5000) (nb_n : n < 5000)
    (h1 : (n ≤ u) → Ev (d + 2) c s 238 92 [some (zr (some (1, 0, 0))), some (zi (nI j)), some (zi (nI x)), some (zi (nI i)), some (zi (nI n)), some (zi f), some (zi (nI u)), none, none, none] [] (OM X 1 0 (zw ρ w) l) Q)
    (b1 : (u < n) → 24 * j + i + u < 96)
    (h2 : (u < n) → (lN 0 ≤ (l 8 (24 * j + i + u)) ∧ (l 8 (24 * j + i + u)) ≤ lN 3) → Ev (d + 2) c s 238 56 [some (zr (some (1, 0, 0))), some (zi (nI j)), some (zi (nI x)), some (zi (nI i)), some (zi (nI n)), some (zi f), some (zi (nI (u + 1))), none, none, none] [] (OM X 1 0 (zw ρ w) l) Q)
    (h3 : (u < n) → (¬ (lN 0 ≤ (l 8 (24 * j + i + u)) ∧ (l 8 (24 * j + i + u)) ≤ lN 3)) → Q (some (zi ((-2)))) (OM X 1 0 (zw ρ w) l)) : Ev (d + 2) c s 238 56 [some (zr (some (1, 0, 0))), some (zi (nI j)), some (zi (nI x)), some (zi (nI i)), some (zi (nI n)), some (zi f), some (zi (nI u)), none, none, none] [] (OM X 1 0 (zw ρ w) l) Q := by
  refine Ew.ld f238_56 rfl rfl rfl rfl ?_
  refine Ew.ld f238_58 rfl rfl rfl rfl ?_
  refine Ew.icmp f238_60 rfl rfl (fun c1 => ?_) (fun c1 => ?_)
  · exact h1 ((zle_iff nb_n nb_u).mp c1)
  · refine Ew.ld f238_63 rfl rfl rfl rfl ?_
    refine Ew.getp (v := some (1, 0, 8)) f238_64 rfl rfl rfl ?_
    refine Ew.op (st' := zi (nI 24) :: _) f238_67 rfl rfl ?_
    refine Ew.ld f238_69 rfl rfl rfl rfl ?_
    refine Ew.muln f238_70 rfl ?_
    refine Ew.ld f238_71 rfl rfl rfl rfl ?_
    refine Ew.addn f238_72 rfl ?_
    refine Ew.ld f238_73 rfl rfl rfl rfl ?_
    refine Ew.addn f238_75 rfl ?_
    refine Ew.laldnO f238_76 rfl (b1 (Nat.not_le.mp fun e => c1 ((zle_iff nb_n nb_u).mpr e))) (Nat.le_of_ble_eq_true rfl) rfl ?_
    refine Ew.call0 (ls0 := [some (zl (l 8 (24 * j + i + u))), none]) f238_77 rfl (Nat.le_of_ble_eq_true rfl) rfl rfl (Nat.le_of_ble_eq_true rfl) trivial (Nat.le_of_ble_eq_true rfl) rfl rfl ?_
    refine sp_isTask (fun c2 => ?_) (fun c2 => ?_)
    · refine Ew.ifc f238_80 rfl rfl (fun _ => ?_) (fun h => absurd (show ¬ ((nI 1) : Int32) = 0 by decide) h)
      refine Ew.iinc (v := nI (u + 1)) (ls' := [some (zr (some (1, 0, 0))), some (zi (nI j)), some (zi (nI x)), some (zi (nI i)), some (zi (nI n)), some (zi f), some (zi (nI (u + 1))), none, none, none]) f238_86 rfl (nI_1 _) rfl rfl ?_
      refine Ew.goto f238_89 rfl ?_
      exact h2 (Nat.not_le.mp fun e => c1 ((zle_iff nb_n nb_u).mpr e)) c2
    · refine Ew.ifc f238_80 rfl rfl (fun h => absurd h (show ¬ (¬ ((nI 0) : Int32) = 0) by decide)) (fun _ => ?_)
      refine Ew.op (st' := zi ((-2)) :: _) f238_83 rfl rfl ?_
      refine Ew.ireti f238_85 ?_
      exact h3 (Nat.not_le.mp fun e => c1 ((zle_iff nb_n nb_u).mpr e)) c2
theorem g238_92 {d c s : Nat} {j x n i : Nat} {f : Int32} {w : Nat → Int32} {o6 : Option zV} {X : zM} {ρ : Nat → Nat → Int32} {l : Nat → Nat → Int64} {Q : Option zV → zM → Prop}
    (h1 : ∀ ρ1 : Nat → Nat → Int32, (rHd ρ w ρ1) → Ev (d + 1) c s 238 105 [some (zr (some (1, 0, 0))), some (zi (nI j)), some (zi (nI x)), some (zi (nI i)), some (zi (nI n)), some (zi f), some (zi (nI 0)), some (zi (nI 1)), some (zi (nI 0)), none] [] (OM X 1 0 (zw ρ1 w) l) Q) : Ev (d + 1) c s 238 92 [some (zr (some (1, 0, 0))), some (zi (nI j)), some (zi (nI x)), some (zi (nI i)), some (zi (nI n)), some (zi f), o6, none, none, none] [] (OM X 1 0 (zw ρ w) l) Q := by
  refine Ew.ld f238_92 rfl rfl rfl rfl ?_
  refine Ew.call0 (ls0 := [some (zr (some (1, 0, 0))), none]) f238_93 rfl (Nat.le_of_ble_eq_true rfl) rfl rfl (Nat.le_of_ble_eq_true rfl) rfl (Nat.le_of_ble_eq_true rfl) rfl rfl ?_
  refine sp_holds' (fun ρ1 f1 => ?_)
  show Ev (d + 1) c s 238 96 [some (zr (some (1, 0, 0))), some (zi (nI j)), some (zi (nI x)), some (zi (nI i)), some (zi (nI n)), some (zi f), o6, none, none, none] [] (OM X 1 0 (zw ρ1 w) l) Q
  refine Ew.op (st' := zi (nI 0) :: _) f238_96 rfl rfl ?_
  refine Ew.sr (ls' := [some (zr (some (1, 0, 0))), some (zi (nI j)), some (zi (nI x)), some (zi (nI i)), some (zi (nI n)), some (zi f), some (zi (nI 0)), none, none, none]) f238_97 rfl rfl (Nat.le_of_ble_eq_true rfl) rfl rfl ?_
  refine Ew.op (st' := zi (nI 1) :: _) f238_99 rfl rfl ?_
  refine Ew.sr (ls' := [some (zr (some (1, 0, 0))), some (zi (nI j)), some (zi (nI x)), some (zi (nI i)), some (zi (nI n)), some (zi f), some (zi (nI 0)), some (zi (nI 1)), none, none]) f238_100 rfl rfl (Nat.le_of_ble_eq_true rfl) rfl rfl ?_
  refine Ew.op (st' := zi (nI 0) :: _) f238_102 rfl rfl ?_
  refine Ew.sr (ls' := [some (zr (some (1, 0, 0))), some (zi (nI j)), some (zi (nI x)), some (zi (nI i)), some (zi (nI n)), some (zi f), some (zi (nI 0)), some (zi (nI 1)), some (zi (nI 0)), none]) f238_103 rfl rfl (Nat.le_of_ble_eq_true rfl) rfl rfl ?_
  exact h1 ρ1 f1
theorem g238_105 {d c s : Nat} {j x n i q u : Nat} {f : Int32} {w : Nat → Int32} {o9 : Option zV} {X : zM} {ρ : Nat → Nat → Int32} {l : Nat → Nat → Int64} {Q : Option zV → zM → Prop} (nb_u : u < 5000) (nb_n : n < 5000)
    (h1 : (n ≤ u) → Q (some (zi (nI q))) (OM X 1 0 (zw ρ (zcp (ρ 26) w 270)) l))
    (b1 : (u < n) → 24 * j + i + u < 96)
    (h2 : (u < n) → Ev (d + 1) c s 238 134 [some (zr (some (1, 0, 0))), some (zi (nI j)), some (zi (nI x)), some (zi (nI i)), some (zi (nI n)), some (zi f), some (zi (nI q)), some (zi (nI 1)), some (zi (nI u)), some (zi ((l 8 (24 * j + i + u)).toInt32))] [] (OM X 1 0 (zw ρ w) l) Q) : Ev (d + 1) c s 238 105 [some (zr (some (1, 0, 0))), some (zi (nI j)), some (zi (nI x)), some (zi (nI i)), some (zi (nI n)), some (zi f), some (zi (nI q)), some (zi (nI 1)), some (zi (nI u)), o9] [] (OM X 1 0 (zw ρ w) l) Q := by
  refine Ew.ld f238_105 rfl rfl rfl rfl ?_
  refine Ew.ld f238_107 rfl rfl rfl rfl ?_
  refine Ew.icmp f238_109 rfl rfl (fun c1 => ?_) (fun c1 => ?_)
  · refine Ew.ld f238_204 rfl rfl rfl rfl ?_
    refine Ew.call0 (ls0 := [some (zr (some (1, 0, 0))), none]) f238_205 rfl (Nat.le_of_ble_eq_true rfl) rfl rfl (Nat.le_of_ble_eq_true rfl) rfl (Nat.le_of_ble_eq_true rfl) rfl rfl ?_
    refine sp_returns ?_
    show Ev (d + 1) c s 238 208 [some (zr (some (1, 0, 0))), some (zi (nI j)), some (zi (nI x)), some (zi (nI i)), some (zi (nI n)), some (zi f), some (zi (nI q)), some (zi (nI 1)), some (zi (nI u)), o9] [] (OM X 1 0 (zw ρ (zcp (ρ 26) w 270)) l) Q
    refine Ew.ld f238_208 rfl rfl rfl rfl ?_
    refine Ew.ireti f238_210 ?_
    exact h1 ((zle_iff nb_n nb_u).mp c1)
  · refine Ew.ld f238_112 rfl rfl rfl rfl ?_
    refine Ew.ifc f238_114 rfl rfl (fun h => absurd h (show ¬ (((nI 1) : Int32) = 0) by decide)) (fun _ => ?_)
    refine Ew.ld f238_117 rfl rfl rfl rfl ?_
    refine Ew.getp (v := some (1, 0, 8)) f238_118 rfl rfl rfl ?_
    refine Ew.op (st' := zi (nI 24) :: _) f238_121 rfl rfl ?_
    refine Ew.ld f238_123 rfl rfl rfl rfl ?_
    refine Ew.muln f238_124 rfl ?_
    refine Ew.ld f238_125 rfl rfl rfl rfl ?_
    refine Ew.addn f238_126 rfl ?_
    refine Ew.ld f238_127 rfl rfl rfl rfl ?_
    refine Ew.addn f238_129 rfl ?_
    refine Ew.laldnO f238_130 rfl (b1 (Nat.not_le.mp fun e => c1 ((zle_iff nb_n nb_u).mpr e))) (Nat.le_of_ble_eq_true rfl) rfl ?_
    refine Ew.op (st' := zi ((l 8 (24 * j + i + u)).toInt32) :: _) f238_131 rfl rfl ?_
    refine Ew.sr (ls' := [some (zr (some (1, 0, 0))), some (zi (nI j)), some (zi (nI x)), some (zi (nI i)), some (zi (nI n)), some (zi f), some (zi (nI q)), some (zi (nI 1)), some (zi (nI u)), some (zi ((l 8 (24 * j + i + u)).toInt32))]) f238_132 rfl rfl (Nat.le_of_ble_eq_true rfl) rfl rfl ?_
    exact h2 (Nat.not_le.mp fun e => c1 ((zle_iff nb_n nb_u).mpr e))
theorem g238_105z {d c s : Nat} {j x n i q u : Nat} {f : Int32} {w : Nat → Int32} {o9 : Option zV} {X : zM} {ρ : Nat → Nat → Int32} {l : Nat → Nat → Int64} {Q : Option zV → zM → Prop} (nb_u : u < 5000) (nb_n : n < 5000)
    (h1 : (n ≤ u) → Q (some (zi (nI q))) (OM X 1 0 (zw ρ (zcp (ρ 26) w 270)) l))
    (h2 : (u < n) → Q (some (zi (nI q))) (OM X 1 0 (zw ρ (zcp (ρ 26) w 270)) l)) : Ev (d + 1) c s 238 105 [some (zr (some (1, 0, 0))), some (zi (nI j)), some (zi (nI x)), some (zi (nI i)), some (zi (nI n)), some (zi f), some (zi (nI q)), some (zi (nI 0)), some (zi (nI u)), o9] [] (OM X 1 0 (zw ρ w) l) Q := by
  refine Ew.ld f238_105 rfl rfl rfl rfl ?_
  refine Ew.ld f238_107 rfl rfl rfl rfl ?_
  refine Ew.icmp f238_109 rfl rfl (fun c1 => ?_) (fun c1 => ?_)
  · refine Ew.ld f238_204 rfl rfl rfl rfl ?_
    refine Ew.call0 (ls0 := [some (zr (some (1, 0, 0))), none]) f238_205 rfl (Nat.le_of_ble_eq_true rfl) rfl rfl (Nat.le_of_ble_eq_true rfl) rfl (Nat.le_of_ble_eq_true rfl) rfl rfl ?_
    refine sp_returns ?_
    show Ev (d + 1) c s 238 208 [some (zr (some (1, 0, 0))), some (zi (nI j)), some (zi (nI x)), some (zi (nI i)), some (zi (nI n)), some (zi f), some (zi (nI q)), some (zi (nI 0)), some (zi (nI u)), o9] [] (OM X 1 0 (zw ρ (zcp (ρ 26) w 270)) l) Q
    refine Ew.ld f238_208 rfl rfl rfl rfl ?_
    refine Ew.ireti f238_210 ?_
    exact h1 ((zle_iff nb_n nb_u).mp c1)
  · refine Ew.ld f238_112 rfl rfl rfl rfl ?_
    refine Ew.ifc f238_114 rfl rfl (fun _ => ?_) (fun h => absurd (show ((nI 0) : Int32) = 0 by decide) h)
    refine Ew.ld f238_204 rfl rfl rfl rfl ?_
    refine Ew.call0 (ls0 := [some (zr (some (1, 0, 0))), none]) f238_205 rfl (Nat.le_of_ble_eq_true rfl) rfl rfl (Nat.le_of_ble_eq_true rfl) rfl (Nat.le_of_ble_eq_true rfl) rfl rfl ?_
    refine sp_returns ?_
    show Ev (d + 1) c s 238 208 [some (zr (some (1, 0, 0))), some (zi (nI j)), some (zi (nI x)), some (zi (nI i)), some (zi (nI n)), some (zi f), some (zi (nI q)), some (zi (nI 0)), some (zi (nI u)), o9] [] (OM X 1 0 (zw ρ (zcp (ρ 26) w 270)) l) Q
    refine Ew.ld f238_208 rfl rfl rfl rfl ?_
    refine Ew.ireti f238_210 ?_
    exact h2 (Nat.not_le.mp fun e => c1 ((zle_iff nb_n nb_u).mpr e))
theorem g238_134 {d c s : Nat} {j x n i q u t : Nat} {f : Int32} {w : Nat → Int32} {X : zM} {ρ : Nat → Nat → Int32} {l : Nat → Nat → Int64} {Q : Option zV → zM → Prop}
    (b1 : 10 + 4 * t < 270)
    (b2 : ((w (10 + 4 * t)) < (nI 3)) → t < 4)
    (b3 : ((w (10 + 4 * t)) < (nI 3)) → rTr ρ)
    (b4 : ((w (10 + 4 * t)) < (nI 3)) → rRw ρ w)
    (b5 : ((w (10 + 4 * t)) < (nI 3)) → 10 + 4 * t < 270)
    (h1 : ((w (10 + 4 * t)) < (nI 3)) → (((rTurnW ρ t w) (10 + 4 * t)) = (nI 2)) → Ev (d + 7) c s 238 105 [some (zr (some (1, 0, 0))), some (zi (nI j)), some (zi (nI x)), some (zi (nI i)), some (zi (nI n)), some (zi f), some (zi (nI q)), some (zi (nI 0)), some (zi (nI (u + 1))), some (zi (nI t))] [] (OM X 1 0 (zw (zu ρ 0 37 (rTurnR ρ t w)) (rTurnW ρ t w)) l) Q)
    (h2 : ((w (10 + 4 * t)) < (nI 3)) → (¬ ((rTurnW ρ t w) (10 + 4 * t)) = (nI 2)) → Ev (d + 7) c s 238 105 [some (zr (some (1, 0, 0))), some (zi (nI j)), some (zi (nI x)), some (zi (nI i)), some (zi (nI n)), some (zi f), some (zi (nI (q + 1))), some (zi (nI 1)), some (zi (nI (u + 1))), some (zi (nI t))] [] (OM X 1 0 (zw (zu ρ 0 37 (rTurnR ρ t w)) (rTurnW ρ t w)) l) Q)
    (h3 : ((nI 3) ≤ (w (10 + 4 * t))) → Ev (d + 7) c s 238 105 [some (zr (some (1, 0, 0))), some (zi (nI j)), some (zi (nI x)), some (zi (nI i)), some (zi (nI n)), some (zi f), some (zi (nI q)), some (zi (nI 0)), some (zi (nI (u + 1))), some (zi (nI t))] [] (OM X 1 0 (zw ρ w) l) Q) : Ev (d + 7) c s 238 134 [some (zr (some (1, 0, 0))), some (zi (nI j)), some (zi (nI x)), some (zi (nI i)), some (zi (nI n)), some (zi f), some (zi (nI q)), some (zi (nI 1)), some (zi (nI u)), some (zi (nI t))] [] (OM X 1 0 (zw ρ w) l) Q := by
  refine Ew.ld f238_134 rfl rfl rfl rfl ?_
  refine Ew.ld f238_135 rfl rfl rfl rfl ?_
  refine Ew.call0 (ls0 := [some (zr (some (1, 0, 0))), some (zi (nI t))]) f238_137 rfl (Nat.le_of_ble_eq_true rfl) rfl rfl (Nat.le_of_ble_eq_true rfl) rfl (Nat.le_of_ble_eq_true rfl) rfl rfl ?_
  refine Ew.ld f201_0 rfl rfl rfl rfl ?_
  refine Ew.ld f201_1 rfl rfl rfl rfl ?_
  refine Ew.op (st' := zi (nI 0) :: _) f201_2 rfl rfl ?_
  refine Ew.call0 (ls0 := [some (zr (some (1, 0, 0))), some (zi (nI t)), some (zi (nI 0))]) f201_3 rfl (Nat.le_of_ble_eq_true rfl) rfl rfl (Nat.le_of_ble_eq_true rfl) rfl (Nat.le_of_ble_eq_true rfl) rfl rfl ?_
  refine Ew.ld f156_0 rfl rfl rfl rfl ?_
  refine Ew.getp (v := some (1, 0, 1)) f156_1 rfl rfl rfl ?_
  refine Ew.op (st' := zi (nI 10) :: _) f156_4 rfl rfl ?_
  refine Ew.op (st' := zi (nI 4) :: _) f156_6 rfl rfl ?_
  refine Ew.ld f156_7 rfl rfl rfl rfl ?_
  refine Ew.muln f156_8 rfl ?_
  refine Ew.addn f156_9 rfl ?_
  refine Ew.ld f156_10 rfl rfl rfl rfl ?_
  refine Ew.addn f156_11 rfl ?_
  refine Ew.ialdnO f156_12 rfl b1 (Nat.le_of_ble_eq_true rfl) rfl ?_
  refine Ew.ireti f156_13 ?_
  show Ev (d + 6) 0 0 201 6 [some (zr (some (1, 0, 0))), some (zi (nI t))] [zi (w (10 + 4 * t))] (OM X 1 0 (zw ρ w) l) (fun r M' => Ev (d + 7) c s 238 140 [some (zr (some (1, 0, 0))), some (zi (nI j)), some (zi (nI x)), some (zi (nI i)), some (zi (nI n)), some (zi f), some (zi (nI q)), some (zi (nI 1)), some (zi (nI u)), some (zi (nI t))] (zpush r []) M' Q)
  refine Ew.op (st' := zi (nI 3) :: _) f201_6 rfl rfl ?_
  refine Ew.icmp f201_7 rfl rfl (fun c1 => ?_) (fun c1 => ?_)
  · refine Ew.op (st' := zi (nI 0) :: _) f201_14 rfl rfl ?_
    refine Ew.iretb f201_15 (Or.inl rfl) ?_
    show Ev (d + 7) c s 238 140 [some (zr (some (1, 0, 0))), some (zi (nI j)), some (zi (nI x)), some (zi (nI i)), some (zi (nI n)), some (zi f), some (zi (nI q)), some (zi (nI 1)), some (zi (nI u)), some (zi (nI t))] [zi (nI 0)] (OM X 1 0 (zw ρ w) l) Q
    refine Ew.ifc f238_140 rfl rfl (fun h => absurd h (show ¬ (¬ ((nI 0) : Int32) = 0) by decide)) (fun _ => ?_)
    refine Ew.op (st' := zi (nI 1) :: _) f238_143 rfl rfl ?_
    refine Ew.goto f238_144 rfl ?_
    refine Ew.sr (ls' := [some (zr (some (1, 0, 0))), some (zi (nI j)), some (zi (nI x)), some (zi (nI i)), some (zi (nI n)), some (zi f), some (zi (nI q)), some (zi (nI 1)), some (zi (nI u)), some (zi (nI t))]) f238_148 rfl rfl (Nat.le_of_ble_eq_true rfl) rfl rfl ?_
    refine Ew.ld f238_150 rfl rfl rfl rfl ?_
    refine Ew.ifc f238_152 rfl rfl (fun h => absurd h (show ¬ (((nI 1) : Int32) = 0) by decide)) (fun _ => ?_)
    refine Ew.ld f238_155 rfl rfl rfl rfl ?_
    refine Ew.ld f238_156 rfl rfl rfl rfl ?_
    refine Ew.ld f238_157 rfl rfl rfl rfl ?_
    refine Ew.call0 (ls0 := [some (zr (some (1, 0, 0))), some (zi (nI t)), none, none]) f238_159 rfl (Nat.le_of_ble_eq_true rfl) rfl rfl (Nat.le_of_ble_eq_true rfl) rfl (Nat.le_of_ble_eq_true rfl) rfl rfl ?_
    refine sp_turns (b2 c1) (b3 c1) (b4 c1) ?_
    show Ev (d + 7) c s 238 162 [some (zr (some (1, 0, 0))), some (zi (nI j)), some (zi (nI x)), some (zi (nI i)), some (zi (nI n)), some (zi f), some (zi (nI q)), some (zi (nI 1)), some (zi (nI u)), some (zi (nI t))] [zi (rTurnR ρ t w), zr (some (1, 0, 0))] (OM X 1 0 (zw ρ (rTurnW ρ t w)) l) Q
    refine Ew.putiO f238_162 rfl rfl ?_
    rw [zw_uq _ _ (by decide)]
    refine Ew.ld f238_165 rfl rfl rfl rfl ?_
    refine Ew.ld f238_166 rfl rfl rfl rfl ?_
    refine Ew.op (st' := zi (nI 0) :: _) f238_168 rfl rfl ?_
    refine Ew.call0 (ls0 := [some (zr (some (1, 0, 0))), some (zi (nI t)), some (zi (nI 0))]) f238_169 rfl (Nat.le_of_ble_eq_true rfl) rfl rfl (Nat.le_of_ble_eq_true rfl) rfl (Nat.le_of_ble_eq_true rfl) rfl rfl ?_
    refine Ew.ld f156_0 rfl rfl rfl rfl ?_
    refine Ew.getp (v := some (1, 0, 1)) f156_1 rfl rfl rfl ?_
    refine Ew.op (st' := zi (nI 10) :: _) f156_4 rfl rfl ?_
    refine Ew.op (st' := zi (nI 4) :: _) f156_6 rfl rfl ?_
    refine Ew.ld f156_7 rfl rfl rfl rfl ?_
    refine Ew.muln f156_8 rfl ?_
    refine Ew.addn f156_9 rfl ?_
    refine Ew.ld f156_10 rfl rfl rfl rfl ?_
    refine Ew.addn f156_11 rfl ?_
    refine Ew.ialdnO f156_12 rfl (b5 c1) (Nat.le_of_ble_eq_true rfl) rfl ?_
    refine Ew.ireti f156_13 ?_
    show Ev (d + 7) c s 238 172 [some (zr (some (1, 0, 0))), some (zi (nI j)), some (zi (nI x)), some (zi (nI i)), some (zi (nI n)), some (zi f), some (zi (nI q)), some (zi (nI 1)), some (zi (nI u)), some (zi (nI t))] [zi ((rTurnW ρ t w) (10 + 4 * t))] (OM X 1 0 (zw (zu ρ 0 37 (rTurnR ρ t w)) (rTurnW ρ t w)) l) Q
    refine Ew.op (st' := zi (nI 2) :: _) f238_172 rfl rfl ?_
    refine Ew.icmp f238_173 rfl rfl (fun c2 => ?_) (fun c2 => ?_)
    · refine Ew.op (st' := zi (nI 0) :: _) f238_180 rfl rfl ?_
      refine Ew.sr (ls' := [some (zr (some (1, 0, 0))), some (zi (nI j)), some (zi (nI x)), some (zi (nI i)), some (zi (nI n)), some (zi f), some (zi (nI q)), some (zi (nI 0)), some (zi (nI u)), some (zi (nI t))]) f238_181 rfl rfl (Nat.le_of_ble_eq_true rfl) rfl rfl ?_
      refine Ew.ld f238_183 rfl rfl rfl rfl ?_
      refine Ew.ld f238_185 rfl rfl rfl rfl ?_
      refine Ew.ifc f238_187 rfl rfl (fun _ => ?_) (fun h => absurd (show ((nI 0) : Int32) = 0 by decide) h)
      refine Ew.op (st' := zi (nI 0) :: _) f238_194 rfl rfl ?_
      refine Ew.addn f238_195 rfl ?_
      refine Ew.sr (ls' := [some (zr (some (1, 0, 0))), some (zi (nI j)), some (zi (nI x)), some (zi (nI i)), some (zi (nI n)), some (zi f), some (zi (nI q)), some (zi (nI 0)), some (zi (nI u)), some (zi (nI t))]) f238_196 rfl rfl (Nat.le_of_ble_eq_true rfl) rfl rfl ?_
      refine Ew.iinc (v := nI (u + 1)) (ls' := [some (zr (some (1, 0, 0))), some (zi (nI j)), some (zi (nI x)), some (zi (nI i)), some (zi (nI n)), some (zi f), some (zi (nI q)), some (zi (nI 0)), some (zi (nI (u + 1))), some (zi (nI t))]) f238_198 rfl (nI_1 _) rfl rfl ?_
      refine Ew.goto f238_201 rfl ?_
      exact h1 c1 c2
    · refine Ew.op (st' := zi (nI 1) :: _) f238_176 rfl rfl ?_
      refine Ew.goto f238_177 rfl ?_
      refine Ew.sr (ls' := [some (zr (some (1, 0, 0))), some (zi (nI j)), some (zi (nI x)), some (zi (nI i)), some (zi (nI n)), some (zi f), some (zi (nI q)), some (zi (nI 1)), some (zi (nI u)), some (zi (nI t))]) f238_181 rfl rfl (Nat.le_of_ble_eq_true rfl) rfl rfl ?_
      refine Ew.ld f238_183 rfl rfl rfl rfl ?_
      refine Ew.ld f238_185 rfl rfl rfl rfl ?_
      refine Ew.ifc f238_187 rfl rfl (fun h => absurd h (show ¬ (((nI 1) : Int32) = 0) by decide)) (fun _ => ?_)
      refine Ew.op (st' := zi (nI 1) :: _) f238_190 rfl rfl ?_
      refine Ew.goto f238_191 rfl ?_
      refine Ew.addn f238_195 rfl ?_
      refine Ew.sr (ls' := [some (zr (some (1, 0, 0))), some (zi (nI j)), some (zi (nI x)), some (zi (nI i)), some (zi (nI n)), some (zi f), some (zi (nI (q + 1))), some (zi (nI 1)), some (zi (nI u)), some (zi (nI t))]) f238_196 rfl rfl (Nat.le_of_ble_eq_true rfl) rfl rfl ?_
      refine Ew.iinc (v := nI (u + 1)) (ls' := [some (zr (some (1, 0, 0))), some (zi (nI j)), some (zi (nI x)), some (zi (nI i)), some (zi (nI n)), some (zi f), some (zi (nI (q + 1))), some (zi (nI 1)), some (zi (nI (u + 1))), some (zi (nI t))]) f238_198 rfl (nI_1 _) rfl rfl ?_
      refine Ew.goto f238_201 rfl ?_
      exact h2 c1 c2
  · refine Ew.op (st' := zi (nI 1) :: _) f201_10 rfl rfl ?_
    refine Ew.goto f201_11 rfl ?_
    refine Ew.iretb f201_15 (Or.inr rfl) ?_
    show Ev (d + 7) c s 238 140 [some (zr (some (1, 0, 0))), some (zi (nI j)), some (zi (nI x)), some (zi (nI i)), some (zi (nI n)), some (zi f), some (zi (nI q)), some (zi (nI 1)), some (zi (nI u)), some (zi (nI t))] [zi (nI 1)] (OM X 1 0 (zw ρ w) l) Q
    refine Ew.ifc f238_140 rfl rfl (fun _ => ?_) (fun h => absurd (show ¬ ((nI 1) : Int32) = 0 by decide) h)
    refine Ew.op (st' := zi (nI 0) :: _) f238_147 rfl rfl ?_
    refine Ew.sr (ls' := [some (zr (some (1, 0, 0))), some (zi (nI j)), some (zi (nI x)), some (zi (nI i)), some (zi (nI n)), some (zi f), some (zi (nI q)), some (zi (nI 0)), some (zi (nI u)), some (zi (nI t))]) f238_148 rfl rfl (Nat.le_of_ble_eq_true rfl) rfl rfl ?_
    refine Ew.ld f238_150 rfl rfl rfl rfl ?_
    refine Ew.ifc f238_152 rfl rfl (fun _ => ?_) (fun h => absurd (show ((nI 0) : Int32) = 0 by decide) h)
    refine Ew.ld f238_183 rfl rfl rfl rfl ?_
    refine Ew.ld f238_185 rfl rfl rfl rfl ?_
    refine Ew.ifc f238_187 rfl rfl (fun _ => ?_) (fun h => absurd (show ((nI 0) : Int32) = 0 by decide) h)
    refine Ew.op (st' := zi (nI 0) :: _) f238_194 rfl rfl ?_
    refine Ew.addn f238_195 rfl ?_
    refine Ew.sr (ls' := [some (zr (some (1, 0, 0))), some (zi (nI j)), some (zi (nI x)), some (zi (nI i)), some (zi (nI n)), some (zi f), some (zi (nI q)), some (zi (nI 0)), some (zi (nI u)), some (zi (nI t))]) f238_196 rfl rfl (Nat.le_of_ble_eq_true rfl) rfl rfl ?_
    refine Ew.iinc (v := nI (u + 1)) (ls' := [some (zr (some (1, 0, 0))), some (zi (nI j)), some (zi (nI x)), some (zi (nI i)), some (zi (nI n)), some (zi f), some (zi (nI q)), some (zi (nI 0)), some (zi (nI (u + 1))), some (zi (nI t))]) f238_198 rfl (nI_1 _) rfl rfl ?_
    refine Ew.goto f238_201 rfl ?_
    exact h3 (Int32.not_lt.mp c1)
theorem rp_tried {d c s B : Nat} {a x i n : Int32} {σ : zSt} {X : zM} {ρ : Nat → Nat → Int32} {l : Nat → Nat → Int64} {Q : Option zV → zM → Prop} (hG : zGood B σ) (hR : zRef ρ l σ) (k : ∀ ρ' l', zRef ρ' l' σ → Q (some (zi (aTried σ a x i n))) (OM X 1 0 ρ' l')) : Ev (d + 7) c s 238 0 [some (zr (some (1, 0, 0))), some (zi a), some (zi x), some (zi i), some (zi n), none, none, none, none, none] [] (OM X 1 0 ρ l) Q := by
  have hTx := hG.1.2.1
  rw [← hR.zw]
  unfold aTried at k
  refine g238_0 (fun h hx hn => ?_) (fun h hx hn => ?_) (fun h hx => ?_) (fun h => ?_)
  · obtain ⟨j, hj, rfl⟩ := zrangeL (by decide) h
    have hj : j < 4 := hj
    obtain ⟨y, hy, rfl⟩ := zrangeL (by decide) hx
    have hy : y < 4 := hy
    obtain ⟨m, hm1, hm2, rfl⟩ := (zrangeA n 1 24 (by decide) (by decide)).mp hn
    rw [aIx_some hj (by decide), aIx_some hy (by decide), aIx_some (show m < 25 by omega) (by decide)] at k
    simp only [] at k
    rw [if_neg (by omega)] at k
    have hS : rShe (zw ρ σ.w) l σ.S := by rw [hR.zw]; exact hR.2.2.2.2.1
    refine g238_34 (sp_found hG hS hj (by omega) (g238_43 (fun hf => ?_) (fun hf => ?_)))
    · rw [if_neg (Int32.not_lt.mpr hf)] at k
      obtain ⟨z, p, e1, e2, e3, e4, hm31, e5⟩ := aFnd_ok hf
      subst e3
      obtain ⟨z4, z24⟩ := hG.2.2.2.2 j z hj e1
      rw [e1] at k
      simp only [] at k
      rw [nI_clamp hm31] at k
      have hI : ∀ u, u < m → l 8 (24 * j + p + u) = z.2.2 (p + u) := by
        intro u hu
        have := hR.2.2.2.2.1 j hj
        rw [e1] at this
        rw [show 24 * j + p + u = 24 * j + (p + u) by omega]
        exact this.2.2 _ (by omega)
      generalize aFnd (σ.S j) (nI y) (nI p) m = fd
      refine g238_53 ?_
      -- the turns
      have turns : (∀ u, u < m → lN 0 ≤ z.2.2 (p + u) ∧ z.2.2 (p + u) ≤ lN 3) → ∀ r u q (ρ1 : Nat → Nat → Int32) (w : Nat → Int32) (o9 : Option zV), u + r = m → q ≤ u → rFr ρ ρ1 → rHs ρ1 σ.H → (∀ i, i < 270 → ρ1 26 i = σ.w i) → rRw ρ1 w → (∀ i, (i = 0 ∨ 26 ≤ i) → w i = σ.w i) → (∀ ρ', zRef ρ' l σ → Q (some (zi (nI (q + aTriL (tτ σ.w) (fun u => z.2.2 (p + u)) r u w)))) (OM X 1 0 ρ' l)) → Ev (d + 7) c s 238 105 [some (zr (some (1, 0, 0))), some (zi (nI j)), some (zi (nI y)), some (zi (nI p)), some (zi (nI m)), some (zi fd), some (zi (nI q)), some (zi (nI 1)), some (zi (nI u)), o9] [] (OM X 1 0 (zw ρ1 w) l) Q := by
        intro hall r
        have back : ∀ (ρ1 : Nat → Nat → Int32) (w : Nat → Int32), rFr ρ ρ1 → rHs ρ1 σ.H → (∀ i, i < 270 → ρ1 26 i = σ.w i) → (∀ i, (i = 0 ∨ 26 ≤ i) → w i = σ.w i) → zRef (zw ρ1 (zcp (ρ1 26) w 270)) l σ := by
          intro ρ1 w a1 a2 a3 a4
          have e : zcp (ρ1 26) w 270 = σ.w := by
            funext i
            unfold zcp
            split
            · rename_i hi
              exact a3 i hi
            · rename_i hi
              exact a4 i (by omega)
          rw [e]
          exact hR.step a1 a2 (fun _ _ => rfl)
        induction r with
        | zero =>
          intro u q ρ1 w o9 hu hq hf1 hH h26 hw htx hk
          have hk : ∀ ρ', zRef ρ' l σ → Q (some (zi (nI (q + 0)))) (OM X 1 0 ρ' l) := hk
          exact g238_105 (by omega) (by omega) (fun _ => hk _ (back ρ1 w hf1 hH h26 htx)) (fun g => by omega) (fun g => by omega)
        | succ r ih =>
          intro u q ρ1 w o9 hu hq hf1 hH h26 hw htx hk
          have h2 := rTrs_fr hR.2.2.2.2.2 hf1
          have g1 := rTr_of hTx h2
          have g2 := rAg_τ hTx h2
          obtain ⟨t, ht, et⟩ := zrangeL64 (by decide) (hall u (by omega))
          have ht : t < 4 := ht
          have eN : aTskN (z.2.2 (p + u)) = t := by
            unfold aTskN
            rw [et, zlN_i (by omega)]
            exact nI_clamp (by omega)
          obtain ⟨t1, t2⟩ := rTurn_ag g2 g1 hw ht
          unfold aTriL at hk
          simp only [eN] at hk
          rw [t2] at hk
          refine g238_105 (by omega) (by omega) (fun g => by omega) (fun _ => by omega) (fun _ => ?_)
          rw [hI u (by omega), et, zlN_i (by omega)]
          refine g238_134 (by omega) (fun _ => ht) (fun _ => g1) (fun _ => hw) (fun _ => by omega) (fun s1 s2 => ?_) (fun s1 s2 => ?_) (fun s1 => ?_)
          · rw [if_neg (Int32.not_le.mpr s1), if_pos s2] at hk
            have htx' : ∀ i, (i = 0 ∨ 26 ≤ i) → rTurnW ρ1 t w i = σ.w i := fun i hi => (rTurnW_tx g1 ht hw hi).trans (htx i hi)
            have hb := back (zu ρ1 0 37 (rTurnR ρ1 t w)) (rTurnW ρ1 t w) (zu37 hf1 _) (rHs37 hH _) (fun i hi => by rw [zu_i_ne (by omega)]; exact h26 i hi) htx'
            exact g238_105z (by omega) (by omega) (fun _ => hk _ hb) (fun _ => hk _ hb)
          · rw [if_neg (Int32.not_le.mpr s1), if_neg s2] at hk
            refine ih (u + 1) (q + 1) _ _ _ (by omega) (by omega) (zu37 hf1 _) (rHs37 hH _) (fun i hi => by rw [zu_i_ne (by omega)]; exact h26 i hi) (hw.turn g1 ht) (fun i hi => (rTurnW_tx g1 ht hw hi).trans (htx i hi)) (fun ρ' hρ' => ?_)
            rw [Nat.add_right_comm]
            exact hk ρ' hρ'
          · rw [if_pos s1] at hk
            have hb := back ρ1 w hf1 hH h26 htx
            exact g238_105z (by omega) (by omega) (fun _ => hk _ hb) (fun _ => hk _ hb)
      -- the items
      have items : ∀ r u, u + r = m → (∀ v, v < u → lN 0 ≤ z.2.2 (p + v) ∧ z.2.2 (p + v) ≤ lN 3) → Ev (d + 7) c s 238 56 [some (zr (some (1, 0, 0))), some (zi (nI j)), some (zi (nI y)), some (zi (nI p)), some (zi (nI m)), some (zi fd), some (zi (nI u)), none, none, none] [] (OM X 1 0 (zw ρ σ.w) l) Q := by
        intro r
        induction r with
        | zero =>
          intro u hu hv
          have hall : ∀ u, u < m → lN 0 ≤ z.2.2 (p + u) ∧ z.2.2 (p + u) ≤ lN 3 := fun v hv' => hv v (by omega)
          rw [if_pos hall] at k
          refine g238_56 (by omega) (by omega) (fun _ => g238_92 (fun ρ1 hd => ?_)) (fun g => by omega) (fun g => by omega) (fun g => by omega)
          have h2 := rTrs_fr hR.2.2.2.2.2 hd.1
          refine turns hall m 0 0 ρ1 σ.w _ (by omega) (by omega) hd.1 (rHs_hd hR.2.1 hd) hd.2.2.2 (rRw_of hTx h2 hG.1.2.2.1) (fun _ _ => rfl) (fun ρ' hρ' => ?_)
          rw [Nat.zero_add]
          exact k ρ' l hρ'
        | succ r ih =>
          intro u hu hv
          refine g238_56 (by omega) (by omega) (fun g => by omega) (fun _ => by omega) (fun _ g => ?_) (fun _ g => ?_)
          · rw [hI u (by omega)] at g
            refine ih (u + 1) (by omega) (fun v hv' => ?_)
            by_cases e : v = u
            · subst e; exact g
            · exact hv v (by omega)
          · rw [hI u (by omega)] at g
            rw [if_neg (fun hall => g (hall u (by omega)))] at k
            rw [hR.zw]
            exact k _ _ hR
      exact items m 0 (by omega) (fun v hv => absurd hv (Nat.not_lt_zero v))
    · rw [if_pos hf] at k
      rw [hR.zw]
      exact k _ _ hR
  · obtain ⟨j, hj, rfl⟩ := zrangeL (by decide) h
    obtain ⟨y, hy, rfl⟩ := zrangeL (by decide) hx
    rw [aIx_some (N := 4) hj (by decide), aIx_some (N := 4) hy (by decide)] at k
    rw [hR.zw]
    rcases e : aIx n 25 with _ | m
    · rw [e] at k
      exact k _ _ hR
    · rw [e] at k
      simp only [] at k
      obtain ⟨en, hm⟩ := aIx_inv e
      rw [if_pos (by
        by_cases h0 : m = 0
        · exact h0
        · exact absurd ((zrangeA n 1 24 (by decide) (by decide)).mpr ⟨m, by omega, by omega, en⟩) hn)] at k
      exact k _ _ hR
  · obtain ⟨j, hj, rfl⟩ := zrangeL (by decide) h
    rw [aIx_some (N := 4) hj (by decide), zrangeN (m := 3) (by decide) hx] at k
    rw [hR.zw]
    exact k _ _ hR
  · rw [zrangeN (m := 3) (by decide) h] at k
    rw [hR.zw]
    exact k _ _ hR
