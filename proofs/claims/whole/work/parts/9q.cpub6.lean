/-! the class: tried -/
theorem g135_0i {d c s : Nat} {t : Nat} {a x y n : Int32} {I : zI} {L : zL} {P : zP} {S : zS} {Q : Option zV → zM → Prop}
    (h1 : (aIx a 4 = none) → Q (some (zi ((-1)))) (I, L, zpj P, zsj S, 237 + t))
    (h2 : (¬ (aIx a 4 = none)) → (aIx x 4 = none) → Q (some (zi ((-1)))) (I, L, zpj P, zsj S, 237 + t))
    (h3 : (¬ (aIx a 4 = none)) → (¬ (aIx x 4 = none)) → (n < (nI 1)) → Q (some (zi ((-1)))) (I, L, zpj P, zsj S, 237 + t))
    (h4 : (¬ (aIx a 4 = none)) → (¬ (aIx x 4 = none)) → ((nI 1) ≤ n) → (n ≤ (nI 24)) → Ev (d + 1) c s 135 29 [some (zr (some (0, 0, 0))), some (zi a), some (zi x), some (zi y), some (zi n), none] [] (I, L, zpj P, zsj S, 237 + t) Q)
    (h5 : (¬ (aIx a 4 = none)) → (¬ (aIx x 4 = none)) → ((nI 1) ≤ n) → ((nI 24) < n) → Q (some (zi ((-1)))) (I, L, zpj P, zsj S, 237 + t)) : Ev (d + 1) c s 135 0 [some (zr (some (0, 0, 0))), some (zi a), some (zi x), some (zi y), some (zi n), none] [] (I, L, zpj P, zsj S, 237 + t) Q := by
  refine Ew.ld f135_0 rfl rfl rfl rfl ?_
  refine Ew.call0 (ls0 := [some (zi a)]) f135_1 rfl (Nat.le_of_ble_eq_true rfl) rfl rfl (Nat.le_of_ble_eq_true rfl) trivial (Nat.le_of_ble_eq_true rfl) rfl rfl ?_
  refine sp_noSheet (fun c1 => ?_) (fun c1 => ?_)
  · refine Ew.ifc f135_4 rfl rfl (fun _ => ?_) (fun h => absurd (show ¬ ((nI 1) : Int32) = 0 by decide) h)
    refine Ew.op (st' := zi ((-1)) :: _) f135_27 rfl rfl ?_
    refine Ew.ireti f135_28 ?_
    exact h1 c1
  · refine Ew.ifc f135_4 rfl rfl (fun h => absurd h (show ¬ (¬ ((nI 0) : Int32) = 0) by decide)) (fun _ => ?_)
    refine Ew.ld f135_7 rfl rfl rfl rfl ?_
    refine Ew.call0 (ls0 := [some (zi x)]) f135_8 rfl (Nat.le_of_ble_eq_true rfl) rfl rfl (Nat.le_of_ble_eq_true rfl) trivial (Nat.le_of_ble_eq_true rfl) rfl rfl ?_
    refine sp_noLane (fun c2 => ?_) (fun c2 => ?_)
    · refine Ew.ifc f135_11 rfl rfl (fun _ => ?_) (fun h => absurd (show ¬ ((nI 1) : Int32) = 0 by decide) h)
      refine Ew.op (st' := zi ((-1)) :: _) f135_27 rfl rfl ?_
      refine Ew.ireti f135_28 ?_
      exact h2 c1 c2
    · refine Ew.ifc f135_11 rfl rfl (fun h => absurd h (show ¬ (¬ ((nI 0) : Int32) = 0) by decide)) (fun _ => ?_)
      refine Ew.ld f135_14 rfl rfl rfl rfl ?_
      refine Ew.op (st' := zi (nI 1) :: _) f135_16 rfl rfl ?_
      refine Ew.icmp f135_17 rfl rfl (fun c3 => ?_) (fun c3 => ?_)
      · refine Ew.op (st' := zi ((-1)) :: _) f135_27 rfl rfl ?_
        refine Ew.ireti f135_28 ?_
        exact h3 c1 c2 c3
      · refine Ew.ld f135_20 rfl rfl rfl rfl ?_
        refine Ew.op (st' := zi (nI 24) :: _) f135_22 rfl rfl ?_
        refine Ew.icmp f135_24 rfl rfl (fun c4 => ?_) (fun c4 => ?_)
        · exact h4 c1 c2 (Int32.not_lt.mp c3) c4
        · refine Ew.op (st' := zi ((-1)) :: _) f135_27 rfl rfl ?_
          refine Ew.ireti f135_28 ?_
          exact h5 c1 c2 (Int32.not_lt.mp c3) (Int32.not_le.mp c4)
theorem g135_29 {d c s : Nat} {t j w n : Nat} {y : Int32} {I : zI} {L : zL} {P : zP} {S : zS} {Q : Option zV → zM → Prop} (hj : j < 4) (hp : zpj P 0 0 17 j = some (5, j, 0)) 
    (b1 : j < 4)
    (h1 : Ev d 0 0 44 0 [some (zr (some (5, j, 0))), some (zi (nI w)), some (zi y), some (zi (nI n))] [] (I, L, zpj P, zsj S, 237 + t) (fun r M' => Ev (d + 1) c s 135 42 [some (zr (some (0, 0, 0))), some (zi (nI j)), some (zi (nI w)), some (zi y), some (zi (nI n)), none] (zpush r []) M' Q)) : Ev (d + 1) c s 135 29 [some (zr (some (0, 0, 0))), some (zi (nI j)), some (zi (nI w)), some (zi y), some (zi (nI n)), none] [] (I, L, zpj P, zsj S, 237 + t) Q := by
  refine Ew.ld f135_29 rfl rfl rfl rfl ?_
  refine Ew.getp (v := some (0, 0, 17)) f135_30 rfl rfl rfl ?_
  refine Ew.ld f135_33 rfl rfl rfl rfl ?_
  refine Ew.aaldn (v := some (5, j, 0)) f135_34 (Nat.le_of_ble_eq_true rfl) b1 (Nat.le_of_ble_eq_true rfl) rfl (show zpj P 0 0 17 j = _ from hp) ?_
  refine Ew.ld f135_35 rfl rfl rfl rfl ?_
  refine Ew.ld f135_36 rfl rfl rfl rfl ?_
  refine Ew.ld f135_37 rfl rfl rfl rfl ?_
  refine Ew.call0 (ls0 := [some (zr (some (5, j, 0))), some (zi (nI w)), some (zi y), some (zi (nI n))]) f135_39 rfl (Nat.le_of_ble_eq_true rfl) rfl rfl (Nat.le_of_ble_eq_true rfl) (by show (zsj S 5 j 0).1 = _; rw [zsj5 _ hj]; rfl) (Nat.le_of_ble_eq_true rfl) rfl rfl ?_
  exact h1
theorem g135_42 {d c s : Nat} {t j w n : Nat} {y u : Int32} {I : zI} {L : zL} {P : zP} {S : zS} {Q : Option zV → zM → Prop}
    (h1 : (u = 0) → Ev d c s 135 52 [some (zr (some (0, 0, 0))), some (zi (nI j)), some (zi (nI w)), some (zi y), some (zi (nI n)), some (zi u)] [] (I, L, zpj P, zsj S, 237 + t) Q)
    (h2 : (¬ u = 0) → Q (some (zi u)) (I, L, zpj P, zsj S, 237 + t)) : Ev d c s 135 42 [some (zr (some (0, 0, 0))), some (zi (nI j)), some (zi (nI w)), some (zi y), some (zi (nI n)), none] [zi u] (I, L, zpj P, zsj S, 237 + t) Q := by
  refine Ew.sr (ls' := [some (zr (some (0, 0, 0))), some (zi (nI j)), some (zi (nI w)), some (zi y), some (zi (nI n)), some (zi u)]) f135_42 rfl rfl (Nat.le_of_ble_eq_true rfl) rfl rfl ?_
  refine Ew.ld f135_44 rfl rfl rfl rfl ?_
  refine Ew.ifc f135_46 rfl rfl (fun c1 => ?_) (fun c1 => ?_)
  · exact h1 c1
  · refine Ew.ld f135_49 rfl rfl rfl rfl ?_
    refine Ew.ireti f135_51 ?_
    exact h2 c1
theorem g135_52 {d c s : Nat} {t j w m n : Nat} {u : Int32} {I : zI} {L : zL} {P : zP} {S : zS} {Q : Option zV → zM → Prop} (hj : j < 4) (hp : zpj P 0 0 17 j = some (5, j, 0)) 
    (b1 : j < 4)
    (h1 : Ev d 0 0 50 0 [some (zr (some (5, j, 0))), some (zi (nI m)), some (zi (nI n)), none] [] (I, L, zpj P, zsj S, 237 + t) (fun r M' => Ev (d + 1) c s 135 64 [some (zr (some (0, 0, 0))), some (zi (nI j)), some (zi (nI w)), some (zi (nI m)), some (zi (nI n)), some (zi u)] (zpush r []) M' Q)) : Ev (d + 1) c s 135 52 [some (zr (some (0, 0, 0))), some (zi (nI j)), some (zi (nI w)), some (zi (nI m)), some (zi (nI n)), some (zi u)] [] (I, L, zpj P, zsj S, 237 + t) Q := by
  refine Ew.ld f135_52 rfl rfl rfl rfl ?_
  refine Ew.getp (v := some (0, 0, 17)) f135_53 rfl rfl rfl ?_
  refine Ew.ld f135_56 rfl rfl rfl rfl ?_
  refine Ew.aaldn (v := some (5, j, 0)) f135_57 (Nat.le_of_ble_eq_true rfl) b1 (Nat.le_of_ble_eq_true rfl) rfl (show zpj P 0 0 17 j = _ from hp) ?_
  refine Ew.ld f135_58 rfl rfl rfl rfl ?_
  refine Ew.ld f135_59 rfl rfl rfl rfl ?_
  refine Ew.call0 (ls0 := [some (zr (some (5, j, 0))), some (zi (nI m)), some (zi (nI n)), none]) f135_61 rfl (Nat.le_of_ble_eq_true rfl) rfl rfl (Nat.le_of_ble_eq_true rfl) (by show (zsj S 5 j 0).1 = _; rw [zsj5 _ hj]; rfl) (Nat.le_of_ble_eq_true rfl) rfl rfl ?_
  exact h1
theorem g135_64y {d c s : Nat} {t j w m n : Nat} {u : Int32} {I : zI} {L : zL} {P : zP} {S : zS} {Q : Option zV → zM → Prop} (hj : j < 4) (hp : zpj P 0 0 17 j = some (5, j, 0)) 
    (b1 : j < 4)
    (h1 : Ev d 0 0 149 0 [some (zr (some (0, 0, 0))), some (zr (some (5, j, 0))), some (zi (nI m)), some (zi (nI n)), none, none] [] (I, L, zpj P, zsj S, 237 + t) (fun r M' => Ev (d + 1) c s 135 80 [some (zr (some (0, 0, 0))), some (zi (nI j)), some (zi (nI w)), some (zi (nI m)), some (zi (nI n)), some (zi u)] (zpush r []) M' Q)) : Ev (d + 1) c s 135 64 [some (zr (some (0, 0, 0))), some (zi (nI j)), some (zi (nI w)), some (zi (nI m)), some (zi (nI n)), some (zi u)] [zi (nI 1)] (I, L, zpj P, zsj S, 237 + t) Q := by
  refine Ew.ifc f135_64 rfl rfl (fun h => absurd h (show ¬ (((nI 1) : Int32) = 0) by decide)) (fun _ => ?_)
  refine Ew.ld f135_67 rfl rfl rfl rfl ?_
  refine Ew.ld f135_68 rfl rfl rfl rfl ?_
  refine Ew.getp (v := some (0, 0, 17)) f135_69 rfl rfl rfl ?_
  refine Ew.ld f135_72 rfl rfl rfl rfl ?_
  refine Ew.aaldn (v := some (5, j, 0)) f135_73 (Nat.le_of_ble_eq_true rfl) b1 (Nat.le_of_ble_eq_true rfl) rfl (show zpj P 0 0 17 j = _ from hp) ?_
  refine Ew.ld f135_74 rfl rfl rfl rfl ?_
  refine Ew.ld f135_75 rfl rfl rfl rfl ?_
  refine Ew.call0 (ls0 := [some (zr (some (0, 0, 0))), some (zr (some (5, j, 0))), some (zi (nI m)), some (zi (nI n)), none, none]) f135_77 rfl (Nat.le_of_ble_eq_true rfl) rfl rfl (Nat.le_of_ble_eq_true rfl) rfl (Nat.le_of_ble_eq_true rfl) rfl rfl ?_
  exact h1
theorem g135_64n {d c s : Nat} {t j w m n : Nat} {u : Int32} {I : zI} {L : zL} {P : zP} {S : zS} {Q : Option zV → zM → Prop}
    (h1 : Q (some (zi ((-2)))) (I, L, zpj P, zsj S, 237 + t)) : Ev d c s 135 64 [some (zr (some (0, 0, 0))), some (zi (nI j)), some (zi (nI w)), some (zi (nI m)), some (zi (nI n)), some (zi u)] [zi (nI 0)] (I, L, zpj P, zsj S, 237 + t) Q := by
  refine Ew.ifc f135_64 rfl rfl (fun _ => ?_) (fun h => absurd (show ((nI 0) : Int32) = 0 by decide) h)
  refine Ew.op (st' := zi ((-2)) :: _) f135_83 rfl rfl ?_
  refine Ew.ireti f135_85 ?_
  exact h1
theorem g135_80 {d c s : Nat} {t j w m n : Nat} {u z : Int32} {I : zI} {L : zL} {P : zP} {S : zS} {Q : Option zV → zM → Prop}
    (h1 : Q (some (zi z)) (I, L, zpj P, zsj S, 237 + t)) : Ev d c s 135 80 [some (zr (some (0, 0, 0))), some (zi (nI j)), some (zi (nI w)), some (zi (nI m)), some (zi (nI n)), some (zi u)] [zi z] (I, L, zpj P, zsj S, 237 + t) Q := by
  refine Ew.goto f135_80 rfl ?_
  refine Ew.ireti f135_85 ?_
  exact h1
theorem g149_0 {d c s : Nat} {t j m n : Nat} {I : zI} {L : zL} {P : zP} {S : zS} {Q : Option zV → zM → Prop} (hj : j < 4) 
    (h1 : Ev d 0 0 52 0 [some (zr (some (2, 1, 0))), some (zr (some (2, 0, 0))), none] [] (I, L, zpj P, zsj S, 237 + t) (fun r M' => Ev (d + 1) c s 149 11 [some (zr (some (0, 0, 0))), some (zr (some (5, j, 0))), some (zi (nI m)), some (zi (nI n)), none, none] (zpush r []) M' Q)) : Ev (d + 1) c s 149 0 [some (zr (some (0, 0, 0))), some (zr (some (5, j, 0))), some (zi (nI m)), some (zi (nI n)), none, none] [] (I, L, zpj P, zsj S, 237 + t) Q := by
  refine Ew.ld f149_0 rfl rfl rfl rfl ?_
  refine Ew.getp (v := some (2, 1, 0)) f149_1 rfl rfl rfl ?_
  refine Ew.ld f149_4 rfl rfl rfl rfl ?_
  refine Ew.getp (v := some (2, 0, 0)) f149_5 rfl rfl rfl ?_
  refine Ew.call0 (ls0 := [some (zr (some (2, 1, 0))), some (zr (some (2, 0, 0))), none]) f149_8 rfl (Nat.le_of_ble_eq_true rfl) rfl rfl (Nat.le_of_ble_eq_true rfl) rfl (Nat.le_of_ble_eq_true rfl) rfl rfl ?_
  exact h1
theorem g149_11 {d c s : Nat} {t j m n : Nat} {I : zI} {L : zL} {P : zP} {S : zS} {Q : Option zV → zM → Prop} (hj : j < 4) 
    (h1 : Ev d c s 149 14 [some (zr (some (0, 0, 0))), some (zr (some (5, j, 0))), some (zi (nI m)), some (zi (nI n)), some (zi (nI 0)), none] [] (I, L, zpj P, zsj S, 237 + t) Q) : Ev d c s 149 11 [some (zr (some (0, 0, 0))), some (zr (some (5, j, 0))), some (zi (nI m)), some (zi (nI n)), none, none] [] (I, L, zpj P, zsj S, 237 + t) Q := by
  refine Ew.op (st' := zi (nI 0) :: _) f149_11 rfl rfl ?_
  refine Ew.sr (ls' := [some (zr (some (0, 0, 0))), some (zr (some (5, j, 0))), some (zi (nI m)), some (zi (nI n)), some (zi (nI 0)), none]) f149_12 rfl rfl (Nat.le_of_ble_eq_true rfl) rfl rfl ?_
  exact h1
theorem g149_14 {d c s : Nat} {t j m n k : Nat} {o5 : Option zV} {I : zI} {L : zL} {P : zP} {S : zS} {Q : Option zV → zM → Prop} (hj : j < 4)  (nb_k : k < 5000) (nb_n : n < 5000)
    (h1 : (n ≤ k) → Q (some (zi (nI k))) (I, L, zpj P, zsj S, 237 + t))
    (h2 : (k < n) → Ev d 0 0 49 0 [some (zr (some (5, j, 0))), some (zi (nI (m + k)))] [] (I, L, zpj P, zsj S, 237 + t) (fun r M' => Ev (d + 1) c s 149 28 [some (zr (some (0, 0, 0))), some (zr (some (5, j, 0))), some (zi (nI m)), some (zi (nI n)), some (zi (nI k)), o5] (zpush r []) M' Q)) : Ev (d + 1) c s 149 14 [some (zr (some (0, 0, 0))), some (zr (some (5, j, 0))), some (zi (nI m)), some (zi (nI n)), some (zi (nI k)), o5] [] (I, L, zpj P, zsj S, 237 + t) Q := by
  refine Ew.ld f149_14 rfl rfl rfl rfl ?_
  refine Ew.ld f149_16 rfl rfl rfl rfl ?_
  refine Ew.icmp f149_17 rfl rfl (fun c1 => ?_) (fun c1 => ?_)
  · refine Ew.ld f149_84 rfl rfl rfl rfl ?_
    refine Ew.ireti f149_86 ?_
    exact h1 ((zle_iff nb_n nb_k).mp c1)
  · refine Ew.ld f149_20 rfl rfl rfl rfl ?_
    refine Ew.ld f149_21 rfl rfl rfl rfl ?_
    refine Ew.ld f149_22 rfl rfl rfl rfl ?_
    refine Ew.addn f149_24 rfl ?_
    refine Ew.call0 (ls0 := [some (zr (some (5, j, 0))), some (zi (nI (m + k)))]) f149_25 rfl (Nat.le_of_ble_eq_true rfl) rfl rfl (Nat.le_of_ble_eq_true rfl) (by show (zsj S 5 j 0).1 = _; rw [zsj5 _ hj]; rfl) (Nat.le_of_ble_eq_true rfl) rfl rfl ?_
    exact h2 (Nat.not_le.mp fun e => c1 ((zle_iff nb_n nb_k).mpr e))
theorem g149_28 {d c s : Nat} {t j m n k u : Nat} {o5 : Option zV} {I : zI} {L : zL} {P : zP} {S : zS} {Q : Option zV → zM → Prop} (hj : j < 4) 
    (h1 : (aIx (nI u) 4 = none) → Q (some (zi (nI k))) (I, L, zpj P, zsj S, 237 + t))
    (h2 : (¬ (aIx (nI u) 4 = none)) → Ev d 0 0 58 0 [some (zr (some (2, 1, 0))), some (zi (nI u))] [] (I, L, zpj P, zsj S, 237 + t) (fun r M' => Ev (d + 1) c s 149 47 [some (zr (some (0, 0, 0))), some (zr (some (5, j, 0))), some (zi (nI m)), some (zi (nI n)), some (zi (nI k)), some (zi (nI u))] (zpush r []) M' Q)) : Ev (d + 1) c s 149 28 [some (zr (some (0, 0, 0))), some (zr (some (5, j, 0))), some (zi (nI m)), some (zi (nI n)), some (zi (nI k)), o5] [zi (nI u)] (I, L, zpj P, zsj S, 237 + t) Q := by
  refine Ew.sr (ls' := [some (zr (some (0, 0, 0))), some (zr (some (5, j, 0))), some (zi (nI m)), some (zi (nI n)), some (zi (nI k)), some (zi (nI u))]) f149_28 rfl rfl (Nat.le_of_ble_eq_true rfl) rfl rfl ?_
  refine Ew.ld f149_30 rfl rfl rfl rfl ?_
  refine Ew.call0 (ls0 := [some (zi (nI u))]) f149_32 rfl (Nat.le_of_ble_eq_true rfl) rfl rfl (Nat.le_of_ble_eq_true rfl) trivial (Nat.le_of_ble_eq_true rfl) rfl rfl ?_
  refine sp_noTask (fun c1 => ?_) (fun c1 => ?_)
  · refine Ew.ifc f149_35 rfl rfl (fun _ => ?_) (fun h => absurd (show ¬ ((nI 1) : Int32) = 0 by decide) h)
    refine Ew.ld f149_50 rfl rfl rfl rfl ?_
    refine Ew.ireti f149_52 ?_
    exact h1 c1
  · refine Ew.ifc f149_35 rfl rfl (fun h => absurd h (show ¬ (¬ ((nI 0) : Int32) = 0) by decide)) (fun _ => ?_)
    refine Ew.ld f149_38 rfl rfl rfl rfl ?_
    refine Ew.getp (v := some (2, 1, 0)) f149_39 rfl rfl rfl ?_
    refine Ew.ld f149_42 rfl rfl rfl rfl ?_
    refine Ew.call0 (ls0 := [some (zr (some (2, 1, 0))), some (zi (nI u))]) f149_44 rfl (Nat.le_of_ble_eq_true rfl) rfl rfl (Nat.le_of_ble_eq_true rfl) rfl (Nat.le_of_ble_eq_true rfl) rfl rfl ?_
    exact h2 c1
theorem g149_47y {d c s : Nat} {t j m n k u : Nat} {I : zI} {L : zL} {P : zP} {S : zS} {Q : Option zV → zM → Prop} (hj : j < 4) 
    (h1 : Q (some (zi (nI k))) (I, L, zpj P, zsj S, 237 + t)) : Ev d c s 149 47 [some (zr (some (0, 0, 0))), some (zr (some (5, j, 0))), some (zi (nI m)), some (zi (nI n)), some (zi (nI k)), some (zi (nI u))] [zi (nI 1)] (I, L, zpj P, zsj S, 237 + t) Q := by
  refine Ew.ifc f149_47 rfl rfl (fun h => absurd h (show ¬ (((nI 1) : Int32) = 0) by decide)) (fun _ => ?_)
  refine Ew.ld f149_50 rfl rfl rfl rfl ?_
  refine Ew.ireti f149_52 ?_
  exact h1
theorem g149_47n {d c s : Nat} {t j m n k u : Nat} {I : zI} {L : zL} {P : zP} {S : zS} {Q : Option zV → zM → Prop} (hj : j < 4) 
    (h1 : Ev d 0 0 80 0 [some (zr (some (2, 1, 0))), some (zi (nI u)), none] [] (I, L, zpj P, zsj S, 237 + t) (fun r M' => Ev (d + 1) c s 149 62 [some (zr (some (0, 0, 0))), some (zr (some (5, j, 0))), some (zi (nI m)), some (zi (nI n)), some (zi (nI k)), some (zi (nI u))] (zpush r []) M' Q)) : Ev (d + 1) c s 149 47 [some (zr (some (0, 0, 0))), some (zr (some (5, j, 0))), some (zi (nI m)), some (zi (nI n)), some (zi (nI k)), some (zi (nI u))] [zi (nI 0)] (I, L, zpj P, zsj S, 237 + t) Q := by
  refine Ew.ifc f149_47 rfl rfl (fun _ => ?_) (fun h => absurd (show ((nI 0) : Int32) = 0 by decide) h)
  refine Ew.ld f149_53 rfl rfl rfl rfl ?_
  refine Ew.getp (v := some (2, 1, 0)) f149_54 rfl rfl rfl ?_
  refine Ew.ld f149_57 rfl rfl rfl rfl ?_
  refine Ew.call0 (ls0 := [some (zr (some (2, 1, 0))), some (zi (nI u)), none]) f149_59 rfl (Nat.le_of_ble_eq_true rfl) rfl rfl (Nat.le_of_ble_eq_true rfl) rfl (Nat.le_of_ble_eq_true rfl) rfl rfl ?_
  exact h1
theorem g149_62 {d c s : Nat} {t j m n k u : Nat} {x : Int32} {I : zI} {L : zL} {P : zP} {S : zS} {Q : Option zV → zM → Prop} (hj : j < 4) 
    (h1 : Ev d 0 0 59 0 [some (zr (some (2, 1, 0))), some (zi (nI u))] [] (I, L, zpj P, zsj S, 237 + t) (fun r M' => Ev (d + 1) c s 149 72 [some (zr (some (0, 0, 0))), some (zr (some (5, j, 0))), some (zi (nI m)), some (zi (nI n)), some (zi (nI k)), some (zi (nI u))] (zpush r []) M' Q)) : Ev (d + 1) c s 149 62 [some (zr (some (0, 0, 0))), some (zr (some (5, j, 0))), some (zi (nI m)), some (zi (nI n)), some (zi (nI k)), some (zi (nI u))] [zi x] (I, L, zpj P, zsj S, 237 + t) Q := by
  refine Ew.op f149_62 rfl rfl ?_
  refine Ew.ld f149_63 rfl rfl rfl rfl ?_
  refine Ew.getp (v := some (2, 1, 0)) f149_64 rfl rfl rfl ?_
  refine Ew.ld f149_67 rfl rfl rfl rfl ?_
  refine Ew.call0 (ls0 := [some (zr (some (2, 1, 0))), some (zi (nI u))]) f149_69 rfl (Nat.le_of_ble_eq_true rfl) rfl rfl (Nat.le_of_ble_eq_true rfl) rfl (Nat.le_of_ble_eq_true rfl) rfl rfl ?_
  exact h1
theorem g149_72y {d c s : Nat} {t j m n k u : Nat} {I : zI} {L : zL} {P : zP} {S : zS} {Q : Option zV → zM → Prop} (hj : j < 4) 
    (h1 : Q (some (zi (nI k))) (I, L, zpj P, zsj S, 237 + t)) : Ev d c s 149 72 [some (zr (some (0, 0, 0))), some (zr (some (5, j, 0))), some (zi (nI m)), some (zi (nI n)), some (zi (nI k)), some (zi (nI u))] [zi (nI 1)] (I, L, zpj P, zsj S, 237 + t) Q := by
  refine Ew.ifc f149_72 rfl rfl (fun h => absurd h (show ¬ (((nI 1) : Int32) = 0) by decide)) (fun _ => ?_)
  refine Ew.ld f149_75 rfl rfl rfl rfl ?_
  refine Ew.ireti f149_77 ?_
  exact h1
theorem g149_72n {d c s : Nat} {t j m n k u : Nat} {I : zI} {L : zL} {P : zP} {S : zS} {Q : Option zV → zM → Prop} (hj : j < 4) 
    (h1 : Ev d c s 149 14 [some (zr (some (0, 0, 0))), some (zr (some (5, j, 0))), some (zi (nI m)), some (zi (nI n)), some (zi (nI (k + 1))), some (zi (nI u))] [] (I, L, zpj P, zsj S, 237 + t) Q) : Ev d c s 149 72 [some (zr (some (0, 0, 0))), some (zr (some (5, j, 0))), some (zi (nI m)), some (zi (nI n)), some (zi (nI k)), some (zi (nI u))] [zi (nI 0)] (I, L, zpj P, zsj S, 237 + t) Q := by
  refine Ew.ifc f149_72 rfl rfl (fun _ => ?_) (fun h => absurd (show ((nI 0) : Int32) = 0 by decide) h)
  refine Ew.iinc (v := nI (k + 1)) (ls' := [some (zr (some (0, 0, 0))), some (zr (some (5, j, 0))), some (zi (nI m)), some (zi (nI n)), some (zi (nI (k + 1))), some (zi (nI u))]) f149_78 rfl (nI_1 _) rfl rfl ?_
  refine Ew.goto f149_81 rfl ?_
  exact h1
section
variable {d c s t B j : Nat} {a x y z : Int32} {σ : zSt} {I I' : zI} {L : zL} {P P' : zP} {S : zS} {Q : Option zV → zM → Prop}
/-- the trial table is nobody's -/
theorem zCls.t1 (h : zCls I L P S t σ) (hI : ∀ r j q i, ¬ (r = 2 ∧ j = 1) → I' r j q i = I r j q i) (hP : ∀ r j q i, ¬ (r = 2 ∧ j = 1) → P' r j q i = P r j q i) : zCls I' L P' S t σ := by
  have ho : cOld (t + 9) I P S I' P' S := fun n _ => ⟨funext fun i => hI 3 n 0 i (by omega), funext fun i => hP 3 n 0 i (by omega), rfl⟩
  exact ⟨h.1.fr (Nat.le_refl _) (fun q i => hI 2 0 q i (by omega)) (fun q i => hP 2 0 q i (by omega)) ho, h.2.fr (Nat.le_refl _) (fun j q i g => ⟨hI 2 j q i (by omega), hP 2 j q i (by omega)⟩) (fun j q i => ⟨hI 4 j q i (by omega), hP 4 j q i (by omega)⟩) (fun j q i => ⟨hI 5 j q i (by omega), rfl⟩) ⟨hI 0 0 0 8 (by omega), hI 0 0 1 1 (by omega), fun i => hI 0 0 2 i (by omega)⟩ ho⟩
theorem cTb.row1 {b : Nat} {w w' : Nat → Int32} {ρ' : Nat → Nat → Int32} (h : cTb I P S b j w) (hx : ∀ i, (i = 0 ∨ 26 ≤ i) → w' i = w i) (hT : cTI (tτ w) ρ' w') : cTb (so I 2 j ρ') P S b j w' := by
  refine ⟨by rw [so_s, tτ_eq hx]; exact hT, fun u hu => ?_⟩
  obtain ⟨⟨m, p1, c1⟩, n, p2, c2⟩ := h.2 u hu
  rw [tL_eq (fun i g => hx i (Or.inr g)) u, tTr_eq hx u]
  exact ⟨⟨m, p1, c1.fr (Nat.le_refl _) (cOld_so (by decide))⟩, n, p2, c2.fr (Nat.le_refl _) (cOld_so (by decide))⟩
theorem gm_TryRow {m n : Nat} {y1 : Nat × Nat × (Nat → Int64)} (hG : zGood B σ) (hB : B < 2 ^ 29) (hC : zCls I L P S t σ) (hj : j < 4) (eS : σ.S j = some y1) (hm : m + n ≤ y1.2.1) (ht : ∀ u, u < n → lN 0 ≤ y1.2.2 (m + u) ∧ y1.2.2 (m + u) ≤ lN 3) (k : cK I L S B σ (zi (nI (aTriL (tτ σ.w) (fun u => y1.2.2 (m + u)) n 0 σ.w))) Q) : Ev (d + 5) c s 149 0 [some (zr (some (0, 0, 0))), some (zr (some (5, j, 0))), some (zi (nI m)), some (zi (nI n)), none, none] [] (I, L, zpj P, zsj S, 237 + t) Q := by
  obtain ⟨hx, ti, huq, hO, hst, _⟩ := zG_f hG
  have hT := hO.tr
  have hb := hG.2.2.2.2 j y1 hj eS
  refine g149_0 (d := d + 4) hj (sp_cBec (by decide) (by decide) (by decide) hC.1.po (fun I1 P1 hBe => g149_11 hj ?_))
  have f1I : ∀ r j q i, ¬ (r = 2 ∧ j = 1) → I1 r j q i = I r j q i := fun r j q i g => hBe.1.1 r j q i g
  have hC1 : zCls I1 L P1 S t σ := hC.t1 f1I (fun r j q i g => hBe.1.2 r j q i g)
  have hb1 : cTb I1 P1 S (t + 9) 1 σ.w := cTb.be hBe hC.1
  have fm1 : zFm I L S I1 L S := fun r hr => ⟨funext fun j => funext fun q => funext fun i => f1I r j q i (by omega), rfl, rfl⟩
  have lp : ∀ r, r ≤ n → ∀ I2 w o5, zCls I2 L P1 S t σ → zFm I L S I2 L S → cTb I2 P1 S (t + 9) 1 w → (∀ i, (i = 0 ∨ 26 ≤ i) → w i = σ.w i) → tI (B + (n - r)) (tτ σ.w) w → cUq (tτ σ.w) w → aTriL (tτ σ.w) (fun u => y1.2.2 (m + u)) n 0 σ.w = n - r + aTriL (tτ σ.w) (fun u => y1.2.2 (m + u)) r (n - r) w → Ev (d + 5) c s 149 14 [some (zr (some (0, 0, 0))), some (zr (some (5, j, 0))), some (zi (nI m)), some (zi (nI n)), some (zi (nI (n - r))), o5] [] (I2, L, zpj P1, zsj S, 237 + t) Q := by
    have fin : ∀ r I2, zCls I2 L P1 S t σ → zFm I L S I2 L S → aTriL (tτ σ.w) (fun u => y1.2.2 (m + u)) n 0 σ.w = r → Q (some (zi (nI r))) (I2, L, zpj P1, zsj S, 237 + t) := by
      intro r I2 h1 h2 e
      rw [e] at k
      exact k _ _ _ _ _ h1 (hG.mono (by omega)) h2
    intro r
    induction r with
    | zero =>
      intro _ I2 w o5 h1 h2 h3 h4 h5 h6 h7
      exact g149_14 (d := d + 4) hj (by omega) (by omega) (fun _ => fin _ I2 h1 h2 h7) (fun g => by omega)
    | succ r ih =>
      intro hr I2 w o5 h1 h2 h3 h4 h5 h6 h7
      have eτ : tτ w = tτ σ.w := tτ_eq h4
      have hs1 := h1.s1 hj
      rw [eS] at hs1
      obtain ⟨p1, p2, p3⟩ := hs1
      have tt := ht (n - (r + 1)) (by omega)
      obtain ⟨u, hu, ev, eu⟩ := tsk4 tt
      have eN : aTskN (y1.2.2 (m + (n - (r + 1)))) = u := by
        unfold aTskN
        rw [eu]; exact nI_clamp (by omega)
      have et : aTriL (tτ σ.w) (fun u => y1.2.2 (m + u)) (r + 1) (n - (r + 1)) w = if nI 3 ≤ w (10 + 4 * u) then 0 else if rTurnW (tτ σ.w) u w (10 + 4 * u) = nI 2 then 0 else aTriL (tτ σ.w) (fun u => y1.2.2 (m + u)) r (n - (r + 1) + 1) (rTurnW (tτ σ.w) u w) + 1 := by
        show (if nI 3 ≤ w (10 + 4 * aTskN (y1.2.2 (m + (n - (r + 1))))) then 0 else if rTurnW (tτ σ.w) (aTskN (y1.2.2 (m + (n - (r + 1))))) w (10 + 4 * aTskN (y1.2.2 (m + (n - (r + 1))))) = nI 2 then 0 else aTriL (tτ σ.w) (fun u => y1.2.2 (m + u)) r (n - (r + 1) + 1) (rTurnW (tτ σ.w) (aTskN (y1.2.2 (m + (n - (r + 1))))) w) + 1) = _
        rw [eN]
      rw [et] at h7
      have hst2 : cSt w := fun v hv => (h5.1 v hv).2.2.2
      refine g149_14 (d := d + 4) hj (by omega) (by omega) (fun g => by omega) (fun _ => ev_om 5 j (sp_sTask (d := d + 3) hj p1 p3 hb.2 (by omega) (fun _ => om_q (Q := fun r' M' => Ev (d + 5) c s 149 28 [some (zr (some (0, 0, 0))), some (zr (some (5, j, 0))), some (zi (nI m)), some (zi (nI n)), some (zi (nI (n - (r + 1)))), o5] (zpush r' []) M' Q) ?_) (fun g => absurd tt g)))
      rw [eu]
      refine g149_28 (d := d + 4) hj (fun g => by rw [aIx_some hu (by decide)] at g; exact absurd g (by simp)) (fun _ => gm_Over (by decide) hu h3.1 hst2 (fun g => ?_) (fun g => ?_))
      · rw [if_pos g] at h7
        exact g149_47y hj (fin _ I2 h1 h2 (by omega))
      · rw [if_neg g] at h7
        have ps := h3.ps (L := L) (top := 237 + t) (hx.to h4)
        have ht1 := h3.1
        rw [eτ] at ps ht1
        refine g149_47n (d := d + 4) hj (gm_Turn (d := d) (by decide) hu ps ht1 h6 h5.1 (h5.ag (by omega)) (fun ρ' aa bb => g149_62 (d := d + 4) hj ?_))
        have tx1 : ∀ i, (i = 0 ∨ 26 ≤ i) → rTurnW (tτ σ.w) u w i = w i := fun i hi => rTurnW_tx hT hu h5.1 hi
        have h1' : zCls (so I2 2 1 ρ') L P1 S t σ := h1.t1 (fun r j q i g => so3 g) (fun _ _ _ _ _ => rfl)
        have h2' : zFm I L S (so I2 2 1 ρ') L S := h2.trans (zFm_so (by decide) (by decide))
        have h3' : cTb (so I2 2 1 ρ') P1 S (t + 9) 1 (rTurnW (tτ σ.w) u w) := h3.row1 tx1 (by rw [eτ]; exact aa)
        have h3t : cTI (tτ σ.w) ((so I2 2 1 ρ') 2 1) (rTurnW (tτ σ.w) u w) := by rw [so_s]; exact aa
        refine gm_Waitg (by decide) hu h3t (fun g2 => ?_) (fun g2 => ?_)
        · rw [if_pos g2] at h7
          exact g149_72y hj (fin _ _ h1' h2' (by omega))
        · rw [if_neg g2] at h7
          refine g149_72n hj ?_
          rw [show n - (r + 1) + 1 = n - r by omega] at h7 ⊢
          have t5 : tI (B + (n - r)) (tτ σ.w) (rTurnW (tτ σ.w) u w) := (h5.turn hT hu).mono (by omega)
          exact ih (by omega) _ _ _ h1' h2' h3' (fun i hi => (tx1 i hi).trans (h4 i hi)) t5 bb (by omega)
  have h0 := lp n (Nat.le_refl _) I1 σ.w none hC1 fm1 hb1 (fun _ _ => rfl) (ti.mono (by omega)) huq (by rw [Nat.sub_self, Nat.zero_add])
  rw [Nat.sub_self] at h0
  exact h0
theorem aTried_bad (h : aIx a 4 = none ∨ aIx x 4 = none ∨ aIx z 25 = none ∨ aIx z 25 = some 0) : aTried σ a x y z = -1 := by
  unfold aTried
  rcases h with h | h | h | h
  · rw [h]
  · rw [h]; cases aIx a 4 <;> rfl
  · rw [h]; cases aIx a 4 <;> cases aIx x 4 <;> rfl
  · rw [h]; cases aIx a 4 <;> cases aIx x 4 <;> rfl
theorem cp_tried (hG : zGood B σ) (hB : B < 2 ^ 29) (hC : zCls I L P S t σ) (k : cK I L S B σ (zi (aTried σ a x y z)) Q) : Ev (d + 6) c s 135 0 [some (zr (some (0, 0, 0))), some (zi a), some (zi x), some (zi y), some (zi z), none] [] (I, L, zpj P, zsj S, 237 + t) Q := by
  have bad : aIx a 4 = none ∨ aIx x 4 = none ∨ aIx z 25 = none ∨ aIx z 25 = some 0 → Q (some (zi (-1))) (I, L, zpj P, zsj S, 237 + t) := by
    intro h
    have kk := k I L P S t hC (hG.mono (by omega)) zFm.refl
    rw [aTried_bad h] at kk
    exact kk
  unfold aTried at k
  by_cases e1 : aIx a 4 = none
  · exact g135_0i (d := d + 5) (fun _ => bad (Or.inl e1)) (fun q => absurd e1 q) (fun q => absurd e1 q) (fun q => absurd e1 q) (fun q => absurd e1 q)
  · obtain ⟨u, hu, ex, eu⟩ := aIx_ex e1
    by_cases e2 : aIx x 4 = none
    · exact g135_0i (d := d + 5) (fun q => absurd q e1) (fun _ _ => bad (Or.inr (Or.inl e2))) (fun _ q => absurd e2 q) (fun _ q => absurd e2 q) (fun _ q => absurd e2 q)
    · obtain ⟨w, hw, ey, ew⟩ := aIx_ex e2
      by_cases e3 : aIx z 25 = none
      · have no : ¬ (0 ≤ z ∧ z < nI 25) := fun ⟨a, b⟩ => absurd e3 (aIx_in (by decide) a b)
        have bd := bad (Or.inr (Or.inr (Or.inl e3)))
        refine g135_0i (d := d + 5) (fun q => absurd q e1) (fun _ q => absurd q e2) (fun _ _ _ => bd) (fun _ _ g1 g2 => absurd ⟨?_, ?_⟩ no) (fun _ _ _ _ => bd)
        · exact Int32.le_trans (by decide) g1
        · exact Int32.lt_of_le_of_lt g2 (by decide)
      · obtain ⟨m, hm, ez, em⟩ := aIx_ex e3
        by_cases m0 : m = 0
        · subst m0
          have bd := bad (Or.inr (Or.inr (Or.inr em)))
          subst ez
          exact g135_0i (d := d + 5) (fun q => absurd q e1) (fun _ q => absurd q e2) (fun _ _ _ => bd) (fun _ _ g1 _ => absurd g1 (by decide)) (fun _ _ _ _ => bd)
        · rw [eu, ew, em] at k
          subst ex
          subst ey
          subst ez
          simp only [if_neg m0] at k
          refine g135_0i (d := d + 5) (fun q => absurd q e1) (fun _ q => absurd q e2) (fun _ _ g => absurd ((zlt_iff (by omega) (by decide)).mp g) (by omega)) (fun _ _ _ _ => g135_29 (d := d + 5) hu (zp17 hu P) hu (gm_Find (d := d + 4) hG hC hu (by omega) ?_)) (fun _ _ _ g => absurd ((zlt_iff (by decide) (by omega)).mp g) (by omega))
          rcases aFnd_0 (σ.S u) (nI w) y m with e0 | ⟨e0, ne⟩
          · obtain ⟨y', i', eS, ey', eY, hi', cm⟩ := aFnd_z e0
            have hb := hG.2.2.2.2 u y' hu eS
            simp only [e0, if_neg (show ¬ (0 : Int32) < 0 by decide)] at k
            simp only [eS, cm] at k
            subst eY
            have h1 := hC.s1 hu
            rw [eS] at h1
            obtain ⟨p1, p2, p3⟩ := h1
            rw [e0]
            refine g135_42 (fun _ => g135_52 (d := d + 5) hu (zp17 hu P) hu (ev_om 5 u (sp_sTells (d := d + 3) hu p1 p3 hb.2 hi' (fun g => om_q (Q := fun r' M' => Ev (d + 6) c s 135 64 [some (zr (some (0, 0, 0))), some (zi (nI u)), some (zi (nI w)), some (zi (nI i')), some (zi (nI m)), some (zi 0)] (zpush r' []) M' Q) ?_) (fun g => om_q (Q := fun r' M' => Ev (d + 6) c s 135 64 [some (zr (some (0, 0, 0))), some (zi (nI u)), some (zi (nI w)), some (zi (nI i')), some (zi (nI m)), some (zi 0)] (zpush r' []) M' Q) ?_)))) (fun g => absurd rfl g)
            · simp only [if_pos g] at k
              exact g135_64y (d := d + 5) hu (zp17 hu P) hu (gm_TryRow (d := d) hG hB hC hu eS hi' g (fun I' L' P' S' t' h1 h2 h3 => g135_80 (k I' L' P' S' t' h1 h2 h3)))
            · simp only [if_neg g] at k
              exact g135_64n (k I L P S t hC (hG.mono (by omega)) zFm.refl)
          · simp only [if_pos e0] at k
            exact g135_42 (fun g => absurd g ne) (fun _ => k I L P S t hC (hG.mono (by omega)) zFm.refl)
end
