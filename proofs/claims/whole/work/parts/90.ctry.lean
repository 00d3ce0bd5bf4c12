/-! the class: the player tries, and does often -/
theorem g29_0 {d c s : Nat} {a D : Nat} {X : zM} {ρ : Nat → Nat → Int32} {l : Nat → Nat → Int64} {Q : Option zV → zM → Prop}
    (h1 : Ev d 0 0 25 0 [some (zr (some (0, 0, 4))), some (zi (nI (a + 1))), some (zi (nI (D + 1))), none, none] [] (OM X 0 0 ρ l) (fun r M' => Ev (d + 1) c s 29 15 [some (zr (some (0, 0, 4))), some (zi (nI a)), some (zi (nI D)), some (zi (ρ 4 13)), none] (zpush r []) M' Q)) : Ev (d + 1) c s 29 0 [some (zr (some (0, 0, 4))), some (zi (nI a)), some (zi (nI D)), none, none] [] (OM X 0 0 ρ l) Q := by
  refine Ew.ld f29_0 rfl rfl rfl rfl ?_
  refine Ew.getiO f29_1 rfl rfl ?_
  refine Ew.sr (ls' := [some (zr (some (0, 0, 4))), some (zi (nI a)), some (zi (nI D)), some (zi (ρ 4 13)), none]) f29_4 rfl rfl (Nat.le_of_ble_eq_true rfl) rfl rfl ?_
  refine Ew.ld f29_5 rfl rfl rfl rfl ?_
  refine Ew.ld f29_6 rfl rfl rfl rfl ?_
  refine Ew.op (st' := zi (nI 1) :: _) f29_7 rfl rfl ?_
  refine Ew.addn f29_8 rfl ?_
  refine Ew.ld f29_9 rfl rfl rfl rfl ?_
  refine Ew.op (st' := zi (nI 1) :: _) f29_10 rfl rfl ?_
  refine Ew.addn f29_11 rfl ?_
  refine Ew.call0 (ls0 := [some (zr (some (0, 0, 4))), some (zi (nI (a + 1))), some (zi (nI (D + 1))), none, none]) f29_12 rfl (Nat.le_of_ble_eq_true rfl) rfl rfl (Nat.le_of_ble_eq_true rfl) rfl (Nat.le_of_ble_eq_true rfl) rfl rfl ?_
  exact h1
theorem g29_15 {d c s : Nat} {a D m e : Nat} {X : zM} {ρ : Nat → Nat → Int32} {l : Nat → Nat → Int64} {Q : Option zV → zM → Prop}
    (h1 : ((nI e) = ((-1))) → Ev d 0 0 34 0 [some (zr (some (0, 0, 4))), some (zi (nI m)), none, none] [] (OM X 0 0 ρ l) (fun r M' => Ev (d + 1) c s 29 33 [some (zr (some (0, 0, 4))), some (zi (nI a)), some (zi (nI D)), some (zi (nI m)), some (zi (nI e))] (zpush r []) M' Q))
    (h2 : (¬ (nI e) = ((-1))) → Q (some (zi (nI (e + 1)))) (OM X 0 0 ρ l)) : Ev (d + 1) c s 29 15 [some (zr (some (0, 0, 4))), some (zi (nI a)), some (zi (nI D)), some (zi (nI m)), none] [zi (nI e)] (OM X 0 0 ρ l) Q := by
  refine Ew.sr (ls' := [some (zr (some (0, 0, 4))), some (zi (nI a)), some (zi (nI D)), some (zi (nI m)), some (zi (nI e))]) f29_15 rfl rfl (Nat.le_of_ble_eq_true rfl) rfl rfl ?_
  refine Ew.ld f29_17 rfl rfl rfl rfl ?_
  refine Ew.op (st' := zi ((-1)) :: _) f29_19 rfl rfl ?_
  refine Ew.icmp f29_20 rfl rfl (fun c1 => ?_) (fun c1 => ?_)
  · refine Ew.ld f29_28 rfl rfl rfl rfl ?_
    refine Ew.ld f29_29 rfl rfl rfl rfl ?_
    refine Ew.call0 (ls0 := [some (zr (some (0, 0, 4))), some (zi (nI m)), none, none]) f29_30 rfl (Nat.le_of_ble_eq_true rfl) rfl rfl (Nat.le_of_ble_eq_true rfl) rfl (Nat.le_of_ble_eq_true rfl) rfl rfl ?_
    exact h1 c1
  · refine Ew.ld f29_23 rfl rfl rfl rfl ?_
    refine Ew.op (st' := zi (nI 1) :: _) f29_25 rfl rfl ?_
    refine Ew.addn f29_26 rfl ?_
    refine Ew.ireti f29_27 ?_
    exact h2 c1
theorem g29_15m {d c s : Nat} {a D m : Nat} {X : zM} {ρ : Nat → Nat → Int32} {l : Nat → Nat → Int64} {Q : Option zV → zM → Prop}
    (h1 : Ev d 0 0 34 0 [some (zr (some (0, 0, 4))), some (zi (nI m)), none, none] [] (OM X 0 0 ρ l) (fun r M' => Ev (d + 1) c s 29 33 [some (zr (some (0, 0, 4))), some (zi (nI a)), some (zi (nI D)), some (zi (nI m)), some (zi ((-1)))] (zpush r []) M' Q)) : Ev (d + 1) c s 29 15 [some (zr (some (0, 0, 4))), some (zi (nI a)), some (zi (nI D)), some (zi (nI m)), none] [zi ((-1))] (OM X 0 0 ρ l) Q := by
  refine Ew.sr (ls' := [some (zr (some (0, 0, 4))), some (zi (nI a)), some (zi (nI D)), some (zi (nI m)), some (zi ((-1)))]) f29_15 rfl rfl (Nat.le_of_ble_eq_true rfl) rfl rfl ?_
  refine Ew.ld f29_17 rfl rfl rfl rfl ?_
  refine Ew.op (st' := zi ((-1)) :: _) f29_19 rfl rfl ?_
  refine Ew.icmp f29_20 rfl rfl (fun _ => ?_) (fun h => absurd (show (((-1)) : Int32) = ((-1)) by decide) h)
  refine Ew.ld f29_28 rfl rfl rfl rfl ?_
  refine Ew.ld f29_29 rfl rfl rfl rfl ?_
  refine Ew.call0 (ls0 := [some (zr (some (0, 0, 4))), some (zi (nI m)), none, none]) f29_30 rfl (Nat.le_of_ble_eq_true rfl) rfl rfl (Nat.le_of_ble_eq_true rfl) rfl (Nat.le_of_ble_eq_true rfl) rfl rfl ?_
  exact h1
theorem g29_33 {d c s : Nat} {n bb : Nat} {A : List Nat} {a D m q : Nat} {X : zM} {ρ : Nat → Nat → Int32} {l : Nat → Nat → Int64} {Q : Option zV → zM → Prop} (hc : cSc X.1 X.2.2.1 X.2.2.2.1 bb n A) (ps : X.2.2.1 0 0 4 0 = some (3, n, 0)) (hq : ρ 4 16 = nI q) 
    (h1 : ((ρ 4 7) = 0) → Ev d 0 0 39 0 [some (zr (some (3, n, 0))), some (zi (nI a)), none, none] [] (OM X 0 0 (zu ρ 4 16 (nI (q + 1))) l) (fun r M' => Ev (d + 1) c s 29 62 [some (zr (some (0, 0, 4))), some (zi (nI a)), some (zi (nI D)), some (zi (nI m)), some (zi ((-1)))] (zpush r []) M' Q))
    (h2 : (¬ (ρ 4 7) = 0) → Q (some (zi ((-1)))) (OM X 0 0 (zu ρ 4 16 (nI (q + 1))) l)) : Ev (d + 1) c s 29 33 [some (zr (some (0, 0, 4))), some (zi (nI a)), some (zi (nI D)), some (zi (nI m)), some (zi ((-1)))] [] (OM X 0 0 ρ l) Q := by
  refine Ew.ld f29_33 rfl rfl rfl rfl ?_
  refine Ew.op (st' := zr (some (0, 0, 4)) :: zr (some (0, 0, 4)) :: _) f29_34 rfl rfl ?_
  refine Ew.getiV (v := nI q) f29_35 rfl (so_v hq) rfl ?_
  refine Ew.op (st' := zi (nI 1) :: _) f29_38 rfl rfl ?_
  refine Ew.addn f29_39 rfl ?_
  refine Ew.putiO f29_40 rfl rfl ?_
  refine Ew.ld f29_43 rfl rfl rfl rfl ?_
  refine Ew.getbV (v := ρ 4 7) f29_44 rfl (so_v rfl) rfl ?_
  refine Ew.ifc f29_47 rfl rfl (fun c1 => ?_) (fun c1 => ?_)
  · refine Ew.ld f29_54 rfl rfl rfl rfl ?_
    refine Ew.getp (v := some (3, n, 0)) f29_55 rfl (show zpj X.2.2.1 0 0 4 0 = _ from ps) rfl ?_
    refine Ew.ld f29_58 rfl rfl rfl rfl ?_
    refine Ew.call0 (ls0 := [some (zr (some (3, n, 0))), some (zi (nI a)), none, none]) f29_59 rfl (Nat.le_of_ble_eq_true rfl) rfl rfl (Nat.le_of_ble_eq_true rfl) (by show (X.2.2.2.1 3 n 0).1 = _; rw [hc.sh]) (Nat.le_of_ble_eq_true rfl) rfl rfl ?_
    exact h1 c1
  · refine Ew.op (st' := zi ((-1)) :: _) f29_50 rfl rfl ?_
    refine Ew.goto f29_51 rfl ?_
    refine Ew.ireti f29_64 ?_
    exact h2 c1
theorem g29_62 {d c s : Nat} {a D m r : Nat} {X : zM} {ρ : Nat → Nat → Int32} {l : Nat → Nat → Int64} {Q : Option zV → zM → Prop}
    (h1 : Q (some (zi (nI (r + 1)))) (OM X 0 0 ρ l)) : Ev d c s 29 62 [some (zr (some (0, 0, 4))), some (zi (nI a)), some (zi (nI D)), some (zi (nI m)), some (zi ((-1)))] [zi (nI r)] (OM X 0 0 ρ l) Q := by
  refine Ew.op (st' := zi (nI 1) :: _) f29_62 rfl rfl ?_
  refine Ew.addn f29_63 rfl ?_
  refine Ew.ireti f29_64 ?_
  exact h1
theorem g30_0 {d c s : Nat} {a j D : Nat} {X : zM} {ρ : Nat → Nat → Int32} {l : Nat → Nat → Int64} {Q : Option zV → zM → Prop}
    (h1 : Ev d c s 30 6 [some (zr (some (0, 0, 4))), some (zi (nI a)), some (zi (nI j)), some (zi (nI D)), some (zi ((-1))), some (zi (nI 0)), none, none] [] (OM X 0 0 ρ l) Q) : Ev d c s 30 0 [some (zr (some (0, 0, 4))), some (zi (nI a)), some (zi (nI j)), some (zi (nI D)), none, none, none, none] [] (OM X 0 0 ρ l) Q := by
  refine Ew.op (st' := zi ((-1)) :: _) f30_0 rfl rfl ?_
  refine Ew.sr (ls' := [some (zr (some (0, 0, 4))), some (zi (nI a)), some (zi (nI j)), some (zi (nI D)), some (zi ((-1))), none, none, none]) f30_1 rfl rfl (Nat.le_of_ble_eq_true rfl) rfl rfl ?_
  refine Ew.op (st' := zi (nI 0) :: _) f30_3 rfl rfl ?_
  refine Ew.sr (ls' := [some (zr (some (0, 0, 4))), some (zi (nI a)), some (zi (nI j)), some (zi (nI D)), some (zi ((-1))), some (zi (nI 0)), none, none]) f30_4 rfl rfl (Nat.le_of_ble_eq_true rfl) rfl rfl ?_
  exact h1
theorem g30_6 {d c s : Nat} {a j D k z q : Nat} {x : Int32} {o6 o7 : Option zV} {X : zM} {ρ : Nat → Nat → Int32} {l : Nat → Nat → Int64} {Q : Option zV → zM → Prop} (hz : ρ 4 6 = nI z) (hq : ρ 4 16 = nI q)  (nb_k : k < 5000) (nb_j : j < 5000)
    (h1 : (j ≤ k) → Q (some (zi (x + (nI 1)))) (OM X 0 0 ρ l))
    (h2 : (k < j) → Ev d 0 0 25 0 [some (zr (some (0, 0, 4))), some (zi (nI (a + 2))), some (zi (nI (D + 1))), none, none] [] (OM X 0 0 ρ l) (fun r M' => Ev (d + 1) c s 30 34 [some (zr (some (0, 0, 4))), some (zi (nI a)), some (zi (nI j)), some (zi (nI D)), some (zi x), some (zi (nI k)), some (zi (nI z)), some (zi (nI q))] (zpush r []) M' Q)) : Ev (d + 1) c s 30 6 [some (zr (some (0, 0, 4))), some (zi (nI a)), some (zi (nI j)), some (zi (nI D)), some (zi x), some (zi (nI k)), o6, o7] [] (OM X 0 0 ρ l) Q := by
  refine Ew.ld f30_6 rfl rfl rfl rfl ?_
  refine Ew.ld f30_8 rfl rfl rfl rfl ?_
  refine Ew.icmp f30_9 rfl rfl (fun c1 => ?_) (fun c1 => ?_)
  · refine Ew.ld f30_87 rfl rfl rfl rfl ?_
    refine Ew.op (st' := zi (nI 1) :: _) f30_89 rfl rfl ?_
    refine Ew.op (st' := zi (x + (nI 1)) :: _) f30_90 rfl rfl ?_
    refine Ew.ireti f30_91 ?_
    exact h1 ((zle_iff nb_j nb_k).mp c1)
  · refine Ew.ld f30_12 rfl rfl rfl rfl ?_
    refine Ew.getiV (v := nI z) f30_13 rfl (so_v hz) rfl ?_
    refine Ew.sr (ls' := [some (zr (some (0, 0, 4))), some (zi (nI a)), some (zi (nI j)), some (zi (nI D)), some (zi x), some (zi (nI k)), some (zi (nI z)), o7]) f30_16 rfl rfl (Nat.le_of_ble_eq_true rfl) rfl rfl ?_
    refine Ew.ld f30_18 rfl rfl rfl rfl ?_
    refine Ew.getiV (v := nI q) f30_19 rfl (so_v hq) rfl ?_
    refine Ew.sr (ls' := [some (zr (some (0, 0, 4))), some (zi (nI a)), some (zi (nI j)), some (zi (nI D)), some (zi x), some (zi (nI k)), some (zi (nI z)), some (zi (nI q))]) f30_22 rfl rfl (Nat.le_of_ble_eq_true rfl) rfl rfl ?_
    refine Ew.ld f30_24 rfl rfl rfl rfl ?_
    refine Ew.ld f30_25 rfl rfl rfl rfl ?_
    refine Ew.op (st' := zi (nI 2) :: _) f30_26 rfl rfl ?_
    refine Ew.addn f30_27 rfl ?_
    refine Ew.ld f30_28 rfl rfl rfl rfl ?_
    refine Ew.op (st' := zi (nI 1) :: _) f30_29 rfl rfl ?_
    refine Ew.addn f30_30 rfl ?_
    refine Ew.call0 (ls0 := [some (zr (some (0, 0, 4))), some (zi (nI (a + 2))), some (zi (nI (D + 1))), none, none]) f30_31 rfl (Nat.le_of_ble_eq_true rfl) rfl rfl (Nat.le_of_ble_eq_true rfl) rfl (Nat.le_of_ble_eq_true rfl) rfl rfl ?_
    exact h2 (Nat.not_le.mp fun e => c1 ((zle_iff nb_j nb_k).mpr e))
theorem g30_34 {d c s : Nat} {a j D k z q e y p : Nat} {x : Int32} {X : zM} {ρ : Nat → Nat → Int32} {l : Nat → Nat → Int64} {Q : Option zV → zM → Prop} (hy : ρ 4 6 = nI y) (hp : ρ 4 16 = nI p)  (nb_y : y < 5000) (nb_z : z < 5000)
    (h1 : (¬ (nI e) = ((-1))) → (¬ y = z) → Ev d c s 30 6 [some (zr (some (0, 0, 4))), some (zi (nI a)), some (zi (nI j)), some (zi (nI D)), some (zi (nI e)), some (zi (nI (k + 1))), some (zi (nI z)), some (zi (nI q))] [] (OM X 0 0 ρ l) Q)
    (h2 : (¬ (nI e) = ((-1))) → (y = z) → Q (some (zi (nI (e + 1)))) (OM X 0 0 (zu ρ 4 16 ((nI p) + (((nI p) - (nI q)) * (((nI j) - (nI 1)) - (nI k))))) l))
    (h3 : ((nI e) = ((-1))) → Q (some (zi ((-1)))) (OM X 0 0 ρ l)) : Ev d c s 30 34 [some (zr (some (0, 0, 4))), some (zi (nI a)), some (zi (nI j)), some (zi (nI D)), some (zi x), some (zi (nI k)), some (zi (nI z)), some (zi (nI q))] [zi (nI e)] (OM X 0 0 ρ l) Q := by
  refine Ew.sr (ls' := [some (zr (some (0, 0, 4))), some (zi (nI a)), some (zi (nI j)), some (zi (nI D)), some (zi (nI e)), some (zi (nI k)), some (zi (nI z)), some (zi (nI q))]) f30_34 rfl rfl (Nat.le_of_ble_eq_true rfl) rfl rfl ?_
  refine Ew.ld f30_36 rfl rfl rfl rfl ?_
  refine Ew.op (st' := zi ((-1)) :: _) f30_38 rfl rfl ?_
  refine Ew.icmp f30_39 rfl rfl (fun c1 => ?_) (fun c1 => ?_)
  · refine Ew.ld f30_44 rfl rfl rfl rfl ?_
    refine Ew.getiV (v := nI y) f30_45 rfl (so_v hy) rfl ?_
    refine Ew.ld f30_48 rfl rfl rfl rfl ?_
    refine Ew.icmp f30_50 rfl rfl (fun c2 => ?_) (fun c2 => ?_)
    · refine Ew.iinc (v := nI (k + 1)) (ls' := [some (zr (some (0, 0, 4))), some (zi (nI a)), some (zi (nI j)), some (zi (nI D)), some (zi (nI e)), some (zi (nI (k + 1))), some (zi (nI z)), some (zi (nI q))]) f30_81 rfl (nI_1 _) rfl rfl ?_
      refine Ew.goto f30_84 rfl ?_
      exact h1 c1 (fun e => c2 ((zeq nb_y nb_z).mpr e))
    · refine Ew.ld f30_53 rfl rfl rfl rfl ?_
      refine Ew.op (st' := zr (some (0, 0, 4)) :: zr (some (0, 0, 4)) :: _) f30_54 rfl rfl ?_
      refine Ew.getiV (v := nI p) f30_55 rfl (so_v hp) rfl ?_
      refine Ew.ld f30_58 rfl rfl rfl rfl ?_
      refine Ew.getiV (v := nI p) f30_59 rfl (so_v hp) rfl ?_
      refine Ew.ld f30_62 rfl rfl rfl rfl ?_
      refine Ew.op (st' := zi ((nI p) - (nI q)) :: _) f30_64 rfl rfl ?_
      refine Ew.ld f30_65 rfl rfl rfl rfl ?_
      refine Ew.op (st' := zi (nI 1) :: _) f30_66 rfl rfl ?_
      refine Ew.op (st' := zi ((nI j) - (nI 1)) :: _) f30_67 rfl rfl ?_
      refine Ew.ld f30_68 rfl rfl rfl rfl ?_
      refine Ew.op (st' := zi (((nI j) - (nI 1)) - (nI k)) :: _) f30_70 rfl rfl ?_
      refine Ew.op (st' := zi (((nI p) - (nI q)) * (((nI j) - (nI 1)) - (nI k))) :: _) f30_71 rfl rfl ?_
      refine Ew.op (st' := zi ((nI p) + (((nI p) - (nI q)) * (((nI j) - (nI 1)) - (nI k)))) :: _) f30_72 rfl rfl ?_
      refine Ew.putiO f30_73 rfl rfl ?_
      refine Ew.ld f30_76 rfl rfl rfl rfl ?_
      refine Ew.op (st' := zi (nI 1) :: _) f30_78 rfl rfl ?_
      refine Ew.addn f30_79 rfl ?_
      refine Ew.ireti f30_80 ?_
      exact h2 c1 ((zeq nb_y nb_z).mp (Classical.not_not.mp c2))
  · refine Ew.op (st' := zi ((-1)) :: _) f30_42 rfl rfl ?_
    refine Ew.ireti f30_43 ?_
    exact h3 (Classical.not_not.mp c1)
theorem g30_34m {d c s : Nat} {a j D k z q : Nat} {x : Int32} {X : zM} {ρ : Nat → Nat → Int32} {l : Nat → Nat → Int64} {Q : Option zV → zM → Prop}
    (h1 : Q (some (zi ((-1)))) (OM X 0 0 ρ l)) : Ev d c s 30 34 [some (zr (some (0, 0, 4))), some (zi (nI a)), some (zi (nI j)), some (zi (nI D)), some (zi x), some (zi (nI k)), some (zi (nI z)), some (zi (nI q))] [zi ((-1))] (OM X 0 0 ρ l) Q := by
  refine Ew.sr (ls' := [some (zr (some (0, 0, 4))), some (zi (nI a)), some (zi (nI j)), some (zi (nI D)), some (zi ((-1))), some (zi (nI k)), some (zi (nI z)), some (zi (nI q))]) f30_34 rfl rfl (Nat.le_of_ble_eq_true rfl) rfl rfl ?_
  refine Ew.ld f30_36 rfl rfl rfl rfl ?_
  refine Ew.op (st' := zi ((-1)) :: _) f30_38 rfl rfl ?_
  refine Ew.icmp f30_39 rfl rfl (fun h => absurd h (show ¬ (¬ (((-1)) : Int32) = ((-1))) by decide)) (fun _ => ?_)
  refine Ew.op (st' := zi ((-1)) :: _) f30_42 rfl rfl ?_
  refine Ew.ireti f30_43 ?_
  exact h1
theorem cPl_m {ρ : Nat → Nat → Int32} {z : pS} (h : cPl ρ z) (m : Nat) : cPl (zu ρ 4 16 (nI m)) (z.1, zup z.2.1 9 m, z.2.2) ∧ cPf ρ (zu ρ 4 16 (nI m)) := by
  obtain ⟨_, _, hs, ⟨h10, h11, h17, h16⟩, _, h9, _⟩ := id h
  refine ⟨cPl_c h (fun q i hq => zu_i_ne (by omega)) (fun g hg => ?_) ⟨?_, ?_, ?_, ?_⟩ ?_ (zup_n _ _ (by omega)), fun q i hq => zu_i_ne (by omega), zu_i_ne (by omega), zu_i_ne (by omega), zu_i_ne (by omega)⟩
  · rw [zu_i_ne (by omega), zup_n _ _ (by omega)]; exact hs g hg
  · rw [zu_i_ne (by omega), zup_n _ _ (by omega)]; exact h10
  · rw [zu_i_ne (by omega), zup_n _ _ (by omega)]; exact h11
  · rw [zu_i_ne (by omega), zup_n _ _ (by omega)]; exact h17
  · rw [zu_e, zup_s]
  · rw [zu_i_ne (by omega), h9]
    exact (cIn_eq fun i hi => zup_n _ _ (by omega)).symm
theorem sp_cTry {d c s n bb a D : Nat} {A : List Nat} {z : pS} {R : Nat → pS → pO} {X : zM} {ρ : Nat → Nat → Int32} {l : Nat → Nat → Int64} {Q : Option zV → zM → Prop} (hc : cSc X.1 X.2.2.1 X.2.2.2.1 bb n A) (ps : X.2.2.1 0 0 4 0 = some (3, n, 0)) (hl : cPl ρ z) (hok : pOk z) (ha : A.getD a 0 = 91) (ha2 : a ≤ 200) (hsh : mSh (fun k => A.getD k 0) 61 a 0 (pShut (pF A) 61 a 0)) (hK : ∀ a s, pOk s → pKeep s (R a s)) (hR : ∀ (Q' : Option zV → zM → Prop), (∀ ρ' x, cOu ρ (R (a + 1) z) ρ' x → (∀ e, (R (a + 1) z).2 = Sum.inl e → e < 4000) → Q' (some (zi x)) (OM X 0 0 ρ' l)) → Ev (d + 2) 0 0 25 0 [some (zr (some (0, 0, 4))), some (zi (nI (a + 1))), some (zi (nI (D + 1))), none, none] [] (OM X 0 0 ρ l) Q') (k : ∀ ρ' x, cOu ρ (pTry R (pF A) a z) ρ' x → Q (some (zi x)) (OM X 0 0 ρ' l)) : Ev (d + 3) c s 29 0 [some (zr (some (0, 0, 4))), some (zi (nI a)), some (zi (nI D)), none, none] [] (OM X 0 0 ρ l) Q := by
  unfold pTry at k
  refine g29_0 ?_
  rw [hl.2.2.2.2.1.1]
  refine hR _ (fun ρ2 x ho he => ?_)
  have hkp := hK (a + 1) z hok
  generalize R (a + 1) z = r at k ho he hkp
  obtain ⟨s2, o⟩ := r
  obtain ⟨ok2, le2, pc2, ⟨u, hu⟩, _⟩ := hkp
  have ok2 : pOk s2 := ok2
  have hu2 : s2.2.2 = u ++ z.2.2 := hu
  cases o with
  | inl e =>
    obtain ⟨h2, f2, ex⟩ := ho
    have ex : x = nI e := ex
    subst ex
    have he : e < 4000 := he e rfl
    exact g29_15 (fun p => absurd p (nI_nem1 (by omega))) (fun _ => k _ _ ⟨h2, f2, rfl⟩)
  | inr b =>
    obtain ⟨h2, f2, ex, hw⟩ := ho
    have h2 : cPl ρ2 s2 := h2
    have ex : x = -1 := ex
    subst ex
    refine g29_15m ?_
    have hlen : z.2.2.length ≤ s2.2.2.length := by rw [hu2, List.length_append]; omega
    refine sp_cTake h2 ok2 hlen (fun ρ3 h3 f3 => ?_)
    have h3 : cPl ρ3 (pTake z.2.2.length s2) := h3
    have k : ∀ ρ' x, cOu ρ (((pTake z.2.2.length s2).1, zup (pTake z.2.2.length s2).2.1 9 ((pTake z.2.2.length s2).2.1 9 + 1), (pTake z.2.2.length s2).2.2), if (pTake z.2.2.length s2).2.1 10 = 0 then Sum.inl (pShut (pF A) 61 a 0 + 1) else Sum.inr b) ρ' x → Q (some (zi x)) (OM X 0 0 ρ' l) := k
    generalize pTake z.2.2.length s2 = w at k h3
    have hm := cPl_m h3 (w.2.1 9 + 1)
    have e7 := h3.1.2.2
    have fr : cPg ρ (zu ρ3 4 16 (nI (w.2.1 9 + 1))) := f2.trans (f3.g.trans hm.2.g)
    refine g29_33 hc ps h3.2.2.2.1.2.2.2 (fun p => ?_) (fun p => k _ _ ?_)
    · have y0 : w.2.1 10 = 0 := by
        by_cases e0 : w.2.1 10 = 0
        · exact e0
        · rw [e7, if_neg e0] at p; exact absurd p (by decide)
      rw [if_pos y0] at k
      refine sp_sClo (bb := bb) (A := A) hc ha ha2 (by decide) hsh ?_
      exact g29_62 (k _ _ ⟨hm.1, fr, rfl⟩)
    · have n0 : ¬ w.2.1 10 = 0 := fun e0 => p (by rw [e7, if_pos e0]; rfl)
      rw [if_neg n0]
      refine ⟨hm.1, fr, rfl, fun e0 => absurd ?_ n0⟩
      have e0 : zup w.2.1 9 (w.2.1 9 + 1) 10 = 0 := e0
      rw [zup_n _ _ (by omega)] at e0
      exact e0
