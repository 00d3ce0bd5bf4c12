/-! the reference: a trace's loop -/
theorem g168_0 {d c s : Nat} {t : Nat} {X : zM} {ρ : Nat → Nat → Int32} {l : Nat → Nat → Int64} {Q : Option zV → zM → Prop}
    (b1 : t < 4)
    (b2 : t < 4)
    (b3 : t < 4)
    (b4 : t < 4)
    (b5 : t < 4)
    (b6 : t < 4)
    (h1 : Ev d c s 168 65 [some (zr (some (1, 0, 0))), some (zi (nI t)), some (zi (nI 0))] [] (OM X 1 0 (zu (zu (zu (zu (zu (zu (zu (zu (zu (zu ρ 13 t (nI 0)) 14 t (nI 0)) 15 t ((-4))) 16 t (nI 0)) 17 t (nI 0)) 18 t (nI 0)) 0 26 (nI 0)) 0 29 (nI 0)) 0 32 (nI 0)) 0 31 (nI 0)) l) Q) : Ev d c s 168 0 [some (zr (some (1, 0, 0))), some (zi (nI t)), none] [] (OM X 1 0 ρ l) Q := by
  refine Ew.ld f168_0 rfl rfl rfl rfl ?_
  refine Ew.getp (v := some (1, 0, 13)) f168_1 rfl rfl rfl ?_
  refine Ew.ld f168_4 rfl rfl rfl rfl ?_
  refine Ew.op (st' := zi (nI 0) :: _) f168_5 rfl rfl ?_
  refine Ew.iastnO f168_6 (by decide) rfl b1 (Nat.le_of_ble_eq_true rfl) rfl ?_
  refine Ew.ld f168_7 rfl rfl rfl rfl ?_
  refine Ew.getp (v := some (1, 0, 14)) f168_8 rfl rfl rfl ?_
  refine Ew.ld f168_11 rfl rfl rfl rfl ?_
  refine Ew.op (st' := zi (nI 0) :: _) f168_12 rfl rfl ?_
  refine Ew.iastnO f168_13 (by decide) rfl b2 (Nat.le_of_ble_eq_true rfl) rfl ?_
  refine Ew.ld f168_14 rfl rfl rfl rfl ?_
  refine Ew.getp (v := some (1, 0, 15)) f168_15 rfl rfl rfl ?_
  refine Ew.ld f168_18 rfl rfl rfl rfl ?_
  refine Ew.op (st' := zi ((-4)) :: _) f168_19 rfl rfl ?_
  refine Ew.iastnO f168_21 (by decide) rfl b3 (Nat.le_of_ble_eq_true rfl) rfl ?_
  refine Ew.ld f168_22 rfl rfl rfl rfl ?_
  refine Ew.getp (v := some (1, 0, 16)) f168_23 rfl rfl rfl ?_
  refine Ew.ld f168_26 rfl rfl rfl rfl ?_
  refine Ew.op (st' := zi (nI 0) :: _) f168_27 rfl rfl ?_
  refine Ew.iastnO f168_28 (by decide) rfl b4 (Nat.le_of_ble_eq_true rfl) rfl ?_
  refine Ew.ld f168_29 rfl rfl rfl rfl ?_
  refine Ew.getp (v := some (1, 0, 17)) f168_30 rfl rfl rfl ?_
  refine Ew.ld f168_33 rfl rfl rfl rfl ?_
  refine Ew.op (st' := zi (nI 0) :: _) f168_34 rfl rfl ?_
  refine Ew.iastnO f168_35 (by decide) rfl b5 (Nat.le_of_ble_eq_true rfl) rfl ?_
  refine Ew.ld f168_36 rfl rfl rfl rfl ?_
  refine Ew.getp (v := some (1, 0, 18)) f168_37 rfl rfl rfl ?_
  refine Ew.ld f168_40 rfl rfl rfl rfl ?_
  refine Ew.op (st' := zi (nI 0) :: _) f168_41 rfl rfl ?_
  refine Ew.iastnO f168_42 (by decide) rfl b6 (Nat.le_of_ble_eq_true rfl) rfl ?_
  refine Ew.ld f168_43 rfl rfl rfl rfl ?_
  refine Ew.op (st' := zi (nI 0) :: _) f168_44 rfl rfl ?_
  refine Ew.putiO f168_45 rfl rfl ?_
  refine Ew.ld f168_48 rfl rfl rfl rfl ?_
  refine Ew.op (st' := zi (nI 0) :: _) f168_49 rfl rfl ?_
  refine Ew.putiO f168_50 rfl rfl ?_
  refine Ew.ld f168_53 rfl rfl rfl rfl ?_
  refine Ew.op (st' := zi (nI 0) :: _) f168_54 rfl rfl ?_
  refine Ew.putiO f168_55 rfl rfl ?_
  refine Ew.ld f168_58 rfl rfl rfl rfl ?_
  refine Ew.op (st' := zi (nI 0) :: _) f168_59 rfl rfl ?_
  refine Ew.putiO f168_60 rfl rfl ?_
  refine Ew.op (st' := zi (nI 0) :: _) f168_63 rfl rfl ?_
  refine Ew.sr (ls' := [some (zr (some (1, 0, 0))), some (zi (nI t)), some (zi (nI 0))]) f168_64 rfl rfl (Nat.le_of_ble_eq_true rfl) rfl rfl ?_
  exact h1
theorem g168_65 {d c s : Nat} {t k : Nat} {X : zM} {ρ : Nat → Nat → Int32} {l : Nat → Nat → Int64} {Q : Option zV → zM → Prop} (nb_k : k < 5000)
    (h1 : (6 ≤ k) → Ev d c s 168 84 [some (zr (some (1, 0, 0))), some (zi (nI t)), some (zi (nI k))] [] (OM X 1 0 ρ l) Q)
    (b1 : (k < 6) → k < 6)
    (h2 : (k < 6) → Ev d c s 168 65 [some (zr (some (1, 0, 0))), some (zi (nI t)), some (zi (nI (k + 1)))] [] (OM X 1 0 (zu ρ 25 k (nI 0)) l) Q) : Ev d c s 168 65 [some (zr (some (1, 0, 0))), some (zi (nI t)), some (zi (nI k))] [] (OM X 1 0 ρ l) Q := by
  refine Ew.ld f168_65 rfl rfl rfl rfl ?_
  refine Ew.op (st' := zi (nI 6) :: _) f168_66 rfl rfl ?_
  refine Ew.icmp f168_68 rfl rfl (fun c1 => ?_) (fun c1 => ?_)
  · exact h1 ((zle_iff (by decide) nb_k).mp c1)
  · refine Ew.ld f168_71 rfl rfl rfl rfl ?_
    refine Ew.getp (v := some (1, 0, 25)) f168_72 rfl rfl rfl ?_
    refine Ew.ld f168_75 rfl rfl rfl rfl ?_
    refine Ew.op (st' := zi (nI 0) :: _) f168_76 rfl rfl ?_
    refine Ew.iastnO f168_77 (by decide) rfl (b1 (Nat.not_le.mp fun e => c1 ((zle_iff (by decide) nb_k).mpr e))) (Nat.le_of_ble_eq_true rfl) rfl ?_
    refine Ew.iinc (v := nI (k + 1)) (ls' := [some (zr (some (1, 0, 0))), some (zi (nI t)), some (zi (nI (k + 1)))]) f168_78 rfl (nI_1 _) rfl rfl ?_
    refine Ew.goto f168_81 rfl ?_
    exact h2 (Nat.not_le.mp fun e => c1 ((zle_iff (by decide) nb_k).mpr e))
theorem g168_84 {d c s : Nat} {t u w a : Nat} {L : List Nat} {o2 : Option zV} {X : zM} {ρ : Nat → Nat → Int32} {l : Nat → Nat → Int64} {Q : Option zV → zM → Prop} (e1 : ρ 0 21 = nI u) (e2 : ρ 14 t = nI w) (e3 : ρ 0 31 = nI a) (nb_u : u < 5000) (nb_w : w < 5000)
    (h1 : (¬ u = 0) → Q none (OM X 1 0 ρ l))
    (b1 : (u = 0) → t < 4)
    (h2 : (u = 0) → (¬ w = 0) → Q none (OM X 1 0 ρ l))
    (b2 : (u = 0) → (w = 0) → t < 4)
    (b3 : (u = 0) → (w = 0) → tTxt ρ t L)
    (b4 : (u = 0) → (w = 0) → a < 4000)
    (h3 : (u = 0) → (w = 0) → ((nI (L.getD a 0)) = 0) → Q none (OM X 1 0 ρ l))
    (b5 : (u = 0) → (w = 0) → (¬ (nI (L.getD a 0)) = 0) → t < 4)
    (b6 : (u = 0) → (w = 0) → (¬ (nI (L.getD a 0)) = 0) → tTxt ρ t L)
    (b7 : (u = 0) → (w = 0) → (¬ (nI (L.getD a 0)) = 0) → a < 4000)
    (h4 : (u = 0) → (w = 0) → (¬ (nI (L.getD a 0)) = 0) → Ev (d + 1) c s 168 122 [some (zr (some (1, 0, 0))), some (zi (nI t)), some (zi (nI (L.getD a 0)))] [] (OM X 1 0 ρ l) Q) : Ev (d + 1) c s 168 84 [some (zr (some (1, 0, 0))), some (zi (nI t)), o2] [] (OM X 1 0 ρ l) Q := by
  refine Ew.ld f168_84 rfl rfl rfl rfl ?_
  refine Ew.getbV (v := nI u) f168_85 rfl (so_v e1) rfl ?_
  refine Ew.ifc f168_88 rfl rfl (fun c1 => ?_) (fun c1 => ?_)
  · refine Ew.vret f168_245 ?_
    exact h1 (fun e => c1 ((zeq nb_u (by decide)).mpr e))
  · refine Ew.ld f168_91 rfl rfl rfl rfl ?_
    refine Ew.getp (v := some (1, 0, 14)) f168_92 rfl rfl rfl ?_
    refine Ew.ld f168_95 rfl rfl rfl rfl ?_
    refine Ew.ialdnV (v := nI w) f168_96 rfl (b1 ((zeq nb_u (by decide)).mp (Classical.not_not.mp c1))) (Nat.le_of_ble_eq_true rfl) rfl (so_v e2) ?_
    refine Ew.ifc f168_97 rfl rfl (fun c2 => ?_) (fun c2 => ?_)
    · refine Ew.vret f168_245 ?_
      exact h2 ((zeq nb_u (by decide)).mp (Classical.not_not.mp c1)) (fun e => c2 ((zeq nb_w (by decide)).mpr e))
    · refine Ew.ld f168_100 rfl rfl rfl rfl ?_
      refine Ew.ld f168_101 rfl rfl rfl rfl ?_
      refine Ew.ld f168_102 rfl rfl rfl rfl ?_
      refine Ew.getiV (v := nI a) f168_103 rfl (so_v e3) rfl ?_
      refine Ew.call0 (ls0 := [some (zr (some (1, 0, 0))), some (zi (nI t)), some (zi (nI a))]) f168_106 rfl (Nat.le_of_ble_eq_true rfl) rfl rfl (Nat.le_of_ble_eq_true rfl) rfl (Nat.le_of_ble_eq_true rfl) rfl rfl ?_
      refine sp_letterAt (b2 ((zeq nb_u (by decide)).mp (Classical.not_not.mp c1)) ((zeq nb_w (by decide)).mp (Classical.not_not.mp c2))) (b3 ((zeq nb_u (by decide)).mp (Classical.not_not.mp c1)) ((zeq nb_w (by decide)).mp (Classical.not_not.mp c2))) (b4 ((zeq nb_u (by decide)).mp (Classical.not_not.mp c1)) ((zeq nb_w (by decide)).mp (Classical.not_not.mp c2))) ?_
      show Ev (d + 1) c s 168 109 [some (zr (some (1, 0, 0))), some (zi (nI t)), o2] [zi (nI (L.getD a 0))] (OM X 1 0 ρ l) Q
      refine Ew.ifc f168_109 rfl rfl (fun c3 => ?_) (fun c3 => ?_)
      · refine Ew.vret f168_245 ?_
        exact h3 ((zeq nb_u (by decide)).mp (Classical.not_not.mp c1)) ((zeq nb_w (by decide)).mp (Classical.not_not.mp c2)) c3
      · refine Ew.ld f168_112 rfl rfl rfl rfl ?_
        refine Ew.ld f168_113 rfl rfl rfl rfl ?_
        refine Ew.ld f168_114 rfl rfl rfl rfl ?_
        refine Ew.getiV (v := nI a) f168_115 rfl (so_v e3) rfl ?_
        refine Ew.call0 (ls0 := [some (zr (some (1, 0, 0))), some (zi (nI t)), some (zi (nI a))]) f168_118 rfl (Nat.le_of_ble_eq_true rfl) rfl rfl (Nat.le_of_ble_eq_true rfl) rfl (Nat.le_of_ble_eq_true rfl) rfl rfl ?_
        refine sp_letterAt (b5 ((zeq nb_u (by decide)).mp (Classical.not_not.mp c1)) ((zeq nb_w (by decide)).mp (Classical.not_not.mp c2)) c3) (b6 ((zeq nb_u (by decide)).mp (Classical.not_not.mp c1)) ((zeq nb_w (by decide)).mp (Classical.not_not.mp c2)) c3) (b7 ((zeq nb_u (by decide)).mp (Classical.not_not.mp c1)) ((zeq nb_w (by decide)).mp (Classical.not_not.mp c2)) c3) ?_
        show Ev (d + 1) c s 168 121 [some (zr (some (1, 0, 0))), some (zi (nI t)), o2] [zi (nI (L.getD a 0))] (OM X 1 0 ρ l) Q
        refine Ew.sr (ls' := [some (zr (some (1, 0, 0))), some (zi (nI t)), some (zi (nI (L.getD a 0)))]) f168_121 rfl rfl (Nat.le_of_ble_eq_true rfl) rfl rfl ?_
        exact h4 ((zeq nb_u (by decide)).mp (Classical.not_not.mp c1)) ((zeq nb_w (by decide)).mp (Classical.not_not.mp c2)) c3
theorem g168_122 {d c s : Nat} {t x a : Nat} {X : zM} {ρ : Nat → Nat → Int32} {l : Nat → Nat → Int64} {Q : Option zV → zM → Prop} (e3 : ρ 0 31 = nI a) (nb_x : x < 5000)
    (h1 : ((lN 97) ≤ ((nI x).toInt64) ∧ ((nI x).toInt64) ≤ (lN 102)) → Ev d 0 0 166 0 [some (zr (some (1, 0, 0))), some (zi (nI t)), some (zi ((nI x) - (nI 97))), none, none] [] (OM X 1 0 ρ l) (fun r M' => Ev (d + 1) c s 168 145 [some (zr (some (1, 0, 0))), some (zi (nI t)), some (zi (nI x))] (zpush r []) M' Q))
    (h2 : (¬ ((lN 97) ≤ ((nI x).toInt64) ∧ ((nI x).toInt64) ≤ (lN 102))) → (¬ x = 33) → (¬ x = 91) → ((lN 50) ≤ ((nI x).toInt64) ∧ ((nI x).toInt64) ≤ (lN 53)) → Ev d 0 0 159 0 [some (zr (some (1, 0, 0))), some (zi (nI 2)), some (zi ((nI x) - (nI 48)))] [] (OM X 1 0 (zu ρ 0 31 (nI (a + 1))) l) (fun r M' => Ev (d + 1) c s 168 223 [some (zr (some (1, 0, 0))), some (zi (nI t)), some (zi (nI x))] (zpush r []) M' Q))
    (h3 : (¬ ((lN 97) ≤ ((nI x).toInt64) ∧ ((nI x).toInt64) ≤ (lN 102))) → (¬ x = 33) → (¬ x = 91) → (¬ ((lN 50) ≤ ((nI x).toInt64) ∧ ((nI x).toInt64) ≤ (lN 53))) → Ev d 0 0 167 0 [some (zr (some (1, 0, 0))), some (zi (nI t)), some (zi (nI x)), none] [] (OM X 1 0 ρ l) (fun r M' => Ev (d + 1) c s 168 242 [some (zr (some (1, 0, 0))), some (zi (nI t)), some (zi (nI x))] (zpush r []) M' Q))
    (h4 : (¬ ((lN 97) ≤ ((nI x).toInt64) ∧ ((nI x).toInt64) ≤ (lN 102))) → (¬ x = 33) → (x = 91) → Ev d 0 0 159 0 [some (zr (some (1, 0, 0))), some (zi (nI 1)), some (zi (nI 0))] [] (OM X 1 0 ρ l) (fun r M' => Ev (d + 1) c s 168 177 [some (zr (some (1, 0, 0))), some (zi (nI t)), some (zi (nI x))] (zpush r []) M' Q))
    (h5 : (¬ ((lN 97) ≤ ((nI x).toInt64) ∧ ((nI x).toInt64) ≤ (lN 102))) → (x = 33) → Ev d 0 0 165 0 [some (zr (some (1, 0, 0))), some (zi (nI t)), some (zi (nI 2)), some (zi ((-4))), none] [] (OM X 1 0 ρ l) (fun r M' => Ev (d + 1) c s 168 162 [some (zr (some (1, 0, 0))), some (zi (nI t)), some (zi (nI x))] (zpush r []) M' Q)) : Ev (d + 1) c s 168 122 [some (zr (some (1, 0, 0))), some (zi (nI t)), some (zi (nI x))] [] (OM X 1 0 ρ l) Q := by
  refine Ew.ld f168_122 rfl rfl rfl rfl ?_
  refine Ew.op (st' := zl ((nI x).toInt64) :: _) f168_123 rfl rfl ?_
  refine Ew.op (st' := zl (lN 97) :: _) f168_124 rfl rfl ?_
  refine Ew.op (st' := zl (lN 102) :: _) f168_127 rfl rfl ?_
  refine Ew.call0 (ls0 := [some (zl ((nI x).toInt64)), none, some (zl (lN 97)), none, some (zl (lN 102)), none]) f168_130 rfl (Nat.le_of_ble_eq_true rfl) rfl rfl (Nat.le_of_ble_eq_true rfl) trivial (Nat.le_of_ble_eq_true rfl) rfl rfl ?_
  refine sp_in (fun c1 => ?_) (fun c1 => ?_)
  · refine Ew.ifc f168_133 rfl rfl (fun h => absurd h (show ¬ (((nI 1) : Int32) = 0) by decide)) (fun _ => ?_)
    refine Ew.ld f168_136 rfl rfl rfl rfl ?_
    refine Ew.ld f168_137 rfl rfl rfl rfl ?_
    refine Ew.ld f168_138 rfl rfl rfl rfl ?_
    refine Ew.op (st' := zi (nI 97) :: _) f168_139 rfl rfl ?_
    refine Ew.op (st' := zi ((nI x) - (nI 97)) :: _) f168_141 rfl rfl ?_
    refine Ew.call0 (ls0 := [some (zr (some (1, 0, 0))), some (zi (nI t)), some (zi ((nI x) - (nI 97))), none, none]) f168_142 rfl (Nat.le_of_ble_eq_true rfl) rfl rfl (Nat.le_of_ble_eq_true rfl) rfl (Nat.le_of_ble_eq_true rfl) rfl rfl ?_
    exact h1 c1
  · refine Ew.ifc f168_133 rfl rfl (fun _ => ?_) (fun h => absurd (show ((nI 0) : Int32) = 0 by decide) h)
    refine Ew.ld f168_148 rfl rfl rfl rfl ?_
    refine Ew.op (st' := zi (nI 33) :: _) f168_149 rfl rfl ?_
    refine Ew.icmp f168_151 rfl rfl (fun c2 => ?_) (fun c2 => ?_)
    · refine Ew.ld f168_165 rfl rfl rfl rfl ?_
      refine Ew.op (st' := zi (nI 91) :: _) f168_166 rfl rfl ?_
      refine Ew.icmp f168_168 rfl rfl (fun c3 => ?_) (fun c3 => ?_)
      · refine Ew.ld f168_190 rfl rfl rfl rfl ?_
        refine Ew.op (st' := zl ((nI x).toInt64) :: _) f168_191 rfl rfl ?_
        refine Ew.op (st' := zl (lN 50) :: _) f168_192 rfl rfl ?_
        refine Ew.op (st' := zl (lN 53) :: _) f168_195 rfl rfl ?_
        refine Ew.call0 (ls0 := [some (zl ((nI x).toInt64)), none, some (zl (lN 50)), none, some (zl (lN 53)), none]) f168_198 rfl (Nat.le_of_ble_eq_true rfl) rfl rfl (Nat.le_of_ble_eq_true rfl) trivial (Nat.le_of_ble_eq_true rfl) rfl rfl ?_
        refine sp_in (fun c4 => ?_) (fun c4 => ?_)
        · refine Ew.ifc f168_201 rfl rfl (fun h => absurd h (show ¬ (((nI 1) : Int32) = 0) by decide)) (fun _ => ?_)
          refine Ew.ld f168_204 rfl rfl rfl rfl ?_
          refine Ew.op (st' := zr (some (1, 0, 0)) :: zr (some (1, 0, 0)) :: _) f168_205 rfl rfl ?_
          refine Ew.getiV (v := nI a) f168_206 rfl (so_v e3) rfl ?_
          refine Ew.op (st' := zi (nI 1) :: _) f168_209 rfl rfl ?_
          refine Ew.addn f168_210 rfl ?_
          refine Ew.putiO f168_211 rfl rfl ?_
          refine Ew.ld f168_214 rfl rfl rfl rfl ?_
          refine Ew.op (st' := zi (nI 2) :: _) f168_215 rfl rfl ?_
          refine Ew.ld f168_216 rfl rfl rfl rfl ?_
          refine Ew.op (st' := zi (nI 48) :: _) f168_217 rfl rfl ?_
          refine Ew.op (st' := zi ((nI x) - (nI 48)) :: _) f168_219 rfl rfl ?_
          refine Ew.call0 (ls0 := [some (zr (some (1, 0, 0))), some (zi (nI 2)), some (zi ((nI x) - (nI 48)))]) f168_220 rfl (Nat.le_of_ble_eq_true rfl) rfl rfl (Nat.le_of_ble_eq_true rfl) rfl (Nat.le_of_ble_eq_true rfl) rfl rfl ?_
          exact h2 c1 (fun e => c2 ((zeq nb_x (by decide)).mpr e)) (fun e => c3 ((zeq nb_x (by decide)).mpr e)) c4
        · refine Ew.ifc f168_201 rfl rfl (fun _ => ?_) (fun h => absurd (show ((nI 0) : Int32) = 0 by decide) h)
          refine Ew.ld f168_236 rfl rfl rfl rfl ?_
          refine Ew.ld f168_237 rfl rfl rfl rfl ?_
          refine Ew.ld f168_238 rfl rfl rfl rfl ?_
          refine Ew.call0 (ls0 := [some (zr (some (1, 0, 0))), some (zi (nI t)), some (zi (nI x)), none]) f168_239 rfl (Nat.le_of_ble_eq_true rfl) rfl rfl (Nat.le_of_ble_eq_true rfl) rfl (Nat.le_of_ble_eq_true rfl) rfl rfl ?_
          exact h3 c1 (fun e => c2 ((zeq nb_x (by decide)).mpr e)) (fun e => c3 ((zeq nb_x (by decide)).mpr e)) c4
      · refine Ew.ld f168_171 rfl rfl rfl rfl ?_
        refine Ew.op (st' := zi (nI 1) :: _) f168_172 rfl rfl ?_
        refine Ew.op (st' := zi (nI 0) :: _) f168_173 rfl rfl ?_
        refine Ew.call0 (ls0 := [some (zr (some (1, 0, 0))), some (zi (nI 1)), some (zi (nI 0))]) f168_174 rfl (Nat.le_of_ble_eq_true rfl) rfl rfl (Nat.le_of_ble_eq_true rfl) rfl (Nat.le_of_ble_eq_true rfl) rfl rfl ?_
        exact h4 c1 (fun e => c2 ((zeq nb_x (by decide)).mpr e)) ((zeq nb_x (by decide)).mp (Classical.not_not.mp c3))
    · refine Ew.ld f168_154 rfl rfl rfl rfl ?_
      refine Ew.ld f168_155 rfl rfl rfl rfl ?_
      refine Ew.op (st' := zi (nI 2) :: _) f168_156 rfl rfl ?_
      refine Ew.op (st' := zi ((-4)) :: _) f168_157 rfl rfl ?_
      refine Ew.call0 (ls0 := [some (zr (some (1, 0, 0))), some (zi (nI t)), some (zi (nI 2)), some (zi ((-4))), none]) f168_159 rfl (Nat.le_of_ble_eq_true rfl) rfl rfl (Nat.le_of_ble_eq_true rfl) rfl (Nat.le_of_ble_eq_true rfl) rfl rfl ?_
      exact h5 c1 ((zeq nb_x (by decide)).mp (Classical.not_not.mp c2))
theorem g168_177 {d c s : Nat} {t x a : Nat} {X : zM} {ρ : Nat → Nat → Int32} {l : Nat → Nat → Int64} {Q : Option zV → zM → Prop} (e3 : ρ 0 31 = nI a)
    (h1 : Ev d c s 168 84 [some (zr (some (1, 0, 0))), some (zi (nI t)), some (zi (nI x))] [] (OM X 1 0 (zu ρ 0 31 (nI (a + 1))) l) Q) : Ev d c s 168 177 [some (zr (some (1, 0, 0))), some (zi (nI t)), some (zi (nI x))] [] (OM X 1 0 ρ l) Q := by
  refine Ew.ld f168_177 rfl rfl rfl rfl ?_
  refine Ew.op (st' := zr (some (1, 0, 0)) :: zr (some (1, 0, 0)) :: _) f168_178 rfl rfl ?_
  refine Ew.getiV (v := nI a) f168_179 rfl (so_v e3) rfl ?_
  refine Ew.op (st' := zi (nI 1) :: _) f168_182 rfl rfl ?_
  refine Ew.addn f168_183 rfl ?_
  refine Ew.putiO f168_184 rfl rfl ?_
  refine Ew.goto f168_187 rfl ?_
  refine Ew.goto f168_242 rfl ?_
  exact h1
theorem g168_223 {d c s : Nat} {t x a : Nat} {X : zM} {ρ : Nat → Nat → Int32} {l : Nat → Nat → Int64} {Q : Option zV → zM → Prop} (e3 : ρ 0 31 = nI a)
    (h1 : Ev d c s 168 84 [some (zr (some (1, 0, 0))), some (zi (nI t)), some (zi (nI x))] [] (OM X 1 0 (zu ρ 0 31 (nI (a + 1))) l) Q) : Ev d c s 168 223 [some (zr (some (1, 0, 0))), some (zi (nI t)), some (zi (nI x))] [] (OM X 1 0 ρ l) Q := by
  refine Ew.ld f168_223 rfl rfl rfl rfl ?_
  refine Ew.op (st' := zr (some (1, 0, 0)) :: zr (some (1, 0, 0)) :: _) f168_224 rfl rfl ?_
  refine Ew.getiV (v := nI a) f168_225 rfl (so_v e3) rfl ?_
  refine Ew.op (st' := zi (nI 1) :: _) f168_228 rfl rfl ?_
  refine Ew.addn f168_229 rfl ?_
  refine Ew.putiO f168_230 rfl rfl ?_
  refine Ew.goto f168_233 rfl ?_
  refine Ew.goto f168_242 rfl ?_
  exact h1
theorem g168_145 {d c s : Nat} {t x : Nat} {X : zM} {ρ : Nat → Nat → Int32} {l : Nat → Nat → Int64} {Q : Option zV → zM → Prop}
    (h1 : Ev d c s 168 84 [some (zr (some (1, 0, 0))), some (zi (nI t)), some (zi (nI x))] [] (OM X 1 0 ρ l) Q) : Ev d c s 168 145 [some (zr (some (1, 0, 0))), some (zi (nI t)), some (zi (nI x))] [] (OM X 1 0 ρ l) Q := by
  refine Ew.goto f168_145 rfl ?_
  refine Ew.goto f168_242 rfl ?_
  exact h1
theorem g168_162 {d c s : Nat} {t x : Nat} {X : zM} {ρ : Nat → Nat → Int32} {l : Nat → Nat → Int64} {Q : Option zV → zM → Prop}
    (h1 : Ev d c s 168 84 [some (zr (some (1, 0, 0))), some (zi (nI t)), some (zi (nI x))] [] (OM X 1 0 ρ l) Q) : Ev d c s 168 162 [some (zr (some (1, 0, 0))), some (zi (nI t)), some (zi (nI x))] [] (OM X 1 0 ρ l) Q := by
  refine Ew.goto f168_162 rfl ?_
  refine Ew.goto f168_242 rfl ?_
  exact h1
theorem g168_242 {d c s : Nat} {t x : Nat} {X : zM} {ρ : Nat → Nat → Int32} {l : Nat → Nat → Int64} {Q : Option zV → zM → Prop}
    (h1 : Ev d c s 168 84 [some (zr (some (1, 0, 0))), some (zi (nI t)), some (zi (nI x))] [] (OM X 1 0 ρ l) Q) : Ev d c s 168 242 [some (zr (some (1, 0, 0))), some (zi (nI t)), some (zi (nI x))] [] (OM X 1 0 ρ l) Q := by
  refine Ew.goto f168_242 rfl ?_
  exact h1
/-- so many letters are done -/
def mRch (L : List Nat) (G : Nat) : Nat → mC → mC → Prop
  | 0, x, y => x = y
  | n + 1, x, y => mGo L x ∧ mPre L x ∧ mRch L G n (mStep L G x) y
theorem mRch.trans {L : List Nat} {G : Nat} : ∀ {n : Nat} {x y z : mC} {m : Nat}, mRch L G n x y → mRch L G m y z → mRch L G (n + m) x z := by
  intro n
  induction n with
  | zero =>
    intro x y z m h h'
    have h : x = y := h
    subst h
    rw [Nat.zero_add]
    exact h'
  | succ n ih =>
    intro x y z m h h'
    rw [Nat.add_right_comm]
    exact ⟨h.1, h.2.1, ih h.2.2 h'⟩
theorem L0 {L : List Nat} (h32 : ∀ x, x ∈ L → 32 < x ∧ x < 127) {k : Nat} : L.getD k 0 = 0 ↔ L.length ≤ k := by
  rw [List.getD_eq_getElem?_getD]
  by_cases hk : k < L.length
  · rw [List.getElem?_eq_getElem hk]
    have := h32 _ (List.getElem_mem hk)
    show L[k] = 0 ↔ _
    omega
  · rw [List.getElem?_eq_none (by omega)]
    exact ⟨fun _ => by omega, fun _ => rfl⟩
theorem sp_mstep {d c s t G : Nat} {L : List Nat} {X : zM} {ρ0 : Nat → Nat → Int32} {l : Nat → Nat → Int64} {Q : Option zV → zM → Prop} (ht : t < 4) (hL : tTxt ρ0 t L) (h32 : ∀ x, x ∈ L → 32 < x ∧ x < 127) (hG : ρ0 1 0 = nI G) (hG64 : G < 64) {x : mC} {ρ : Nat → Nat → Int32} {o2 : Option zV} (h : mR ρ0 t ρ x) (hgo : mGo L x) (hp : mPre L x) (k : ∀ ρ' o2, mR ρ0 t ρ' (mStep L G x) → Ev (d + 4) c s 168 84 [some (zr (some (1, 0, 0))), some (zi (nI t)), o2] [] (OM X 1 0 ρ' l) Q) : Ev (d + 4) c s 168 84 [some (zr (some (1, 0, 0))), some (zi (nI t)), o2] [] (OM X 1 0 ρ l) Q := by
  obtain ⟨s1, st, a, w⟩ := x
  have h127 : ∀ x, x ∈ L → x < 127 := fun x hx => (h32 x hx).2
  obtain ⟨g1, g2, g3⟩ := hgo
  obtain ⟨hc, hf, hn, q1, q2, q3⟩ := hp
  have g1 : s1.2.1 10 = 0 := g1
  have g2 : w.1 = 0 := g2
  have g3 : a < L.length := g3
  have h60 := hL.2.1
  have hT := tTxt_mR h hL
  have e31 : ρ 0 31 = nI a := h.2.2.2.2.1.1
  have hne : ¬ L.getD a 0 = 0 := fun e => by have := (L0 h32).mp e; omega
  have hx := L127 h127 a
  have hneI : ¬ nI (L.getD a 0) = 0 := nI_ne0 (by omega) (by omega)
  refine g168_84 (u := 0) (w := 0) (a := a) (h.2.1.2.2.2.2.2.trans (congrArg nI g1)) (h.2.2.2.2.1.2.1.trans (congrArg nI g2)) e31 (by decide) (by decide) (fun g => absurd rfl g) (fun _ => ht) (fun _ g => absurd rfl g) (fun _ _ => ht) (fun _ _ => hT) (fun _ _ => by omega) (fun _ _ e => absurd e hneI) (fun _ _ _ => ht) (fun _ _ _ => hT) (fun _ _ _ => by omega) (fun _ _ _ => ?_)
  have k : ∀ ρ' o2, mR ρ0 t ρ' (if 97 ≤ L.getD a 0 ∧ L.getD a 0 ≤ 102 then mVis L G a (L.getD a 0 - 97) s1 st w else if L.getD a 0 = 33 then mBrk L (2, -4) st s1 a w else if L.getD a 0 = 91 then (s1, (1, a, 0, s1.2.2.length) :: st, a + 1, w) else if 50 ≤ L.getD a 0 ∧ L.getD a 0 ≤ 53 then (s1, (2, a + 1, L.getD a 0 - 48, s1.2.2.length) :: st, a + 2, w) else mShuts (L.getD a 0) s1 st a w) → Ev (d + 4) c s 168 84 [some (zr (some (1, 0, 0))), some (zi (nI t)), o2] [] (OM X 1 0 ρ' l) Q := k
  have q1 : 97 ≤ L.getD a 0 → L.getD a 0 ≤ 102 → (L.getD (a + 1) 0 = 40 → st.length < 6) ∧ (¬ L.getD (a + 1) 0 = 40 → 48 ≤ L.getD (a + 2) 0) := q1
  have q2 : L.getD a 0 = 91 ∨ (50 ≤ L.getD a 0 ∧ L.getD a 0 ≤ 53) → st.length < 6 := q2
  have q3 : ¬ (97 ≤ L.getD a 0 ∧ L.getD a 0 ≤ 102) → ¬ L.getD a 0 = 33 → ¬ L.getD a 0 = 91 → ¬ (50 ≤ L.getD a 0 ∧ L.getD a 0 ≤ 53) → ∃ f u, st = f :: u ∧ (L.getD a 0 = 41 → f.1 = 0) ∧ (¬ L.getD a 0 = 41 → ¬ L.getD a 0 = 93 → f.1 = 2) := q3
  have i1 := zinN (x := L.getD a 0) (a := 97) (b := 102) (by omega) (by decide) (by decide)
  have i2 := zinN (x := L.getD a 0) (a := 50) (b := 53) (by omega) (by decide) (by decide)
  refine g168_122 e31 (by omega) (fun e1 => ?_) (fun e1 e2 e3 e4 => ?_) (fun e1 e2 e3 e4 => ?_) (fun e1 e2 e3 => ?_) (fun e1 e2 => ?_)
  · have e1 := i1.mp e1
    rw [if_pos e1] at k
    rw [pk_sub e1.1]
    obtain ⟨p1, p2⟩ := q1 e1.1 e1.2
    exact sp_visits ht hL h127 hG hG64 (by omega) h (by omega) g1 hc hf hn p1 p2 (fun ρ1 h1 => g168_145 (k ρ1 _ h1))
  · have e1 : ¬ (97 ≤ L.getD a 0 ∧ L.getD a 0 ≤ 102) := fun e => e1 (i1.mpr e)
    have e4 := i2.mp e4
    rw [if_neg e1, if_neg e2, if_neg e3, if_pos e4] at k
    rw [pk_sub (by omega)]
    refine sp_opens (h.at (a + 1)) (q2 (Or.inr e4)) (fun ρ1 h1 => ?_)
    exact g168_223 (a := a + 1) h1.2.2.2.2.1.1 (k _ _ (h1.at (a + 2)))
  · have e1 : ¬ (97 ≤ L.getD a 0 ∧ L.getD a 0 ≤ 102) := fun e => e1 (i1.mpr e)
    have e4 : ¬ (50 ≤ L.getD a 0 ∧ L.getD a 0 ≤ 53) := fun e => e4 (i2.mpr e)
    rw [if_neg e1, if_neg e2, if_neg e3, if_neg e4] at k
    obtain ⟨f, u, rfl, f1, f2⟩ := q3 e1 e2 e3 e4
    exact sp_shuts ht h (by omega) hc (hf f List.mem_cons_self) f1 f2 (fun ρ1 h1 => g168_242 (k _ _ h1))
  · have e1 : ¬ (97 ≤ L.getD a 0 ∧ L.getD a 0 ≤ 102) := fun e => e1 (i1.mpr e)
    rw [if_neg e1, if_neg e2, if_pos e3] at k
    refine sp_opens h (q2 (Or.inl e3)) (fun ρ1 h1 => ?_)
    exact g168_177 (a := a) h1.2.2.2.2.1.1 (k _ _ (h1.at (a + 1)))
  · have e1 : ¬ (97 ≤ L.getD a 0 ∧ L.getD a 0 ≤ 102) := fun e => e1 (i1.mpr e)
    rw [if_neg e1, if_pos e2] at k
    exact sp_breaks ht hL h127 h hc hf (fun ρ1 h1 => g168_162 (k _ _ h1))
theorem sp_mloop {d c s t G : Nat} {L : List Nat} {X : zM} {ρ0 : Nat → Nat → Int32} {l : Nat → Nat → Int64} {Q : Option zV → zM → Prop} (ht : t < 4) (hL : tTxt ρ0 t L) (h32 : ∀ x, x ∈ L → 32 < x ∧ x < 127) (hG : ρ0 1 0 = nI G) (hG64 : G < 64) {y : mC} (hy : ¬ mGo L y) (hy1 : y.1.2.1 10 ≤ 1) (hy2 : y.2.2.2.1 ≤ 3) (hy3 : y.2.2.1 ≤ 1000) (k : ∀ ρ', mR ρ0 t ρ' y → Q none (OM X 1 0 ρ' l)) : ∀ (n : Nat) (x : mC) (ρ : Nat → Nat → Int32) (o2 : Option zV), mRch L G n x y → mR ρ0 t ρ x → Ev (d + 4) c s 168 84 [some (zr (some (1, 0, 0))), some (zi (nI t)), o2] [] (OM X 1 0 ρ l) Q := by
  intro n
  induction n with
  | zero =>
    intro x ρ o2 hr h
    have hr : x = y := hr
    subst hr
    have hT := tTxt_mR h hL
    have hlt : L.getD x.2.2.1 0 < 127 := L127 (fun x hx => (h32 x hx).2) _
    refine g168_84 (u := x.1.2.1 10) (w := x.2.2.2.1) (a := x.2.2.1) (L := L) h.2.1.2.2.2.2.2 h.2.2.2.2.1.2.1 h.2.2.2.2.1.1 (by omega) (by omega) (fun _ => k ρ h) (fun _ => ht) (fun _ _ => k ρ h) (fun _ _ => ht) (fun _ _ => hT) (fun _ _ => by omega) (fun _ _ _ => k ρ h) (fun _ _ _ => ht) (fun _ _ _ => hT) (fun _ _ _ => by omega) (fun e1 e2 e3 => ?_)
    exfalso
    refine hy ⟨e1, e2, ?_⟩
    refine Nat.lt_of_not_le fun hle => e3 ?_
    rw [(L0 h32).mpr hle]
    rfl
  | succ n ih =>
    intro x ρ o2 hr h
    exact sp_mstep ht hL h32 hG hG64 h hr.1 hr.2.1 (fun ρ1 o1 h1 => ih _ ρ1 o1 hr.2.2 h1)
def mX0 : mC := (pS0, [], 0, (0, -4))
theorem sp_laysTrace {d c s t G n : Nat} {L : List Nat} {X : zM} {ρ : Nat → Nat → Int32} {l : Nat → Nat → Int64} {Q : Option zV → zM → Prop} (ht : t < 4) (hL : tTxt ρ t L) (h32 : ∀ x, x ∈ L → 32 < x ∧ x < 127) (hG : ρ 1 0 = nI G) (hG64 : G < 64) (h21 : ρ 0 21 = nI 0) {y : mC} (hr : mRch L G n mX0 y) (hy : ¬ mGo L y) (hy1 : y.1.2.1 10 ≤ 1) (hy2 : y.2.2.2.1 ≤ 3) (hy3 : y.2.2.1 ≤ 1000) (k : ∀ ρ', mR ρ t ρ' y → Q none (OM X 1 0 ρ' l)) : Ev (d + 4) c s 168 0 [some (zr (some (1, 0, 0))), some (zi (nI t)), none] [] (OM X 1 0 ρ l) Q := by
  refine g168_0 ht ht ht ht ht ht ?_
  have key : ∀ j i (ρ1 : Nat → Nat → Int32), i + j = 6 → (∀ q i, ¬ mScr t q i → ρ1 q i = ρ q i) → ρ1 13 t = nI 0 → ρ1 14 t = nI 0 → ρ1 15 t = -4 → ρ1 16 t = nI 0 → ρ1 17 t = nI 0 → ρ1 18 t = nI 0 → ρ1 0 26 = nI 0 → ρ1 0 29 = nI 0 → ρ1 0 32 = nI 0 → ρ1 0 31 = nI 0 → ρ1 0 21 = nI 0 → (∀ g, g < i → ρ1 25 g = nI 0) → Ev (d + 4) c s 168 65 [some (zr (some (1, 0, 0))), some (zi (nI t)), some (zi (nI i))] [] (OM X 1 0 ρ1 l) Q := by
    intro j
    induction j with
    | zero =>
      intro i ρ1 hi hfr e13 e14 e15 e16 e17 e18 e26 e29 e32 e31 e21 e25
      refine g168_65 (by omega) (fun _ => ?_) (fun g => by omega) (fun g => by omega)
      exact sp_mloop ht hL h32 hG hG64 hy hy1 hy2 hy3 k n mX0 ρ1 _ hr ⟨⟨e13, by decide, fun k hk => absurd hk (Nat.not_lt_zero k)⟩, ⟨fun g hg => e25 g (by omega), e32, e18, e17, e16, e21⟩, ⟨e29, by decide, trivial⟩, ⟨e26, by decide, trivial⟩, ⟨e31, e14, e15⟩, hfr⟩
    | succ j ih =>
      intro i ρ1 hi hfr e13 e14 e15 e16 e17 e18 e26 e29 e32 e31 e21 e25
      refine g168_65 (by omega) (fun g => by omega) (fun g => g) (fun g => ih (i + 1) _ (by omega) (fun q i' hq => ?_) ?_ ?_ ?_ ?_ ?_ ?_ ?_ ?_ ?_ ?_ ?_ (fun g' hg' => ?_))
      · rw [zu_i_ne (by unfold mScr at hq; omega)]; exact hfr q i' hq
      all_goals first
        | (rw [zu_i_ne (by omega)]; assumption)
        | (by_cases e : g' = i
           · subst e; exact zu_s _ _ _ _
           · rw [zu_i_ne (by omega)]; exact e25 g' (by omega))
  refine key 6 0 _ (by decide) (fun q i hq => ?_) ?_ ?_ ?_ ?_ ?_ ?_ ?_ ?_ ?_ ?_ ?_ (fun g hg => absurd hg (Nat.not_lt_zero g))
  · unfold mScr at hq
    rw [zu_i_ne (by omega), zu_i_ne (by omega), zu_i_ne (by omega), zu_i_ne (by omega), zu_i_ne (by omega), zu_i_ne (by omega), zu_i_ne (by omega), zu_i_ne (by omega), zu_i_ne (by omega), zu_i_ne (by omega)]
  all_goals ((repeat rw [zu_i_ne (by omega)]); first | exact zu_s _ _ _ _ | assumption | done)
