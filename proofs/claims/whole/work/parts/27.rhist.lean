/-! the reference: rows kept, the draw, laying -/
theorem zw_uq (ρ : Nat → Nat → Int32) (w : Nat → Int32) {q : Nat} (h : ¬ q = 1) {n : Nat} {v : Int32} : zu (zw ρ w) q n v = zw (zu ρ q n v) w := by
  have e : zw ρ w q = ρ q := zup_n _ _ h
  unfold zu
  rw [e]
  unfold zw
  funext i
  by_cases h1 : i = 1
  · subst h1
    rw [zup_n _ _ (fun g => h g.symm), zup_s, zup_s]
  · rw [zup_n _ _ h1]
    by_cases h2 : i = q
    · subst h2; rw [zup_s, zup_s]
    · rw [zup_n _ _ h2, zup_n _ _ h2, zup_n _ _ h1]
/-- the first n places of one, the rest of another -/
def zcp (f g : Nat → Int32) (n : Nat) : Nat → Int32 := fun i => if i < n then f i else g i
theorem zcp_0 (f g : Nat → Int32) : zcp f g 0 = g := by
  funext i
  simp [zcp]
theorem zcp_s (f g : Nat → Int32) (n : Nat) : zup (zcp f g n) n (f n) = zcp f g (n + 1) := by
  funext i
  unfold zup zcp
  by_cases h : i = n
  · subst h
    simp
  · rw [if_neg h]
    by_cases h2 : i < n
    · rw [if_pos h2, if_pos (by omega)]
    · rw [if_neg h2, if_neg (by omega)]
theorem g174_0 {d c s : Nat} {w : Nat → Int32} {X : zM} {ρ : Nat → Nat → Int32} {l : Nat → Nat → Int64} {Q : Option zV → zM → Prop}
    (h1 : Ev d c s 174 2 [some (zr (some (1, 0, 0))), some (zi (nI 0))] [] (OM X 1 0 (zw ρ w) l) Q) : Ev d c s 174 0 [some (zr (some (1, 0, 0))), none] [] (OM X 1 0 (zw ρ w) l) Q := by
  refine Ew.op (st' := zi (nI 0) :: _) f174_0 rfl rfl ?_
  refine Ew.sr (ls' := [some (zr (some (1, 0, 0))), some (zi (nI 0))]) f174_1 rfl rfl (Nat.le_of_ble_eq_true rfl) rfl rfl ?_
  exact h1
theorem g174_2 {d c s : Nat} {k : Nat} {w : Nat → Int32} {X : zM} {ρ : Nat → Nat → Int32} {l : Nat → Nat → Int64} {Q : Option zV → zM → Prop} (nb_k : k < 5000)
    (h1 : (270 ≤ k) → Q none (OM X 1 0 (zw ρ w) l))
    (b1 : (k < 270) → k < 270)
    (b2 : (k < 270) → k < 270)
    (h2 : (k < 270) → Ev d c s 174 2 [some (zr (some (1, 0, 0))), some (zi (nI (k + 1)))] [] (OM X 1 0 (zw (zu ρ 26 k (w k)) w) l) Q) : Ev d c s 174 2 [some (zr (some (1, 0, 0))), some (zi (nI k))] [] (OM X 1 0 (zw ρ w) l) Q := by
  refine Ew.ld f174_2 rfl rfl rfl rfl ?_
  refine Ew.op (st' := zi (nI 270) :: _) f174_3 rfl rfl ?_
  refine Ew.icmp f174_6 rfl rfl (fun c1 => ?_) (fun c1 => ?_)
  · refine Ew.vret f174_27 ?_
    exact h1 ((zle_iff (by decide) nb_k).mp c1)
  · refine Ew.ld f174_9 rfl rfl rfl rfl ?_
    refine Ew.getp (v := some (1, 0, 26)) f174_10 rfl rfl rfl ?_
    refine Ew.ld f174_13 rfl rfl rfl rfl ?_
    refine Ew.ld f174_14 rfl rfl rfl rfl ?_
    refine Ew.getp (v := some (1, 0, 1)) f174_15 rfl rfl rfl ?_
    refine Ew.ld f174_18 rfl rfl rfl rfl ?_
    refine Ew.ialdnO f174_19 rfl (b1 (Nat.not_le.mp fun e => c1 ((zle_iff (by decide) nb_k).mpr e))) (Nat.le_of_ble_eq_true rfl) rfl ?_
    refine Ew.iastnO f174_20 (by decide) rfl (b2 (Nat.not_le.mp fun e => c1 ((zle_iff (by decide) nb_k).mpr e))) (Nat.le_of_ble_eq_true rfl) rfl ?_
    rw [zw_uq _ _ (by decide)]
    refine Ew.iinc (v := nI (k + 1)) (ls' := [some (zr (some (1, 0, 0))), some (zi (nI (k + 1)))]) f174_21 rfl (nI_1 _) rfl rfl ?_
    refine Ew.goto f174_24 rfl ?_
    exact h2 (Nat.not_le.mp fun e => c1 ((zle_iff (by decide) nb_k).mpr e))
theorem sp_holds {d c s : Nat} {w : Nat → Int32} {X : zM} {ρ : Nat → Nat → Int32} {l : Nat → Nat → Int64} {Q : Option zV → zM → Prop} (k : Q none (OM X 1 0 (zw (zup ρ 26 (zcp w (ρ 26) 270)) w) l)) : Ev d c s 174 0 [some (zr (some (1, 0, 0))), none] [] (OM X 1 0 (zw ρ w) l) Q := by
  refine g174_0 ?_
  have h0 : zup ρ 26 (zcp w (ρ 26) 0) = ρ := by rw [zcp_0]; exact zup_id ρ 26
  rw [← h0]
  refine loopN (fun n => Ev d c s 174 2 [some (zr (some (1, 0, 0))), some (zi (nI n))] [] (OM X 1 0 (zw (zup ρ 26 (zcp w (ρ 26) n)) w) l) Q) 270 (fun n hn hE => ?_) ?_
  · refine g174_2 (by omega) (fun h => by omega) (fun _ => by omega) (fun _ => by omega) (fun _ => ?_)
    have e : zu (zup ρ 26 (zcp w (ρ 26) n)) 26 n (w n) = zup ρ 26 (zcp w (ρ 26) (n + 1)) := by
      unfold zu
      rw [zup_s, zup_zup, zcp_s]
    rw [e]
    exact hE
  · refine g174_2 (by omega) (fun _ => k) (fun h => by omega) (fun h => by omega) (fun h => by omega)
theorem g176_0 {d c s : Nat} {w : Nat → Int32} {X : zM} {ρ : Nat → Nat → Int32} {l : Nat → Nat → Int64} {Q : Option zV → zM → Prop}
    (h1 : Ev d c s 176 2 [some (zr (some (1, 0, 0))), some (zi (nI 0))] [] (OM X 1 0 (zw ρ w) l) Q) : Ev d c s 176 0 [some (zr (some (1, 0, 0))), none] [] (OM X 1 0 (zw ρ w) l) Q := by
  refine Ew.op (st' := zi (nI 0) :: _) f176_0 rfl rfl ?_
  refine Ew.sr (ls' := [some (zr (some (1, 0, 0))), some (zi (nI 0))]) f176_1 rfl rfl (Nat.le_of_ble_eq_true rfl) rfl rfl ?_
  exact h1
theorem g176_2 {d c s : Nat} {k : Nat} {w : Nat → Int32} {X : zM} {ρ : Nat → Nat → Int32} {l : Nat → Nat → Int64} {Q : Option zV → zM → Prop} (nb_k : k < 5000)
    (h1 : (270 ≤ k) → Q none (OM X 1 0 (zw ρ w) l))
    (b1 : (k < 270) → k < 270)
    (b2 : (k < 270) → k < 270)
    (h2 : (k < 270) → Ev d c s 176 2 [some (zr (some (1, 0, 0))), some (zi (nI (k + 1)))] [] (OM X 1 0 (zw ρ (zup w k (ρ 26 k))) l) Q) : Ev d c s 176 2 [some (zr (some (1, 0, 0))), some (zi (nI k))] [] (OM X 1 0 (zw ρ w) l) Q := by
  refine Ew.ld f176_2 rfl rfl rfl rfl ?_
  refine Ew.op (st' := zi (nI 270) :: _) f176_3 rfl rfl ?_
  refine Ew.icmp f176_6 rfl rfl (fun c1 => ?_) (fun c1 => ?_)
  · refine Ew.vret f176_27 ?_
    exact h1 ((zle_iff (by decide) nb_k).mp c1)
  · refine Ew.ld f176_9 rfl rfl rfl rfl ?_
    refine Ew.getp (v := some (1, 0, 1)) f176_10 rfl rfl rfl ?_
    refine Ew.ld f176_13 rfl rfl rfl rfl ?_
    refine Ew.ld f176_14 rfl rfl rfl rfl ?_
    refine Ew.getp (v := some (1, 0, 26)) f176_15 rfl rfl rfl ?_
    refine Ew.ld f176_18 rfl rfl rfl rfl ?_
    refine Ew.ialdnO f176_19 rfl (b1 (Nat.not_le.mp fun e => c1 ((zle_iff (by decide) nb_k).mpr e))) (Nat.le_of_ble_eq_true rfl) rfl ?_
    refine Ew.iastnO f176_20 (by decide) rfl (b2 (Nat.not_le.mp fun e => c1 ((zle_iff (by decide) nb_k).mpr e))) (Nat.le_of_ble_eq_true rfl) rfl ?_
    rw [zw_up]
    refine Ew.iinc (v := nI (k + 1)) (ls' := [some (zr (some (1, 0, 0))), some (zi (nI (k + 1)))]) f176_21 rfl (nI_1 _) rfl rfl ?_
    refine Ew.goto f176_24 rfl ?_
    exact h2 (Nat.not_le.mp fun e => c1 ((zle_iff (by decide) nb_k).mpr e))
theorem sp_returns {d c s : Nat} {w : Nat → Int32} {X : zM} {ρ : Nat → Nat → Int32} {l : Nat → Nat → Int64} {Q : Option zV → zM → Prop} (k : Q none (OM X 1 0 (zw ρ (zcp (ρ 26) w 270)) l)) : Ev d c s 176 0 [some (zr (some (1, 0, 0))), none] [] (OM X 1 0 (zw ρ w) l) Q := by
  refine g176_0 ?_
  have h0 : zcp (ρ 26) w 0 = w := zcp_0 _ _
  rw [← h0]
  refine loopN (fun n => Ev d c s 176 2 [some (zr (some (1, 0, 0))), some (zi (nI n))] [] (OM X 1 0 (zw ρ (zcp (ρ 26) w n)) l) Q) 270 (fun n hn hE => ?_) ?_
  · refine g176_2 (by omega) (fun h => by omega) (fun _ => by omega) (fun _ => by omega) (fun _ => ?_)
    rw [zcp_s]
    exact hE
  · rw [h0]
    refine g176_2 (by omega) (fun _ => k) (fun h => by omega) (fun h => by omega) (fun h => by omega)
/-- what is kept grows by a row: the shift, then the row -/
def rShL (p : Nat → Int32) (n : Nat) : Nat → Int32 := fun i => if i < n then p (i + 270) else p i
def rPutL (p f : Nat → Int32) (a n : Nat) : Nat → Int32 := fun i => if 270 * a ≤ i ∧ i < 270 * a + n then f (i - 270 * a) else p i
theorem rShL_s (p : Nat → Int32) (n : Nat) : zup (rShL p n) n (rShL p n (n + 270)) = rShL p (n + 1) := by
  funext i
  unfold zup rShL
  by_cases h : i = n
  · subst h
    rw [if_pos rfl, if_neg (by omega), if_pos (by omega)]
  · rw [if_neg h]
    by_cases h2 : i < n
    · rw [if_pos h2, if_pos (by omega)]
    · rw [if_neg h2, if_neg (by omega)]
theorem rShL_0 (p : Nat → Int32) : rShL p 0 = p := by
  funext i
  simp [rShL]
theorem rPutL_0 (p f : Nat → Int32) (a : Nat) : rPutL p f a 0 = p := by
  funext i
  unfold rPutL
  rw [if_neg (by omega)]
theorem rPutL_s (p f : Nat → Int32) (a n : Nat) : zup (rPutL p f a n) (270 * a + n) (f n) = rPutL p f a (n + 1) := by
  funext i
  unfold zup rPutL
  by_cases h : i = 270 * a + n
  · subst h
    rw [if_pos rfl, if_pos (by omega)]
    congr 1
    omega
  · rw [if_neg h]
    by_cases h2 : 270 * a ≤ i ∧ i < 270 * a + n
    · rw [if_pos h2, if_pos (by omega)]
    · rw [if_neg h2, if_neg (by omega)]
/-- the memory behind 'notes', a rows being kept -/
def rNotesA (ρ : Nat → Nat → Int32) (a : Nat) : Nat → Nat → Int32 := if a = 6 then zu (zup (zu ρ 0 2 (nI 5)) 2 (rPutL (rShL (ρ 2) 1350) (ρ 26) 5 270)) 0 2 (nI 6) else zu (zup ρ 2 (rPutL (ρ 2) (ρ 26) a 270)) 0 2 (nI (a + 1))
theorem g175_0 {d c s : Nat} {a : Nat} {w : Nat → Int32} {X : zM} {ρ : Nat → Nat → Int32} {l : Nat → Nat → Int64} {Q : Option zV → zM → Prop} (ha : ρ 0 2 = nI a) (nb_a : a < 5000)
    (h1 : (¬ a = 6) → Ev d c s 175 47 [some (zr (some (1, 0, 0))), some (zi (nI 0))] [] (OM X 1 0 (zw ρ w) l) Q)
    (h2 : (a = 6) → Ev d c s 175 11 [some (zr (some (1, 0, 0))), some (zi (nI 0))] [] (OM X 1 0 (zw ρ w) l) Q) : Ev d c s 175 0 [some (zr (some (1, 0, 0))), none] [] (OM X 1 0 (zw ρ w) l) Q := by
  refine Ew.ld f175_0 rfl rfl rfl rfl ?_
  refine Ew.getiV (v := nI a) f175_1 rfl (so_v ha) rfl ?_
  refine Ew.op (st' := zi (nI 6) :: _) f175_4 rfl rfl ?_
  refine Ew.icmp f175_6 rfl rfl (fun c1 => ?_) (fun c1 => ?_)
  · refine Ew.op (st' := zi (nI 0) :: _) f175_45 rfl rfl ?_
    refine Ew.sr (ls' := [some (zr (some (1, 0, 0))), some (zi (nI 0))]) f175_46 rfl rfl (Nat.le_of_ble_eq_true rfl) rfl rfl ?_
    exact h1 (fun e => c1 ((zeq nb_a (by decide)).mpr e))
  · refine Ew.op (st' := zi (nI 0) :: _) f175_9 rfl rfl ?_
    refine Ew.sr (ls' := [some (zr (some (1, 0, 0))), some (zi (nI 0))]) f175_10 rfl rfl (Nat.le_of_ble_eq_true rfl) rfl rfl ?_
    exact h2 ((zeq nb_a (by decide)).mp (Classical.not_not.mp c1))
theorem g175_11 {d c s : Nat} {k : Nat} {w : Nat → Int32} {X : zM} {ρ : Nat → Nat → Int32} {l : Nat → Nat → Int64} {Q : Option zV → zM → Prop} (nb_k : k < 5000)
    (h1 : (1350 ≤ k) → Ev d c s 175 45 [some (zr (some (1, 0, 0))), some (zi (nI k))] [] (OM X 1 0 (zw (zu ρ 0 2 (nI 5)) w) l) Q)
    (b1 : (k < 1350) → k + 270 < 1620)
    (b2 : (k < 1350) → k < 1620)
    (h2 : (k < 1350) → Ev d c s 175 11 [some (zr (some (1, 0, 0))), some (zi (nI (k + 1)))] [] (OM X 1 0 (zw (zu ρ 2 k (ρ 2 (k + 270))) w) l) Q) : Ev d c s 175 11 [some (zr (some (1, 0, 0))), some (zi (nI k))] [] (OM X 1 0 (zw ρ w) l) Q := by
  refine Ew.ld f175_11 rfl rfl rfl rfl ?_
  refine Ew.op (st' := zi (nI 1350) :: _) f175_12 rfl rfl ?_
  refine Ew.icmp f175_15 rfl rfl (fun c1 => ?_) (fun c1 => ?_)
  · refine Ew.ld f175_40 rfl rfl rfl rfl ?_
    refine Ew.op (st' := zi (nI 5) :: _) f175_41 rfl rfl ?_
    refine Ew.putiO f175_42 rfl rfl ?_
    rw [zw_uq _ _ (by decide)]
    exact h1 ((zle_iff (by decide) nb_k).mp c1)
  · refine Ew.ld f175_18 rfl rfl rfl rfl ?_
    refine Ew.getp (v := some (1, 0, 2)) f175_19 rfl rfl rfl ?_
    refine Ew.ld f175_22 rfl rfl rfl rfl ?_
    refine Ew.ld f175_23 rfl rfl rfl rfl ?_
    refine Ew.getp (v := some (1, 0, 2)) f175_24 rfl rfl rfl ?_
    refine Ew.ld f175_27 rfl rfl rfl rfl ?_
    refine Ew.op (st' := zi (nI 270) :: _) f175_28 rfl rfl ?_
    refine Ew.addn f175_31 rfl ?_
    refine Ew.ialdnO f175_32 rfl (b1 (Nat.not_le.mp fun e => c1 ((zle_iff (by decide) nb_k).mpr e))) (Nat.le_of_ble_eq_true rfl) rfl ?_
    refine Ew.iastnO f175_33 (by decide) rfl (b2 (Nat.not_le.mp fun e => c1 ((zle_iff (by decide) nb_k).mpr e))) (Nat.le_of_ble_eq_true rfl) rfl ?_
    rw [zw_uq _ _ (by decide)]
    refine Ew.iinc (v := nI (k + 1)) (ls' := [some (zr (some (1, 0, 0))), some (zi (nI (k + 1)))]) f175_34 rfl (nI_1 _) rfl rfl ?_
    refine Ew.goto f175_37 rfl ?_
    exact h2 (Nat.not_le.mp fun e => c1 ((zle_iff (by decide) nb_k).mpr e))
theorem g175_45 {d c s : Nat} {w : Nat → Int32} {X : zM} {ρ : Nat → Nat → Int32} {l : Nat → Nat → Int64} {Q : Option zV → zM → Prop}
    (h1 : Ev d c s 175 47 [some (zr (some (1, 0, 0))), some (zi (nI 0))] [] (OM X 1 0 (zw ρ w) l) Q) : Ev d c s 175 45 [some (zr (some (1, 0, 0))), none] [] (OM X 1 0 (zw ρ w) l) Q := by
  refine Ew.op (st' := zi (nI 0) :: _) f175_45 rfl rfl ?_
  refine Ew.sr (ls' := [some (zr (some (1, 0, 0))), some (zi (nI 0))]) f175_46 rfl rfl (Nat.le_of_ble_eq_true rfl) rfl rfl ?_
  exact h1
theorem g175_45k {d c s : Nat} {k : Nat} {w : Nat → Int32} {X : zM} {ρ : Nat → Nat → Int32} {l : Nat → Nat → Int64} {Q : Option zV → zM → Prop}
    (h1 : Ev d c s 175 47 [some (zr (some (1, 0, 0))), some (zi (nI 0))] [] (OM X 1 0 (zw ρ w) l) Q) : Ev d c s 175 45 [some (zr (some (1, 0, 0))), some (zi (nI k))] [] (OM X 1 0 (zw ρ w) l) Q := by
  refine Ew.op (st' := zi (nI 0) :: _) f175_45 rfl rfl ?_
  refine Ew.sr (ls' := [some (zr (some (1, 0, 0))), some (zi (nI 0))]) f175_46 rfl rfl (Nat.le_of_ble_eq_true rfl) rfl rfl ?_
  exact h1
theorem g175_47 {d c s : Nat} {k a : Nat} {w : Nat → Int32} {X : zM} {ρ : Nat → Nat → Int32} {l : Nat → Nat → Int64} {Q : Option zV → zM → Prop} (ha : ρ 0 2 = nI a) (nb_k : k < 5000)
    (h1 : (270 ≤ k) → Q none (OM X 1 0 (zw (zu ρ 0 2 (nI (a + 1))) w) l))
    (b1 : (k < 270) → k < 270)
    (b2 : (k < 270) → 270 * a + k < 1620)
    (h2 : (k < 270) → Ev d c s 175 47 [some (zr (some (1, 0, 0))), some (zi (nI (k + 1)))] [] (OM X 1 0 (zw (zu ρ 2 (270 * a + k) (ρ 26 k)) w) l) Q) : Ev d c s 175 47 [some (zr (some (1, 0, 0))), some (zi (nI k))] [] (OM X 1 0 (zw ρ w) l) Q := by
  refine Ew.ld f175_47 rfl rfl rfl rfl ?_
  refine Ew.op (st' := zi (nI 270) :: _) f175_48 rfl rfl ?_
  refine Ew.icmp f175_51 rfl rfl (fun c1 => ?_) (fun c1 => ?_)
  · refine Ew.ld f175_81 rfl rfl rfl rfl ?_
    refine Ew.op (st' := zr (some (1, 0, 0)) :: zr (some (1, 0, 0)) :: _) f175_82 rfl rfl ?_
    refine Ew.getiV (v := nI a) f175_83 rfl (so_v ha) rfl ?_
    refine Ew.op (st' := zi (nI 1) :: _) f175_86 rfl rfl ?_
    refine Ew.addn f175_87 rfl ?_
    refine Ew.putiO f175_88 rfl rfl ?_
    rw [zw_uq _ _ (by decide)]
    refine Ew.vret f175_91 ?_
    exact h1 ((zle_iff (by decide) nb_k).mp c1)
  · refine Ew.ld f175_54 rfl rfl rfl rfl ?_
    refine Ew.getp (v := some (1, 0, 2)) f175_55 rfl rfl rfl ?_
    refine Ew.op (st' := zi (nI 270) :: _) f175_58 rfl rfl ?_
    refine Ew.ld f175_61 rfl rfl rfl rfl ?_
    refine Ew.getiV (v := nI a) f175_62 rfl (so_v ha) rfl ?_
    refine Ew.muln f175_65 rfl ?_
    refine Ew.ld f175_66 rfl rfl rfl rfl ?_
    refine Ew.addn f175_67 rfl ?_
    refine Ew.ld f175_68 rfl rfl rfl rfl ?_
    refine Ew.getp (v := some (1, 0, 26)) f175_69 rfl rfl rfl ?_
    refine Ew.ld f175_72 rfl rfl rfl rfl ?_
    refine Ew.ialdnO f175_73 rfl (b1 (Nat.not_le.mp fun e => c1 ((zle_iff (by decide) nb_k).mpr e))) (Nat.le_of_ble_eq_true rfl) rfl ?_
    refine Ew.iastnO f175_74 (by decide) rfl (b2 (Nat.not_le.mp fun e => c1 ((zle_iff (by decide) nb_k).mpr e))) (Nat.le_of_ble_eq_true rfl) rfl ?_
    rw [zw_uq _ _ (by decide)]
    refine Ew.iinc (v := nI (k + 1)) (ls' := [some (zr (some (1, 0, 0))), some (zi (nI (k + 1)))]) f175_75 rfl (nI_1 _) rfl rfl ?_
    refine Ew.goto f175_78 rfl ?_
    exact h2 (Nat.not_le.mp fun e => c1 ((zle_iff (by decide) nb_k).mpr e))
