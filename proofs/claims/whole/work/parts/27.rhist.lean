/-! the reference: rows kept, the draw, laying -/
theorem zw_uq (ρ : Nat → Nat → Int32) (w : Nat → Int32) {q : Nat} (h : ¬ q = 1) {n : Nat} {v : Int32} : zu (zw ρ w) q n v = zw (zu ρ q n v) w := by
  have e : zw ρ w q = ρ q := zup_n _ _ h
  unfold zu
  rw [e]
  unfold zw
  funext i
  by_cases h1 : i = 1
  · subst h1
    rw [zup_n _ _ (fun g => h g.symm), zup_s, zup_s]
  · rw [zup_n _ _ h1]
    by_cases h2 : i = q
    · subst h2; rw [zup_s, zup_s]
    · rw [zup_n _ _ h2, zup_n _ _ h2, zup_n _ _ h1]
/-- the first n places of one, the rest of another -/
def zcp (f g : Nat → Int32) (n : Nat) : Nat → Int32 := fun i => if i < n then f i else g i
theorem zcp_0 (f g : Nat → Int32) : zcp f g 0 = g := by
  funext i
  simp [zcp]
theorem zcp_s (f g : Nat → Int32) (n : Nat) : zup (zcp f g n) n (f n) = zcp f g (n + 1) := by
  funext i
  unfold zup zcp
  by_cases h : i = n
  · subst h
    simp
  · rw [if_neg h]
    by_cases h2 : i < n
    · rw [if_pos h2, if_pos (by omega)]
    · rw [if_neg h2, if_neg (by omega)]
theorem g174_0 {d c s : Nat} {w : Nat → Int32} {X : zM} {ρ : Nat → Nat → Int32} {l : Nat → Nat → Int64} {Q : Option zV → zM → Prop}
    (h1 : Ev d c s 174 2 [some (zr (some (1, 0, 0))), some (zi (nI 0))] [] (OM X 1 0 (zw ρ w) l) Q) : Ev d c s 174 0 [some (zr (some (1, 0, 0))), none] [] (OM X 1 0 (zw ρ w) l) Q := by
  refine Ew.op (st' := zi (nI 0) :: _) f174_0 rfl rfl ?_
  refine Ew.sr (ls' := [some (zr (some (1, 0, 0))), some (zi (nI 0))]) f174_1 rfl rfl (Nat.le_of_ble_eq_true rfl) rfl rfl ?_
  exact h1
theorem g174_2 {d c s : Nat} {k : Nat} {w : Nat → Int32} {X : zM} {ρ : Nat → Nat → Int32} {l : Nat → Nat → Int64} {Q : Option zV → zM → Prop} (nb_k : k < 5000)
    (h1 : (270 ≤ k) → Q none (OM X 1 0 (zw ρ w) l))
    (b1 : (k < 270) → k < 270)
    (b2 : (k < 270) → k < 270)
    (h2 : (k < 270) → Ev d c s 174 2 [some (zr (some (1, 0, 0))), some (zi (nI (k + 1)))] [] (OM X 1 0 (zw (zu ρ 26 k (w k)) w) l) Q) : Ev d c s 174 2 [some (zr (some (1, 0, 0))), some (zi (nI k))] [] (OM X 1 0 (zw ρ w) l) Q := by
  refine Ew.ld f174_2 rfl rfl rfl rfl ?_
  refine Ew.op (st' := zi (nI 270) :: _) f174_3 rfl rfl ?_
  refine Ew.icmp f174_6 rfl rfl (fun c1 => ?_) (fun c1 => ?_)
  · refine Ew.vret f174_27 ?_
    exact h1 ((zle_iff (by decide) nb_k).mp c1)
  · refine Ew.ld f174_9 rfl rfl rfl rfl ?_
    refine Ew.getp (v := some (1, 0, 26)) f174_10 rfl rfl rfl ?_
    refine Ew.ld f174_13 rfl rfl rfl rfl ?_
    refine Ew.ld f174_14 rfl rfl rfl rfl ?_
    refine Ew.getp (v := some (1, 0, 1)) f174_15 rfl rfl rfl ?_
    refine Ew.ld f174_18 rfl rfl rfl rfl ?_
    refine Ew.ialdnO f174_19 rfl (b1 (Nat.not_le.mp fun e => c1 ((zle_iff (by decide) nb_k).mpr e))) (Nat.le_of_ble_eq_true rfl) rfl ?_
    refine Ew.iastnO f174_20 (by decide) rfl (b2 (Nat.not_le.mp fun e => c1 ((zle_iff (by decide) nb_k).mpr e))) (Nat.le_of_ble_eq_true rfl) rfl ?_
    rw [zw_uq _ _ (by decide)]
    refine Ew.iinc (v := nI (k + 1)) (ls' := [some (zr (some (1, 0, 0))), some (zi (nI (k + 1)))]) f174_21 rfl (nI_1 _) rfl rfl ?_
    refine Ew.goto f174_24 rfl ?_
    exact h2 (Nat.not_le.mp fun e => c1 ((zle_iff (by decide) nb_k).mpr e))
theorem sp_holds {d c s : Nat} {w : Nat → Int32} {X : zM} {ρ : Nat → Nat → Int32} {l : Nat → Nat → Int64} {Q : Option zV → zM → Prop} (k : Q none (OM X 1 0 (zw (zup ρ 26 (zcp w (ρ 26) 270)) w) l)) : Ev d c s 174 0 [some (zr (some (1, 0, 0))), none] [] (OM X 1 0 (zw ρ w) l) Q := by
  refine g174_0 ?_
  have h0 : zup ρ 26 (zcp w (ρ 26) 0) = ρ := by rw [zcp_0]; exact zup_id ρ 26
  rw [← h0]
  refine loopN (fun n => Ev d c s 174 2 [some (zr (some (1, 0, 0))), some (zi (nI n))] [] (OM X 1 0 (zw (zup ρ 26 (zcp w (ρ 26) n)) w) l) Q) 270 (fun n hn hE => ?_) ?_
  · refine g174_2 (by omega) (fun h => by omega) (fun _ => by omega) (fun _ => by omega) (fun _ => ?_)
    have e : zu (zup ρ 26 (zcp w (ρ 26) n)) 26 n (w n) = zup ρ 26 (zcp w (ρ 26) (n + 1)) := by
      unfold zu
      rw [zup_s, zup_zup, zcp_s]
    rw [e]
    exact hE
  · refine g174_2 (by omega) (fun _ => k) (fun h => by omega) (fun h => by omega) (fun h => by omega)
theorem g176_0 {d c s : Nat} {w : Nat → Int32} {X : zM} {ρ : Nat → Nat → Int32} {l : Nat → Nat → Int64} {Q : Option zV → zM → Prop}
    (h1 : Ev d c s 176 2 [some (zr (some (1, 0, 0))), some (zi (nI 0))] [] (OM X 1 0 (zw ρ w) l) Q) : Ev d c s 176 0 [some (zr (some (1, 0, 0))), none] [] (OM X 1 0 (zw ρ w) l) Q := by
  refine Ew.op (st' := zi (nI 0) :: _) f176_0 rfl rfl ?_
  refine Ew.sr (ls' := [some (zr (some (1, 0, 0))), some (zi (nI 0))]) f176_1 rfl rfl (Nat.le_of_ble_eq_true rfl) rfl rfl ?_
  exact h1
theorem g176_2 {d c s : Nat} {k : Nat} {w : Nat → Int32} {X : zM} {ρ : Nat → Nat → Int32} {l : Nat → Nat → Int64} {Q : Option zV → zM → Prop} (nb_k : k < 5000)
    (h1 : (270 ≤ k) → Q none (OM X 1 0 (zw ρ w) l))
    (b1 : (k < 270) → k < 270)
    (b2 : (k < 270) → k < 270)
    (h2 : (k < 270) → Ev d c s 176 2 [some (zr (some (1, 0, 0))), some (zi (nI (k + 1)))] [] (OM X 1 0 (zw ρ (zup w k (ρ 26 k))) l) Q) : Ev d c s 176 2 [some (zr (some (1, 0, 0))), some (zi (nI k))] [] (OM X 1 0 (zw ρ w) l) Q := by
  refine Ew.ld f176_2 rfl rfl rfl rfl ?_
  refine Ew.op (st' := zi (nI 270) :: _) f176_3 rfl rfl ?_
  refine Ew.icmp f176_6 rfl rfl (fun c1 => ?_) (fun c1 => ?_)
  · refine Ew.vret f176_27 ?_
    exact h1 ((zle_iff (by decide) nb_k).mp c1)
  · refine Ew.ld f176_9 rfl rfl rfl rfl ?_
    refine Ew.getp (v := some (1, 0, 1)) f176_10 rfl rfl rfl ?_
    refine Ew.ld f176_13 rfl rfl rfl rfl ?_
    refine Ew.ld f176_14 rfl rfl rfl rfl ?_
    refine Ew.getp (v := some (1, 0, 26)) f176_15 rfl rfl rfl ?_
    refine Ew.ld f176_18 rfl rfl rfl rfl ?_
    refine Ew.ialdnO f176_19 rfl (b1 (Nat.not_le.mp fun e => c1 ((zle_iff (by decide) nb_k).mpr e))) (Nat.le_of_ble_eq_true rfl) rfl ?_
    refine Ew.iastnO f176_20 (by decide) rfl (b2 (Nat.not_le.mp fun e => c1 ((zle_iff (by decide) nb_k).mpr e))) (Nat.le_of_ble_eq_true rfl) rfl ?_
    rw [zw_up]
    refine Ew.iinc (v := nI (k + 1)) (ls' := [some (zr (some (1, 0, 0))), some (zi (nI (k + 1)))]) f176_21 rfl (nI_1 _) rfl rfl ?_
    refine Ew.goto f176_24 rfl ?_
    exact h2 (Nat.not_le.mp fun e => c1 ((zle_iff (by decide) nb_k).mpr e))
theorem sp_returns {d c s : Nat} {w : Nat → Int32} {X : zM} {ρ : Nat → Nat → Int32} {l : Nat → Nat → Int64} {Q : Option zV → zM → Prop} (k : Q none (OM X 1 0 (zw ρ (zcp (ρ 26) w 270)) l)) : Ev d c s 176 0 [some (zr (some (1, 0, 0))), none] [] (OM X 1 0 (zw ρ w) l) Q := by
  refine g176_0 ?_
  have h0 : zcp (ρ 26) w 0 = w := zcp_0 _ _
  rw [← h0]
  refine loopN (fun n => Ev d c s 176 2 [some (zr (some (1, 0, 0))), some (zi (nI n))] [] (OM X 1 0 (zw ρ (zcp (ρ 26) w n)) l) Q) 270 (fun n hn hE => ?_) ?_
  · refine g176_2 (by omega) (fun h => by omega) (fun _ => by omega) (fun _ => by omega) (fun _ => ?_)
    rw [zcp_s]
    exact hE
  · refine g176_2 (by omega) (fun _ => k) (fun h => by omega) (fun h => by omega) (fun h => by omega)
/-- what is kept grows by a row: the shift, then the row -/
def rShL (p : Nat → Int32) (n : Nat) : Nat → Int32 := fun i => if i < n then p (i + 270) else p i
def rPutL (p f : Nat → Int32) (a n : Nat) : Nat → Int32 := fun i => if 270 * a ≤ i ∧ i < 270 * a + n then f (i - 270 * a) else p i
theorem rShL_s (p : Nat → Int32) (n : Nat) : zup (rShL p n) n (rShL p n (n + 270)) = rShL p (n + 1) := by
  funext i
  unfold zup rShL
  by_cases h : i = n
  · subst h
    rw [if_pos rfl, if_neg (by omega), if_pos (by omega)]
  · rw [if_neg h]
    by_cases h2 : i < n
    · rw [if_pos h2, if_pos (by omega)]
    · rw [if_neg h2, if_neg (by omega)]
theorem rShL_0 (p : Nat → Int32) : rShL p 0 = p := by
  funext i
  simp [rShL]
theorem rPutL_0 (p f : Nat → Int32) (a : Nat) : rPutL p f a 0 = p := by
  funext i
  unfold rPutL
  rw [if_neg (by omega)]
theorem rPutL_s (p f : Nat → Int32) (a n : Nat) : zup (rPutL p f a n) (270 * a + n) (f n) = rPutL p f a (n + 1) := by
  funext i
  unfold zup rPutL
  by_cases h : i = 270 * a + n
  · subst h
    rw [if_pos rfl, if_pos (by omega)]
    congr 1
    omega
  · rw [if_neg h]
    by_cases h2 : 270 * a ≤ i ∧ i < 270 * a + n
    · rw [if_pos h2, if_pos (by omega)]
    · rw [if_neg h2, if_neg (by omega)]
/-- the memory behind 'notes', a rows being kept -/
def rNotesA (ρ : Nat → Nat → Int32) (a : Nat) : Nat → Nat → Int32 := if a = 6 then zu (zup (zu ρ 0 2 (nI 5)) 2 (rPutL (rShL (ρ 2) 1350) (ρ 26) 5 270)) 0 2 (nI 6) else zu (zup ρ 2 (rPutL (ρ 2) (ρ 26) a 270)) 0 2 (nI (a + 1))
theorem g175_0 {d c s : Nat} {a : Nat} {w : Nat → Int32} {X : zM} {ρ : Nat → Nat → Int32} {l : Nat → Nat → Int64} {Q : Option zV → zM → Prop} (ha : ρ 0 2 = nI a) (nb_a : a < 5000)
    (h1 : (¬ a = 6) → Ev d c s 175 47 [some (zr (some (1, 0, 0))), some (zi (nI 0))] [] (OM X 1 0 (zw ρ w) l) Q)
    (h2 : (a = 6) → Ev d c s 175 11 [some (zr (some (1, 0, 0))), some (zi (nI 0))] [] (OM X 1 0 (zw ρ w) l) Q) : Ev d c s 175 0 [some (zr (some (1, 0, 0))), none] [] (OM X 1 0 (zw ρ w) l) Q := by
  refine Ew.ld f175_0 rfl rfl rfl rfl ?_
  refine Ew.getiV (v := nI a) f175_1 rfl (so_v ha) rfl ?_
  refine Ew.op (st' := zi (nI 6) :: _) f175_4 rfl rfl ?_
  refine Ew.icmp f175_6 rfl rfl (fun c1 => ?_) (fun c1 => ?_)
  · refine Ew.op (st' := zi (nI 0) :: _) f175_45 rfl rfl ?_
    refine Ew.sr (ls' := [some (zr (some (1, 0, 0))), some (zi (nI 0))]) f175_46 rfl rfl (Nat.le_of_ble_eq_true rfl) rfl rfl ?_
    exact h1 (fun e => c1 ((zeq nb_a (by decide)).mpr e))
  · refine Ew.op (st' := zi (nI 0) :: _) f175_9 rfl rfl ?_
    refine Ew.sr (ls' := [some (zr (some (1, 0, 0))), some (zi (nI 0))]) f175_10 rfl rfl (Nat.le_of_ble_eq_true rfl) rfl rfl ?_
    exact h2 ((zeq nb_a (by decide)).mp (Classical.not_not.mp c1))
theorem g175_11 {d c s : Nat} {k : Nat} {w : Nat → Int32} {X : zM} {ρ : Nat → Nat → Int32} {l : Nat → Nat → Int64} {Q : Option zV → zM → Prop} (nb_k : k < 5000)
    (h1 : (1350 ≤ k) → Ev d c s 175 45 [some (zr (some (1, 0, 0))), some (zi (nI k))] [] (OM X 1 0 (zw (zu ρ 0 2 (nI 5)) w) l) Q)
    (b1 : (k < 1350) → k + 270 < 1620)
    (b2 : (k < 1350) → k < 1620)
    (h2 : (k < 1350) → Ev d c s 175 11 [some (zr (some (1, 0, 0))), some (zi (nI (k + 1)))] [] (OM X 1 0 (zw (zu ρ 2 k (ρ 2 (k + 270))) w) l) Q) : Ev d c s 175 11 [some (zr (some (1, 0, 0))), some (zi (nI k))] [] (OM X 1 0 (zw ρ w) l) Q := by
  refine Ew.ld f175_11 rfl rfl rfl rfl ?_
  refine Ew.op (st' := zi (nI 1350) :: _) f175_12 rfl rfl ?_
  refine Ew.icmp f175_15 rfl rfl (fun c1 => ?_) (fun c1 => ?_)
  · refine Ew.ld f175_40 rfl rfl rfl rfl ?_
    refine Ew.op (st' := zi (nI 5) :: _) f175_41 rfl rfl ?_
    refine Ew.putiO f175_42 rfl rfl ?_
    rw [zw_uq _ _ (by decide)]
    exact h1 ((zle_iff (by decide) nb_k).mp c1)
  · refine Ew.ld f175_18 rfl rfl rfl rfl ?_
    refine Ew.getp (v := some (1, 0, 2)) f175_19 rfl rfl rfl ?_
    refine Ew.ld f175_22 rfl rfl rfl rfl ?_
    refine Ew.ld f175_23 rfl rfl rfl rfl ?_
    refine Ew.getp (v := some (1, 0, 2)) f175_24 rfl rfl rfl ?_
    refine Ew.ld f175_27 rfl rfl rfl rfl ?_
    refine Ew.op (st' := zi (nI 270) :: _) f175_28 rfl rfl ?_
    refine Ew.addn f175_31 rfl ?_
    refine Ew.ialdnO f175_32 rfl (b1 (Nat.not_le.mp fun e => c1 ((zle_iff (by decide) nb_k).mpr e))) (Nat.le_of_ble_eq_true rfl) rfl ?_
    refine Ew.iastnO f175_33 (by decide) rfl (b2 (Nat.not_le.mp fun e => c1 ((zle_iff (by decide) nb_k).mpr e))) (Nat.le_of_ble_eq_true rfl) rfl ?_
    rw [zw_uq _ _ (by decide)]
    refine Ew.iinc (v := nI (k + 1)) (ls' := [some (zr (some (1, 0, 0))), some (zi (nI (k + 1)))]) f175_34 rfl (nI_1 _) rfl rfl ?_
    refine Ew.goto f175_37 rfl ?_
    exact h2 (Nat.not_le.mp fun e => c1 ((zle_iff (by decide) nb_k).mpr e))
theorem g175_45 {d c s : Nat} {w : Nat → Int32} {X : zM} {ρ : Nat → Nat → Int32} {l : Nat → Nat → Int64} {Q : Option zV → zM → Prop}
    (h1 : Ev d c s 175 47 [some (zr (some (1, 0, 0))), some (zi (nI 0))] [] (OM X 1 0 (zw ρ w) l) Q) : Ev d c s 175 45 [some (zr (some (1, 0, 0))), none] [] (OM X 1 0 (zw ρ w) l) Q := by
  refine Ew.op (st' := zi (nI 0) :: _) f175_45 rfl rfl ?_
  refine Ew.sr (ls' := [some (zr (some (1, 0, 0))), some (zi (nI 0))]) f175_46 rfl rfl (Nat.le_of_ble_eq_true rfl) rfl rfl ?_
  exact h1
theorem g175_45k {d c s : Nat} {k : Nat} {w : Nat → Int32} {X : zM} {ρ : Nat → Nat → Int32} {l : Nat → Nat → Int64} {Q : Option zV → zM → Prop}
    (h1 : Ev d c s 175 47 [some (zr (some (1, 0, 0))), some (zi (nI 0))] [] (OM X 1 0 (zw ρ w) l) Q) : Ev d c s 175 45 [some (zr (some (1, 0, 0))), some (zi (nI k))] [] (OM X 1 0 (zw ρ w) l) Q := by
  refine Ew.op (st' := zi (nI 0) :: _) f175_45 rfl rfl ?_
  refine Ew.sr (ls' := [some (zr (some (1, 0, 0))), some (zi (nI 0))]) f175_46 rfl rfl (Nat.le_of_ble_eq_true rfl) rfl rfl ?_
  exact h1
theorem g175_47 {d c s : Nat} {k a : Nat} {w : Nat → Int32} {X : zM} {ρ : Nat → Nat → Int32} {l : Nat → Nat → Int64} {Q : Option zV → zM → Prop} (ha : ρ 0 2 = nI a) (nb_k : k < 5000)
    (h1 : (270 ≤ k) → Q none (OM X 1 0 (zw (zu ρ 0 2 (nI (a + 1))) w) l))
    (b1 : (k < 270) → k < 270)
    (b2 : (k < 270) → 270 * a + k < 1620)
    (h2 : (k < 270) → Ev d c s 175 47 [some (zr (some (1, 0, 0))), some (zi (nI (k + 1)))] [] (OM X 1 0 (zw (zu ρ 2 (270 * a + k) (ρ 26 k)) w) l) Q) : Ev d c s 175 47 [some (zr (some (1, 0, 0))), some (zi (nI k))] [] (OM X 1 0 (zw ρ w) l) Q := by
  refine Ew.ld f175_47 rfl rfl rfl rfl ?_
  refine Ew.op (st' := zi (nI 270) :: _) f175_48 rfl rfl ?_
  refine Ew.icmp f175_51 rfl rfl (fun c1 => ?_) (fun c1 => ?_)
  · refine Ew.ld f175_81 rfl rfl rfl rfl ?_
    refine Ew.op (st' := zr (some (1, 0, 0)) :: zr (some (1, 0, 0)) :: _) f175_82 rfl rfl ?_
    refine Ew.getiV (v := nI a) f175_83 rfl (so_v ha) rfl ?_
    refine Ew.op (st' := zi (nI 1) :: _) f175_86 rfl rfl ?_
    refine Ew.addn f175_87 rfl ?_
    refine Ew.putiO f175_88 rfl rfl ?_
    rw [zw_uq _ _ (by decide)]
    refine Ew.vret f175_91 ?_
    exact h1 ((zle_iff (by decide) nb_k).mp c1)
  · refine Ew.ld f175_54 rfl rfl rfl rfl ?_
    refine Ew.getp (v := some (1, 0, 2)) f175_55 rfl rfl rfl ?_
    refine Ew.op (st' := zi (nI 270) :: _) f175_58 rfl rfl ?_
    refine Ew.ld f175_61 rfl rfl rfl rfl ?_
    refine Ew.getiV (v := nI a) f175_62 rfl (so_v ha) rfl ?_
    refine Ew.muln f175_65 rfl ?_
    refine Ew.ld f175_66 rfl rfl rfl rfl ?_
    refine Ew.addn f175_67 rfl ?_
    refine Ew.ld f175_68 rfl rfl rfl rfl ?_
    refine Ew.getp (v := some (1, 0, 26)) f175_69 rfl rfl rfl ?_
    refine Ew.ld f175_72 rfl rfl rfl rfl ?_
    refine Ew.ialdnO f175_73 rfl (b1 (Nat.not_le.mp fun e => c1 ((zle_iff (by decide) nb_k).mpr e))) (Nat.le_of_ble_eq_true rfl) rfl ?_
    refine Ew.iastnO f175_74 (by decide) rfl (b2 (Nat.not_le.mp fun e => c1 ((zle_iff (by decide) nb_k).mpr e))) (Nat.le_of_ble_eq_true rfl) rfl ?_
    rw [zw_uq _ _ (by decide)]
    refine Ew.iinc (v := nI (k + 1)) (ls' := [some (zr (some (1, 0, 0))), some (zi (nI (k + 1)))]) f175_75 rfl (nI_1 _) rfl rfl ?_
    refine Ew.goto f175_78 rfl ?_
    exact h2 (Nat.not_le.mp fun e => c1 ((zle_iff (by decide) nb_k).mpr e))

/-- all but what is scratch and what is kept -/
def rFr (ρ ρ' : Nat → Nat → Int32) : Prop := ∀ q i, ¬ q = 1 → ¬ q = 2 → ¬ q = 26 → ¬ (q = 0 ∧ (i = 2 ∨ i = 37)) → ρ' q i = ρ q i
theorem rFr.rfl {ρ : Nat → Nat → Int32} : rFr ρ ρ := fun _ _ _ _ _ _ => Eq.refl _
theorem rFr.trans {ρ ρ' ρ'' : Nat → Nat → Int32} (h : rFr ρ ρ') (h' : rFr ρ' ρ'') : rFr ρ ρ'' := fun q i a b c e => (h' q i a b c e).trans (h q i a b c e)
theorem rFr.row {ρ ρ' : Nat → Nat → Int32} (h : rFr ρ ρ') {q : Nat} (h0 : ¬ q = 0) (h1 : ¬ q = 1) (h2 : ¬ q = 2) (h26 : ¬ q = 26) : ρ' q = ρ q := funext fun i => h q i h1 h2 h26 (fun e => h0 e.1)
/-- rows end -/
def zEnd (w : Nat → Int32) : Prop := ∀ i, 270 ≤ i → w i = 0
theorem zEnd.ext {w v : Nat → Int32} (hw : zEnd w) (hv : zEnd v) (h : ∀ i, i < 270 → w i = v i) : w = v := by
  funext i
  by_cases hi : i < 270
  · exact h i hi
  · rw [hw i (by omega), hv i (by omega)]
/-- what is kept, as a list of rows -/
def rPs (p : Nat → Int32) (H : List (Nat → Int32)) : Prop := ∀ k (h : k < H.length), ∀ i, i < 270 → p (270 * k + i) = H[k] i
def rHs (ρ : Nat → Nat → Int32) (H : List (Nat → Int32)) : Prop := ρ 0 2 = nI H.length ∧ H.length ≤ 6 ∧ rPs (ρ 2) H
def hNote (H : List (Nat → Int32)) (f : Nat → Int32) : List (Nat → Int32) := (if H.length = 6 then H.tail else H) ++ [f]
theorem hNote_len {H : List (Nat → Int32)} {f : Nat → Int32} (h : H.length ≤ 6) : (hNote H f).length ≤ 6 := by
  unfold hNote
  split
  · simp; omega
  · simp; omega
theorem rPs_put {p f : Nat → Int32} {H : List (Nat → Int32)} (h : rPs p H) : rPs (rPutL p f H.length 270) (H ++ [f]) := by
  intro k hk i hi
  rw [List.length_append, List.length_singleton] at hk
  unfold rPutL
  by_cases e : k = H.length
  · subst e
    rw [if_pos (by omega)]
    simp
  · rw [if_neg (by omega), h k (by omega) i hi]
    rw [List.getElem_append_left (by omega)]
theorem rPs_sh {p : Nat → Int32} {H : List (Nat → Int32)} (h : rPs p H) (h6 : H.length = 6) : rPs (rShL p 1350) H.tail := by
  intro k hk i hi
  rw [List.length_tail] at hk
  unfold rShL
  rw [if_pos (by omega)]
  have := h (k + 1) (by omega) i hi
  rw [show 270 * k + i + 270 = 270 * (k + 1) + i by omega, this]
  rw [List.getElem_tail]
theorem zu_i_ne {α : Type} {f : Nat → Nat → α} {q n : Nat} {v : α} {q' n' : Nat} (h : ¬ (q' = q ∧ n' = n)) : zu f q n v q' n' = f q' n' := by
  by_cases e : q' = q
  · subst e
    rw [zu_i, if_neg (fun g => h ⟨rfl, g⟩)]
  · rw [zu_q _ _ _ _ e]
theorem zu_zu {α : Type} (f : Nat → Nat → α) (q n : Nat) (v w : α) : zu (zu f q n v) q n w = zu f q n w := by
  unfold zu
  rw [zup_s, zup_zup, zup_zup]
theorem zu_up {α : Type} (f : Nat → Nat → α) (q n q' : Nat) (v : α) (r : Nat → α) (h : ¬ q' = q) : zup (zu f q n v) q' r = zu (zup f q' r) q n v := by
  unfold zu
  rw [zup_n _ _ (fun e => h e.symm)]
  funext i
  by_cases e : i = q'
  · subst e
    rw [zup_s, zup_n _ _ h, zup_s]
  · rw [zup_n _ _ e]
    by_cases e' : i = q
    · subst e'; rw [zup_s, zup_s]
    · rw [zup_n _ _ e', zup_n _ _ e', zup_n _ _ e]
/-- the row first is kept -/
theorem sp_notes {d c s : Nat} {w : Nat → Int32} {X : zM} {ρ : Nat → Nat → Int32} {l : Nat → Nat → Int64} {Q : Option zV → zM → Prop} {H : List (Nat → Int32)} (hH : rHs ρ H) (k : ∀ ρ', rFr ρ ρ' → rHs ρ' (hNote H (ρ 26)) → ρ' 26 = ρ 26 → Q none (OM X 1 0 (zw ρ' w) l)) : Ev d c s 175 0 [some (zr (some (1, 0, 0))), none] [] (OM X 1 0 (zw ρ w) l) Q := by
  obtain ⟨ha, h6, hp⟩ := hH
  -- the second loop
  have put : ∀ (G : List (Nat → Int32)) (σ : Nat → Nat → Int32), G.length ≤ 5 → σ 0 2 = nI G.length → rPs (σ 2) G → rFr ρ σ → σ 26 = ρ 26 → G ++ [ρ 26] = hNote H (ρ 26) → Ev d c s 175 47 [some (zr (some (1, 0, 0))), some (zi (nI 0))] [] (OM X 1 0 (zw σ w) l) Q := by
    intro G σ hG h2 hP hfr h26 hN
    have h0 : zup σ 2 (rPutL (σ 2) (σ 26) G.length 0) = σ := by rw [rPutL_0]; exact zup_id σ 2
    rw [← h0]
    refine loopN (fun n => Ev d c s 175 47 [some (zr (some (1, 0, 0))), some (zi (nI n))] [] (OM X 1 0 (zw (zup σ 2 (rPutL (σ 2) (σ 26) G.length n)) w) l) Q) 270 (fun n hn hE => ?_) ?_
    · refine g175_47 (a := G.length) ?_ (by omega) (fun h => by omega) (fun _ => hn) (fun _ => by omega) (fun _ => ?_)
      · rw [zup_n _ _ (by decide)]; exact h2
      · have e : zu (zup σ 2 (rPutL (σ 2) (σ 26) G.length n)) 2 (270 * G.length + n) ((zup σ 2 (rPutL (σ 2) (σ 26) G.length n)) 26 n) = zup σ 2 (rPutL (σ 2) (σ 26) G.length (n + 1)) := by
          unfold zu
          rw [zup_s, zup_zup, zup_n _ _ (by decide), rPutL_s]
        rw [e]
        exact hE
    · refine g175_47 (a := G.length) ?_ (by omega) (fun _ => ?_) (fun h => by omega) (fun h => by omega) (fun h => by omega)
      · rw [zup_n _ _ (by decide)]; exact h2
      · refine k _ ?_ ?_ ?_
        · intro q i q1 q2 q26 q0
          rw [zu_i_ne (by omega), zup_n _ _ q2]
          exact hfr q i q1 q2 q26 q0
        · rw [← hN]
          refine ⟨?_, ?_, ?_⟩
          · rw [zu_s, List.length_append]; rfl
          · rw [List.length_append]; simp; omega
          · rw [zu_q _ _ _ _ (by decide), zup_s, ← h26]
            exact rPs_put hP
        · rw [zu_q _ _ _ _ (by decide), zup_n _ _ (by decide)]
          exact h26
  refine g175_0 ha (by omega) (fun h => ?_) (fun h => ?_)
  · refine put H ρ (by omega) ha hp rFr.rfl rfl ?_
    unfold hNote
    rw [if_neg h]
  · have h0 : zup ρ 2 (rShL (ρ 2) 0) = ρ := by rw [rShL_0]; exact zup_id ρ 2
    rw [← h0]
    refine loopN (fun n => Ev d c s 175 11 [some (zr (some (1, 0, 0))), some (zi (nI n))] [] (OM X 1 0 (zw (zup ρ 2 (rShL (ρ 2) n)) w) l) Q) 1350 (fun n hn hE => ?_) ?_
    · refine g175_11 (by omega) (fun h => by omega) (fun _ => by omega) (fun _ => by omega) (fun _ => ?_)
      have e : zu (zup ρ 2 (rShL (ρ 2) n)) 2 n ((zup ρ 2 (rShL (ρ 2) n)) 2 (n + 270)) = zup ρ 2 (rShL (ρ 2) (n + 1)) := by
        unfold zu
        rw [zup_s, zup_zup, rShL_s]
      rw [e]
      exact hE
    · refine g175_11 (by omega) (fun _ => g175_45k ?_) (fun h => by omega) (fun h => by omega) (fun h => by omega)
      refine put H.tail _ ?_ ?_ ?_ ?_ ?_ ?_
      · rw [List.length_tail]; omega
      · rw [zu_s, List.length_tail, h]
      · rw [zu_q _ _ _ _ (by decide), zup_s]
        exact rPs_sh hp h
      · intro q i q1 q2 q26 q0
        rw [zu_i_ne (by omega), zup_n _ _ q2]
      · rw [zu_q _ _ _ _ (by decide), zup_n _ _ (by decide)]
      · unfold hNote
        rw [if_pos h]
