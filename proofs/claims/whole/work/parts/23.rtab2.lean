/-! the reference: sets of tasks, numbers of them, cells -/
def zw (ρ : Nat → Nat → Int32) (w : Nat → Int32) : Nat → Nat → Int32 := zup ρ 1 w
theorem zup_zup {α : Type} (f : Nat → α) (k : Nat) (v w : α) : zup (zup f k v) k w = zup f k w := by
  funext i
  unfold zup
  split <;> rfl
theorem zup_id {α : Type} (f : Nat → α) (k : Nat) : zup f k (f k) = f := by
  funext i
  unfold zup
  split
  · rename_i h; rw [h]
  · rfl
theorem zw_up (ρ : Nat → Nat → Int32) (w : Nat → Int32) (n : Nat) (v : Int32) : zu (zw ρ w) 1 n v = zw ρ (zup w n v) := by
  show zup (zup ρ 1 w) 1 (zup (zup ρ 1 w 1) n v) = zup ρ 1 (zup w n v)
  rw [zup_zup, zup_s]
theorem zw_id (ρ : Nat → Nat → Int32) : zw ρ (ρ 1) = ρ := zup_id ρ 1
theorem zw_zw (ρ : Nat → Nat → Int32) (w v : Nat → Int32) : zw (zw ρ w) v = zw ρ v := zup_zup ρ 1 w v
def rBusyL (ρ : Nat → Nat → Int32) : Nat → Int32
  | 0 => nI 0
  | t + 1 => if ¬ rBusyL ρ t = 0 then nI 1 else if ρ 1 (10 + 4 * t) = nI 1 then nI 1 else if ρ 1 (10 + 4 * t) = nI 2 then nI 1 else nI 0
abbrev rBusy (ρ : Nat → Nat → Int32) : Int32 := rBusyL ρ 4
theorem rBusyL_01 (ρ : Nat → Nat → Int32) (n : Nat) : rBusyL ρ n = 0 ∨ rBusyL ρ n = 1 := by
  cases n with
  | zero => exact Or.inl rfl
  | succ n =>
    unfold rBusyL
    split
    · exact Or.inr rfl
    · split
      · exact Or.inr rfl
      · split
        · exact Or.inr rfl
        · exact Or.inl rfl
theorem g177_0 {d c s : Nat} {X : zM} {ρ : Nat → Nat → Int32} {l : Nat → Nat → Int64} {Q : Option zV → zM → Prop}
    (h1 : Ev d c s 177 4 [some (zr (some (1, 0, 0))), some (zi (nI 0)), some (zi (nI 0))] [] (OM X 1 0 ρ l) Q) : Ev d c s 177 0 [some (zr (some (1, 0, 0))), none, none] [] (OM X 1 0 ρ l) Q := by
  refine Ew.op (st' := zi (nI 0) :: _) f177_0 rfl rfl ?_
  refine Ew.sr (ls' := [some (zr (some (1, 0, 0))), some (zi (nI 0)), none]) f177_1 rfl rfl (Nat.le_of_ble_eq_true rfl) rfl rfl ?_
  refine Ew.op (st' := zi (nI 0) :: _) f177_2 rfl rfl ?_
  refine Ew.sr (ls' := [some (zr (some (1, 0, 0))), some (zi (nI 0)), some (zi (nI 0))]) f177_3 rfl rfl (Nat.le_of_ble_eq_true rfl) rfl rfl ?_
  exact h1
theorem g177_4 {d c s : Nat} {t : Nat} {x : Int32} {X : zM} {ρ : Nat → Nat → Int32} {l : Nat → Nat → Int64} {Q : Option zV → zM → Prop} (nb_t : t < 5000)
    (b1 : (4 ≤ t) → x = 0 ∨ x = 1)
    (h1 : (4 ≤ t) → Q (some (zi x)) (OM X 1 0 ρ l))
    (h2 : (t < 4) → (¬ x = 0) → Ev (d + 1) c s 177 4 [some (zr (some (1, 0, 0))), some (zi (nI 1)), some (zi (nI (t + 1)))] [] (OM X 1 0 ρ l) Q)
    (b2 : (t < 4) → (x = 0) → 10 + 4 * t < 270)
    (h3 : (t < 4) → (x = 0) → ((ρ 1 (10 + 4 * t)) = (nI 1)) → Ev (d + 1) c s 177 4 [some (zr (some (1, 0, 0))), some (zi (nI 1)), some (zi (nI (t + 1)))] [] (OM X 1 0 ρ l) Q)
    (b3 : (t < 4) → (x = 0) → (¬ (ρ 1 (10 + 4 * t)) = (nI 1)) → 10 + 4 * t < 270)
    (h4 : (t < 4) → (x = 0) → (¬ (ρ 1 (10 + 4 * t)) = (nI 1)) → (¬ (ρ 1 (10 + 4 * t)) = (nI 2)) → Ev (d + 1) c s 177 4 [some (zr (some (1, 0, 0))), some (zi (nI 0)), some (zi (nI (t + 1)))] [] (OM X 1 0 ρ l) Q)
    (h5 : (t < 4) → (x = 0) → (¬ (ρ 1 (10 + 4 * t)) = (nI 1)) → ((ρ 1 (10 + 4 * t)) = (nI 2)) → Ev (d + 1) c s 177 4 [some (zr (some (1, 0, 0))), some (zi (nI 1)), some (zi (nI (t + 1)))] [] (OM X 1 0 ρ l) Q) : Ev (d + 1) c s 177 4 [some (zr (some (1, 0, 0))), some (zi x), some (zi (nI t))] [] (OM X 1 0 ρ l) Q := by
  refine Ew.ld f177_4 rfl rfl rfl rfl ?_
  refine Ew.op (st' := zi (nI 4) :: _) f177_5 rfl rfl ?_
  refine Ew.icmp f177_6 rfl rfl (fun c1 => ?_) (fun c1 => ?_)
  · refine Ew.ld f177_45 rfl rfl rfl rfl ?_
    refine Ew.iretb f177_46 (b1 ((zle_iff (by decide) nb_t).mp c1)) ?_
    exact h1 ((zle_iff (by decide) nb_t).mp c1)
  · refine Ew.ld f177_9 rfl rfl rfl rfl ?_
    refine Ew.ifc f177_10 rfl rfl (fun c2 => ?_) (fun c2 => ?_)
    · refine Ew.op (st' := zi (nI 1) :: _) f177_33 rfl rfl ?_
      refine Ew.goto f177_34 rfl ?_
      refine Ew.sr (ls' := [some (zr (some (1, 0, 0))), some (zi (nI 1)), some (zi (nI t))]) f177_38 rfl rfl (Nat.le_of_ble_eq_true rfl) rfl rfl ?_
      refine Ew.iinc (v := nI (t + 1)) (ls' := [some (zr (some (1, 0, 0))), some (zi (nI 1)), some (zi (nI (t + 1)))]) f177_39 rfl (nI_1 _) rfl rfl ?_
      refine Ew.goto f177_42 rfl ?_
      exact h2 (Nat.not_le.mp fun e => c1 ((zle_iff (by decide) nb_t).mpr e)) c2
    · refine Ew.ld f177_13 rfl rfl rfl rfl ?_
      refine Ew.ld f177_14 rfl rfl rfl rfl ?_
      refine Ew.op (st' := zi (nI 0) :: _) f177_15 rfl rfl ?_
      refine Ew.call0 (ls0 := [some (zr (some (1, 0, 0))), some (zi (nI t)), some (zi (nI 0))]) f177_16 rfl (Nat.le_of_ble_eq_true rfl) rfl rfl (Nat.le_of_ble_eq_true rfl) rfl (Nat.le_of_ble_eq_true rfl) rfl rfl ?_
      refine Ew.ld f156_0 rfl rfl rfl rfl ?_
      refine Ew.getp (v := some (1, 0, 1)) f156_1 rfl rfl rfl ?_
      refine Ew.op (st' := zi (nI 10) :: _) f156_4 rfl rfl ?_
      refine Ew.op (st' := zi (nI 4) :: _) f156_6 rfl rfl ?_
      refine Ew.ld f156_7 rfl rfl rfl rfl ?_
      refine Ew.muln f156_8 rfl ?_
      refine Ew.addn f156_9 rfl ?_
      refine Ew.ld f156_10 rfl rfl rfl rfl ?_
      refine Ew.addn f156_11 rfl ?_
      refine Ew.ialdnO f156_12 rfl (b2 (Nat.not_le.mp fun e => c1 ((zle_iff (by decide) nb_t).mpr e)) (Classical.not_not.mp c2)) (Nat.le_of_ble_eq_true rfl) rfl ?_
      refine Ew.ireti f156_13 ?_
      show Ev (d + 1) c s 177 19 [some (zr (some (1, 0, 0))), some (zi x), some (zi (nI t))] [zi (ρ 1 (10 + 4 * t))] (OM X 1 0 ρ l) Q
      refine Ew.op (st' := zi (nI 1) :: _) f177_19 rfl rfl ?_
      refine Ew.icmp f177_20 rfl rfl (fun c3 => ?_) (fun c3 => ?_)
      · refine Ew.op (st' := zi (nI 1) :: _) f177_33 rfl rfl ?_
        refine Ew.goto f177_34 rfl ?_
        refine Ew.sr (ls' := [some (zr (some (1, 0, 0))), some (zi (nI 1)), some (zi (nI t))]) f177_38 rfl rfl (Nat.le_of_ble_eq_true rfl) rfl rfl ?_
        refine Ew.iinc (v := nI (t + 1)) (ls' := [some (zr (some (1, 0, 0))), some (zi (nI 1)), some (zi (nI (t + 1)))]) f177_39 rfl (nI_1 _) rfl rfl ?_
        refine Ew.goto f177_42 rfl ?_
        exact h3 (Nat.not_le.mp fun e => c1 ((zle_iff (by decide) nb_t).mpr e)) (Classical.not_not.mp c2) c3
      · refine Ew.ld f177_23 rfl rfl rfl rfl ?_
        refine Ew.ld f177_24 rfl rfl rfl rfl ?_
        refine Ew.op (st' := zi (nI 0) :: _) f177_25 rfl rfl ?_
        refine Ew.call0 (ls0 := [some (zr (some (1, 0, 0))), some (zi (nI t)), some (zi (nI 0))]) f177_26 rfl (Nat.le_of_ble_eq_true rfl) rfl rfl (Nat.le_of_ble_eq_true rfl) rfl (Nat.le_of_ble_eq_true rfl) rfl rfl ?_
        refine Ew.ld f156_0 rfl rfl rfl rfl ?_
        refine Ew.getp (v := some (1, 0, 1)) f156_1 rfl rfl rfl ?_
        refine Ew.op (st' := zi (nI 10) :: _) f156_4 rfl rfl ?_
        refine Ew.op (st' := zi (nI 4) :: _) f156_6 rfl rfl ?_
        refine Ew.ld f156_7 rfl rfl rfl rfl ?_
        refine Ew.muln f156_8 rfl ?_
        refine Ew.addn f156_9 rfl ?_
        refine Ew.ld f156_10 rfl rfl rfl rfl ?_
        refine Ew.addn f156_11 rfl ?_
        refine Ew.ialdnO f156_12 rfl (b3 (Nat.not_le.mp fun e => c1 ((zle_iff (by decide) nb_t).mpr e)) (Classical.not_not.mp c2) c3) (Nat.le_of_ble_eq_true rfl) rfl ?_
        refine Ew.ireti f156_13 ?_
        show Ev (d + 1) c s 177 29 [some (zr (some (1, 0, 0))), some (zi x), some (zi (nI t))] [zi (ρ 1 (10 + 4 * t))] (OM X 1 0 ρ l) Q
        refine Ew.op (st' := zi (nI 2) :: _) f177_29 rfl rfl ?_
        refine Ew.icmp f177_30 rfl rfl (fun c4 => ?_) (fun c4 => ?_)
        · refine Ew.op (st' := zi (nI 0) :: _) f177_37 rfl rfl ?_
          refine Ew.sr (ls' := [some (zr (some (1, 0, 0))), some (zi (nI 0)), some (zi (nI t))]) f177_38 rfl rfl (Nat.le_of_ble_eq_true rfl) rfl rfl ?_
          refine Ew.iinc (v := nI (t + 1)) (ls' := [some (zr (some (1, 0, 0))), some (zi (nI 0)), some (zi (nI (t + 1)))]) f177_39 rfl (nI_1 _) rfl rfl ?_
          refine Ew.goto f177_42 rfl ?_
          exact h4 (Nat.not_le.mp fun e => c1 ((zle_iff (by decide) nb_t).mpr e)) (Classical.not_not.mp c2) c3 c4
        · refine Ew.op (st' := zi (nI 1) :: _) f177_33 rfl rfl ?_
          refine Ew.goto f177_34 rfl ?_
          refine Ew.sr (ls' := [some (zr (some (1, 0, 0))), some (zi (nI 1)), some (zi (nI t))]) f177_38 rfl rfl (Nat.le_of_ble_eq_true rfl) rfl rfl ?_
          refine Ew.iinc (v := nI (t + 1)) (ls' := [some (zr (some (1, 0, 0))), some (zi (nI 1)), some (zi (nI (t + 1)))]) f177_39 rfl (nI_1 _) rfl rfl ?_
          refine Ew.goto f177_42 rfl ?_
          exact h5 (Nat.not_le.mp fun e => c1 ((zle_iff (by decide) nb_t).mpr e)) (Classical.not_not.mp c2) c3 (Classical.not_not.mp c4)
theorem sp_isBusy {d c s : Nat} {X : zM} {ρ : Nat → Nat → Int32} {l : Nat → Nat → Int64} {Q : Option zV → zM → Prop} (k : Q (some (zi (rBusy ρ))) (OM X 1 0 ρ l)) : Ev (d + 1) c s 177 0 [some (zr (some (1, 0, 0))), none, none] [] (OM X 1 0 ρ l) Q := by
  refine g177_0 ?_
  refine loopN (fun t => Ev (d + 1) c s 177 4 [some (zr (some (1, 0, 0))), some (zi (rBusyL ρ t)), some (zi (nI t))] [] (OM X 1 0 ρ l) Q) 4 (fun t ht hE => ?_) ?_
  · apply g177_4 <;> intros <;> first
      | omega
      | simpa [rBusyL, *] using hE
  · apply g177_4 <;> intros <;> first
      | omega
      | exact rBusyL_01 ρ 4
      | exact k
def rThoseL (ρ : Nat → Nat → Int32) (x : Int32) : Nat → Int32
  | 0 => nI 0
  | t + 1 => rThoseL ρ x t ||| (if ρ 1 (10 + 4 * t) = x then nI 1 <<< (nI t &&& 31) else nI 0)
abbrev rThose (ρ : Nat → Nat → Int32) (x : Int32) : Int32 := rThoseL ρ x 4
theorem g216_0 {d c s : Nat} {x : Int32} {X : zM} {ρ : Nat → Nat → Int32} {l : Nat → Nat → Int64} {Q : Option zV → zM → Prop}
    (h1 : Ev d c s 216 4 [some (zr (some (1, 0, 0))), some (zi x), some (zi (nI 0)), some (zi (nI 0))] [] (OM X 1 0 ρ l) Q) : Ev d c s 216 0 [some (zr (some (1, 0, 0))), some (zi x), none, none] [] (OM X 1 0 ρ l) Q := by
  refine Ew.op (st' := zi (nI 0) :: _) f216_0 rfl rfl ?_
  refine Ew.sr (ls' := [some (zr (some (1, 0, 0))), some (zi x), some (zi (nI 0)), none]) f216_1 rfl rfl (Nat.le_of_ble_eq_true rfl) rfl rfl ?_
  refine Ew.op (st' := zi (nI 0) :: _) f216_2 rfl rfl ?_
  refine Ew.sr (ls' := [some (zr (some (1, 0, 0))), some (zi x), some (zi (nI 0)), some (zi (nI 0))]) f216_3 rfl rfl (Nat.le_of_ble_eq_true rfl) rfl rfl ?_
  exact h1
theorem g216_4 {d c s : Nat} {t : Nat} {x y : Int32} {X : zM} {ρ : Nat → Nat → Int32} {l : Nat → Nat → Int64} {Q : Option zV → zM → Prop} (nb_t : t < 5000)
    (h1 : (4 ≤ t) → Q (some (zi y)) (OM X 1 0 ρ l))
    (b1 : (t < 4) → 10 + 4 * t < 270)
    (h2 : (t < 4) → (¬ (ρ 1 (10 + 4 * t)) = x) → Ev (d + 1) c s 216 4 [some (zr (some (1, 0, 0))), some (zi x), some (zi (y ||| (nI 0))), some (zi (nI (t + 1)))] [] (OM X 1 0 ρ l) Q)
    (h3 : (t < 4) → ((ρ 1 (10 + 4 * t)) = x) → Ev (d + 1) c s 216 4 [some (zr (some (1, 0, 0))), some (zi x), some (zi (y ||| ((nI 1) <<< ((nI t) &&& 31)))), some (zi (nI (t + 1)))] [] (OM X 1 0 ρ l) Q) : Ev (d + 1) c s 216 4 [some (zr (some (1, 0, 0))), some (zi x), some (zi y), some (zi (nI t))] [] (OM X 1 0 ρ l) Q := by
  refine Ew.ld f216_4 rfl rfl rfl rfl ?_
  refine Ew.op (st' := zi (nI 4) :: _) f216_5 rfl rfl ?_
  refine Ew.icmp f216_6 rfl rfl (fun c1 => ?_) (fun c1 => ?_)
  · refine Ew.ld f216_35 rfl rfl rfl rfl ?_
    refine Ew.ireti f216_36 ?_
    exact h1 ((zle_iff (by decide) nb_t).mp c1)
  · refine Ew.ld f216_9 rfl rfl rfl rfl ?_
    refine Ew.ld f216_10 rfl rfl rfl rfl ?_
    refine Ew.ld f216_11 rfl rfl rfl rfl ?_
    refine Ew.op (st' := zi (nI 0) :: _) f216_12 rfl rfl ?_
    refine Ew.call0 (ls0 := [some (zr (some (1, 0, 0))), some (zi (nI t)), some (zi (nI 0))]) f216_13 rfl (Nat.le_of_ble_eq_true rfl) rfl rfl (Nat.le_of_ble_eq_true rfl) rfl (Nat.le_of_ble_eq_true rfl) rfl rfl ?_
    refine Ew.ld f156_0 rfl rfl rfl rfl ?_
    refine Ew.getp (v := some (1, 0, 1)) f156_1 rfl rfl rfl ?_
    refine Ew.op (st' := zi (nI 10) :: _) f156_4 rfl rfl ?_
    refine Ew.op (st' := zi (nI 4) :: _) f156_6 rfl rfl ?_
    refine Ew.ld f156_7 rfl rfl rfl rfl ?_
    refine Ew.muln f156_8 rfl ?_
    refine Ew.addn f156_9 rfl ?_
    refine Ew.ld f156_10 rfl rfl rfl rfl ?_
    refine Ew.addn f156_11 rfl ?_
    refine Ew.ialdnO f156_12 rfl (b1 (Nat.not_le.mp fun e => c1 ((zle_iff (by decide) nb_t).mpr e))) (Nat.le_of_ble_eq_true rfl) rfl ?_
    refine Ew.ireti f156_13 ?_
    show Ev (d + 1) c s 216 16 [some (zr (some (1, 0, 0))), some (zi x), some (zi y), some (zi (nI t))] [zi (ρ 1 (10 + 4 * t)), zi y] (OM X 1 0 ρ l) Q
    refine Ew.ld f216_16 rfl rfl rfl rfl ?_
    refine Ew.icmp f216_17 rfl rfl (fun c2 => ?_) (fun c2 => ?_)
    · refine Ew.op (st' := zi (nI 0) :: _) f216_26 rfl rfl ?_
      refine Ew.op (st' := zi (y ||| (nI 0)) :: _) f216_27 rfl rfl ?_
      refine Ew.sr (ls' := [some (zr (some (1, 0, 0))), some (zi x), some (zi (y ||| (nI 0))), some (zi (nI t))]) f216_28 rfl rfl (Nat.le_of_ble_eq_true rfl) rfl rfl ?_
      refine Ew.iinc (v := nI (t + 1)) (ls' := [some (zr (some (1, 0, 0))), some (zi x), some (zi (y ||| (nI 0))), some (zi (nI (t + 1)))]) f216_29 rfl (nI_1 _) rfl rfl ?_
      refine Ew.goto f216_32 rfl ?_
      exact h2 (Nat.not_le.mp fun e => c1 ((zle_iff (by decide) nb_t).mpr e)) c2
    · refine Ew.op (st' := zi (nI 1) :: _) f216_20 rfl rfl ?_
      refine Ew.ld f216_21 rfl rfl rfl rfl ?_
      refine Ew.op (st' := zi ((nI 1) <<< ((nI t) &&& 31)) :: _) f216_22 rfl rfl ?_
      refine Ew.goto f216_23 rfl ?_
      refine Ew.op (st' := zi (y ||| ((nI 1) <<< ((nI t) &&& 31))) :: _) f216_27 rfl rfl ?_
      refine Ew.sr (ls' := [some (zr (some (1, 0, 0))), some (zi x), some (zi (y ||| ((nI 1) <<< ((nI t) &&& 31)))), some (zi (nI t))]) f216_28 rfl rfl (Nat.le_of_ble_eq_true rfl) rfl rfl ?_
      refine Ew.iinc (v := nI (t + 1)) (ls' := [some (zr (some (1, 0, 0))), some (zi x), some (zi (y ||| ((nI 1) <<< ((nI t) &&& 31)))), some (zi (nI (t + 1)))]) f216_29 rfl (nI_1 _) rfl rfl ?_
      refine Ew.goto f216_32 rfl ?_
      exact h3 (Nat.not_le.mp fun e => c1 ((zle_iff (by decide) nb_t).mpr e)) (Classical.not_not.mp c2)
theorem sp_those {d c s : Nat} {x : Int32} {X : zM} {ρ : Nat → Nat → Int32} {l : Nat → Nat → Int64} {Q : Option zV → zM → Prop} (k : Q (some (zi (rThose ρ x))) (OM X 1 0 ρ l)) : Ev (d + 1) c s 216 0 [some (zr (some (1, 0, 0))), some (zi x), none, none] [] (OM X 1 0 ρ l) Q := by
  refine g216_0 ?_
  refine loopN (fun t => Ev (d + 1) c s 216 4 [some (zr (some (1, 0, 0))), some (zi x), some (zi (rThoseL ρ x t)), some (zi (nI t))] [] (OM X 1 0 ρ l) Q) 4 (fun t ht hE => ?_) ?_
  · apply g216_4 <;> intros <;> first
      | omega
      | simpa [rThoseL, *] using hE
  · apply g216_4 <;> intros <;> first
      | omega
      | exact k
def rLeftL (ρ : Nat → Nat → Int32) : Nat → Int32
  | 0 => nI 0
  | t + 1 => rLeftL ρ t ||| (if nI 3 ≤ ρ 1 (10 + 4 * t) then nI 0 else nI 1 <<< (nI t &&& 31))
abbrev rLeft (ρ : Nat → Nat → Int32) : Int32 := rLeftL ρ 4
theorem g206_0 {d c s : Nat} {X : zM} {ρ : Nat → Nat → Int32} {l : Nat → Nat → Int64} {Q : Option zV → zM → Prop}
    (h1 : Ev d c s 206 4 [some (zr (some (1, 0, 0))), some (zi (nI 0)), some (zi (nI 0))] [] (OM X 1 0 ρ l) Q) : Ev d c s 206 0 [some (zr (some (1, 0, 0))), none, none] [] (OM X 1 0 ρ l) Q := by
  refine Ew.op (st' := zi (nI 0) :: _) f206_0 rfl rfl ?_
  refine Ew.sr (ls' := [some (zr (some (1, 0, 0))), some (zi (nI 0)), none]) f206_1 rfl rfl (Nat.le_of_ble_eq_true rfl) rfl rfl ?_
  refine Ew.op (st' := zi (nI 0) :: _) f206_2 rfl rfl ?_
  refine Ew.sr (ls' := [some (zr (some (1, 0, 0))), some (zi (nI 0)), some (zi (nI 0))]) f206_3 rfl rfl (Nat.le_of_ble_eq_true rfl) rfl rfl ?_
  exact h1
theorem g206_4 {d c s : Nat} {t : Nat} {y : Int32} {X : zM} {ρ : Nat → Nat → Int32} {l : Nat → Nat → Int64} {Q : Option zV → zM → Prop} (nb_t : t < 5000)
    (h1 : (4 ≤ t) → Q (some (zi y)) (OM X 1 0 ρ l))
    (b1 : (t < 4) → 10 + 4 * t < 270)
    (h2 : (t < 4) → ((ρ 1 (10 + 4 * t)) < (nI 3)) → Ev (d + 2) c s 206 4 [some (zr (some (1, 0, 0))), some (zi (y ||| ((nI 1) <<< ((nI t) &&& 31)))), some (zi (nI (t + 1)))] [] (OM X 1 0 ρ l) Q)
    (h3 : (t < 4) → ((nI 3) ≤ (ρ 1 (10 + 4 * t))) → Ev (d + 2) c s 206 4 [some (zr (some (1, 0, 0))), some (zi (y ||| (nI 0))), some (zi (nI (t + 1)))] [] (OM X 1 0 ρ l) Q) : Ev (d + 2) c s 206 4 [some (zr (some (1, 0, 0))), some (zi y), some (zi (nI t))] [] (OM X 1 0 ρ l) Q := by
  refine Ew.ld f206_4 rfl rfl rfl rfl ?_
  refine Ew.op (st' := zi (nI 4) :: _) f206_5 rfl rfl ?_
  refine Ew.icmp f206_6 rfl rfl (fun c1 => ?_) (fun c1 => ?_)
  · refine Ew.ld f206_33 rfl rfl rfl rfl ?_
    refine Ew.ireti f206_34 ?_
    exact h1 ((zle_iff (by decide) nb_t).mp c1)
  · refine Ew.ld f206_9 rfl rfl rfl rfl ?_
    refine Ew.ld f206_10 rfl rfl rfl rfl ?_
    refine Ew.ld f206_11 rfl rfl rfl rfl ?_
    refine Ew.call0 (ls0 := [some (zr (some (1, 0, 0))), some (zi (nI t))]) f206_12 rfl (Nat.le_of_ble_eq_true rfl) rfl rfl (Nat.le_of_ble_eq_true rfl) rfl (Nat.le_of_ble_eq_true rfl) rfl rfl ?_
    refine Ew.ld f201_0 rfl rfl rfl rfl ?_
    refine Ew.ld f201_1 rfl rfl rfl rfl ?_
    refine Ew.op (st' := zi (nI 0) :: _) f201_2 rfl rfl ?_
    refine Ew.call0 (ls0 := [some (zr (some (1, 0, 0))), some (zi (nI t)), some (zi (nI 0))]) f201_3 rfl (Nat.le_of_ble_eq_true rfl) rfl rfl (Nat.le_of_ble_eq_true rfl) rfl (Nat.le_of_ble_eq_true rfl) rfl rfl ?_
    refine Ew.ld f156_0 rfl rfl rfl rfl ?_
    refine Ew.getp (v := some (1, 0, 1)) f156_1 rfl rfl rfl ?_
    refine Ew.op (st' := zi (nI 10) :: _) f156_4 rfl rfl ?_
    refine Ew.op (st' := zi (nI 4) :: _) f156_6 rfl rfl ?_
    refine Ew.ld f156_7 rfl rfl rfl rfl ?_
    refine Ew.muln f156_8 rfl ?_
    refine Ew.addn f156_9 rfl ?_
    refine Ew.ld f156_10 rfl rfl rfl rfl ?_
    refine Ew.addn f156_11 rfl ?_
    refine Ew.ialdnO f156_12 rfl (b1 (Nat.not_le.mp fun e => c1 ((zle_iff (by decide) nb_t).mpr e))) (Nat.le_of_ble_eq_true rfl) rfl ?_
    refine Ew.ireti f156_13 ?_
    show Ev (d + 1) 0 0 201 6 [some (zr (some (1, 0, 0))), some (zi (nI t))] [zi (ρ 1 (10 + 4 * t))] (OM X 1 0 ρ l) (fun r M' => Ev (d + 2) c s 206 15 [some (zr (some (1, 0, 0))), some (zi y), some (zi (nI t))] (zpush r [zi y]) M' Q)
    refine Ew.op (st' := zi (nI 3) :: _) f201_6 rfl rfl ?_
    refine Ew.icmp f201_7 rfl rfl (fun c2 => ?_) (fun c2 => ?_)
    · refine Ew.op (st' := zi (nI 0) :: _) f201_14 rfl rfl ?_
      refine Ew.iretb f201_15 (Or.inl rfl) ?_
      show Ev (d + 2) c s 206 15 [some (zr (some (1, 0, 0))), some (zi y), some (zi (nI t))] [zi (nI 0), zi y] (OM X 1 0 ρ l) Q
      refine Ew.ifc f206_15 rfl rfl (fun _ => ?_) (fun h => absurd (show ((nI 0) : Int32) = 0 by decide) h)
      refine Ew.op (st' := zi (nI 1) :: _) f206_22 rfl rfl ?_
      refine Ew.ld f206_23 rfl rfl rfl rfl ?_
      refine Ew.op (st' := zi ((nI 1) <<< ((nI t) &&& 31)) :: _) f206_24 rfl rfl ?_
      refine Ew.op (st' := zi (y ||| ((nI 1) <<< ((nI t) &&& 31))) :: _) f206_25 rfl rfl ?_
      refine Ew.sr (ls' := [some (zr (some (1, 0, 0))), some (zi (y ||| ((nI 1) <<< ((nI t) &&& 31)))), some (zi (nI t))]) f206_26 rfl rfl (Nat.le_of_ble_eq_true rfl) rfl rfl ?_
      refine Ew.iinc (v := nI (t + 1)) (ls' := [some (zr (some (1, 0, 0))), some (zi (y ||| ((nI 1) <<< ((nI t) &&& 31)))), some (zi (nI (t + 1)))]) f206_27 rfl (nI_1 _) rfl rfl ?_
      refine Ew.goto f206_30 rfl ?_
      exact h2 (Nat.not_le.mp fun e => c1 ((zle_iff (by decide) nb_t).mpr e)) c2
    · refine Ew.op (st' := zi (nI 1) :: _) f201_10 rfl rfl ?_
      refine Ew.goto f201_11 rfl ?_
      refine Ew.iretb f201_15 (Or.inr rfl) ?_
      show Ev (d + 2) c s 206 15 [some (zr (some (1, 0, 0))), some (zi y), some (zi (nI t))] [zi (nI 1), zi y] (OM X 1 0 ρ l) Q
      refine Ew.ifc f206_15 rfl rfl (fun h => absurd h (show ¬ (((nI 1) : Int32) = 0) by decide)) (fun _ => ?_)
      refine Ew.op (st' := zi (nI 0) :: _) f206_18 rfl rfl ?_
      refine Ew.goto f206_19 rfl ?_
      refine Ew.op (st' := zi (y ||| (nI 0)) :: _) f206_25 rfl rfl ?_
      refine Ew.sr (ls' := [some (zr (some (1, 0, 0))), some (zi (y ||| (nI 0))), some (zi (nI t))]) f206_26 rfl rfl (Nat.le_of_ble_eq_true rfl) rfl rfl ?_
      refine Ew.iinc (v := nI (t + 1)) (ls' := [some (zr (some (1, 0, 0))), some (zi (y ||| (nI 0))), some (zi (nI (t + 1)))]) f206_27 rfl (nI_1 _) rfl rfl ?_
      refine Ew.goto f206_30 rfl ?_
      exact h3 (Nat.not_le.mp fun e => c1 ((zle_iff (by decide) nb_t).mpr e)) (Int32.not_lt.mp c2)
theorem sp_lefts {d c s : Nat} {X : zM} {ρ : Nat → Nat → Int32} {l : Nat → Nat → Int64} {Q : Option zV → zM → Prop} (k : Q (some (zi (rLeft ρ))) (OM X 1 0 ρ l)) : Ev (d + 2) c s 206 0 [some (zr (some (1, 0, 0))), none, none] [] (OM X 1 0 ρ l) Q := by
  refine g206_0 ?_
  refine loopN (fun t => Ev (d + 2) c s 206 4 [some (zr (some (1, 0, 0))), some (zi (rLeftL ρ t)), some (zi (nI t))] [] (OM X 1 0 ρ l) Q) 4 (fun t ht hE => ?_) ?_
  · apply g206_4 <;> intros <;> first
      | omega
      | simpa [rLeftL, Int32.not_le.mpr, *] using hE
  · apply g206_4 <;> intros <;> first
      | omega
      | exact k
def rWtrL (ρ : Nat → Nat → Int32) (x : Int32) : Nat → Int32
  | 0 => nI 0
  | t + 1 => rWtrL ρ x t ||| (if rWait ρ t = x then nI 1 <<< (nI t &&& 31) else nI 0)
theorem g213_0 {d c s : Nat} {x : Int32} {X : zM} {ρ : Nat → Nat → Int32} {l : Nat → Nat → Int64} {Q : Option zV → zM → Prop}
    (h1 : Ev d c s 213 4 [some (zr (some (1, 0, 0))), some (zi x), some (zi (nI 0)), some (zi (nI 0))] [] (OM X 1 0 ρ l) Q) : Ev d c s 213 0 [some (zr (some (1, 0, 0))), some (zi x), none, none] [] (OM X 1 0 ρ l) Q := by
  refine Ew.op (st' := zi (nI 0) :: _) f213_0 rfl rfl ?_
  refine Ew.sr (ls' := [some (zr (some (1, 0, 0))), some (zi x), some (zi (nI 0)), none]) f213_1 rfl rfl (Nat.le_of_ble_eq_true rfl) rfl rfl ?_
  refine Ew.op (st' := zi (nI 0) :: _) f213_2 rfl rfl ?_
  refine Ew.sr (ls' := [some (zr (some (1, 0, 0))), some (zi x), some (zi (nI 0)), some (zi (nI 0))]) f213_3 rfl rfl (Nat.le_of_ble_eq_true rfl) rfl rfl ?_
  exact h1
theorem g213_4 {d c s : Nat} {t : Nat} {x y : Int32} {X : zM} {ρ : Nat → Nat → Int32} {l : Nat → Nat → Int64} {Q : Option zV → zM → Prop} (nb_t : t < 5000)
    (h1 : (4 ≤ t) → Q (some (zi y)) (OM X 1 0 ρ l))
    (b1 : (t < 4) → t < 4)
    (b2 : (t < 4) → rDok ρ)
    (b3 : (t < 4) → rWok ρ)
    (h2 : (t < 4) → (¬ (rWait ρ t) = x) → Ev (d + 2) c s 213 4 [some (zr (some (1, 0, 0))), some (zi x), some (zi (y ||| (nI 0))), some (zi (nI (t + 1)))] [] (OM X 1 0 ρ l) Q)
    (h3 : (t < 4) → ((rWait ρ t) = x) → Ev (d + 2) c s 213 4 [some (zr (some (1, 0, 0))), some (zi x), some (zi (y ||| ((nI 1) <<< ((nI t) &&& 31)))), some (zi (nI (t + 1)))] [] (OM X 1 0 ρ l) Q) : Ev (d + 2) c s 213 4 [some (zr (some (1, 0, 0))), some (zi x), some (zi y), some (zi (nI t))] [] (OM X 1 0 ρ l) Q := by
  refine Ew.ld f213_4 rfl rfl rfl rfl ?_
  refine Ew.op (st' := zi (nI 4) :: _) f213_5 rfl rfl ?_
  refine Ew.icmp f213_6 rfl rfl (fun c1 => ?_) (fun c1 => ?_)
  · refine Ew.ld f213_34 rfl rfl rfl rfl ?_
    refine Ew.ireti f213_35 ?_
    exact h1 ((zle_iff (by decide) nb_t).mp c1)
  · refine Ew.ld f213_9 rfl rfl rfl rfl ?_
    refine Ew.ld f213_10 rfl rfl rfl rfl ?_
    refine Ew.ld f213_11 rfl rfl rfl rfl ?_
    refine Ew.call0 (ls0 := [some (zr (some (1, 0, 0))), some (zi (nI t))]) f213_12 rfl (Nat.le_of_ble_eq_true rfl) rfl rfl (Nat.le_of_ble_eq_true rfl) rfl (Nat.le_of_ble_eq_true rfl) rfl rfl ?_
    refine sp_waitsFor (b1 (Nat.not_le.mp fun e => c1 ((zle_iff (by decide) nb_t).mpr e))) (b2 (Nat.not_le.mp fun e => c1 ((zle_iff (by decide) nb_t).mpr e))) (b3 (Nat.not_le.mp fun e => c1 ((zle_iff (by decide) nb_t).mpr e))) ?_
    show Ev (d + 2) c s 213 15 [some (zr (some (1, 0, 0))), some (zi x), some (zi y), some (zi (nI t))] [zi (rWait ρ t), zi y] (OM X 1 0 ρ l) Q
    refine Ew.ld f213_15 rfl rfl rfl rfl ?_
    refine Ew.icmp f213_16 rfl rfl (fun c2 => ?_) (fun c2 => ?_)
    · refine Ew.op (st' := zi (nI 0) :: _) f213_25 rfl rfl ?_
      refine Ew.op (st' := zi (y ||| (nI 0)) :: _) f213_26 rfl rfl ?_
      refine Ew.sr (ls' := [some (zr (some (1, 0, 0))), some (zi x), some (zi (y ||| (nI 0))), some (zi (nI t))]) f213_27 rfl rfl (Nat.le_of_ble_eq_true rfl) rfl rfl ?_
      refine Ew.iinc (v := nI (t + 1)) (ls' := [some (zr (some (1, 0, 0))), some (zi x), some (zi (y ||| (nI 0))), some (zi (nI (t + 1)))]) f213_28 rfl (nI_1 _) rfl rfl ?_
      refine Ew.goto f213_31 rfl ?_
      exact h2 (Nat.not_le.mp fun e => c1 ((zle_iff (by decide) nb_t).mpr e)) c2
    · refine Ew.op (st' := zi (nI 1) :: _) f213_19 rfl rfl ?_
      refine Ew.ld f213_20 rfl rfl rfl rfl ?_
      refine Ew.op (st' := zi ((nI 1) <<< ((nI t) &&& 31)) :: _) f213_21 rfl rfl ?_
      refine Ew.goto f213_22 rfl ?_
      refine Ew.op (st' := zi (y ||| ((nI 1) <<< ((nI t) &&& 31))) :: _) f213_26 rfl rfl ?_
      refine Ew.sr (ls' := [some (zr (some (1, 0, 0))), some (zi x), some (zi (y ||| ((nI 1) <<< ((nI t) &&& 31)))), some (zi (nI t))]) f213_27 rfl rfl (Nat.le_of_ble_eq_true rfl) rfl rfl ?_
      refine Ew.iinc (v := nI (t + 1)) (ls' := [some (zr (some (1, 0, 0))), some (zi x), some (zi (y ||| ((nI 1) <<< ((nI t) &&& 31)))), some (zi (nI (t + 1)))]) f213_28 rfl (nI_1 _) rfl rfl ?_
      refine Ew.goto f213_31 rfl ?_
      exact h3 (Nat.not_le.mp fun e => c1 ((zle_iff (by decide) nb_t).mpr e)) (Classical.not_not.mp c2)
theorem sp_waiters {d c s : Nat} {x : Int32} {X : zM} {ρ : Nat → Nat → Int32} {l : Nat → Nat → Int64} {Q : Option zV → zM → Prop} (h : rDok ρ) (hw : rWok ρ) (k : Q (some (zi (rWtrL ρ x 4))) (OM X 1 0 ρ l)) : Ev (d + 2) c s 213 0 [some (zr (some (1, 0, 0))), some (zi x), none, none] [] (OM X 1 0 ρ l) Q := by
  refine g213_0 ?_
  refine loopN (fun t => Ev (d + 2) c s 213 4 [some (zr (some (1, 0, 0))), some (zi x), some (zi (rWtrL ρ x t)), some (zi (nI t))] [] (OM X 1 0 ρ l) Q) 4 (fun t ht hE => ?_) ?_
  · apply g213_4 <;> intros <;> first
      | omega
      | assumption
      | simpa [rWtrL, *] using hE
  · apply g213_4 <;> intros <;> first
      | omega
      | assumption
      | exact k
def rRgdL (ρ : Nat → Nat → Int32) : Nat → Int32
  | 0 => nI 0
  | t + 1 => rRgdL ρ t ||| (if rRing ρ t = 0 then nI 0 else nI 1 <<< (nI t &&& 31))
theorem g217_0 {d c s : Nat} {X : zM} {ρ : Nat → Nat → Int32} {l : Nat → Nat → Int64} {Q : Option zV → zM → Prop}
    (h1 : Ev d c s 217 4 [some (zr (some (1, 0, 0))), some (zi (nI 0)), some (zi (nI 0))] [] (OM X 1 0 ρ l) Q) : Ev d c s 217 0 [some (zr (some (1, 0, 0))), none, none] [] (OM X 1 0 ρ l) Q := by
  refine Ew.op (st' := zi (nI 0) :: _) f217_0 rfl rfl ?_
  refine Ew.sr (ls' := [some (zr (some (1, 0, 0))), some (zi (nI 0)), none]) f217_1 rfl rfl (Nat.le_of_ble_eq_true rfl) rfl rfl ?_
  refine Ew.op (st' := zi (nI 0) :: _) f217_2 rfl rfl ?_
  refine Ew.sr (ls' := [some (zr (some (1, 0, 0))), some (zi (nI 0)), some (zi (nI 0))]) f217_3 rfl rfl (Nat.le_of_ble_eq_true rfl) rfl rfl ?_
  exact h1
theorem g217_4 {d c s : Nat} {t : Nat} {y : Int32} {X : zM} {ρ : Nat → Nat → Int32} {l : Nat → Nat → Int64} {Q : Option zV → zM → Prop} (nb_t : t < 5000)
    (h1 : (4 ≤ t) → Q (some (zi y)) (OM X 1 0 ρ l))
    (b1 : (t < 4) → t < 4)
    (b2 : (t < 4) → rDok ρ)
    (b3 : (t < 4) → rWok ρ)
    (h2 : (t < 4) → ((rRing ρ t) = 0) → Ev (d + 5) c s 217 4 [some (zr (some (1, 0, 0))), some (zi (y ||| (nI 0))), some (zi (nI (t + 1)))] [] (OM X 1 0 ρ l) Q)
    (h3 : (t < 4) → (¬ (rRing ρ t) = 0) → Ev (d + 5) c s 217 4 [some (zr (some (1, 0, 0))), some (zi (y ||| ((nI 1) <<< ((nI t) &&& 31)))), some (zi (nI (t + 1)))] [] (OM X 1 0 ρ l) Q) : Ev (d + 5) c s 217 4 [some (zr (some (1, 0, 0))), some (zi y), some (zi (nI t))] [] (OM X 1 0 ρ l) Q := by
  refine Ew.ld f217_4 rfl rfl rfl rfl ?_
  refine Ew.op (st' := zi (nI 4) :: _) f217_5 rfl rfl ?_
  refine Ew.icmp f217_6 rfl rfl (fun c1 => ?_) (fun c1 => ?_)
  · refine Ew.ld f217_33 rfl rfl rfl rfl ?_
    refine Ew.ireti f217_34 ?_
    exact h1 ((zle_iff (by decide) nb_t).mp c1)
  · refine Ew.ld f217_9 rfl rfl rfl rfl ?_
    refine Ew.ld f217_10 rfl rfl rfl rfl ?_
    refine Ew.ld f217_11 rfl rfl rfl rfl ?_
    refine Ew.call0 (ls0 := [some (zr (some (1, 0, 0))), some (zi (nI t)), none, none, none]) f217_12 rfl (Nat.le_of_ble_eq_true rfl) rfl rfl (Nat.le_of_ble_eq_true rfl) rfl (Nat.le_of_ble_eq_true rfl) rfl rfl ?_
    refine sp_ring (b1 (Nat.not_le.mp fun e => c1 ((zle_iff (by decide) nb_t).mpr e))) (b2 (Nat.not_le.mp fun e => c1 ((zle_iff (by decide) nb_t).mpr e))) (b3 (Nat.not_le.mp fun e => c1 ((zle_iff (by decide) nb_t).mpr e))) ?_
    show Ev (d + 5) c s 217 15 [some (zr (some (1, 0, 0))), some (zi y), some (zi (nI t))] [zi (rRing ρ t), zi y] (OM X 1 0 ρ l) Q
    refine Ew.ifc f217_15 rfl rfl (fun c2 => ?_) (fun c2 => ?_)
    · refine Ew.op (st' := zi (nI 0) :: _) f217_24 rfl rfl ?_
      refine Ew.op (st' := zi (y ||| (nI 0)) :: _) f217_25 rfl rfl ?_
      refine Ew.sr (ls' := [some (zr (some (1, 0, 0))), some (zi (y ||| (nI 0))), some (zi (nI t))]) f217_26 rfl rfl (Nat.le_of_ble_eq_true rfl) rfl rfl ?_
      refine Ew.iinc (v := nI (t + 1)) (ls' := [some (zr (some (1, 0, 0))), some (zi (y ||| (nI 0))), some (zi (nI (t + 1)))]) f217_27 rfl (nI_1 _) rfl rfl ?_
      refine Ew.goto f217_30 rfl ?_
      exact h2 (Nat.not_le.mp fun e => c1 ((zle_iff (by decide) nb_t).mpr e)) c2
    · refine Ew.op (st' := zi (nI 1) :: _) f217_18 rfl rfl ?_
      refine Ew.ld f217_19 rfl rfl rfl rfl ?_
      refine Ew.op (st' := zi ((nI 1) <<< ((nI t) &&& 31)) :: _) f217_20 rfl rfl ?_
      refine Ew.goto f217_21 rfl ?_
      refine Ew.op (st' := zi (y ||| ((nI 1) <<< ((nI t) &&& 31))) :: _) f217_25 rfl rfl ?_
      refine Ew.sr (ls' := [some (zr (some (1, 0, 0))), some (zi (y ||| ((nI 1) <<< ((nI t) &&& 31)))), some (zi (nI t))]) f217_26 rfl rfl (Nat.le_of_ble_eq_true rfl) rfl rfl ?_
      refine Ew.iinc (v := nI (t + 1)) (ls' := [some (zr (some (1, 0, 0))), some (zi (y ||| ((nI 1) <<< ((nI t) &&& 31)))), some (zi (nI (t + 1)))]) f217_27 rfl (nI_1 _) rfl rfl ?_
      refine Ew.goto f217_30 rfl ?_
      exact h3 (Nat.not_le.mp fun e => c1 ((zle_iff (by decide) nb_t).mpr e)) c2
theorem sp_ringed {d c s : Nat} {X : zM} {ρ : Nat → Nat → Int32} {l : Nat → Nat → Int64} {Q : Option zV → zM → Prop} (h : rDok ρ) (hw : rWok ρ) (k : Q (some (zi (rRgdL ρ 4))) (OM X 1 0 ρ l)) : Ev (d + 5) c s 217 0 [some (zr (some (1, 0, 0))), none, none] [] (OM X 1 0 ρ l) Q := by
  refine g217_0 ?_
  refine loopN (fun t => Ev (d + 5) c s 217 4 [some (zr (some (1, 0, 0))), some (zi (rRgdL ρ t)), some (zi (nI t))] [] (OM X 1 0 ρ l) Q) 4 (fun t ht hE => ?_) ?_
  · apply g217_4 <;> intros <;> first
      | omega
      | assumption
      | simpa [rRgdL, *] using hE
  · apply g217_4 <;> intros <;> first
      | omega
      | assumption
      | exact k
/-- cells: what so many steps of a task add, so many times -/
def rG (ρ : Nat → Nat → Int32) (t k : Nat) : Nat := (ρ 11 (30 * t + k)).toNatClampNeg
def rGok (ρ : Nat → Nat → Int32) (t n : Nat) : Prop := ∀ k, k < n → ρ 11 (30 * t + k) = nI (rG ρ t k) ∧ rG ρ t k < 6
def rComeW (ρ : Nat → Nat → Int32) (t : Nat) (x : Int32) (w : Nat → Int32) : Nat → Nat → Int32
  | 0 => w
  | n + 1 => zup (rComeW ρ t x w n) (4 + rG ρ t n) (rComeW ρ t x w n (4 + rG ρ t n) + x * ρ 12 (30 * t + n))
theorem g190_0 {d c s : Nat} {t u : Nat} {x : Int32} {w : Nat → Int32} {X : zM} {ρ : Nat → Nat → Int32} {l : Nat → Nat → Int64} {Q : Option zV → zM → Prop}
    (h1 : Ev d c s 190 3 [some (zr (some (1, 0, 0))), some (zi (nI t)), some (zi (nI u)), some (zi x), some (zi (nI 0))] [] (OM X 1 0 (zw ρ w) l) Q) : Ev d c s 190 0 [some (zr (some (1, 0, 0))), some (zi (nI t)), some (zi (nI u)), some (zi x), none] [] (OM X 1 0 (zw ρ w) l) Q := by
  refine Ew.op (st' := zi (nI 0) :: _) f190_0 rfl rfl ?_
  refine Ew.sr (ls' := [some (zr (some (1, 0, 0))), some (zi (nI t)), some (zi (nI u)), some (zi x), some (zi (nI 0))]) f190_1 rfl rfl (Nat.le_of_ble_eq_true rfl) rfl rfl ?_
  exact h1
theorem g190_3 {d c s : Nat} {t u k G : Nat} {x : Int32} {w : Nat → Int32} {X : zM} {ρ : Nat → Nat → Int32} {l : Nat → Nat → Int64} {Q : Option zV → zM → Prop} (hG : k < u → ρ 11 (30 * t + k) = nI G) (nb_k : k < 5000) (nb_u : u < 5000)
    (h1 : (u ≤ k) → Q none (OM X 1 0 (zw ρ w) l))
    (b1 : (k < u) → 30 * t + k < 120)
    (b2 : (k < u) → 4 + G < 270)
    (b3 : (k < u) → 30 * t + k < 120)
    (b4 : (k < u) → 4 + G < 270)
    (h2 : (k < u) → Ev (d + 1) c s 190 3 [some (zr (some (1, 0, 0))), some (zi (nI t)), some (zi (nI u)), some (zi x), some (zi (nI (k + 1)))] [] (OM X 1 0 (zw ρ (zup w (4 + G) ((w (4 + G)) + (x * (ρ 12 (30 * t + k)))))) l) Q) : Ev (d + 1) c s 190 3 [some (zr (some (1, 0, 0))), some (zi (nI t)), some (zi (nI u)), some (zi x), some (zi (nI k))] [] (OM X 1 0 (zw ρ w) l) Q := by
  refine Ew.ld f190_3 rfl rfl rfl rfl ?_
  refine Ew.ld f190_5 rfl rfl rfl rfl ?_
  refine Ew.icmp f190_6 rfl rfl (fun c1 => ?_) (fun c1 => ?_)
  · refine Ew.vret f190_46 ?_
    exact h1 ((zle_iff nb_u nb_k).mp c1)
  · refine Ew.ld f190_9 rfl rfl rfl rfl ?_
    refine Ew.getp (v := some (1, 0, 1)) f190_10 rfl rfl rfl ?_
    refine Ew.op (st' := zi (nI 4) :: _) f190_13 rfl rfl ?_
    refine Ew.ld f190_14 rfl rfl rfl rfl ?_
    refine Ew.ld f190_15 rfl rfl rfl rfl ?_
    refine Ew.ld f190_16 rfl rfl rfl rfl ?_
    refine Ew.call0 (ls0 := [some (zr (some (1, 0, 0))), some (zi (nI t)), some (zi (nI k))]) f190_18 rfl (Nat.le_of_ble_eq_true rfl) rfl rfl (Nat.le_of_ble_eq_true rfl) rfl (Nat.le_of_ble_eq_true rfl) rfl rfl ?_
    refine Ew.ld f171_0 rfl rfl rfl rfl ?_
    refine Ew.getp (v := some (1, 0, 11)) f171_1 rfl rfl rfl ?_
    refine Ew.op (st' := zi (nI 30) :: _) f171_4 rfl rfl ?_
    refine Ew.ld f171_6 rfl rfl rfl rfl ?_
    refine Ew.muln f171_7 rfl ?_
    refine Ew.ld f171_8 rfl rfl rfl rfl ?_
    refine Ew.addn f171_9 rfl ?_
    refine Ew.ialdnV (v := nI G) f171_10 rfl (b1 (Nat.not_le.mp fun e => c1 ((zle_iff nb_u nb_k).mpr e))) (Nat.le_of_ble_eq_true rfl) rfl (so_v (hG (Nat.not_le.mp fun e => c1 ((zle_iff nb_u nb_k).mpr e)))) ?_
    refine Ew.ireti f171_11 ?_
    show Ev (d + 1) c s 190 21 [some (zr (some (1, 0, 0))), some (zi (nI t)), some (zi (nI u)), some (zi x), some (zi (nI k))] [zi (nI G), zi (nI 4), zr (some (1, 0, 1))] (OM X 1 0 (zw ρ w) l) Q
    refine Ew.addn f190_21 rfl ?_
    refine Ew.op (st' := zi (nI (4 + G)) :: zr (some (1, 0, 1)) :: zi (nI (4 + G)) :: zr (some (1, 0, 1)) :: _) f190_22 rfl rfl ?_
    refine Ew.ialdnO f190_23 rfl (b2 (Nat.not_le.mp fun e => c1 ((zle_iff nb_u nb_k).mpr e))) (Nat.le_of_ble_eq_true rfl) rfl ?_
    refine Ew.ld f190_24 rfl rfl rfl rfl ?_
    refine Ew.ld f190_25 rfl rfl rfl rfl ?_
    refine Ew.getp (v := some (1, 0, 12)) f190_26 rfl rfl rfl ?_
    refine Ew.op (st' := zi (nI 30) :: _) f190_29 rfl rfl ?_
    refine Ew.ld f190_31 rfl rfl rfl rfl ?_
    refine Ew.muln f190_32 rfl ?_
    refine Ew.ld f190_33 rfl rfl rfl rfl ?_
    refine Ew.addn f190_35 rfl ?_
    refine Ew.ialdnO f190_36 rfl (b3 (Nat.not_le.mp fun e => c1 ((zle_iff nb_u nb_k).mpr e))) (Nat.le_of_ble_eq_true rfl) rfl ?_
    refine Ew.op (st' := zi (x * (ρ 12 (30 * t + k))) :: _) f190_37 rfl rfl ?_
    refine Ew.op (st' := zi ((w (4 + G)) + (x * (ρ 12 (30 * t + k)))) :: _) f190_38 rfl rfl ?_
    refine Ew.iastnO f190_39 (by decide) rfl (b4 (Nat.not_le.mp fun e => c1 ((zle_iff nb_u nb_k).mpr e))) (Nat.le_of_ble_eq_true rfl) rfl ?_
    rw [zw_up]
    refine Ew.iinc (v := nI (k + 1)) (ls' := [some (zr (some (1, 0, 0))), some (zi (nI t)), some (zi (nI u)), some (zi x), some (zi (nI (k + 1)))]) f190_40 rfl (nI_1 _) rfl rfl ?_
    refine Ew.goto f190_43 rfl ?_
    exact h2 (Nat.not_le.mp fun e => c1 ((zle_iff nb_u nb_k).mpr e))
theorem sp_comes {d c s t u : Nat} {x : Int32} {w : Nat → Int32} {X : zM} {ρ : Nat → Nat → Int32} {l : Nat → Nat → Int64} {Q : Option zV → zM → Prop} (ht : t < 4) (hu : u ≤ 30) (hg : rGok ρ t u) (k : Q none (OM X 1 0 (zw ρ (rComeW ρ t x w u)) l)) : Ev (d + 1) c s 190 0 [some (zr (some (1, 0, 0))), some (zi (nI t)), some (zi (nI u)), some (zi x), none] [] (OM X 1 0 (zw ρ w) l) Q := by
  refine g190_0 ?_
  refine loopN (fun n => Ev (d + 1) c s 190 3 [some (zr (some (1, 0, 0))), some (zi (nI t)), some (zi (nI u)), some (zi x), some (zi (nI n))] [] (OM X 1 0 (zw ρ (rComeW ρ t x w n)) l) Q) u (fun n hn hE => ?_) ?_
  · have hgn := hg n hn
    apply g190_3 (fun _ => hgn.1) <;> intros <;> first
      | omega
      | exact hE
  · apply g190_3 (G := 0) (fun h => absurd h (Nat.lt_irrefl u)) <;> intros <;> first
      | omega
      | exact k
