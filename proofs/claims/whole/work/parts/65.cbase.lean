/-! the class: small questions; traces and scripts, which never change -/
theorem g141_0 {d c s : Nat} {y : Int32} {I : zI} {L : zL} {P : zP} {S : zS} {top : Nat} {Q : Option zV → zM → Prop}
    (h1 : (y < 0) → Q (some (zi (nI 1))) (I, L, zpj P, zsj S, top))
    (h2 : (0 ≤ y) → (y < (nI 4)) → Q (some (zi (nI 0))) (I, L, zpj P, zsj S, top))
    (h3 : (0 ≤ y) → ((nI 4) ≤ y) → Q (some (zi (nI 1))) (I, L, zpj P, zsj S, top)) : Ev d c s 141 0 [some (zi y)] [] (I, L, zpj P, zsj S, top) Q := by
  refine Ew.ld f141_0 rfl rfl rfl rfl ?_
  refine Ew.ifc f141_1 rfl rfl (fun c1 => ?_) (fun c1 => ?_)
  · refine Ew.op (st' := zi (nI 1) :: _) f141_9 rfl rfl ?_
    refine Ew.goto f141_10 rfl ?_
    refine Ew.iretb f141_14 (Or.inr rfl) ?_
    exact h1 c1
  · refine Ew.ld f141_4 rfl rfl rfl rfl ?_
    refine Ew.op (st' := zi (nI 4) :: _) f141_5 rfl rfl ?_
    refine Ew.icmp f141_6 rfl rfl (fun c2 => ?_) (fun c2 => ?_)
    · refine Ew.op (st' := zi (nI 0) :: _) f141_13 rfl rfl ?_
      refine Ew.iretb f141_14 (Or.inl rfl) ?_
      exact h2 (Int32.not_lt.mp c1) c2
    · refine Ew.op (st' := zi (nI 1) :: _) f141_9 rfl rfl ?_
      refine Ew.goto f141_10 rfl ?_
      refine Ew.iretb f141_14 (Or.inr rfl) ?_
      exact h3 (Int32.not_lt.mp c1) (Int32.not_lt.mp c2)
theorem g142_0 {d c s : Nat} {y : Int32} {I : zI} {L : zL} {P : zP} {S : zS} {top : Nat} {Q : Option zV → zM → Prop}
    (h1 : (y < 0) → Q (some (zi (nI 1))) (I, L, zpj P, zsj S, top))
    (h2 : (0 ≤ y) → (y < (nI 6)) → Q (some (zi (nI 0))) (I, L, zpj P, zsj S, top))
    (h3 : (0 ≤ y) → ((nI 6) ≤ y) → Q (some (zi (nI 1))) (I, L, zpj P, zsj S, top)) : Ev d c s 142 0 [some (zi y)] [] (I, L, zpj P, zsj S, top) Q := by
  refine Ew.ld f142_0 rfl rfl rfl rfl ?_
  refine Ew.ifc f142_1 rfl rfl (fun c1 => ?_) (fun c1 => ?_)
  · refine Ew.op (st' := zi (nI 1) :: _) f142_10 rfl rfl ?_
    refine Ew.goto f142_11 rfl ?_
    refine Ew.iretb f142_15 (Or.inr rfl) ?_
    exact h1 c1
  · refine Ew.ld f142_4 rfl rfl rfl rfl ?_
    refine Ew.op (st' := zi (nI 6) :: _) f142_5 rfl rfl ?_
    refine Ew.icmp f142_7 rfl rfl (fun c2 => ?_) (fun c2 => ?_)
    · refine Ew.op (st' := zi (nI 0) :: _) f142_14 rfl rfl ?_
      refine Ew.iretb f142_15 (Or.inl rfl) ?_
      exact h2 (Int32.not_lt.mp c1) c2
    · refine Ew.op (st' := zi (nI 1) :: _) f142_10 rfl rfl ?_
      refine Ew.goto f142_11 rfl ?_
      refine Ew.iretb f142_15 (Or.inr rfl) ?_
      exact h3 (Int32.not_lt.mp c1) (Int32.not_lt.mp c2)
theorem g144_0 {d c s : Nat} {y : Int32} {I : zI} {L : zL} {P : zP} {S : zS} {top : Nat} {Q : Option zV → zM → Prop}
    (h1 : (y < 0) → Q (some (zi (nI 1))) (I, L, zpj P, zsj S, top))
    (h2 : (0 ≤ y) → (y < (nI 4)) → Q (some (zi (nI 0))) (I, L, zpj P, zsj S, top))
    (h3 : (0 ≤ y) → ((nI 4) ≤ y) → Q (some (zi (nI 1))) (I, L, zpj P, zsj S, top)) : Ev d c s 144 0 [some (zi y)] [] (I, L, zpj P, zsj S, top) Q := by
  refine Ew.ld f144_0 rfl rfl rfl rfl ?_
  refine Ew.ifc f144_1 rfl rfl (fun c1 => ?_) (fun c1 => ?_)
  · refine Ew.op (st' := zi (nI 1) :: _) f144_9 rfl rfl ?_
    refine Ew.goto f144_10 rfl ?_
    refine Ew.iretb f144_14 (Or.inr rfl) ?_
    exact h1 c1
  · refine Ew.ld f144_4 rfl rfl rfl rfl ?_
    refine Ew.op (st' := zi (nI 4) :: _) f144_5 rfl rfl ?_
    refine Ew.icmp f144_6 rfl rfl (fun c2 => ?_) (fun c2 => ?_)
    · refine Ew.op (st' := zi (nI 0) :: _) f144_13 rfl rfl ?_
      refine Ew.iretb f144_14 (Or.inl rfl) ?_
      exact h2 (Int32.not_lt.mp c1) c2
    · refine Ew.op (st' := zi (nI 1) :: _) f144_9 rfl rfl ?_
      refine Ew.goto f144_10 rfl ?_
      refine Ew.iretb f144_14 (Or.inr rfl) ?_
      exact h3 (Int32.not_lt.mp c1) (Int32.not_lt.mp c2)
theorem g145_0 {d c s : Nat} {y : Int32} {I : zI} {L : zL} {P : zP} {S : zS} {top : Nat} {Q : Option zV → zM → Prop}
    (h1 : (y < 0) → Q (some (zi (nI 1))) (I, L, zpj P, zsj S, top))
    (h2 : (0 ≤ y) → (y < (nI 4)) → Q (some (zi (nI 0))) (I, L, zpj P, zsj S, top))
    (h3 : (0 ≤ y) → ((nI 4) ≤ y) → Q (some (zi (nI 1))) (I, L, zpj P, zsj S, top)) : Ev d c s 145 0 [some (zi y)] [] (I, L, zpj P, zsj S, top) Q := by
  refine Ew.ld f145_0 rfl rfl rfl rfl ?_
  refine Ew.ifc f145_1 rfl rfl (fun c1 => ?_) (fun c1 => ?_)
  · refine Ew.op (st' := zi (nI 1) :: _) f145_9 rfl rfl ?_
    refine Ew.goto f145_10 rfl ?_
    refine Ew.iretb f145_14 (Or.inr rfl) ?_
    exact h1 c1
  · refine Ew.ld f145_4 rfl rfl rfl rfl ?_
    refine Ew.op (st' := zi (nI 4) :: _) f145_5 rfl rfl ?_
    refine Ew.icmp f145_6 rfl rfl (fun c2 => ?_) (fun c2 => ?_)
    · refine Ew.op (st' := zi (nI 0) :: _) f145_13 rfl rfl ?_
      refine Ew.iretb f145_14 (Or.inl rfl) ?_
      exact h2 (Int32.not_lt.mp c1) c2
    · refine Ew.op (st' := zi (nI 1) :: _) f145_9 rfl rfl ?_
      refine Ew.goto f145_10 rfl ?_
      refine Ew.iretb f145_14 (Or.inr rfl) ?_
      exact h3 (Int32.not_lt.mp c1) (Int32.not_lt.mp c2)
theorem g147_0 {d c s : Nat} {x y : Int32} {I : zI} {L : zL} {P : zP} {S : zS} {top : Nat} {Q : Option zV → zM → Prop}
    (h1 : ((x &&& ((nI 1) <<< (y &&& 31))) = 0) → Q (some (zi (nI 0))) (I, L, zpj P, zsj S, top))
    (h2 : (¬ (x &&& ((nI 1) <<< (y &&& 31))) = 0) → Q (some (zi (nI 1))) (I, L, zpj P, zsj S, top)) : Ev d c s 147 0 [some (zi x), some (zi y)] [] (I, L, zpj P, zsj S, top) Q := by
  refine Ew.ld f147_0 rfl rfl rfl rfl ?_
  refine Ew.op (st' := zi (nI 1) :: _) f147_1 rfl rfl ?_
  refine Ew.ld f147_2 rfl rfl rfl rfl ?_
  refine Ew.op (st' := zi ((nI 1) <<< (y &&& 31)) :: _) f147_3 rfl rfl ?_
  refine Ew.op (st' := zi (x &&& ((nI 1) <<< (y &&& 31))) :: _) f147_4 rfl rfl ?_
  refine Ew.ifc f147_5 rfl rfl (fun c1 => ?_) (fun c1 => ?_)
  · refine Ew.op (st' := zi (nI 0) :: _) f147_12 rfl rfl ?_
    refine Ew.iretb f147_13 (Or.inl rfl) ?_
    exact h1 c1
  · refine Ew.op (st' := zi (nI 1) :: _) f147_8 rfl rfl ?_
    refine Ew.goto f147_9 rfl ?_
    refine Ew.iretb f147_13 (Or.inr rfl) ?_
    exact h2 c1
theorem aIx_neg {x : Int32} {N : Nat} (h : x < 0) : aIx x N = none := by
  unfold aIx
  rw [if_pos h]
theorem aIx_ge {x : Int32} {N : Nat} (hN : N < 2 ^ 31) (h : nI N ≤ x) : aIx x N = none := by
  refine aIx_none hN ?_
  rintro ⟨t, ht, rfl⟩
  exact absurd h (nI_ge ht hN)
theorem aIx_in {x : Int32} {N : Nat} (hN : N < 2 ^ 31) (h0 : 0 ≤ x) (h : x < nI N) : ¬ aIx x N = none := by
  obtain ⟨j, hj, rfl⟩ := nI_of (Int32.not_lt.mpr h0)
  rw [aIx_some ((nI_ltI hj hN).mp h) hN]
  exact fun e => by cases e
theorem aIx_ex {x : Int32} {N : Nat} (h : ¬ aIx x N = none) : ∃ t, t < N ∧ x = nI t ∧ aIx x N = some t := by
  rcases e : aIx x N with _ | t
  · exact absurd e h
  · obtain ⟨e1, e2⟩ := aIx_inv e
    exact ⟨t, e2, e1, rfl⟩
section
variable {d c s : Nat} {x y : Int32} {I : zI} {L : zL} {P : zP} {S : zS} {top : Nat} {Q : Option zV → zM → Prop}
theorem sp_noTask (k1 : aIx y 4 = none → Q (some (zi (nI 1))) (I, L, zpj P, zsj S, top)) (k0 : ¬ aIx y 4 = none → Q (some (zi (nI 0))) (I, L, zpj P, zsj S, top)) : Ev d c s 141 0 [some (zi y)] [] (I, L, zpj P, zsj S, top) Q := g141_0 (fun h => k1 (aIx_neg h)) (fun a b => k0 (aIx_in (by decide) a b)) (fun _ b => k1 (aIx_ge (by decide) b))
theorem sp_noGate (k1 : aIx y 6 = none → Q (some (zi (nI 1))) (I, L, zpj P, zsj S, top)) (k0 : ¬ aIx y 6 = none → Q (some (zi (nI 0))) (I, L, zpj P, zsj S, top)) : Ev d c s 142 0 [some (zi y)] [] (I, L, zpj P, zsj S, top) Q := g142_0 (fun h => k1 (aIx_neg h)) (fun a b => k0 (aIx_in (by decide) a b)) (fun _ b => k1 (aIx_ge (by decide) b))
theorem sp_noSheet (k1 : aIx y 4 = none → Q (some (zi (nI 1))) (I, L, zpj P, zsj S, top)) (k0 : ¬ aIx y 4 = none → Q (some (zi (nI 0))) (I, L, zpj P, zsj S, top)) : Ev d c s 144 0 [some (zi y)] [] (I, L, zpj P, zsj S, top) Q := g144_0 (fun h => k1 (aIx_neg h)) (fun a b => k0 (aIx_in (by decide) a b)) (fun _ b => k1 (aIx_ge (by decide) b))
theorem sp_noLane (k1 : aIx y 4 = none → Q (some (zi (nI 1))) (I, L, zpj P, zsj S, top)) (k0 : ¬ aIx y 4 = none → Q (some (zi (nI 0))) (I, L, zpj P, zsj S, top)) : Ev d c s 145 0 [some (zi y)] [] (I, L, zpj P, zsj S, top) Q := g145_0 (fun h => k1 (aIx_neg h)) (fun a b => k0 (aIx_in (by decide) a b)) (fun _ b => k1 (aIx_ge (by decide) b))
abbrev cHas (x y : Int32) : Prop := ¬ (x &&& (nI 1 <<< (y &&& 31))) = 0
theorem sp_cHas (k1 : cHas x y → Q (some (zi (nI 1))) (I, L, zpj P, zsj S, top)) (k0 : ¬ cHas x y → Q (some (zi (nI 0))) (I, L, zpj P, zsj S, top)) : Ev d c s 147 0 [some (zi x), some (zi y)] [] (I, L, zpj P, zsj S, top) Q := g147_0 (fun h => k0 (fun g => g h)) k1
end
theorem cHas_bit {v k : Nat} (hk : k < 6) (hv : v < 64) : cHas (nI v) (nI k) ↔ v.testBit k = true := by
  have h : ∀ k, k < 6 → ∀ v, v < 64 → (cHas (nI v) (nI k) ↔ v.testBit k = true) := by decide
  exact h k hk v hv
theorem g143_0 {d c s : Nat} {x y : Int32} {I : zI} {L : zL} {P : zP} {S : zS} {top : Nat} {Q : Option zV → zM → Prop}
    (h1 : (aIx x 4 = none) → Q (some (zi (nI 1))) (I, L, zpj P, zsj S, top))
    (h2 : (¬ (aIx x 4 = none)) → (aIx y 4 = none) → Q (some (zi (nI 1))) (I, L, zpj P, zsj S, top))
    (h3 : (¬ (aIx x 4 = none)) → (¬ (aIx y 4 = none)) → (¬ x = y) → Q (some (zi (nI 0))) (I, L, zpj P, zsj S, top))
    (h4 : (¬ (aIx x 4 = none)) → (¬ (aIx y 4 = none)) → (x = y) → Q (some (zi (nI 1))) (I, L, zpj P, zsj S, top)) : Ev (d + 1) c s 143 0 [some (zi x), some (zi y)] [] (I, L, zpj P, zsj S, top) Q := by
  refine Ew.ld f143_0 rfl rfl rfl rfl ?_
  refine Ew.call0 (ls0 := [some (zi x)]) f143_1 rfl (Nat.le_of_ble_eq_true rfl) rfl rfl (Nat.le_of_ble_eq_true rfl) trivial (Nat.le_of_ble_eq_true rfl) rfl rfl ?_
  refine sp_noTask (fun c1 => ?_) (fun c1 => ?_)
  · refine Ew.ifc f143_4 rfl rfl (fun _ => ?_) (fun h => absurd (show ¬ ((nI 1) : Int32) = 0 by decide) h)
    refine Ew.op (st' := zi (nI 1) :: _) f143_19 rfl rfl ?_
    refine Ew.goto f143_20 rfl ?_
    refine Ew.iretb f143_24 (Or.inr rfl) ?_
    exact h1 c1
  · refine Ew.ifc f143_4 rfl rfl (fun h => absurd h (show ¬ (¬ ((nI 0) : Int32) = 0) by decide)) (fun _ => ?_)
    refine Ew.ld f143_7 rfl rfl rfl rfl ?_
    refine Ew.call0 (ls0 := [some (zi y)]) f143_8 rfl (Nat.le_of_ble_eq_true rfl) rfl rfl (Nat.le_of_ble_eq_true rfl) trivial (Nat.le_of_ble_eq_true rfl) rfl rfl ?_
    refine sp_noTask (fun c2 => ?_) (fun c2 => ?_)
    · refine Ew.ifc f143_11 rfl rfl (fun _ => ?_) (fun h => absurd (show ¬ ((nI 1) : Int32) = 0 by decide) h)
      refine Ew.op (st' := zi (nI 1) :: _) f143_19 rfl rfl ?_
      refine Ew.goto f143_20 rfl ?_
      refine Ew.iretb f143_24 (Or.inr rfl) ?_
      exact h2 c1 c2
    · refine Ew.ifc f143_11 rfl rfl (fun h => absurd h (show ¬ (¬ ((nI 0) : Int32) = 0) by decide)) (fun _ => ?_)
      refine Ew.ld f143_14 rfl rfl rfl rfl ?_
      refine Ew.ld f143_15 rfl rfl rfl rfl ?_
      refine Ew.icmp f143_16 rfl rfl (fun c3 => ?_) (fun c3 => ?_)
      · refine Ew.op (st' := zi (nI 0) :: _) f143_23 rfl rfl ?_
        refine Ew.iretb f143_24 (Or.inl rfl) ?_
        exact h3 c1 c2 c3
      · refine Ew.op (st' := zi (nI 1) :: _) f143_19 rfl rfl ?_
        refine Ew.goto f143_20 rfl ?_
        refine Ew.iretb f143_24 (Or.inr rfl) ?_
        exact h4 c1 c2 (Classical.not_not.mp c3)
theorem sp_noPair {d c s : Nat} {x y : Int32} {I : zI} {L : zL} {P : zP} {S : zS} {top : Nat} {Q : Option zV → zM → Prop} (k1 : aTwo x y = none → Q (some (zi (nI 1))) (I, L, zpj P, zsj S, top)) (k0 : ¬ aTwo x y = none → Q (some (zi (nI 0))) (I, L, zpj P, zsj S, top)) : Ev (d + 1) c s 143 0 [some (zi x), some (zi y)] [] (I, L, zpj P, zsj S, top) Q := by
  unfold aTwo at k1 k0
  refine g143_0 (fun h => k1 ?_) (fun h1 h2 => k1 ?_) (fun h1 h2 e => k0 ?_) (fun h1 h2 e => k1 ?_)
  · rw [h]
  · obtain ⟨i, hi, _, ei⟩ := aIx_ex h1
    rw [ei, h2]
  · obtain ⟨i, hi, xi, ei⟩ := aIx_ex h1
    obtain ⟨j, hj, xj, ej⟩ := aIx_ex h2
    rw [ei, ej]
    simp only []
    rw [if_neg (fun g => e (by rw [xi, xj, g]))]
    exact fun g => by cases g
  · obtain ⟨i, hi, xi, ei⟩ := aIx_ex h1
    rw [← e, ei]
    show (if i = i then none else some (i, i)) = none
    rw [if_pos rfl]
/-- the gates that a task is in behind so many steps of a trace -/
def tSetL (T : tT) (k : Nat) : Nat → Int32
  | 0 => nI 0
  | g + 1 => tSetL T k g ||| (if 0 < tIns T.2 k (nI g) then nI 1 <<< (nI g &&& 31) else nI 0)
def tSet (T : tT) (k : Nat) : Int32 := tSetL T k 6
/-- a cell of a trace, its number below a bound -/
def cTr (I : zI) (P : zP) (S : zS) (b n : Nat) (T : tT) : Prop := T.n ≤ 30 ∧ ∃ n1 n2 n3 n4, (n < b ∧ n1 < b ∧ n2 < b ∧ n3 < b ∧ n4 < b) ∧ S 3 n 0 = (9, 0) ∧ (P 3 n 0 1 = some (3, n1, 0) ∧ P 3 n 0 2 = some (3, n2, 0) ∧ P 3 n 0 3 = some (3, n3, 0) ∧ P 3 n 0 4 = some (3, n4, 0)) ∧ (S 3 n1 0 = (20, T.n) ∧ S 3 n2 0 = (20, T.n) ∧ S 3 n3 0 = (20, T.n) ∧ S 3 n4 0 = (20, T.n + 1)) ∧ I 3 n 0 0 = nI T.n ∧ (∀ k, k < T.n → I 3 n1 0 k = T.kind k ∧ I 3 n2 0 k = T.gate k ∧ I 3 n3 0 k = T.add k) ∧ (∀ k, k ≤ T.n → I 3 n4 0 k = tSet T k) ∧ I 3 n 0 5 = T.why ∧ I 3 n 0 6 = T.whyGate ∧ I 3 n 0 7 = T.mended ∧ I 3 n 0 8 = T.again ∧ I 3 n 0 9 = T.deep
theorem g99_0 {d c s : Nat} {n N : Nat} {I : zI} {L : zL} {P : zP} {S : zS} {top : Nat} {Q : Option zV → zM → Prop} (sn : S 3 n 0 = (9, 0)) (z0 : I 3 n 0 0 = nI N)
    (h1 : Q (some (zi (nI N))) (I, L, zpj P, zsj S, top)) : Ev d c s 99 0 [some (zr (some (3, n, 0)))] [] (I, L, zpj P, zsj S, top) Q := by
  refine Ew.ld f99_0 rfl rfl rfl rfl ?_
  refine Ew.getiV (v := nI N) f99_1 (by show (S 3 n 0).1 = _; rw [sn]) z0 rfl ?_
  refine Ew.ireti f99_4 ?_
  exact h1
theorem g100_0 {d c s : Nat} {n N : Nat} {I : zI} {L : zL} {P : zP} {S : zS} {top : Nat} {Q : Option zV → zM → Prop} (sn : S 3 n 0 = (9, 0)) (z0 : I 3 n 0 0 = nI N)
    (h1 : ((I 3 n 0 5) = 0) → Q (some (zi (nI 0))) (I, L, zpj P, zsj S, top))
    (h2 : (¬ (I 3 n 0 5) = 0) → Q (some (zi (nI 1))) (I, L, zpj P, zsj S, top)) : Ev d c s 100 0 [some (zr (some (3, n, 0)))] [] (I, L, zpj P, zsj S, top) Q := by
  refine Ew.ld f100_0 rfl rfl rfl rfl ?_
  refine Ew.geti f100_1 (by show (S 3 n 0).1 = _; rw [sn]) rfl ?_
  refine Ew.ifc f100_4 rfl rfl (fun c1 => ?_) (fun c1 => ?_)
  · refine Ew.op (st' := zi (nI 0) :: _) f100_11 rfl rfl ?_
    refine Ew.iretb f100_12 (Or.inl rfl) ?_
    exact h1 c1
  · refine Ew.op (st' := zi (nI 1) :: _) f100_7 rfl rfl ?_
    refine Ew.goto f100_8 rfl ?_
    refine Ew.iretb f100_12 (Or.inr rfl) ?_
    exact h2 c1
theorem g101_0 {d c s : Nat} {n N k : Nat} {I : zI} {L : zL} {P : zP} {S : zS} {top : Nat} {Q : Option zV → zM → Prop} (sn : S 3 n 0 = (9, 0)) (z0 : I 3 n 0 0 = nI N) (nb_k : k < 5000) (nb_N : N < 5000)
    (h1 : (k < 0) → Q (some (zi (nI 0))) (I, L, zpj P, zsj S, top))
    (h2 : (0 ≤ k) → (N ≤ k) → Q (some (zi (nI 0))) (I, L, zpj P, zsj S, top))
    (h3 : (0 ≤ k) → (k < N) → Q (some (zi (nI 1))) (I, L, zpj P, zsj S, top)) : Ev d c s 101 0 [some (zr (some (3, n, 0))), some (zi (nI k))] [] (I, L, zpj P, zsj S, top) Q := by
  refine Ew.ld f101_0 rfl rfl rfl rfl ?_
  refine Ew.ifc f101_1 rfl rfl (fun c1 => ?_) (fun c1 => ?_)
  · refine Ew.op (st' := zi (nI 0) :: _) f101_16 rfl rfl ?_
    refine Ew.iretb f101_17 (Or.inl rfl) ?_
    exact h1 ((zlt_iff nb_k (by decide)).mp c1)
  · refine Ew.ld f101_4 rfl rfl rfl rfl ?_
    refine Ew.ld f101_5 rfl rfl rfl rfl ?_
    refine Ew.getiV (v := nI N) f101_6 (by show (S 3 n 0).1 = _; rw [sn]) z0 rfl ?_
    refine Ew.icmp f101_9 rfl rfl (fun c2 => ?_) (fun c2 => ?_)
    · refine Ew.op (st' := zi (nI 0) :: _) f101_16 rfl rfl ?_
      refine Ew.iretb f101_17 (Or.inl rfl) ?_
      exact h2 (Nat.not_lt.mp fun e => c1 ((zlt_iff nb_k (by decide)).mpr e)) ((zle_iff nb_N nb_k).mp c2)
    · refine Ew.op (st' := zi (nI 1) :: _) f101_12 rfl rfl ?_
      refine Ew.goto f101_13 rfl ?_
      refine Ew.iretb f101_17 (Or.inr rfl) ?_
      exact h3 (Nat.not_lt.mp fun e => c1 ((zlt_iff nb_k (by decide)).mpr e)) (Nat.not_le.mp fun e => c2 ((zle_iff nb_N nb_k).mpr e))
theorem g102_0 {d c s : Nat} {n n1 n2 n3 n4 N k : Nat} {I : zI} {L : zL} {P : zP} {S : zS} {top : Nat} {Q : Option zV → zM → Prop} (p1 : P 3 n 0 1 = some (3, n1, 0)) (p2 : P 3 n 0 2 = some (3, n2, 0)) (p3 : P 3 n 0 3 = some (3, n3, 0)) (p4 : P 3 n 0 4 = some (3, n4, 0)) (s1 : S 3 n1 0 = (20, N)) (s2 : S 3 n2 0 = (20, N)) (s3 : S 3 n3 0 = (20, N)) (s4 : S 3 n4 0 = (20, N + 1)) (hq : N + 1 < 5000) (sn : S 3 n 0 = (9, 0)) (z0 : I 3 n 0 0 = nI N) (nb_k : k < 5000) (nb_N : N < 5000)
    (h1 : (k < 0) → Q (some (zi ((-4)))) (I, L, zpj P, zsj S, top))
    (h2 : (0 ≤ k) → (N ≤ k) → Q (some (zi ((-4)))) (I, L, zpj P, zsj S, top))
    (b1 : (0 ≤ k) → (k < N) → k < N)
    (h3 : (0 ≤ k) → (k < N) → Q (some (zi (I 3 n1 0 k))) (I, L, zpj P, zsj S, top)) : Ev (d + 1) c s 102 0 [some (zr (some (3, n, 0))), some (zi (nI k))] [] (I, L, zpj P, zsj S, top) Q := by
  refine Ew.ld f102_0 rfl rfl rfl rfl ?_
  refine Ew.ld f102_1 rfl rfl rfl rfl ?_
  refine Ew.call0 (ls0 := [some (zr (some (3, n, 0))), some (zi (nI k))]) f102_2 rfl (Nat.le_of_ble_eq_true rfl) rfl rfl (Nat.le_of_ble_eq_true rfl) (by show (S 3 n 0).1 = _; rw [sn]) (Nat.le_of_ble_eq_true rfl) rfl rfl ?_
  refine Ew.ld f101_0 rfl rfl rfl rfl ?_
  refine Ew.ifc f101_1 rfl rfl (fun c1 => ?_) (fun c1 => ?_)
  · refine Ew.op (st' := zi (nI 0) :: _) f101_16 rfl rfl ?_
    refine Ew.iretb f101_17 (Or.inl rfl) ?_
    show Ev (d + 1) c s 102 5 [some (zr (some (3, n, 0))), some (zi (nI k))] [zi (nI 0)] (I, L, zpj P, zsj S, top) Q
    refine Ew.ifc f102_5 rfl rfl (fun _ => ?_) (fun h => absurd (show ((nI 0) : Int32) = 0 by decide) h)
    refine Ew.op (st' := zi ((-4)) :: _) f102_17 rfl rfl ?_
    refine Ew.ireti f102_19 ?_
    exact h1 ((zlt_iff nb_k (by decide)).mp c1)
  · refine Ew.ld f101_4 rfl rfl rfl rfl ?_
    refine Ew.ld f101_5 rfl rfl rfl rfl ?_
    refine Ew.getiV (v := nI N) f101_6 (by show (S 3 n 0).1 = _; rw [sn]) z0 rfl ?_
    refine Ew.icmp f101_9 rfl rfl (fun c2 => ?_) (fun c2 => ?_)
    · refine Ew.op (st' := zi (nI 0) :: _) f101_16 rfl rfl ?_
      refine Ew.iretb f101_17 (Or.inl rfl) ?_
      show Ev (d + 1) c s 102 5 [some (zr (some (3, n, 0))), some (zi (nI k))] [zi (nI 0)] (I, L, zpj P, zsj S, top) Q
      refine Ew.ifc f102_5 rfl rfl (fun _ => ?_) (fun h => absurd (show ((nI 0) : Int32) = 0 by decide) h)
      refine Ew.op (st' := zi ((-4)) :: _) f102_17 rfl rfl ?_
      refine Ew.ireti f102_19 ?_
      exact h2 (Nat.not_lt.mp fun e => c1 ((zlt_iff nb_k (by decide)).mpr e)) ((zle_iff nb_N nb_k).mp c2)
    · refine Ew.op (st' := zi (nI 1) :: _) f101_12 rfl rfl ?_
      refine Ew.goto f101_13 rfl ?_
      refine Ew.iretb f101_17 (Or.inr rfl) ?_
      show Ev (d + 1) c s 102 5 [some (zr (some (3, n, 0))), some (zi (nI k))] [zi (nI 1)] (I, L, zpj P, zsj S, top) Q
      refine Ew.ifc f102_5 rfl rfl (fun h => absurd h (show ¬ (((nI 1) : Int32) = 0) by decide)) (fun _ => ?_)
      refine Ew.ld f102_8 rfl rfl rfl rfl ?_
      refine Ew.getp (v := some (3, n1, 0)) f102_9 (by show (S 3 n 0).1 = _; rw [sn]) (show zpj P 3 n 0 1 = _ from p1) rfl ?_
      refine Ew.ld f102_12 rfl rfl rfl rfl ?_
      refine Ew.ialdn f102_13 (by show (S 3 n1 0).1 = _; rw [s1]) (by show _ < (S 3 n1 0).2; rw [s1]; exact (b1 (Nat.not_lt.mp fun e => c1 ((zlt_iff nb_k (by decide)).mpr e)) (Nat.not_le.mp fun e => c2 ((zle_iff nb_N nb_k).mpr e)))) (by show (S 3 n1 0).2 < 5000; rw [s1]; omega) rfl ?_
      refine Ew.goto f102_14 rfl ?_
      refine Ew.ireti f102_19 ?_
      exact h3 (Nat.not_lt.mp fun e => c1 ((zlt_iff nb_k (by decide)).mpr e)) (Nat.not_le.mp fun e => c2 ((zle_iff nb_N nb_k).mpr e))
theorem g103_0 {d c s : Nat} {n n1 n2 n3 n4 N k : Nat} {I : zI} {L : zL} {P : zP} {S : zS} {top : Nat} {Q : Option zV → zM → Prop} (p1 : P 3 n 0 1 = some (3, n1, 0)) (p2 : P 3 n 0 2 = some (3, n2, 0)) (p3 : P 3 n 0 3 = some (3, n3, 0)) (p4 : P 3 n 0 4 = some (3, n4, 0)) (s1 : S 3 n1 0 = (20, N)) (s2 : S 3 n2 0 = (20, N)) (s3 : S 3 n3 0 = (20, N)) (s4 : S 3 n4 0 = (20, N + 1)) (hq : N + 1 < 5000) (sn : S 3 n 0 = (9, 0)) (z0 : I 3 n 0 0 = nI N) (nb_k : k < 5000) (nb_N : N < 5000)
    (h1 : (k < 0) → Q (some (zi ((-4)))) (I, L, zpj P, zsj S, top))
    (h2 : (0 ≤ k) → (N ≤ k) → Q (some (zi ((-4)))) (I, L, zpj P, zsj S, top))
    (b1 : (0 ≤ k) → (k < N) → k < N)
    (h3 : (0 ≤ k) → (k < N) → Q (some (zi (I 3 n2 0 k))) (I, L, zpj P, zsj S, top)) : Ev (d + 1) c s 103 0 [some (zr (some (3, n, 0))), some (zi (nI k))] [] (I, L, zpj P, zsj S, top) Q := by
  refine Ew.ld f103_0 rfl rfl rfl rfl ?_
  refine Ew.ld f103_1 rfl rfl rfl rfl ?_
  refine Ew.call0 (ls0 := [some (zr (some (3, n, 0))), some (zi (nI k))]) f103_2 rfl (Nat.le_of_ble_eq_true rfl) rfl rfl (Nat.le_of_ble_eq_true rfl) (by show (S 3 n 0).1 = _; rw [sn]) (Nat.le_of_ble_eq_true rfl) rfl rfl ?_
  refine Ew.ld f101_0 rfl rfl rfl rfl ?_
  refine Ew.ifc f101_1 rfl rfl (fun c1 => ?_) (fun c1 => ?_)
  · refine Ew.op (st' := zi (nI 0) :: _) f101_16 rfl rfl ?_
    refine Ew.iretb f101_17 (Or.inl rfl) ?_
    show Ev (d + 1) c s 103 5 [some (zr (some (3, n, 0))), some (zi (nI k))] [zi (nI 0)] (I, L, zpj P, zsj S, top) Q
    refine Ew.ifc f103_5 rfl rfl (fun _ => ?_) (fun h => absurd (show ((nI 0) : Int32) = 0 by decide) h)
    refine Ew.op (st' := zi ((-4)) :: _) f103_17 rfl rfl ?_
    refine Ew.ireti f103_19 ?_
    exact h1 ((zlt_iff nb_k (by decide)).mp c1)
  · refine Ew.ld f101_4 rfl rfl rfl rfl ?_
    refine Ew.ld f101_5 rfl rfl rfl rfl ?_
    refine Ew.getiV (v := nI N) f101_6 (by show (S 3 n 0).1 = _; rw [sn]) z0 rfl ?_
    refine Ew.icmp f101_9 rfl rfl (fun c2 => ?_) (fun c2 => ?_)
    · refine Ew.op (st' := zi (nI 0) :: _) f101_16 rfl rfl ?_
      refine Ew.iretb f101_17 (Or.inl rfl) ?_
      show Ev (d + 1) c s 103 5 [some (zr (some (3, n, 0))), some (zi (nI k))] [zi (nI 0)] (I, L, zpj P, zsj S, top) Q
      refine Ew.ifc f103_5 rfl rfl (fun _ => ?_) (fun h => absurd (show ((nI 0) : Int32) = 0 by decide) h)
      refine Ew.op (st' := zi ((-4)) :: _) f103_17 rfl rfl ?_
      refine Ew.ireti f103_19 ?_
      exact h2 (Nat.not_lt.mp fun e => c1 ((zlt_iff nb_k (by decide)).mpr e)) ((zle_iff nb_N nb_k).mp c2)
    · refine Ew.op (st' := zi (nI 1) :: _) f101_12 rfl rfl ?_
      refine Ew.goto f101_13 rfl ?_
      refine Ew.iretb f101_17 (Or.inr rfl) ?_
      show Ev (d + 1) c s 103 5 [some (zr (some (3, n, 0))), some (zi (nI k))] [zi (nI 1)] (I, L, zpj P, zsj S, top) Q
      refine Ew.ifc f103_5 rfl rfl (fun h => absurd h (show ¬ (((nI 1) : Int32) = 0) by decide)) (fun _ => ?_)
      refine Ew.ld f103_8 rfl rfl rfl rfl ?_
      refine Ew.getp (v := some (3, n2, 0)) f103_9 (by show (S 3 n 0).1 = _; rw [sn]) (show zpj P 3 n 0 2 = _ from p2) rfl ?_
      refine Ew.ld f103_12 rfl rfl rfl rfl ?_
      refine Ew.ialdn f103_13 (by show (S 3 n2 0).1 = _; rw [s2]) (by show _ < (S 3 n2 0).2; rw [s2]; exact (b1 (Nat.not_lt.mp fun e => c1 ((zlt_iff nb_k (by decide)).mpr e)) (Nat.not_le.mp fun e => c2 ((zle_iff nb_N nb_k).mpr e)))) (by show (S 3 n2 0).2 < 5000; rw [s2]; omega) rfl ?_
      refine Ew.goto f103_14 rfl ?_
      refine Ew.ireti f103_19 ?_
      exact h3 (Nat.not_lt.mp fun e => c1 ((zlt_iff nb_k (by decide)).mpr e)) (Nat.not_le.mp fun e => c2 ((zle_iff nb_N nb_k).mpr e))
theorem g104_0 {d c s : Nat} {n n1 n2 n3 n4 N k : Nat} {I : zI} {L : zL} {P : zP} {S : zS} {top : Nat} {Q : Option zV → zM → Prop} (p1 : P 3 n 0 1 = some (3, n1, 0)) (p2 : P 3 n 0 2 = some (3, n2, 0)) (p3 : P 3 n 0 3 = some (3, n3, 0)) (p4 : P 3 n 0 4 = some (3, n4, 0)) (s1 : S 3 n1 0 = (20, N)) (s2 : S 3 n2 0 = (20, N)) (s3 : S 3 n3 0 = (20, N)) (s4 : S 3 n4 0 = (20, N + 1)) (hq : N + 1 < 5000) (sn : S 3 n 0 = (9, 0)) (z0 : I 3 n 0 0 = nI N) (nb_k : k < 5000) (nb_N : N < 5000)
    (h1 : (k < 0) → Q (some (zi (nI 0))) (I, L, zpj P, zsj S, top))
    (h2 : (0 ≤ k) → (N ≤ k) → Q (some (zi (nI 0))) (I, L, zpj P, zsj S, top))
    (b1 : (0 ≤ k) → (k < N) → k < N)
    (h3 : (0 ≤ k) → (k < N) → Q (some (zi (I 3 n3 0 k))) (I, L, zpj P, zsj S, top)) : Ev (d + 1) c s 104 0 [some (zr (some (3, n, 0))), some (zi (nI k))] [] (I, L, zpj P, zsj S, top) Q := by
  refine Ew.ld f104_0 rfl rfl rfl rfl ?_
  refine Ew.ld f104_1 rfl rfl rfl rfl ?_
  refine Ew.call0 (ls0 := [some (zr (some (3, n, 0))), some (zi (nI k))]) f104_2 rfl (Nat.le_of_ble_eq_true rfl) rfl rfl (Nat.le_of_ble_eq_true rfl) (by show (S 3 n 0).1 = _; rw [sn]) (Nat.le_of_ble_eq_true rfl) rfl rfl ?_
  refine Ew.ld f101_0 rfl rfl rfl rfl ?_
  refine Ew.ifc f101_1 rfl rfl (fun c1 => ?_) (fun c1 => ?_)
  · refine Ew.op (st' := zi (nI 0) :: _) f101_16 rfl rfl ?_
    refine Ew.iretb f101_17 (Or.inl rfl) ?_
    show Ev (d + 1) c s 104 5 [some (zr (some (3, n, 0))), some (zi (nI k))] [zi (nI 0)] (I, L, zpj P, zsj S, top) Q
    refine Ew.ifc f104_5 rfl rfl (fun _ => ?_) (fun h => absurd (show ((nI 0) : Int32) = 0 by decide) h)
    refine Ew.op (st' := zi (nI 0) :: _) f104_17 rfl rfl ?_
    refine Ew.ireti f104_18 ?_
    exact h1 ((zlt_iff nb_k (by decide)).mp c1)
  · refine Ew.ld f101_4 rfl rfl rfl rfl ?_
    refine Ew.ld f101_5 rfl rfl rfl rfl ?_
    refine Ew.getiV (v := nI N) f101_6 (by show (S 3 n 0).1 = _; rw [sn]) z0 rfl ?_
    refine Ew.icmp f101_9 rfl rfl (fun c2 => ?_) (fun c2 => ?_)
    · refine Ew.op (st' := zi (nI 0) :: _) f101_16 rfl rfl ?_
      refine Ew.iretb f101_17 (Or.inl rfl) ?_
      show Ev (d + 1) c s 104 5 [some (zr (some (3, n, 0))), some (zi (nI k))] [zi (nI 0)] (I, L, zpj P, zsj S, top) Q
      refine Ew.ifc f104_5 rfl rfl (fun _ => ?_) (fun h => absurd (show ((nI 0) : Int32) = 0 by decide) h)
      refine Ew.op (st' := zi (nI 0) :: _) f104_17 rfl rfl ?_
      refine Ew.ireti f104_18 ?_
      exact h2 (Nat.not_lt.mp fun e => c1 ((zlt_iff nb_k (by decide)).mpr e)) ((zle_iff nb_N nb_k).mp c2)
    · refine Ew.op (st' := zi (nI 1) :: _) f101_12 rfl rfl ?_
      refine Ew.goto f101_13 rfl ?_
      refine Ew.iretb f101_17 (Or.inr rfl) ?_
      show Ev (d + 1) c s 104 5 [some (zr (some (3, n, 0))), some (zi (nI k))] [zi (nI 1)] (I, L, zpj P, zsj S, top) Q
      refine Ew.ifc f104_5 rfl rfl (fun h => absurd h (show ¬ (((nI 1) : Int32) = 0) by decide)) (fun _ => ?_)
      refine Ew.ld f104_8 rfl rfl rfl rfl ?_
      refine Ew.getp (v := some (3, n3, 0)) f104_9 (by show (S 3 n 0).1 = _; rw [sn]) (show zpj P 3 n 0 3 = _ from p3) rfl ?_
      refine Ew.ld f104_12 rfl rfl rfl rfl ?_
      refine Ew.ialdn f104_13 (by show (S 3 n3 0).1 = _; rw [s3]) (by show _ < (S 3 n3 0).2; rw [s3]; exact (b1 (Nat.not_lt.mp fun e => c1 ((zlt_iff nb_k (by decide)).mpr e)) (Nat.not_le.mp fun e => c2 ((zle_iff nb_N nb_k).mpr e)))) (by show (S 3 n3 0).2 < 5000; rw [s3]; omega) rfl ?_
      refine Ew.goto f104_14 rfl ?_
      refine Ew.ireti f104_18 ?_
      exact h3 (Nat.not_lt.mp fun e => c1 ((zlt_iff nb_k (by decide)).mpr e)) (Nat.not_le.mp fun e => c2 ((zle_iff nb_N nb_k).mpr e))
theorem g106_0 {d c s : Nat} {n n1 n2 n3 n4 N k : Nat} {I : zI} {L : zL} {P : zP} {S : zS} {top : Nat} {Q : Option zV → zM → Prop} (p1 : P 3 n 0 1 = some (3, n1, 0)) (p2 : P 3 n 0 2 = some (3, n2, 0)) (p3 : P 3 n 0 3 = some (3, n3, 0)) (p4 : P 3 n 0 4 = some (3, n4, 0)) (s1 : S 3 n1 0 = (20, N)) (s2 : S 3 n2 0 = (20, N)) (s3 : S 3 n3 0 = (20, N)) (s4 : S 3 n4 0 = (20, N + 1)) (hq : N + 1 < 5000) (sn : S 3 n 0 = (9, 0)) (z0 : I 3 n 0 0 = nI N) (nb_k : k < 5000) (nb_N : N < 5000)
    (h1 : (k < 0) → Q (some (zi (nI 0))) (I, L, zpj P, zsj S, top))
    (b1 : (0 ≤ k) → (k ≤ N) → k < N + 1)
    (h2 : (0 ≤ k) → (k ≤ N) → Q (some (zi (I 3 n4 0 k))) (I, L, zpj P, zsj S, top))
    (h3 : (0 ≤ k) → (N < k) → Q (some (zi (nI 0))) (I, L, zpj P, zsj S, top)) : Ev d c s 106 0 [some (zr (some (3, n, 0))), some (zi (nI k))] [] (I, L, zpj P, zsj S, top) Q := by
  refine Ew.ld f106_0 rfl rfl rfl rfl ?_
  refine Ew.ifc f106_1 rfl rfl (fun c1 => ?_) (fun c1 => ?_)
  · refine Ew.op (st' := zi (nI 0) :: _) f106_12 rfl rfl ?_
    refine Ew.goto f106_13 rfl ?_
    refine Ew.ireti f106_22 ?_
    exact h1 ((zlt_iff nb_k (by decide)).mp c1)
  · refine Ew.ld f106_4 rfl rfl rfl rfl ?_
    refine Ew.ld f106_5 rfl rfl rfl rfl ?_
    refine Ew.getiV (v := nI N) f106_6 (by show (S 3 n 0).1 = _; rw [sn]) z0 rfl ?_
    refine Ew.icmp f106_9 rfl rfl (fun c2 => ?_) (fun c2 => ?_)
    · refine Ew.ld f106_16 rfl rfl rfl rfl ?_
      refine Ew.getp (v := some (3, n4, 0)) f106_17 (by show (S 3 n 0).1 = _; rw [sn]) (show zpj P 3 n 0 4 = _ from p4) rfl ?_
      refine Ew.ld f106_20 rfl rfl rfl rfl ?_
      refine Ew.ialdn f106_21 (by show (S 3 n4 0).1 = _; rw [s4]) (by show _ < (S 3 n4 0).2; rw [s4]; exact (b1 (Nat.not_lt.mp fun e => c1 ((zlt_iff nb_k (by decide)).mpr e)) ((zle_iff nb_k nb_N).mp c2))) (by show (S 3 n4 0).2 < 5000; rw [s4]; omega) rfl ?_
      refine Ew.ireti f106_22 ?_
      exact h2 (Nat.not_lt.mp fun e => c1 ((zlt_iff nb_k (by decide)).mpr e)) ((zle_iff nb_k nb_N).mp c2)
    · refine Ew.op (st' := zi (nI 0) :: _) f106_12 rfl rfl ?_
      refine Ew.goto f106_13 rfl ?_
      refine Ew.ireti f106_22 ?_
      exact h3 (Nat.not_lt.mp fun e => c1 ((zlt_iff nb_k (by decide)).mpr e)) (Nat.not_le.mp fun e => c2 ((zle_iff nb_k nb_N).mpr e))
theorem g107_0 {d c s : Nat} {n n1 n2 n3 n4 N k : Nat} {I : zI} {L : zL} {P : zP} {S : zS} {top : Nat} {Q : Option zV → zM → Prop} (p1 : P 3 n 0 1 = some (3, n1, 0)) (p2 : P 3 n 0 2 = some (3, n2, 0)) (p3 : P 3 n 0 3 = some (3, n3, 0)) (p4 : P 3 n 0 4 = some (3, n4, 0)) (s1 : S 3 n1 0 = (20, N)) (s2 : S 3 n2 0 = (20, N)) (s3 : S 3 n3 0 = (20, N)) (s4 : S 3 n4 0 = (20, N + 1)) (hq : N + 1 < 5000) (sn : S 3 n 0 = (9, 0)) (z0 : I 3 n 0 0 = nI N) (nb_k : k < 5000) (nb_N : N < 5000)
    (h1 : (k < 0) → Q (some (zi ((-4)))) (I, L, zpj P, zsj S, top))
    (h2 : (0 ≤ k) → (N ≤ k) → Q (some (zi ((-4)))) (I, L, zpj P, zsj S, top))
    (b1 : (0 ≤ k) → (k < N) → k < N)
    (h3 : (0 ≤ k) → (k < N) → (¬ (I 3 n1 0 k) = 0) → Q (some (zi ((-4)))) (I, L, zpj P, zsj S, top))
    (b2 : (0 ≤ k) → (k < N) → ((I 3 n1 0 k) = 0) → k < N)
    (h4 : (0 ≤ k) → (k < N) → ((I 3 n1 0 k) = 0) → Q (some (zi (I 3 n2 0 k))) (I, L, zpj P, zsj S, top)) : Ev (d + 2) c s 107 0 [some (zr (some (3, n, 0))), some (zi (nI k))] [] (I, L, zpj P, zsj S, top) Q := by
  refine Ew.ld f107_0 rfl rfl rfl rfl ?_
  refine Ew.ld f107_1 rfl rfl rfl rfl ?_
  refine Ew.call0 (ls0 := [some (zr (some (3, n, 0))), some (zi (nI k))]) f107_2 rfl (Nat.le_of_ble_eq_true rfl) rfl rfl (Nat.le_of_ble_eq_true rfl) (by show (S 3 n 0).1 = _; rw [sn]) (Nat.le_of_ble_eq_true rfl) rfl rfl ?_
  refine Ew.ld f102_0 rfl rfl rfl rfl ?_
  refine Ew.ld f102_1 rfl rfl rfl rfl ?_
  refine Ew.call0 (ls0 := [some (zr (some (3, n, 0))), some (zi (nI k))]) f102_2 rfl (Nat.le_of_ble_eq_true rfl) rfl rfl (Nat.le_of_ble_eq_true rfl) (by show (S 3 n 0).1 = _; rw [sn]) (Nat.le_of_ble_eq_true rfl) rfl rfl ?_
  refine Ew.ld f101_0 rfl rfl rfl rfl ?_
  refine Ew.ifc f101_1 rfl rfl (fun c1 => ?_) (fun c1 => ?_)
  · refine Ew.op (st' := zi (nI 0) :: _) f101_16 rfl rfl ?_
    refine Ew.iretb f101_17 (Or.inl rfl) ?_
    show Ev (d + 1) 0 0 102 5 [some (zr (some (3, n, 0))), some (zi (nI k))] [zi (nI 0)] (I, L, zpj P, zsj S, top) (fun r M' => Ev (d + 2) c s 107 5 [some (zr (some (3, n, 0))), some (zi (nI k))] (zpush r []) M' Q)
    refine Ew.ifc f102_5 rfl rfl (fun _ => ?_) (fun h => absurd (show ((nI 0) : Int32) = 0 by decide) h)
    refine Ew.op (st' := zi ((-4)) :: _) f102_17 rfl rfl ?_
    refine Ew.ireti f102_19 ?_
    show Ev (d + 2) c s 107 5 [some (zr (some (3, n, 0))), some (zi (nI k))] [zi ((-4))] (I, L, zpj P, zsj S, top) Q
    refine Ew.ifc f107_5 rfl rfl (fun _ => ?_) (fun h => absurd (show ¬ (((-4)) : Int32) = 0 by decide) h)
    refine Ew.op (st' := zi ((-4)) :: _) f107_17 rfl rfl ?_
    refine Ew.ireti f107_19 ?_
    exact h1 ((zlt_iff nb_k (by decide)).mp c1)
  · refine Ew.ld f101_4 rfl rfl rfl rfl ?_
    refine Ew.ld f101_5 rfl rfl rfl rfl ?_
    refine Ew.getiV (v := nI N) f101_6 (by show (S 3 n 0).1 = _; rw [sn]) z0 rfl ?_
    refine Ew.icmp f101_9 rfl rfl (fun c2 => ?_) (fun c2 => ?_)
    · refine Ew.op (st' := zi (nI 0) :: _) f101_16 rfl rfl ?_
      refine Ew.iretb f101_17 (Or.inl rfl) ?_
      show Ev (d + 1) 0 0 102 5 [some (zr (some (3, n, 0))), some (zi (nI k))] [zi (nI 0)] (I, L, zpj P, zsj S, top) (fun r M' => Ev (d + 2) c s 107 5 [some (zr (some (3, n, 0))), some (zi (nI k))] (zpush r []) M' Q)
      refine Ew.ifc f102_5 rfl rfl (fun _ => ?_) (fun h => absurd (show ((nI 0) : Int32) = 0 by decide) h)
      refine Ew.op (st' := zi ((-4)) :: _) f102_17 rfl rfl ?_
      refine Ew.ireti f102_19 ?_
      show Ev (d + 2) c s 107 5 [some (zr (some (3, n, 0))), some (zi (nI k))] [zi ((-4))] (I, L, zpj P, zsj S, top) Q
      refine Ew.ifc f107_5 rfl rfl (fun _ => ?_) (fun h => absurd (show ¬ (((-4)) : Int32) = 0 by decide) h)
      refine Ew.op (st' := zi ((-4)) :: _) f107_17 rfl rfl ?_
      refine Ew.ireti f107_19 ?_
      exact h2 (Nat.not_lt.mp fun e => c1 ((zlt_iff nb_k (by decide)).mpr e)) ((zle_iff nb_N nb_k).mp c2)
    · refine Ew.op (st' := zi (nI 1) :: _) f101_12 rfl rfl ?_
      refine Ew.goto f101_13 rfl ?_
      refine Ew.iretb f101_17 (Or.inr rfl) ?_
      show Ev (d + 1) 0 0 102 5 [some (zr (some (3, n, 0))), some (zi (nI k))] [zi (nI 1)] (I, L, zpj P, zsj S, top) (fun r M' => Ev (d + 2) c s 107 5 [some (zr (some (3, n, 0))), some (zi (nI k))] (zpush r []) M' Q)
      refine Ew.ifc f102_5 rfl rfl (fun h => absurd h (show ¬ (((nI 1) : Int32) = 0) by decide)) (fun _ => ?_)
      refine Ew.ld f102_8 rfl rfl rfl rfl ?_
      refine Ew.getp (v := some (3, n1, 0)) f102_9 (by show (S 3 n 0).1 = _; rw [sn]) (show zpj P 3 n 0 1 = _ from p1) rfl ?_
      refine Ew.ld f102_12 rfl rfl rfl rfl ?_
      refine Ew.ialdn f102_13 (by show (S 3 n1 0).1 = _; rw [s1]) (by show _ < (S 3 n1 0).2; rw [s1]; exact (b1 (Nat.not_lt.mp fun e => c1 ((zlt_iff nb_k (by decide)).mpr e)) (Nat.not_le.mp fun e => c2 ((zle_iff nb_N nb_k).mpr e)))) (by show (S 3 n1 0).2 < 5000; rw [s1]; omega) rfl ?_
      refine Ew.goto f102_14 rfl ?_
      refine Ew.ireti f102_19 ?_
      show Ev (d + 2) c s 107 5 [some (zr (some (3, n, 0))), some (zi (nI k))] [zi (I 3 n1 0 k)] (I, L, zpj P, zsj S, top) Q
      refine Ew.ifc f107_5 rfl rfl (fun c3 => ?_) (fun c3 => ?_)
      · refine Ew.op (st' := zi ((-4)) :: _) f107_17 rfl rfl ?_
        refine Ew.ireti f107_19 ?_
        exact h3 (Nat.not_lt.mp fun e => c1 ((zlt_iff nb_k (by decide)).mpr e)) (Nat.not_le.mp fun e => c2 ((zle_iff nb_N nb_k).mpr e)) c3
      · refine Ew.ld f107_8 rfl rfl rfl rfl ?_
        refine Ew.getp (v := some (3, n2, 0)) f107_9 (by show (S 3 n 0).1 = _; rw [sn]) (show zpj P 3 n 0 2 = _ from p2) rfl ?_
        refine Ew.ld f107_12 rfl rfl rfl rfl ?_
        refine Ew.ialdn f107_13 (by show (S 3 n2 0).1 = _; rw [s2]) (by show _ < (S 3 n2 0).2; rw [s2]; exact (b2 (Nat.not_lt.mp fun e => c1 ((zlt_iff nb_k (by decide)).mpr e)) (Nat.not_le.mp fun e => c2 ((zle_iff nb_N nb_k).mpr e)) (Classical.not_not.mp c3))) (by show (S 3 n2 0).2 < 5000; rw [s2]; omega) rfl ?_
        refine Ew.goto f107_14 rfl ?_
        refine Ew.ireti f107_19 ?_
        exact h4 (Nat.not_lt.mp fun e => c1 ((zlt_iff nb_k (by decide)).mpr e)) (Nat.not_le.mp fun e => c2 ((zle_iff nb_N nb_k).mpr e)) (Classical.not_not.mp c3)
theorem g109_0 {d c s : Nat} {n N : Nat} {y : Int32} {I : zI} {L : zL} {P : zP} {S : zS} {top : Nat} {Q : Option zV → zM → Prop} (sn : S 3 n 0 = (9, 0)) (z0 : I 3 n 0 0 = nI N)
    (h1 : (y = nI 0) → Q (some (zi (nI N))) (I, L, zpj P, zsj S, top))
    (h2 : (¬ y = nI 0) → (y = nI 1) → Q (some (zi (I 3 n 0 5))) (I, L, zpj P, zsj S, top))
    (h3 : (¬ y = nI 0) → (¬ y = nI 1) → (y = nI 2) → Q (some (zi (I 3 n 0 6))) (I, L, zpj P, zsj S, top))
    (h4 : (¬ y = nI 0) → (¬ y = nI 1) → (¬ y = nI 2) → (y = nI 3) → Q (some (zi (I 3 n 0 7))) (I, L, zpj P, zsj S, top))
    (h5 : (¬ y = nI 0) → (¬ y = nI 1) → (¬ y = nI 2) → (¬ y = nI 3) → (y = nI 4) → Q (some (zi (I 3 n 0 8))) (I, L, zpj P, zsj S, top))
    (h6 : (¬ y = nI 0) → (¬ y = nI 1) → (¬ y = nI 2) → (¬ y = nI 3) → (¬ y = nI 4) → (y = nI 5) → Q (some (zi (I 3 n 0 9))) (I, L, zpj P, zsj S, top))
    (h7 : (¬ y = nI 0) → (¬ y = nI 1) → (¬ y = nI 2) → (¬ y = nI 3) → (¬ y = nI 4) → (¬ y = nI 5) → Q (some (zi ((-1)))) (I, L, zpj P, zsj S, top)) : Ev d c s 109 0 [some (zr (some (3, n, 0))), some (zi y)] [] (I, L, zpj P, zsj S, top) Q := by
  refine Ew.ld f109_0 rfl rfl rfl rfl ?_
  by_cases c1 : y = nI 0
  · refine Ew.tsw (pc' := 40) (x := y) f109_1 (by rw [c1] <;> rfl) ?_
    refine Ew.ld f109_40 rfl rfl rfl rfl ?_
    refine Ew.getiV (v := nI N) f109_41 (by show (S 3 n 0).1 = _; rw [sn]) z0 rfl ?_
    refine Ew.ireti f109_44 ?_
    exact h1 c1
  by_cases c2 : y = nI 1
  · refine Ew.tsw (pc' := 45) (x := y) f109_1 (by rw [c2] <;> rfl) ?_
    refine Ew.ld f109_45 rfl rfl rfl rfl ?_
    refine Ew.geti f109_46 (by show (S 3 n 0).1 = _; rw [sn]) rfl ?_
    refine Ew.ireti f109_49 ?_
    exact h2 c1 c2
  by_cases c3 : y = nI 2
  · refine Ew.tsw (pc' := 50) (x := y) f109_1 (by rw [c3] <;> rfl) ?_
    refine Ew.ld f109_50 rfl rfl rfl rfl ?_
    refine Ew.geti f109_51 (by show (S 3 n 0).1 = _; rw [sn]) rfl ?_
    refine Ew.ireti f109_54 ?_
    exact h3 c1 c2 c3
  by_cases c4 : y = nI 3
  · refine Ew.tsw (pc' := 55) (x := y) f109_1 (by rw [c4] <;> rfl) ?_
    refine Ew.ld f109_55 rfl rfl rfl rfl ?_
    refine Ew.geti f109_56 (by show (S 3 n 0).1 = _; rw [sn]) rfl ?_
    refine Ew.ireti f109_59 ?_
    exact h4 c1 c2 c3 c4
  by_cases c5 : y = nI 4
  · refine Ew.tsw (pc' := 60) (x := y) f109_1 (by rw [c5] <;> rfl) ?_
    refine Ew.ld f109_60 rfl rfl rfl rfl ?_
    refine Ew.geti f109_61 (by show (S 3 n 0).1 = _; rw [sn]) rfl ?_
    refine Ew.ireti f109_64 ?_
    exact h5 c1 c2 c3 c4 c5
  by_cases c6 : y = nI 5
  · refine Ew.tsw (pc' := 65) (x := y) f109_1 (by rw [c6] <;> rfl) ?_
    refine Ew.ld f109_65 rfl rfl rfl rfl ?_
    refine Ew.geti f109_66 (by show (S 3 n 0).1 = _; rw [sn]) rfl ?_
    refine Ew.ireti f109_69 ?_
    exact h6 c1 c2 c3 c4 c5 c6
  refine Ew.tsw (x := y) f109_1 (ztw_o (m := 0) (n := 6) (zno (by decide) (fun k hk => by rcases (show k = 0 ∨ k = 1 ∨ k = 2 ∨ k = 3 ∨ k = 4 ∨ k = 5 by omega) with rfl | rfl | rfl | rfl | rfl | rfl <;> first | exact c1 | exact c2 | exact c3 | exact c4 | exact c5 | exact c6)) rfl rfl rfl) ?_
  refine Ew.op (st' := zi ((-1)) :: _) f109_70 rfl rfl ?_
  refine Ew.ireti f109_71 ?_
  exact h7 c1 c2 c3 c4 c5 c6
theorem g110_0 {d c s : Nat} {n n1 n2 n3 n4 N : Nat} {y z : Int32} {I : zI} {L : zL} {P : zP} {S : zS} {top : Nat} {Q : Option zV → zM → Prop} (p1 : P 3 n 0 1 = some (3, n1, 0)) (p2 : P 3 n 0 2 = some (3, n2, 0)) (p3 : P 3 n 0 3 = some (3, n3, 0)) (p4 : P 3 n 0 4 = some (3, n4, 0)) (s1 : S 3 n1 0 = (20, N)) (s2 : S 3 n2 0 = (20, N)) (s3 : S 3 n3 0 = (20, N)) (s4 : S 3 n4 0 = (20, N + 1)) (hq : N + 1 < 5000) (sn : S 3 n 0 = (9, 0)) (z0 : I 3 n 0 0 = nI N)
    (h1 : (z < 0) → Q (some (zi ((-1)))) (I, L, zpj P, zsj S, top))
    (h2 : (0 ≤ z) → ((nI N) ≤ z) → Q (some (zi ((-1)))) (I, L, zpj P, zsj S, top))
    (b1 : (0 ≤ z) → (z < (nI N)) → (y = nI 0) → vp_in z N)
    (h3 : (0 ≤ z) → (z < (nI N)) → (y = nI 0) → Q (some (zi (I 3 n1 0 z.toNatClampNeg))) (I, L, zpj P, zsj S, top))
    (b2 : (0 ≤ z) → (z < (nI N)) → (¬ y = nI 0) → (y = nI 1) → vp_in z N)
    (h4 : (0 ≤ z) → (z < (nI N)) → (¬ y = nI 0) → (y = nI 1) → Q (some (zi (I 3 n2 0 z.toNatClampNeg))) (I, L, zpj P, zsj S, top))
    (b3 : (0 ≤ z) → (z < (nI N)) → (¬ y = nI 0) → (¬ y = nI 1) → (y = nI 2) → vp_in z N)
    (h5 : (0 ≤ z) → (z < (nI N)) → (¬ y = nI 0) → (¬ y = nI 1) → (y = nI 2) → Q (some (zi ((I 3 n3 0 z.toNatClampNeg) + (nI 10)))) (I, L, zpj P, zsj S, top))
    (h6 : (0 ≤ z) → (z < (nI N)) → (¬ y = nI 0) → (¬ y = nI 1) → (¬ y = nI 2) → Q (some (zi ((-1)))) (I, L, zpj P, zsj S, top)) : Ev (d + 1) c s 110 0 [some (zr (some (3, n, 0))), some (zi z), some (zi y)] [] (I, L, zpj P, zsj S, top) Q := by
  refine Ew.ld f110_0 rfl rfl rfl rfl ?_
  refine Ew.ld f110_1 rfl rfl rfl rfl ?_
  refine Ew.call0 (ls0 := [some (zr (some (3, n, 0))), some (zi z)]) f110_2 rfl (Nat.le_of_ble_eq_true rfl) rfl rfl (Nat.le_of_ble_eq_true rfl) (by show (S 3 n 0).1 = _; rw [sn]) (Nat.le_of_ble_eq_true rfl) rfl rfl ?_
  refine Ew.ld f101_0 rfl rfl rfl rfl ?_
  refine Ew.ifc f101_1 rfl rfl (fun c1 => ?_) (fun c1 => ?_)
  · refine Ew.op (st' := zi (nI 0) :: _) f101_16 rfl rfl ?_
    refine Ew.iretb f101_17 (Or.inl rfl) ?_
    show Ev (d + 1) c s 110 5 [some (zr (some (3, n, 0))), some (zi z), some (zi y)] [zi (nI 0)] (I, L, zpj P, zsj S, top) Q
    refine Ew.ifc f110_5 rfl rfl (fun h => absurd h (show ¬ (¬ ((nI 0) : Int32) = 0) by decide)) (fun _ => ?_)
    refine Ew.op (st' := zi ((-1)) :: _) f110_8 rfl rfl ?_
    refine Ew.ireti f110_9 ?_
    exact h1 c1
  · refine Ew.ld f101_4 rfl rfl rfl rfl ?_
    refine Ew.ld f101_5 rfl rfl rfl rfl ?_
    refine Ew.getiV (v := nI N) f101_6 (by show (S 3 n 0).1 = _; rw [sn]) z0 rfl ?_
    refine Ew.icmp f101_9 rfl rfl (fun c2 => ?_) (fun c2 => ?_)
    · refine Ew.op (st' := zi (nI 0) :: _) f101_16 rfl rfl ?_
      refine Ew.iretb f101_17 (Or.inl rfl) ?_
      show Ev (d + 1) c s 110 5 [some (zr (some (3, n, 0))), some (zi z), some (zi y)] [zi (nI 0)] (I, L, zpj P, zsj S, top) Q
      refine Ew.ifc f110_5 rfl rfl (fun h => absurd h (show ¬ (¬ ((nI 0) : Int32) = 0) by decide)) (fun _ => ?_)
      refine Ew.op (st' := zi ((-1)) :: _) f110_8 rfl rfl ?_
      refine Ew.ireti f110_9 ?_
      exact h2 (Int32.not_lt.mp c1) c2
    · refine Ew.op (st' := zi (nI 1) :: _) f101_12 rfl rfl ?_
      refine Ew.goto f101_13 rfl ?_
      refine Ew.iretb f101_17 (Or.inr rfl) ?_
      show Ev (d + 1) c s 110 5 [some (zr (some (3, n, 0))), some (zi z), some (zi y)] [zi (nI 1)] (I, L, zpj P, zsj S, top) Q
      refine Ew.ifc f110_5 rfl rfl (fun _ => ?_) (fun h => absurd (show ¬ ((nI 1) : Int32) = 0 by decide) h)
      refine Ew.ld f110_10 rfl rfl rfl rfl ?_
      by_cases c3 : y = nI 0
      · refine Ew.tsw (pc' := 36) (x := y) f110_11 (by rw [c3] <;> rfl) ?_
        refine Ew.ld f110_36 rfl rfl rfl rfl ?_
        refine Ew.getp (v := some (3, n1, 0)) f110_37 (by show (S 3 n 0).1 = _; rw [sn]) (show zpj P 3 n 0 1 = _ from p1) rfl ?_
        refine Ew.ld f110_40 rfl rfl rfl rfl ?_
        refine Ew.ialdx f110_41 (by show (S 3 n1 0).1 = _; rw [s1]) (by show vp_in _ (S 3 n1 0).2; rw [s1]; exact (b1 (Int32.not_lt.mp c1) (Int32.not_le.mp c2) c3)) rfl ?_
        refine Ew.ireti f110_42 ?_
        exact h3 (Int32.not_lt.mp c1) (Int32.not_le.mp c2) c3
      by_cases c4 : y = nI 1
      · refine Ew.tsw (pc' := 43) (x := y) f110_11 (by rw [c4] <;> rfl) ?_
        refine Ew.ld f110_43 rfl rfl rfl rfl ?_
        refine Ew.getp (v := some (3, n2, 0)) f110_44 (by show (S 3 n 0).1 = _; rw [sn]) (show zpj P 3 n 0 2 = _ from p2) rfl ?_
        refine Ew.ld f110_47 rfl rfl rfl rfl ?_
        refine Ew.ialdx f110_48 (by show (S 3 n2 0).1 = _; rw [s2]) (by show vp_in _ (S 3 n2 0).2; rw [s2]; exact (b2 (Int32.not_lt.mp c1) (Int32.not_le.mp c2) c3 c4)) rfl ?_
        refine Ew.ireti f110_49 ?_
        exact h4 (Int32.not_lt.mp c1) (Int32.not_le.mp c2) c3 c4
      by_cases c5 : y = nI 2
      · refine Ew.tsw (pc' := 50) (x := y) f110_11 (by rw [c5] <;> rfl) ?_
        refine Ew.ld f110_50 rfl rfl rfl rfl ?_
        refine Ew.getp (v := some (3, n3, 0)) f110_51 (by show (S 3 n 0).1 = _; rw [sn]) (show zpj P 3 n 0 3 = _ from p3) rfl ?_
        refine Ew.ld f110_54 rfl rfl rfl rfl ?_
        refine Ew.ialdx f110_55 (by show (S 3 n3 0).1 = _; rw [s3]) (by show vp_in _ (S 3 n3 0).2; rw [s3]; exact (b3 (Int32.not_lt.mp c1) (Int32.not_le.mp c2) c3 c4 c5)) rfl ?_
        refine Ew.op (st' := zi (nI 10) :: _) f110_56 rfl rfl ?_
        refine Ew.op (st' := zi ((I 3 n3 0 z.toNatClampNeg) + (nI 10)) :: _) f110_58 rfl rfl ?_
        refine Ew.ireti f110_59 ?_
        exact h5 (Int32.not_lt.mp c1) (Int32.not_le.mp c2) c3 c4 c5
      refine Ew.tsw (x := y) f110_11 (ztw_o (m := 0) (n := 3) (zno (by decide) (fun k hk => by rcases (show k = 0 ∨ k = 1 ∨ k = 2 by omega) with rfl | rfl | rfl <;> first | exact c3 | exact c4 | exact c5)) rfl rfl rfl) ?_
      refine Ew.op (st' := zi ((-1)) :: _) f110_60 rfl rfl ?_
      refine Ew.ireti f110_61 ?_
      exact h6 (Int32.not_lt.mp c1) (Int32.not_le.mp c2) c3 c4 c5
def tKd (T : tT) (k : Nat) : Int32 := if k < T.n then T.kind k else -4
def tGt (T : tT) (k : Nat) : Int32 := if k < T.n then T.gate k else -4
def tAd (T : tT) (k : Nat) : Int32 := if k < T.n then T.add k else nI 0
def tEn (T : tT) (k : Nat) : Int32 := if k < T.n then (if T.kind k = 0 then T.gate k else -4) else -4
def tIs (T : tT) (k : Nat) : Int32 := if k ≤ T.n then tSet T k else nI 0
section
variable {d c s b n k : Nat} {T : tT} {I : zI} {L : zL} {P : zP} {S : zS} {top : Nat} {Q : Option zV → zM → Prop}
theorem sp_tLen (h : cTr I P S b n T) (k : Q (some (zi (nI T.n))) (I, L, zpj P, zsj S, top)) : Ev d c s 99 0 [some (zr (some (3, n, 0)))] [] (I, L, zpj P, zsj S, top) Q := by
  obtain ⟨h30, n1, n2, n3, n4, _, sn, _, _, z0, _⟩ := h
  exact g99_0 sn z0 k
theorem sp_tBrk (h : cTr I P S b n T) (k1 : ¬ T.why = 0 → Q (some (zi (nI 1))) (I, L, zpj P, zsj S, top)) (k0 : ¬ ¬ T.why = 0 → Q (some (zi (nI 0))) (I, L, zpj P, zsj S, top)) : Ev d c s 100 0 [some (zr (some (3, n, 0)))] [] (I, L, zpj P, zsj S, top) Q := by
  obtain ⟨h30, n1, n2, n3, n4, _, sn, _, _, z0, _, _, z5, _⟩ := h
  rw [← z5] at k1 k0
  exact g100_0 sn z0 (fun h => k0 (fun g => g h)) k1
theorem sp_tHas (h : cTr I P S b n T) (hk : k < 5000) (k1 : k < T.n → Q (some (zi (nI 1))) (I, L, zpj P, zsj S, top)) (k0 : ¬ k < T.n → Q (some (zi (nI 0))) (I, L, zpj P, zsj S, top)) : Ev d c s 101 0 [some (zr (some (3, n, 0))), some (zi (nI k))] [] (I, L, zpj P, zsj S, top) Q := by
  obtain ⟨h30, n1, n2, n3, n4, _, sn, _, _, z0, _⟩ := h
  exact g101_0 sn z0 hk (by omega) (fun g => by omega) (fun _ g => k0 (by omega)) (fun _ g => k1 g)
theorem sp_tKd (h : cTr I P S b n T) (hk : k < 5000) (kk : Q (some (zi (tKd T k))) (I, L, zpj P, zsj S, top)) : Ev (d + 1) c s 102 0 [some (zr (some (3, n, 0))), some (zi (nI k))] [] (I, L, zpj P, zsj S, top) Q := by
  obtain ⟨h30, n1, n2, n3, n4, _, sn, ⟨p1, p2, p3, p4⟩, ⟨s1, s2, s3, s4⟩, z0, r, _⟩ := h
  unfold tKd at kk
  refine g102_0 p1 p2 p3 p4 s1 s2 s3 s4 (by omega) sn z0 hk (by omega) (fun g => by omega) (fun _ g => ?_) (fun _ g => g) (fun _ g => ?_)
  · rw [if_neg (by omega)] at kk; exact kk
  · rw [if_pos g] at kk; rw [(r k g).1]; exact kk
theorem sp_tGt (h : cTr I P S b n T) (hk : k < 5000) (kk : Q (some (zi (tGt T k))) (I, L, zpj P, zsj S, top)) : Ev (d + 1) c s 103 0 [some (zr (some (3, n, 0))), some (zi (nI k))] [] (I, L, zpj P, zsj S, top) Q := by
  obtain ⟨h30, n1, n2, n3, n4, _, sn, ⟨p1, p2, p3, p4⟩, ⟨s1, s2, s3, s4⟩, z0, r, _⟩ := h
  unfold tGt at kk
  refine g103_0 p1 p2 p3 p4 s1 s2 s3 s4 (by omega) sn z0 hk (by omega) (fun g => by omega) (fun _ g => ?_) (fun _ g => g) (fun _ g => ?_)
  · rw [if_neg (by omega)] at kk; exact kk
  · rw [if_pos g] at kk; rw [(r k g).2.1]; exact kk
theorem sp_tAd (h : cTr I P S b n T) (hk : k < 5000) (kk : Q (some (zi (tAd T k))) (I, L, zpj P, zsj S, top)) : Ev (d + 1) c s 104 0 [some (zr (some (3, n, 0))), some (zi (nI k))] [] (I, L, zpj P, zsj S, top) Q := by
  obtain ⟨h30, n1, n2, n3, n4, _, sn, ⟨p1, p2, p3, p4⟩, ⟨s1, s2, s3, s4⟩, z0, r, _⟩ := h
  unfold tAd at kk
  refine g104_0 p1 p2 p3 p4 s1 s2 s3 s4 (by omega) sn z0 hk (by omega) (fun g => by omega) (fun _ g => ?_) (fun _ g => g) (fun _ g => ?_)
  · rw [if_neg (by omega)] at kk; exact kk
  · rw [if_pos g] at kk; rw [(r k g).2.2]; exact kk
theorem sp_tIs (h : cTr I P S b n T) (hk : k < 5000) (kk : Q (some (zi (tIs T k))) (I, L, zpj P, zsj S, top)) : Ev d c s 106 0 [some (zr (some (3, n, 0))), some (zi (nI k))] [] (I, L, zpj P, zsj S, top) Q := by
  obtain ⟨h30, n1, n2, n3, n4, _, sn, ⟨p1, p2, p3, p4⟩, ⟨s1, s2, s3, s4⟩, z0, r, r4, _⟩ := h
  unfold tIs at kk
  refine g106_0 p1 p2 p3 p4 s1 s2 s3 s4 (by omega) sn z0 hk (by omega) (fun g => by omega) (fun _ g => by omega) (fun _ g => ?_) (fun _ g => ?_)
  · rw [if_pos g] at kk; rw [r4 k g]; exact kk
  · rw [if_neg (by omega)] at kk; exact kk
theorem sp_tEn (h : cTr I P S b n T) (hk : k < 5000) (kk : Q (some (zi (tEn T k))) (I, L, zpj P, zsj S, top)) : Ev (d + 2) c s 107 0 [some (zr (some (3, n, 0))), some (zi (nI k))] [] (I, L, zpj P, zsj S, top) Q := by
  obtain ⟨h30, n1, n2, n3, n4, _, sn, ⟨p1, p2, p3, p4⟩, ⟨s1, s2, s3, s4⟩, z0, r, _⟩ := h
  unfold tEn at kk
  refine g107_0 p1 p2 p3 p4 s1 s2 s3 s4 (by omega) sn z0 hk (by omega) (fun g => by omega) (fun _ g => ?_) (fun _ g => g) (fun _ g e => ?_) (fun _ g _ => g) (fun _ g e => ?_)
  · rw [if_neg (by omega)] at kk; exact kk
  · rw [(r k g).1] at e; rw [if_pos g, if_neg e] at kk; exact kk
  · rw [(r k g).1] at e; rw [if_pos g, if_pos e] at kk; rw [(r k g).2.1]; exact kk
end
