/-! cells are made: rows over a memory as it is -/
theorem zup3_if {α : Type} (f : Nat → Nat → Nat → α) (r j q : Nat) (v : α) (r' j' q' : Nat) : zup3 f r j q v r' j' q' = if r' = r ∧ j' = j ∧ q' = q then v else f r' j' q' := by
  by_cases h : r' = r ∧ j' = j ∧ q' = q
  · rw [if_pos h]; obtain ⟨rfl, rfl, rfl⟩ := h; exact zup3_s _ _ _ _ _
  · rw [if_neg h]; exact zup3_o _ _ h
section
variable {d c s mid pc pc' len top : Nat} {ls : List (Option zV)} {st : List zV} {Q : Option zV → zM → Prop} {a : List Nat} {z : Int} {I : zI} {L : zL} {P : zP} {S : zS} {r j q : Nat}
theorem Ew.newR {ci nf idx : Nat} (hF : zF mid pc = some (.new idx, len, [ci, nf], z)) (ht : zal top = (r, j, q)) (hpc : pc + len = pc') (k : Ev d c s mid pc' ls (zr (some (r, j, q)) :: st) (zup3 I r j q (fun _ => 0), zup3 L r j q (fun _ => 0), zup3 P r j q (fun _ => none), zup3 S r j q (ci + 1, 0), top + 1) Q) : Ev d (c + 1) (s + nf) mid pc ls st (I, L, P, S, top) Q := by
  refine Ew.mk (c' := c) (s' := s) hF rfl (fun k h => ?_) hpc k
  refine ⟨Nat.le_add_left 1 c, Nat.le_add_left nf s, ?_⟩
  rw [Nat.add_sub_cancel, Nat.add_sub_cancel]
  unfold znew
  show k c s (zr (some (zal top)) :: st) (match zal top with | (r, j, q) => (zup3 I r j q (fun _ => 0), zup3 L r j q (fun _ => 0), zup3 P r j q (fun _ => none), zup3 S r j q (ci + 1, 0), top + 1))
  rw [ht]
  exact h
theorem Ew.newaR {n tag : Nat} {ty : ArrayType} (hF : zF mid pc = some (.newarray ty, len, a, z)) (ht : zal top = (r, j, q)) (hn : n < 5000) (hty : zaty ty = tag) (hpc : pc + len = pc') (k : Ev d c s mid pc' ls (zr (some (r, j, q)) :: st) (zup3 I r j q (fun _ => 0), zup3 L r j q (fun _ => 0), zup3 P r j q (fun _ => none), zup3 S r j q (tag, n), top + 1) Q) : Ev d (c + 1) (s + n) mid pc ls (zi (nI n) :: st) (I, L, P, S, top) Q := by
  subst hty
  refine Ew.mk (c' := c) (s' := s) hF rfl (fun k h => ?_) hpc k
  have cn : (nI n).toNatClampNeg = n := nI_clamp (by omega)
  refine ⟨nI_pos (by omega), by rw [cn]; omega, Nat.le_add_left 1 c, by rw [cn]; exact Nat.le_add_left n s, ?_⟩
  rw [cn, Nat.add_sub_cancel, Nat.add_sub_cancel]
  unfold znew
  show k c s (zr (some (zal top)) :: st) (match zal top with | (r, j, q) => (zup3 I r j q (fun _ => 0), zup3 L r j q (fun _ => 0), zup3 P r j q (fun _ => none), zup3 S r j q (zaty ty, n), top + 1))
  rw [ht]
  exact h
theorem Ew.anewaR {n tag idx : Nat} (hF : zF mid pc = some (.anewarray idx, len, [tag], z)) (ht : zal top = (r, j, q)) (hn : n < 5000) (hpc : pc + len = pc') (k : Ev d c s mid pc' ls (zr (some (r, j, q)) :: st) (zup3 I r j q (fun _ => 0), zup3 L r j q (fun _ => 0), zup3 P r j q (fun _ => none), zup3 S r j q (tag, n), top + 1) Q) : Ev d (c + 1) (s + n) mid pc ls (zi (nI n) :: st) (I, L, P, S, top) Q := by
  refine Ew.mk (c' := c) (s' := s) hF rfl (fun k h => ?_) hpc k
  have cn : (nI n).toNatClampNeg = n := nI_clamp (by omega)
  refine ⟨nI_pos (by omega), by rw [cn]; omega, Nat.le_add_left 1 c, by rw [cn]; exact Nat.le_add_left n s, ?_⟩
  rw [cn, Nat.add_sub_cancel, Nat.add_sub_cancel]
  unfold znew
  show k c s (zr (some (zal top)) :: st) (match zal top with | (r, j, q) => (zup3 I r j q (fun _ => 0), zup3 L r j q (fun _ => 0), zup3 P r j q (fun _ => none), zup3 S r j q (tag, n), top + 1))
  rw [ht]
  exact h
/-- an array is filled -/
theorem sp_fillR {v : Int32} {N : Nat} (h9 : ¬ r = 9) (hS : S r j q = (20, N)) (hN : N < 5000) (k : ∀ I', (∀ r' j' q' i, ¬ (r' = r ∧ j' = j ∧ q' = q) → I' r' j' q' i = I r' j' q' i) → (∀ i, i < N → I' r j q i = v) → (∀ i, N ≤ i → I' r j q i = I r j q i) → Q none (I', L, P, S, top)) : Ev d c s 246 0 [some (zr (some (r, j, q))), some (zi v), none, none] [] (I, L, P, S, top) Q := by
  have h1 : (S r j q).1 = 20 := by rw [hS]
  have h2 : (S r j q).2 = N := by rw [hS]
  refine Ew.op (st' := zi (nI 0) :: _) f246_0 rfl rfl ?_
  refine Ew.sr (ls' := [some (zr (some (r, j, q))), some (zi v), some (zi (nI 0)), none]) f246_1 rfl rfl (Nat.le_of_ble_eq_true rfl) rfl rfl ?_
  refine Ew.ld f246_2 rfl rfl rfl rfl ?_
  refine Ew.alen (n := N) f246_3 (by rw [h1]; exact Nat.le_of_ble_eq_true rfl) h2 rfl ?_
  refine Ew.sr (ls' := [some (zr (some (r, j, q))), some (zi v), some (zi (nI 0)), some (zi (nI N))]) f246_4 rfl rfl (Nat.le_of_ble_eq_true rfl) rfl rfl ?_
  have lp : ∀ m, m ≤ N → ∀ I', (∀ r' j' q' i, ¬ (r' = r ∧ j' = j ∧ q' = q) → I' r' j' q' i = I r' j' q' i) → (∀ i, i < N - m → I' r j q i = v) → (∀ i, N ≤ i → I' r j q i = I r j q i) → Ev d c s 246 5 [some (zr (some (r, j, q))), some (zi v), some (zi (nI (N - m))), some (zi (nI N))] [] (I', L, P, S, top) Q := by
    intro m
    induction m with
    | zero =>
      intro _ I' f1 f2 f3
      refine Ew.ld f246_5 rfl rfl rfl rfl ?_
      refine Ew.ld f246_6 rfl rfl rfl rfl ?_
      refine Ew.icmp f246_7 rfl rfl (fun _ => ?_) (fun g => absurd (show nI N ≤ nI (N - 0) from Int32.le_refl _) g)
      exact Ew.vret f246_20 (k I' f1 (fun i hi => f2 i (by omega)) f3)
    | succ m ih =>
      intro hm I' f1 f2 f3
      refine Ew.ld f246_5 rfl rfl rfl rfl ?_
      refine Ew.ld f246_6 rfl rfl rfl rfl ?_
      refine Ew.icmp f246_7 rfl rfl (fun g => absurd ((zle_iff hN (by omega)).mp g) (by omega)) (fun _ => ?_)
      refine Ew.ld f246_10 rfl rfl rfl rfl ?_
      refine Ew.ld f246_11 rfl rfl rfl rfl ?_
      refine Ew.ld f246_12 rfl rfl rfl rfl ?_
      refine Ew.iastn f246_13 h9 h1 (by rw [h2]; omega) (by rw [h2]; exact hN) rfl ?_
      refine Ew.iinc (v := nI (N - (m + 1) + 1)) (ls' := [some (zr (some (r, j, q))), some (zi v), some (zi (nI (N - (m + 1) + 1))), some (zi (nI N))]) f246_14 rfl (nI_1 _) rfl rfl ?_
      refine Ew.goto f246_17 rfl ?_
      rw [show N - (m + 1) + 1 = N - m by omega]
      refine ih (by omega) _ (fun r' j' q' i g => ?_) (fun i hi => ?_) (fun i hi => ?_)
      · rw [zu4n _ _ (fun e => g ⟨e.1, e.2.1, e.2.2.1⟩)]; exact f1 r' j' q' i g
      · by_cases e : i = N - (m + 1)
        · subst e; exact zu4s _ _ _ _ _ _
        · rw [zu4n _ _ (by omega)]; exact f2 i (by omega)
      · rw [zu4n _ _ (by omega)]; exact f3 i hi
  have h0 := lp N (Nat.le_refl _) I (fun _ _ _ _ _ => rfl) (fun i hi => by omega) (fun _ _ => rfl)
  rw [Nat.sub_self] at h0
  exact h0
/-- a short copy of an array -/
theorem sp_cpR {n N r1 j1 q1 : Nat} (h9 : ¬ r = 9) (hS : S r j q = (20, N)) (hN : N < 5000) (hn : n < N) (ht : zal top = (r1, j1, q1)) (h91 : ¬ r1 = 9) (hne : ¬ (r = r1 ∧ j = j1 ∧ q = q1)) (hs : n ≤ s) (k : Q (some (zr (some (r1, j1, q1)))) (zup3 (zup3 I r1 j1 q1 (fun _ => 0)) r1 j1 q1 (va_cpy (I r j q) (fun _ => 0) 0 0 n), zup3 L r1 j1 q1 (fun _ => 0), zup3 P r1 j1 q1 (fun _ => none), zup3 S r1 j1 q1 (20, n), top + 1)) : Ev (d + 1) (c + 1) s 247 0 [some (zr (some (r, j, q))), some (zi (nI n)), none] [] (I, L, P, S, top) Q := by
  have h1 : (S r j q).1 = 20 := by rw [hS]
  have h2 : (S r j q).2 = N := by rw [hS]
  refine Ew.ld f247_0 rfl rfl rfl rfl ?_
  refine Ew.ld f247_1 rfl rfl rfl rfl ?_
  refine Ew.alen (n := N) f247_2 (by rw [h1]; exact Nat.le_of_ble_eq_true rfl) h2 rfl ?_
  refine Ew.icmp f247_3 rfl rfl (fun _ => ?_) (fun c1 => absurd (fun e => by have := (zeq (by omega) hN).mp e; omega) c1)
  refine Ew.ld f247_14 rfl rfl rfl rfl ?_
  have es : s = s - n + n := by omega
  rw [es]
  refine Ew.newaR (n := n) (tag := 20) f247_15 ht (by omega) rfl rfl ?_
  refine Ew.sr (ls' := [some (zr (some (r, j, q))), some (zi (nI n)), some (zr (some (r1, j1, q1)))]) f247_17 rfl rfl (Nat.le_of_ble_eq_true rfl) rfl rfl ?_
  have e1 : zup3 S r1 j1 q1 (20, n) r j q = (20, N) := by rw [zup3_o _ _ hne]; exact hS
  refine Ew.ld f247_18 rfl rfl rfl rfl ?_
  refine Ew.op (st' := zi (nI 0) :: _) f247_19 rfl rfl ?_
  refine Ew.ld f247_20 rfl rfl rfl rfl ?_
  refine Ew.op (st' := zi (nI 0) :: _) f247_21 rfl rfl ?_
  refine Ew.ld f247_22 rfl rfl rfl rfl ?_
  refine Ew.alen (n := N) f247_23 (by rw [e1]; exact Nat.le_of_ble_eq_true rfl) (by rw [e1]) rfl ?_
  refine Ew.ld f247_24 rfl rfl rfl rfl ?_
  refine Ew.nat (st' := zi (nI n) :: _) f247_25 rfl (fun k h => ⟨Nat.le_of_ble_eq_true rfl, by rw [if_pos ((zlt_iff (by omega) hN).mpr (by omega))]; exact h⟩) rfl ?_
  have c0 : (nI 0).toNatClampNeg = 0 := rfl
  have cn : (nI n).toNatClampNeg = n := nI_clamp (by omega)
  have p0 : ¬ (nI 0 : Int32) < 0 := by decide
  have pn : ¬ (nI n : Int32) < 0 := nI_pos (by omega)
  refine Ew.nat (st' := []) (c' := c) (s' := s - n) (M' := (zup3 (zup3 I r1 j1 q1 (fun _ => 0)) r1 j1 q1 (va_cpy (I r j q) (fun _ => 0) 0 0 n), zup3 L r1 j1 q1 (fun _ => 0), zup3 P r1 j1 q1 (fun _ => none), zup3 S r1 j1 q1 (20, n), top + 1)) f247_28 rfl (fun k h => ?_) rfl ?_
  · refine ⟨Nat.le_of_ble_eq_true rfl, h91, h9, ?_, p0, p0, pn, ?_, ?_, Or.inl ⟨?_, ?_⟩⟩
    · show (zup3 S r1 j1 q1 (20, n) r j q).1 = (zup3 S r1 j1 q1 (20, n) r1 j1 q1).1
      rw [e1, zup3_s]
    · show (nI 0).toNatClampNeg + (nI n).toNatClampNeg ≤ (zup3 S r1 j1 q1 (20, n) r j q).2
      rw [c0, cn, e1]; show 0 + n ≤ N; omega
    · show (nI 0).toNatClampNeg + (nI n).toNatClampNeg ≤ (zup3 S r1 j1 q1 (20, n) r1 j1 q1).2
      rw [c0, cn, zup3_s]; exact Nat.le_of_eq (Nat.zero_add n)
    · show (zup3 S r1 j1 q1 (20, n) r1 j1 q1).1 = 20 ∨ (zup3 S r1 j1 q1 (20, n) r1 j1 q1).1 = 22
      rw [zup3_s]; exact Or.inl rfl
    · show k c (s - n) [] (zup3 (zup3 I r1 j1 q1 (fun _ => 0)) r1 j1 q1 (va_cpy (zup3 I r1 j1 q1 (fun _ => 0) r j q) (zup3 I r1 j1 q1 (fun _ => 0) r1 j1 q1) (nI 0).toNatClampNeg (nI 0).toNatClampNeg (nI n).toNatClampNeg), _)
      rw [c0, cn, zup3_o _ _ hne, zup3_s]; exact h
  refine Ew.ld f247_31 rfl rfl rfl rfl ?_
  exact Ew.aret f247_32 k
end
