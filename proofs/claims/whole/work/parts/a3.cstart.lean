/-! the class and the reference tell the state at the beginning -/
/-- what both constructors leave -/
def Zb (f : Nat → Int32) (N : Nat) (I : zI) (L : zL) (P : zP) (S : zS) : Prop := fAB 0 237 (I00 f) L00 P00 (S00 N) I L P S ∧ (∀ n, n < 204 → Ec I L P S (zal n)) ∧ (∀ k, k ≤ 32 → L 1 0 k = (fun _ => 0) ∧ P 1 0 k = EP 1 0 k ∧ S 1 0 k = zs1 k) ∧ I 1 0 0 = (fun i => if i = 5 then -1 else 0) ∧ I 1 0 1 = fun _ => 0
section
variable {f : Nat → Int32} {N : Nat} {I I1 : zI} {L L1 : zL} {P P1 : zP} {S S1 : zS}
theorem EP1 {k : Nat} (h1 : 1 ≤ k) : EP 1 0 k = fun _ => none := by
  cases k with
  | zero => omega
  | succ k => rfl
theorem Zb_mk (h1 : Xs 204 12 4 (zup3 (I00 f) 0 0 0 (fun _ => 0)) (zup3 L00 0 0 0 (fun _ => 0)) (zup3 P00 0 0 0 (fun _ => none)) (zup3 (S00 N) 0 0 0 (10, 0)) I1 L1 P1 S1) (h2 : Xr 32 43 (fun i => if i = 5 then -1 else 0) (zup3 I1 1 0 0 (fun _ => 0)) (zup3 L1 1 0 0 (fun _ => 0)) (zup3 P1 1 0 0 (fun _ => none)) (zup3 S1 1 0 0 (11, 0)) I L P S) : Zb f N I L P S := by
  obtain ⟨a1, a2, a3, a4⟩ := h1
  obtain ⟨b1, b2, b3, b4, b5, b6⟩ := h2
  have f1 : fAB 0 204 (I00 f) L00 P00 (S00 N) I1 L1 P1 S1 := fun r j q g => by
    have n0 := zne (g 0 (by omega) (by omega)) (rfl : zal 0 = (0, 0, 0))
    have := a1 r j q g
    unfold mEq at this ⊢
    rw [zup3_o _ _ n0, zup3_o _ _ n0, zup3_o _ _ n0, zup3_o _ _ n0] at this
    exact this
  have f2 : fAB 204 237 I1 L1 P1 S1 I L P S := fun r j q g => by
    have n0 := zne (g 204 (by omega) (by omega)) (rfl : zal 204 = (1, 0, 0))
    have := b1 r j q g
    unfold mEq at this ⊢
    rw [zup3_o _ _ n0, zup3_o _ _ n0, zup3_o _ _ n0, zup3_o _ _ n0] at this
    exact this
  refine ⟨f1.trans f2 (by omega) (by omega), fun n hn => ?_, fun k hk => ?_, b3, (b2 1 (by omega) (by omega)).1⟩
  · refine Ec.fr ?_ (f2.cell hn rfl)
    by_cases e : n = 0
    · subst e
      rw [show zal 0 = (0, 0, 0) from rfl]
      refine ⟨a3.1, a3.2.1, ?_, a3.2.2.2⟩
      show P1 0 0 0 = EP 0 0 0
      rw [a3.2.2.1]
      funext i
      by_cases g : i < 12
      · simp only [if_pos g]
      · simp only [if_neg g]
        show none = zpj (fun _ _ _ _ => none) 0 0 0 i
        unfold zpj
        repeat' split
        all_goals first | rfl | omega
    · by_cases e2 : n = 195
      · subst e2
        rw [show zal 195 = (0, 0, 17) from rfl]
        have a4 := a4 (by omega)
        refine ⟨a4.1, a4.2.1, ?_, a4.2.2.2⟩
        show P1 0 0 17 = EP 0 0 17
        rw [a4.2.2.1]
        funext i
        by_cases g : i < 4
        · have h : i = 0 ∨ i = 1 ∨ i = 2 ∨ i = 3 := by omega
          rcases h with e | e | e | e <;> subst e <;> rfl
        · simp only [if_neg g]
          show none = zpj (fun _ _ _ _ => none) 0 0 17 i
          unfold zpj
          repeat' split
          all_goals first | rfl | omega
      · exact a2 n (by omega) hn e2
  · by_cases e : k = 0
    · subst e
      refine ⟨b4, ?_, b6⟩
      rw [b5]
      funext i
      by_cases g : i < 43
      · simp only [if_pos g]
      · simp only [if_neg g]
        show none = zpj (fun _ _ _ _ => none) 1 0 0 i
        unfold zpj
        repeat' split
        all_goals first | rfl | omega
    · have := b2 k (by omega) hk
      exact ⟨this.2.1, by rw [EP1 (by omega)]; exact this.2.2.1, this.2.2.2⟩
theorem Zb.at (h : Zb f N I L P S) {n : Nat} (hn : n < 237) {r j q : Nat} (e : zal n = (r, j, q)) : P r j q = EP r j q ∧ S r j q = ES r j q := by
  by_cases g : n < 204
  · have := h.2.1 n g
    rw [e] at this
    exact ⟨this.2.2.1, this.2.2.2⟩
  · obtain ⟨k, hk, rfl⟩ : ∃ k, k ≤ 32 ∧ n = 204 + k := ⟨n - 204, by omega, by omega⟩
    have e2 := (zal_r k hk).symm.trans e
    have hr : r = 1 := (congrArg Prod.fst e2).symm
    have hj : j = 0 := (congrArg (fun x => x.2.1) e2).symm
    have hq : q = k := (congrArg (fun x => x.2.2) e2).symm
    subst hr hj hq
    have := h.2.2.1 q hk
    exact ⟨this.2.1, this.2.2⟩
theorem Zb.pj (h : Zb f N I L P S) : zpj P = P := by
  funext r j q i
  by_cases g : ∃ n, n < 237 ∧ zal n = (r, j, q)
  · obtain ⟨n, hn, e⟩ := g
    have := congrFun (h.at hn e).1 i
    rw [zpj_dep this, zpj_EP, this]
  · have := (h.1 r j q (fun n _ hn e => g ⟨n, hn, e⟩)).2.2.1
    exact zpj_self (P := fun _ _ _ _ => none) (congrFun this i)
theorem Zb.sj (h : Zb f N I L P S) : zsj S = S := by
  funext r j q
  by_cases g : ∃ n, n < 237 ∧ zal n = (r, j, q)
  · obtain ⟨n, hn, e⟩ := g
    have := (h.at hn e).2
    rw [zsj_dep this, zsj_ES, this]
  · have g' : ∀ n, n < 237 → ¬ zal n = (r, j, q) := fun n hn e => g ⟨n, hn, e⟩
    have := (h.1 r j q (fun n _ hn => g' n hn)).2.2.2
    refine zsj_no g' ?_
    by_cases h9 : r = 9
    · rw [if_pos h9]
    · rw [if_neg h9, this]
      unfold S00
      rw [if_neg h9]
theorem Zb.cell (h : Zb f N I L P S) {n : Nat} (hn : n < 204) {r j q : Nat} (e : zal n = (r, j, q)) : I r j q = EI r j q ∧ P r j q = EP r j q ∧ S r j q = ES r j q := by
  have := h.2.1 n hn
  rw [e] at this
  exact ⟨this.1, this.2.2.1, this.2.2.2⟩
theorem Zb.hs (h : Zb f N I L P S) : cHs I P S 9 0 2 [] ∧ cHs I P S 9 1 9 [] := by
  have p0 := (h.cell (n := 44) (by omega) (rfl : zal 44 = (4, 0, 1))).2.1
  have p1 := (h.cell (n := 123) (by omega) (rfl : zal 123 = (4, 1, 1))).2.1
  have i0 := (h.cell (n := 43) (by omega) (rfl : zal 43 = (4, 0, 0))).1
  have i1 := (h.cell (n := 122) (by omega) (rfl : zal 122 = (4, 1, 0))).1
  refine ⟨⟨fun k => 2 + k, ⟨fun k hk => ⟨Nat.le_add_right _ _, Nat.add_lt_add_left hk _, ?_⟩, fun k k' _ _ e => Nat.add_left_cancel e⟩, Nat.zero_le _, by rw [i0]; rfl, fun k hk => absurd hk (Nat.not_lt_zero _)⟩, ⟨fun k => 9 + k, ⟨fun k hk => ⟨Nat.le_add_right _ _, Nat.add_lt_add_left hk _, ?_⟩, fun k k' _ _ e => Nat.add_left_cancel e⟩, Nat.zero_le _, by rw [i1]; rfl, fun k hk => absurd hk (Nat.not_lt_zero _)⟩⟩
  · rw [p0]; show (if k < 6 then some (2, 2 + k, 0) else none) = _; rw [if_pos hk]
  · rw [p1]; show (if k < 6 then some (2, 9 + k, 0) else none) = _; rw [if_pos hk]
theorem Zb.tb (h : Zb f N I L P S) : cTb I P S 9 0 w0 := by
  have hI : ∀ q, q ≤ 10 → I 2 0 q = EI 2 0 q := fun q hq => by
    have : ∀ q, q ≤ 10 → zal (21 + q) = (2, 0, q) := by decide
    exact (h.cell (by omega) (this q hq)).1
  have p1 := (h.cell (n := 22) (by omega) (rfl : zal 22 = (2, 0, 1))).2.1
  have p2 := (h.cell (n := 23) (by omega) (rfl : zal 23 = (2, 0, 2))).2.1
  have c2 := h.cell (n := 13) (by omega) (rfl : zal 13 = (3, 2, 0))
  have c3 := h.cell (n := 14) (by omega) (rfl : zal 14 = (3, 3, 0))
  have c4 := h.cell (n := 15) (by omega) (rfl : zal 15 = (3, 4, 0))
  have c5 := h.cell (n := 16) (by omega) (rfl : zal 16 = (3, 5, 0))
  have c6 := h.cell (n := 17) (by omega) (rfl : zal 17 = (3, 6, 0))
  have c7 := h.cell (n := 18) (by omega) (rfl : zal 18 = (3, 7, 0))
  have c8 := h.cell (n := 19) (by omega) (rfl : zal 19 = (3, 8, 0))
  refine ⟨(cE_iff tTx_0 tRest_0).mpr ⟨?_, fun g hg => ?_, fun t ht => ?_⟩, fun t ht => ⟨⟨2, ?_, ?_⟩, 4, ?_, ?_⟩⟩
  · rw [hI 0 (by omega)]; exact ⟨rfl, rfl, rfl, rfl⟩
  · rw [hI 3 (by omega), hI 4 (by omega), hI 5 (by omega)]
    have e : g = 0 ∨ g = 1 ∨ g = 2 ∨ g = 3 ∨ g = 4 ∨ g = 5 := by omega
    rcases e with e | e | e | e | e | e <;> subst e <;> exact ⟨rfl, rfl, rfl⟩
  · rw [hI 6 (by omega), hI 7 (by omega), hI 8 (by omega), hI 9 (by omega), hI 10 (by omega)]
    have e : t = 0 ∨ t = 1 ∨ t = 2 ∨ t = 3 := by omega
    rcases e with e | e | e | e <;> subst e <;> exact ⟨rfl, rfl, rfl, rfl, rfl⟩
  · rw [p1]; show (if t < 4 then some (3, 2, 0) else none) = _; rw [if_pos ht]
  · rw [tL_0]
    exact ⟨Nat.zero_le _, fun x hx => (List.not_mem_nil hx).elim, 3, ⟨by decide, by decide⟩, c2.2.2, by rw [c2.2.1]; rfl, c3.2.2, fun k hk => absurd hk (Nat.not_lt_zero _)⟩
  · rw [p2]; show (if t < 4 then some (3, 4, 0) else none) = _; rw [if_pos ht]
  · unfold tTr
    rw [tL_0, tG_0]
    refine ⟨by decide, 5, 6, 7, 8, by decide, c4.2.2, by rw [c4.2.1]; exact ⟨rfl, rfl, rfl, rfl⟩, ⟨c5.2.2, c6.2.2, c7.2.2, c8.2.2⟩, by rw [c4.1]; rfl, fun k hk => absurd hk (Nat.not_lt_zero _), fun k hk => ?_, by rw [c4.1]; rfl, by rw [c4.1]; rfl, by rw [c4.1]; rfl, by rw [c4.1]; rfl, by rw [c4.1]; rfl⟩
    have e : k = 0 := Nat.le_zero.mp hk
    subst e
    rw [c8.1]
    rfl
theorem Zb.cls (h : Zb f N I L P S) : zCls I L P S 0 σ0 := by
  refine ⟨h.tb, h.hs.1, ⟨?_, h.hs.2⟩, ⟨?_, fun k hk => absurd hk (Nat.not_lt_zero _)⟩, fun j hj => ?_⟩
  · rw [(h.cell (n := 0) (by omega) (rfl : zal 0 = (0, 0, 0))).1]; rfl
  · rw [(h.cell (n := 1) (by omega) (rfl : zal 1 = (0, 0, 1))).1]; rfl
  · show I 5 j 0 0 = -1
    have : ∀ j, j < 4 → zal (196 + 2 * j) = (5, j, 0) := by decide
    rw [(h.cell (by omega) (this j hj)).1]; rfl
end
