/-! the law: its loop, its beginning -/
theorem k250_0 {d c s : Nat} {I : zI} {L : zL} {P : zP} {S : zS} {Q : Option zV → zM → Prop}
    (h1 : Ev d 210 1600 111 0 [some (zr (some (0, 0, 0))), none, none, none] [] (zup3 I 0 0 0 (fun _ => 0), zup3 L 0 0 0 (fun _ => 0), zup3 P 0 0 0 (fun _ => none), zup3 S 0 0 0 (10, 0), 1) (fun r M' => Ev (d + 1) c s 250 7 [some (zr (some (9, 0, 0))), none, none, none] (zpush r [zr (some (0, 0, 0))]) M' Q)) : Ev (d + 1) (c + 211) (s + 1612) 250 0 [some (zr (some (9, 0, 0))), none, none, none] [] (I, L, P, S, 0) Q := by
  refine Ew.newR (c := c + 210) (s := s + 1600) f250_0 rfl rfl ?_
  refine Ew.op (st' := zr (some (0, 0, 0)) :: zr (some (0, 0, 0)) :: _) f250_3 rfl rfl ?_
  refine Ew.callB (c := c) (s := s) (ls0 := [some (zr (some (0, 0, 0))), none, none, none]) f250_4 rfl (Nat.le_of_ble_eq_true rfl) rfl rfl (Nat.le_of_ble_eq_true rfl) trivial (Nat.le_of_ble_eq_true rfl) rfl rfl ?_
  exact h1
theorem k250_7 {d c s : Nat} {I : zI} {L : zL} {P : zP} {S : zS} {Q : Option zV → zM → Prop}
    (h1 : Ev d 50 8000 150 0 [some (zr (some (1, 0, 0))), none] [] (zup3 I 1 0 0 (fun _ => 0), zup3 L 1 0 0 (fun _ => 0), zup3 P 1 0 0 (fun _ => none), zup3 S 1 0 0 (11, 0), 205) (fun r M' => Ev (d + 1) c s 250 15 [some (zr (some (9, 0, 0))), some (zr (some (0, 0, 0))), none, none] (zpush r [zr (some (1, 0, 0))]) M' Q)) : Ev (d + 1) (c + 51) (s + 8047) 250 7 [some (zr (some (9, 0, 0))), none, none, none] [zr (some (0, 0, 0))] (I, L, P, S, 204) Q := by
  refine Ew.sr (ls' := [some (zr (some (9, 0, 0))), some (zr (some (0, 0, 0))), none, none]) f250_7 rfl rfl (Nat.le_of_ble_eq_true rfl) rfl rfl ?_
  refine Ew.newR (c := c + 50) (s := s + 8000) f250_8 rfl rfl ?_
  refine Ew.op (st' := zr (some (1, 0, 0)) :: zr (some (1, 0, 0)) :: _) f250_11 rfl rfl ?_
  refine Ew.callB (c := c) (s := s) (ls0 := [some (zr (some (1, 0, 0))), none]) f250_12 rfl (Nat.le_of_ble_eq_true rfl) rfl rfl (Nat.le_of_ble_eq_true rfl) trivial (Nat.le_of_ble_eq_true rfl) rfl rfl ?_
  exact h1
theorem k250_15 {d c s : Nat} {I : zI} {L : zL} {P : zP} {S : zS} {Q : Option zV → zM → Prop}
    (h1 : Ev d c s 250 18 [some (zr (some (9, 0, 0))), some (zr (some (0, 0, 0))), some (zr (some (1, 0, 0))), some (zi (nI 0))] [] (I, L, P, S, 237) Q) : Ev d c s 250 15 [some (zr (some (9, 0, 0))), some (zr (some (0, 0, 0))), none, none] [zr (some (1, 0, 0))] (I, L, P, S, 237) Q := by
  refine Ew.sr (ls' := [some (zr (some (9, 0, 0))), some (zr (some (0, 0, 0))), some (zr (some (1, 0, 0))), none]) f250_15 rfl rfl (Nat.le_of_ble_eq_true rfl) rfl rfl ?_
  refine Ew.op (st' := zi (nI 0) :: _) f250_16 rfl rfl ?_
  refine Ew.sr (ls' := [some (zr (some (9, 0, 0))), some (zr (some (0, 0, 0))), some (zr (some (1, 0, 0))), some (zi (nI 0))]) f250_17 rfl rfl (Nat.le_of_ble_eq_true rfl) rfl rfl ?_
  exact h1
section
variable {d c s : Nat} {Q : Option zV → zM → Prop} {N : Nat} {f : Nat → Int32}
theorem law_le {i : Nat} (hN : N ≤ 3072) (hi : i < 5000) : nI i ≤ nI N - nI 6 ↔ i + 6 ≤ N := by
  rw [Int32.le_iff_toInt_le, zsubI (by omega) (by decide), nI_toInt (by omega)]
  omega
theorem law_loop (hN : N ≤ 3072) (hQ : ∀ M, Q (some (zi (nI 1))) M) : ∀ m n c s I L P S t σ, N < 6 * n + 6 * m + 6 → n ≤ 513 → lInv f N (40 * n) I L P S t σ → Ev (d + 30) (c + 20 * m) (s + 536 * m) 250 18 [some (zr (some (9, 0, 0))), some (zr (some (0, 0, 0))), some (zr (some (1, 0, 0))), some (zi (nI (6 * n)))] [] (I, L, zpj P, zsj S, 237 + t) Q := by
  intro m
  induction m with
  | zero =>
    intro n c s I L P S t σ h1 h2 h
    have no : ¬ nI (6 * n) ≤ nI N - nI 6 := fun g => by have := (law_le hN (by omega)).mp g; omega
    exact g250_18 h.2.2.2.1 hN (fun _ => hQ _) (fun h => absurd h no) (fun h => absurd h no) (fun h => absurd h no) (fun h => absurd h no) (fun h => absurd h no) (fun h => absurd h no) (fun h => absurd h no) (fun h => absurd h no) (fun h => absurd h no) (fun h => absurd h no) (fun h => absurd h no) (fun h => absurd h no) (fun h => absurd h no) (fun h => absurd h no) (fun h => absurd h no) (fun h => absurd h no) (fun h => absurd h no) (fun h => absurd h no) (fun h => absurd h no) (fun h => absurd h no) (fun h => absurd h no) (fun h => absurd h no) (fun h => absurd h no) (fun h => absurd h no) (fun h => absurd h no) (fun h => absurd h no) (fun h => absurd h no) (fun h => absurd h no) (fun h => absurd h no) (fun h => absurd h no) (fun h => absurd h no)
  | succ m ih =>
    intro n c s I L P S t σ h1 h2 h
    by_cases g : 6 * n + 6 ≤ N
    · have hB : 40 * n < 2 ^ 29 := by
        have e : (2 : Nat) ^ 29 = 536870912 := by decide
        omega
      have hi : 6 * n + 5 < N := by omega
      rw [show c + 20 * (m + 1) = c + 20 * m + 20 by omega, show s + 536 * (m + 1) = s + 536 * m + 536 by omega]
      have K : lK d (c + 20 * m) (s + 536 * m) f N (40 * n + 40) (6 * n) Q := by
        intro x y I' L' P' S' t' σ' h'
        refine g250_1073 (N := N) h'.2.2.2.1 hN ?_
        rw [show 6 * n + 6 = 6 * (n + 1) by omega, show c + 20 * m + x = c + x + 20 * m by omega, show s + 536 * m + y = s + y + 536 * m by omega]
        exact ih (n + 1) (c + x) (s + y) I' L' P' S' t' σ' (by omega) (by omega) h'
      refine g250_18 h.2.2.2.1 hN (fun _ => hQ _) (fun _ => by omega) (fun _ _  => law_type h hB hi hN K) (fun _ _ _  => law_program h hB hi hN K) (fun _ _ _ _  => law_gone h hB hi hN K) (fun _ _ _ _ _  => law_run h hB hi hN K) (fun _ _ _ _ _ _  => law_alone h hB hi hN K) (fun _ _ _ _ _ _ _  => law_step h hB hi hN K) (fun _ _ _ _ _ _ _ _  => law_rule h hB hi hN K) (fun _ _ _ _ _ _ _ _ _  => law_turn h hB hi hN K) (fun _ _ _ _ _ _ _ _ _ _  => law_go h hB hi hN K) (fun _ _ _ _ _ _ _ _ _ _ _  => law_lay h hB hi hN K) (fun _ _ _ _ _ _ _ _ _ _ _ _  => law_gate h hB hi hN K) (fun _ _ _ _ _ _ _ _ _ _ _ _ _  => law_task h hB hi hN K) (fun _ _ _ _ _ _ _ _ _ _ _ _ _ _  => law_count h hB hi hN K) (fun _ _ _ _ _ _ _ _ _ _ _ _ _ _ _  => law_ahead h hB hi hN K) (fun _ _ _ _ _ _ _ _ _ _ _ _ _ _ _ _  => law_loops h hB hi hN K) (fun _ _ _ _ _ _ _ _ _ _ _ _ _ _ _ _ _  => law_ways h hB hi hN K) (fun _ _ _ _ _ _ _ _ _ _ _ _ _ _ _ _ _ _  => law_odds h hB hi hN K) (fun _ _ _ _ _ _ _ _ _ _ _ _ _ _ _ _ _ _ _  => law_near h hB hi hN K) (fun _ _ _ _ _ _ _ _ _ _ _ _ _ _ _ _ _ _ _ _  => law_drift h hB hi hN K) (fun _ _ _ _ _ _ _ _ _ _ _ _ _ _ _ _ _ _ _ _ _  => law_undo h hB hi hN K) (fun _ _ _ _ _ _ _ _ _ _ _ _ _ _ _ _ _ _ _ _ _ _  => law_seed h hB hi hN K) (fun _ _ _ _ _ _ _ _ _ _ _ _ _ _ _ _ _ _ _ _ _ _ _  => law_image h hB hi hN K) (fun _ _ _ _ _ _ _ _ _ _ _ _ _ _ _ _ _ _ _ _ _ _ _ _  => law_restore h hB hi hN K) (fun _ _ _ _ _ _ _ _ _ _ _ _ _ _ _ _ _ _ _ _ _ _ _ _ _  => law_tried h hB hi hN K) (fun _ _ _ _ _ _ _ _ _ _ _ _ _ _ _ _ _ _ _ _ _ _ _ _ _ _  => law_film h hB hi hN K) (fun _ _ _ _ _ _ _ _ _ _ _ _ _ _ _ _ _ _ _ _ _ _ _ _ _ _ _  => law_sheet h hB hi hN K) (fun _ _ _ _ _ _ _ _ _ _ _ _ _ _ _ _ _ _ _ _ _ _ _ _ _ _ _ _  => law_drop h hB hi hN K) (fun _ _ _ _ _ _ _ _ _ _ _ _ _ _ _ _ _ _ _ _ _ _ _ _ _ _ _ _ _  => law_item h hB hi hN K) (fun _ _ _ _ _ _ _ _ _ _ _ _ _ _ _ _ _ _ _ _ _ _ _ _ _ _ _ _ _ _  => law_copy h hB hi hN K) (fun _ _ _ _ _ _ _ _ _ _ _ _ _ _ _ _ _ _ _ _ _ _ _ _ _ _ _ _ _ _  => K 20 536 _ _ _ _ _ _ ⟨h.1, h.2.1, h.2.2.1.mono (by omega), h.2.2.2⟩)
    · have no : ¬ nI (6 * n) ≤ nI N - nI 6 := fun q => g ((law_le hN (by omega)).mp q)
      exact g250_18 h.2.2.2.1 hN (fun _ => hQ _) (fun h => absurd h no) (fun h => absurd h no) (fun h => absurd h no) (fun h => absurd h no) (fun h => absurd h no) (fun h => absurd h no) (fun h => absurd h no) (fun h => absurd h no) (fun h => absurd h no) (fun h => absurd h no) (fun h => absurd h no) (fun h => absurd h no) (fun h => absurd h no) (fun h => absurd h no) (fun h => absurd h no) (fun h => absurd h no) (fun h => absurd h no) (fun h => absurd h no) (fun h => absurd h no) (fun h => absurd h no) (fun h => absurd h no) (fun h => absurd h no) (fun h => absurd h no) (fun h => absurd h no) (fun h => absurd h no) (fun h => absurd h no) (fun h => absurd h no) (fun h => absurd h no) (fun h => absurd h no) (fun h => absurd h no) (fun h => absurd h no)

theorem law_start (hN : N ≤ 3072) (hQ : ∀ M, Q (some (zi (nI 1))) M) : Ev (d + 30) (c + 20 * 512 + 50 + 1 + 210 + 1) (s + 536 * 512 + 8000 + 47 + 1600 + 12) 250 0 [some (zr (some (9, 0, 0))), none, none, none] [] (I00 f, L00, P00, S00 N, 0) Q := by
  refine k250_0 (d := d + 29) (c := c + 20 * 512 + 50 + 1) (s := s + 536 * 512 + 8000 + 47) ?_
  refine cn_Class (d := d + 26) (c := 7) (s := 109) cFresh_new (fun I1 L1 P1 S1 x1 => ?_)
  refine k250_7 (d := d + 29) (c := c + 20 * 512) (s := s + 536 * 512) ?_
  refine cn_Ref (d := d + 28) (c := 18) (s := 1236) cFresh_new (fun I2 L2 P2 S2 x2 => ?_)
  have z := Zb_mk x1 x2
  have e : ((I2, L2, P2, S2, 237) : zM) = (I2, L2, zpj P2, zsj S2, 237) := by rw [z.pj, z.sj]
  rw [e]
  refine om_ev (r := 1) (j := 0) ?_
  refine cn_Ref2 (d := d + 23) z.2.2.2.1 z.2.2.2.2 (fun ρ' hR => ?_)
  refine k250_15 ?_
  have n9 := z.1 9 0 0 (fun n _ hn e => zst9 n hn (by rw [e]))
  refine law_loop (f := f) hN hQ 512 0 c s _ _ _ _ 0 σ0 (by omega) (by omega) ⟨z.cls.ref, ?_, zGood_0, n9.2.2.2, ?_⟩
  · rw [so_s, so_s]; exact hR
  · rw [so_n _ _ (by decide)]
    show I2 9 0 0 = f
    rw [n9.1]
    funext i
    simp [I00]
end
