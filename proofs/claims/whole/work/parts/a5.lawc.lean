/-! the law: each call on both sides -/
theorem om_ev {d c s m pc top r j : Nat} {ls : List (Option zV)} {st : List zV} {I : zI} {L : zL} {P : zP} {S : zS} {Q : Option zV → zM → Prop} (h : Ev d c s m pc ls st (OM (I, L, P, S, top) r j (I r j) (L r j)) Q) : Ev d c s m pc ls st (I, L, zpj P, zsj S, top) Q := by
  have e : OM (I, L, P, S, top) r j (I r j) (L r j) = (I, L, zpj P, zsj S, top) := by
    show (so I r j (I r j), so L r j (L r j), zpj P, zsj S, top) = _
    rw [so_id, so_id]
  rw [e] at h
  exact h
section
variable {d c s : Nat} {Q : Option zV → zM → Prop} {I : zI} {L : zL} {P : zP} {S : zS} {t B i N : Nat} {σ : zSt} {f : Nat → Int32}
theorem zCls.ref {ρ : Nat → Nat → Int32} {l : Nat → Nat → Int64} (h : zCls I L P S t σ) : zCls (so I 1 0 ρ) (so L 1 0 l) P S t σ :=
  ⟨h.1.fr (Nat.le_refl _) (fun q i => so3 (by omega)) (fun q i => rfl) (cOld_so (by decide)), h.2.fr (Nat.le_refl _) (fun j q i _ => ⟨so3 (by omega), rfl⟩) (fun j q i => ⟨so3 (by omega), rfl⟩) (fun j q i => ⟨so3 (by omega), so3 (by omega)⟩) ⟨so3 (by omega), so3 (by omega), fun i => so3 (by omega)⟩ (cOld_so (by decide))⟩
/-- both sides tell one state; the script stands -/
def lInv (f : Nat → Int32) (N B : Nat) (I : zI) (L : zL) (P : zP) (S : zS) (t : Nat) (σ : zSt) : Prop := zCls I L P S t σ ∧ zRef (I 1 0) (L 1 0) σ ∧ zGood B σ ∧ S 9 0 0 = (20, N) ∧ I 9 0 0 = f
/-- the next round of the law -/
abbrev lK (d c s : Nat) (f : Nat → Int32) (N B i : Nat) (Q : Option zV → zM → Prop) : Prop := ∀ x y I L P S t σ, lInv f N B I L P S t σ → Ev (d + 30) (c + x) (s + y) 250 1073 [some (zr (some (9, 0, 0))), some (zr (some (0, 0, 0))), some (zr (some (1, 0, 0))), some (zi (nI i))] [] (I, L, zpj P, zsj S, 237 + t) Q
theorem lInv.nx {I' : zI} {L' : zL} {P' : zP} {S' : zS} {t' B' : Nat} {σ σ' : zSt} {ρ : Nat → Nat → Int32} {l : Nat → Nat → Int64} (h : lInv f N B I L P S t σ) (hC : zCls I' L' P' S' t' σ') (hF : zFm I L S I' L' S') (hG : zGood B' σ') (hR : zRef ρ l σ') : lInv f N B' (so I' 1 0 ρ) (so L' 1 0 l) P' S' t' σ' := by
  refine ⟨hC.ref, ?_, hG, ?_, ?_⟩
  · rw [so_s, so_s]; exact hR
  · rw [(hF 9 (Or.inr rfl)).2.2]; exact h.2.2.2.1
  · rw [so_n _ _ (by decide), (hF 9 (Or.inr rfl)).1]; exact h.2.2.2.2
theorem law_type (h : lInv f N B I L P S t σ) (hB : B < 2 ^ 29) (hi : i + 5 < N) (hN : N ≤ 3072) (k : lK d c s f N (B + 40) i Q) : Ev (d + 30) (c + 20) (s + 536) 250 164 [some (zr (some (9, 0, 0))), some (zr (some (0, 0, 0))), some (zr (some (1, 0, 0))), some (zi (nI i))] [] (I, L, zpj P, zsj S, 237 + t) Q := by
  obtain ⟨hC, hR, hG, hS, hI⟩ := id h
  refine g250_164 (d := d + 29) (c := c + 20) (s := s + 536) hS hN (by omega) ?_
  refine cp_type (d := d + 28) (c := 0) (s := 0) hG hC (fun I1 L1 P1 S1 t1 hC1 hG1 hF => ?_)
  have hR1 : zRef (I1 1 0) (L1 1 0) σ := by rw [(hF 1 (Or.inl rfl)).1, (hF 1 (Or.inl rfl)).2.1]; exact hR
  have hS1 : S1 9 0 0 = (20, N) := by rw [(hF 9 (Or.inr rfl)).2.2]; exact hS
  refine g250_173 (d := d + 29) (c := c + 20) (s := s + 536) hS1 hN (by omega) ?_
  rw [(hF 9 (Or.inr rfl)).1]
  refine om_ev (r := 1) (j := 0) ?_
  refine rp_type (d := d + 28) (c := 0) (s := 0) hG hR1 (fun ρ' l' hR' => ?_)
  refine g250_182 (c := c + 20) (s := s + 536) hS1 hN (fun _ => ?_) (fun h => absurd rfl h)
  exact k 20 536 _ _ _ _ _ _ (h.nx hC1 hF hG1 hR')
theorem law_program (h : lInv f N B I L P S t σ) (hB : B < 2 ^ 29) (hi : i + 5 < N) (hN : N ≤ 3072) (k : lK d c s f N (B + 40) i Q) : Ev (d + 30) (c + 20) (s + 536) 250 187 [some (zr (some (9, 0, 0))), some (zr (some (0, 0, 0))), some (zr (some (1, 0, 0))), some (zi (nI i))] [] (I, L, zpj P, zsj S, 237 + t) Q := by
  obtain ⟨hC, hR, hG, hS, hI⟩ := id h
  refine g250_187 (d := d + 29) (c := c + 12) (s := s + 281) hS hN (by omega) ?_
  refine cp_program (d := d + 2) (c := 0) (s := 0) hG hC (fun I1 L1 P1 S1 t1 hC1 hG1 hF => ?_)
  have hR1 : zRef (I1 1 0) (L1 1 0) σ := by rw [(hF 1 (Or.inl rfl)).1, (hF 1 (Or.inl rfl)).2.1]; exact hR
  have hS1 : S1 9 0 0 = (20, N) := by rw [(hF 9 (Or.inr rfl)).2.2]; exact hS
  refine g250_196 (d := d + 29) (c := c + 12) (s := s + 281) hS1 hN (by omega) ?_
  rw [(hF 9 (Or.inr rfl)).1]
  refine om_ev (r := 1) (j := 0) ?_
  refine rp_program (d := d + 22) (c := 0) (s := 0) hG hR1 (fun ρ' l' hR' => ?_)
  refine g250_205 (c := c + 12) (s := s + 281) hS1 hN (fun _ => ?_) (fun h => absurd rfl h)
  exact k 12 281 _ _ _ _ _ _ (h.nx hC1 hF hG1 hR')
theorem law_gone (h : lInv f N B I L P S t σ) (hB : B < 2 ^ 29) (hi : i + 5 < N) (hN : N ≤ 3072) (k : lK d c s f N (B + 40) i Q) : Ev (d + 30) (c + 20) (s + 536) 250 210 [some (zr (some (9, 0, 0))), some (zr (some (0, 0, 0))), some (zr (some (1, 0, 0))), some (zi (nI i))] [] (I, L, zpj P, zsj S, 237 + t) Q := by
  obtain ⟨hC, hR, hG, hS, hI⟩ := id h
  refine g250_210 (d := d + 29) (c := c) (s := s) hS hN (by omega) ?_
  refine cp_gone (d := d + 2) (c := 0) (s := 0) hG hC (fun I1 L1 P1 S1 t1 hC1 hG1 hF => ?_)
  have hR1 : zRef (I1 1 0) (L1 1 0) σ := by rw [(hF 1 (Or.inl rfl)).1, (hF 1 (Or.inl rfl)).2.1]; exact hR
  have hS1 : S1 9 0 0 = (20, N) := by rw [(hF 9 (Or.inr rfl)).2.2]; exact hS
  refine g250_219 (d := d + 29) (c := c) (s := s) hS1 hN (by omega) ?_
  rw [(hF 9 (Or.inr rfl)).1]
  refine om_ev (r := 1) (j := 0) ?_
  refine rp_gone (d := d + 22) (c := 0) (s := 0) hG hR1 (fun ρ' l' hR' => ?_)
  refine g250_228 (c := c) (s := s) hS1 hN (fun _ => ?_) (fun h => absurd rfl h)
  exact k 0 0 _ _ _ _ _ _ (h.nx hC1 hF hG1 hR')
theorem law_run (h : lInv f N B I L P S t σ) (hB : B < 2 ^ 29) (hi : i + 5 < N) (hN : N ≤ 3072) (k : lK d c s f N (B + 40) i Q) : Ev (d + 30) (c + 20) (s + 536) 250 233 [some (zr (some (9, 0, 0))), some (zr (some (0, 0, 0))), some (zr (some (1, 0, 0))), some (zi (nI i))] [] (I, L, zpj P, zsj S, 237 + t) Q := by
  obtain ⟨hC, hR, hG, hS, hI⟩ := id h
  refine g250_233 (d := d + 29) (c := c + 20) (s := s + 536) hS hN (by omega) ?_
  refine cp_run (d := d + 26) (c := 0) (s := 0) hG hC (fun I1 L1 P1 S1 t1 hC1 hG1 hF => ?_)
  have hR1 : zRef (I1 1 0) (L1 1 0) σ := by rw [(hF 1 (Or.inl rfl)).1, (hF 1 (Or.inl rfl)).2.1]; exact hR
  have hS1 : S1 9 0 0 = (20, N) := by rw [(hF 9 (Or.inr rfl)).2.2]; exact hS
  refine g250_242 (d := d + 29) (c := c + 20) (s := s + 536) hS1 hN (by omega) ?_
  rw [(hF 9 (Or.inr rfl)).1]
  refine om_ev (r := 1) (j := 0) ?_
  refine rp_run (d := d + 27) (c := 0) (s := 0) hG hR1 (fun ρ' l' hR' => ?_)
  refine g250_251 (c := c + 20) (s := s + 536) hS1 hN (fun _ => ?_) (fun h => absurd rfl h)
  exact k 20 536 _ _ _ _ _ _ (h.nx hC1 hF hG1 hR')
theorem law_alone (h : lInv f N B I L P S t σ) (hB : B < 2 ^ 29) (hi : i + 5 < N) (hN : N ≤ 3072) (k : lK d c s f N (B + 40) i Q) : Ev (d + 30) (c + 20) (s + 536) 250 256 [some (zr (some (9, 0, 0))), some (zr (some (0, 0, 0))), some (zr (some (1, 0, 0))), some (zi (nI i))] [] (I, L, zpj P, zsj S, 237 + t) Q := by
  obtain ⟨hC, hR, hG, hS, hI⟩ := id h
  refine g250_256 (d := d + 29) (c := c + 20) (s := s + 536) hS hN (by omega) (by omega) ?_
  refine cp_alone (d := d + 28) (c := 0) (s := 0) hG hC ?_
  refine g250_270 (d := d + 29) (c := c + 20) (s := s + 536) hS hN (by omega) (by omega) ?_
  refine om_ev (r := 1) (j := 0) ?_
  refine rp_alone (d := d + 27) (c := 0) (s := 0) hG hR ?_
  refine g250_284 (c := c + 20) (s := s + 536) hS hN (fun _ => ?_) (fun h => absurd rfl h)
  exact k 20 536 _ _ _ _ _ _ (h.nx hC zFm.refl (hG.mono (by omega)) hR)
theorem law_step (h : lInv f N B I L P S t σ) (hB : B < 2 ^ 29) (hi : i + 5 < N) (hN : N ≤ 3072) (k : lK d c s f N (B + 40) i Q) : Ev (d + 30) (c + 20) (s + 536) 250 289 [some (zr (some (9, 0, 0))), some (zr (some (0, 0, 0))), some (zr (some (1, 0, 0))), some (zi (nI i))] [] (I, L, zpj P, zsj S, 237 + t) Q := by
  obtain ⟨hC, hR, hG, hS, hI⟩ := id h
  refine g250_289 (d := d + 29) (c := c + 20) (s := s + 536) hS hN (by omega) (by omega) (by omega) ?_
  refine cp_step (d := d + 27) (c := 0) (s := 0) hG hC ?_
  refine g250_308 (d := d + 29) (c := c + 20) (s := s + 536) hS hN (by omega) (by omega) (by omega) ?_
  refine om_ev (r := 1) (j := 0) ?_
  refine rp_step (d := d + 27) (c := 0) (s := 0) hG hR ?_
  refine g250_327 (c := c + 20) (s := s + 536) hS hN (fun _ => ?_) (fun h => absurd rfl h)
  exact k 20 536 _ _ _ _ _ _ (h.nx hC zFm.refl (hG.mono (by omega)) hR)
theorem law_rule (h : lInv f N B I L P S t σ) (hB : B < 2 ^ 29) (hi : i + 5 < N) (hN : N ≤ 3072) (k : lK d c s f N (B + 40) i Q) : Ev (d + 30) (c + 20) (s + 536) 250 332 [some (zr (some (9, 0, 0))), some (zr (some (0, 0, 0))), some (zr (some (1, 0, 0))), some (zi (nI i))] [] (I, L, zpj P, zsj S, 237 + t) Q := by
  obtain ⟨hC, hR, hG, hS, hI⟩ := id h
  refine g250_332 (d := d + 29) (c := c + 20) (s := s + 536) hS hN (by omega) ?_
  refine cp_rule (d := d + 27) (c := 0) (s := 0) hG hC (fun I1 L1 P1 S1 t1 hC1 hG1 hF => ?_)
  have hR1 : zRef (I1 1 0) (L1 1 0) σ := by rw [(hF 1 (Or.inl rfl)).1, (hF 1 (Or.inl rfl)).2.1]; exact hR
  have hS1 : S1 9 0 0 = (20, N) := by rw [(hF 9 (Or.inr rfl)).2.2]; exact hS
  refine g250_341 (d := d + 29) (c := c + 20) (s := s + 536) hS1 hN (by omega) ?_
  rw [(hF 9 (Or.inr rfl)).1]
  refine om_ev (r := 1) (j := 0) ?_
  refine rp_rule (d := d + 27) (c := 0) (s := 0) hG hR1 (fun ρ' l' hR' => ?_)
  refine g250_350 (c := c + 20) (s := s + 536) hS1 hN (fun _ => ?_) (fun h => absurd rfl h)
  exact k 20 536 _ _ _ _ _ _ (h.nx hC1 hF hG1 hR')
theorem law_turn (h : lInv f N B I L P S t σ) (hB : B < 2 ^ 29) (hi : i + 5 < N) (hN : N ≤ 3072) (k : lK d c s f N (B + 40) i Q) : Ev (d + 30) (c + 20) (s + 536) 250 355 [some (zr (some (9, 0, 0))), some (zr (some (0, 0, 0))), some (zr (some (1, 0, 0))), some (zi (nI i))] [] (I, L, zpj P, zsj S, 237 + t) Q := by
  obtain ⟨hC, hR, hG, hS, hI⟩ := id h
  refine g250_355 (d := d + 29) (c := c + 20) (s := s + 536) hS hN (by omega) ?_
  refine cp_turn (d := d + 23) (c := 0) (s := 0) hG hB hC (fun I1 L1 P1 S1 t1 hC1 hG1 hF => ?_)
  have hR1 : zRef (I1 1 0) (L1 1 0) σ := by rw [(hF 1 (Or.inl rfl)).1, (hF 1 (Or.inl rfl)).2.1]; exact hR
  have hS1 : S1 9 0 0 = (20, N) := by rw [(hF 9 (Or.inr rfl)).2.2]; exact hS
  refine g250_364 (d := d + 29) (c := c + 20) (s := s + 536) hS1 hN (by omega) ?_
  rw [(hF 9 (Or.inr rfl)).1]
  refine om_ev (r := 1) (j := 0) ?_
  refine rp_turn (d := d + 22) (c := 0) (s := 0) hG hR1 (fun ρ' l' hR' => ?_)
  refine g250_373 (c := c + 20) (s := s + 536) hS1 hN (fun _ => ?_) (fun h => absurd rfl h)
  exact k 20 536 _ _ _ _ _ _ (h.nx hC1 hF hG1 hR')
theorem law_go (h : lInv f N B I L P S t σ) (hB : B < 2 ^ 29) (hi : i + 5 < N) (hN : N ≤ 3072) (k : lK d c s f N (B + 40) i Q) : Ev (d + 30) (c + 20) (s + 536) 250 378 [some (zr (some (9, 0, 0))), some (zr (some (0, 0, 0))), some (zr (some (1, 0, 0))), some (zi (nI i))] [] (I, L, zpj P, zsj S, 237 + t) Q := by
  obtain ⟨hC, hR, hG, hS, hI⟩ := id h
  refine g250_378 (d := d + 29) (c := c + 20) (s := s + 536) hS hN (by omega) ?_
  refine cp_go (d := d + 23) (c := 0) (s := 0) hG hB hC (fun I1 L1 P1 S1 t1 hC1 hG1 hF => ?_)
  have hR1 : zRef (I1 1 0) (L1 1 0) σ := by rw [(hF 1 (Or.inl rfl)).1, (hF 1 (Or.inl rfl)).2.1]; exact hR
  have hS1 : S1 9 0 0 = (20, N) := by rw [(hF 9 (Or.inr rfl)).2.2]; exact hS
  refine g250_387 (d := d + 29) (c := c + 20) (s := s + 536) hS1 hN (by omega) ?_
  rw [(hF 9 (Or.inr rfl)).1]
  refine om_ev (r := 1) (j := 0) ?_
  refine rp_go (d := d + 22) (c := 0) (s := 0) hG hR1 (fun ρ' l' hR' => ?_)
  refine g250_396 (c := c + 20) (s := s + 536) hS1 hN (fun _ => ?_) (fun h => absurd rfl h)
  exact k 20 536 _ _ _ _ _ _ (h.nx hC1 hF hG1 hR')
theorem law_lay (h : lInv f N B I L P S t σ) (hB : B < 2 ^ 29) (hi : i + 5 < N) (hN : N ≤ 3072) (k : lK d c s f N (B + 40) i Q) : Ev (d + 30) (c + 20) (s + 536) 250 401 [some (zr (some (9, 0, 0))), some (zr (some (0, 0, 0))), some (zr (some (1, 0, 0))), some (zi (nI i))] [] (I, L, zpj P, zsj S, 237 + t) Q := by
  obtain ⟨hC, hR, hG, hS, hI⟩ := id h
  refine g250_401 (d := d + 29) (c := c + 20) (s := s + 536) hS hN ?_
  refine cp_lay (d := d + 25) (c := 0) (s := 0) hG hC (fun I1 L1 P1 S1 t1 hC1 hG1 hF => ?_)
  have hR1 : zRef (I1 1 0) (L1 1 0) σ := by rw [(hF 1 (Or.inl rfl)).1, (hF 1 (Or.inl rfl)).2.1]; exact hR
  have hS1 : S1 9 0 0 = (20, N) := by rw [(hF 9 (Or.inr rfl)).2.2]; exact hS
  refine g250_405 (d := d + 29) (c := c + 20) (s := s + 536) hS1 hN ?_
  refine om_ev (r := 1) (j := 0) ?_
  refine rp_lay (d := d + 26) (c := 0) (s := 0) hG hR1 (fun ρ' l' hR' => ?_)
  refine g250_409 (c := c + 20) (s := s + 536) hS1 hN (fun _ => ?_) (fun h => absurd rfl h)
  exact k 20 536 _ _ _ _ _ _ (h.nx hC1 hF hG1 hR')
theorem law_gate (h : lInv f N B I L P S t σ) (hB : B < 2 ^ 29) (hi : i + 5 < N) (hN : N ≤ 3072) (k : lK d c s f N (B + 40) i Q) : Ev (d + 30) (c + 20) (s + 536) 250 414 [some (zr (some (9, 0, 0))), some (zr (some (0, 0, 0))), some (zr (some (1, 0, 0))), some (zi (nI i))] [] (I, L, zpj P, zsj S, 237 + t) Q := by
  obtain ⟨hC, hR, hG, hS, hI⟩ := id h
  refine g250_414 (d := d + 29) (c := c + 20) (s := s + 536) hS hN (by omega) (by omega) ?_
  refine cp_gate (d := d + 26) (c := 0) (s := 0) hG hC ?_
  refine g250_428 (d := d + 29) (c := c + 20) (s := s + 536) hS hN (by omega) (by omega) ?_
  refine om_ev (r := 1) (j := 0) ?_
  refine rp_gate (d := d + 26) (c := 0) (s := 0) hG hR ?_
  refine g250_442 (c := c + 20) (s := s + 536) hS hN (fun _ => ?_) (fun h => absurd rfl h)
  exact k 20 536 _ _ _ _ _ _ (h.nx hC zFm.refl (hG.mono (by omega)) hR)
theorem law_task (h : lInv f N B I L P S t σ) (hB : B < 2 ^ 29) (hi : i + 5 < N) (hN : N ≤ 3072) (k : lK d c s f N (B + 40) i Q) : Ev (d + 30) (c + 20) (s + 536) 250 447 [some (zr (some (9, 0, 0))), some (zr (some (0, 0, 0))), some (zr (some (1, 0, 0))), some (zi (nI i))] [] (I, L, zpj P, zsj S, 237 + t) Q := by
  obtain ⟨hC, hR, hG, hS, hI⟩ := id h
  refine g250_447 (d := d + 29) (c := c + 20) (s := s + 536) hS hN (by omega) (by omega) ?_
  refine cp_task (d := d + 25) (c := 0) (s := 0) hG hC ?_
  refine g250_461 (d := d + 29) (c := c + 20) (s := s + 536) hS hN (by omega) (by omega) ?_
  refine om_ev (r := 1) (j := 0) ?_
  refine rp_task (d := d + 24) (c := 0) (s := 0) hG hR ?_
  refine g250_475 (c := c + 20) (s := s + 536) hS hN (fun _ => ?_) (fun h => absurd rfl h)
  exact k 20 536 _ _ _ _ _ _ (h.nx hC zFm.refl (hG.mono (by omega)) hR)
theorem law_count (h : lInv f N B I L P S t σ) (hB : B < 2 ^ 29) (hi : i + 5 < N) (hN : N ≤ 3072) (k : lK d c s f N (B + 40) i Q) : Ev (d + 30) (c + 20) (s + 536) 250 480 [some (zr (some (9, 0, 0))), some (zr (some (0, 0, 0))), some (zr (some (1, 0, 0))), some (zi (nI i))] [] (I, L, zpj P, zsj S, 237 + t) Q := by
  obtain ⟨hC, hR, hG, hS, hI⟩ := id h
  refine g250_480 (d := d + 29) (c := c + 20) (s := s + 536) hS hN (by omega) ?_
  refine cp_count (d := d + 24) (c := 0) (s := 0) hG hC ?_
  refine g250_489 (d := d + 29) (c := c + 20) (s := s + 536) hS hN (by omega) ?_
  refine om_ev (r := 1) (j := 0) ?_
  refine rp_count (d := d + 23) (c := 0) (s := 0) hG hR ?_
  refine g250_498 (c := c + 20) (s := s + 536) hS hN (fun _ => ?_) (fun h => absurd rfl h)
  exact k 20 536 _ _ _ _ _ _ (h.nx hC zFm.refl (hG.mono (by omega)) hR)
theorem law_ahead (h : lInv f N B I L P S t σ) (hB : B < 2 ^ 29) (hi : i + 5 < N) (hN : N ≤ 3072) (k : lK d c s f N (B + 40) i Q) : Ev (d + 30) (c + 20) (s + 536) 250 503 [some (zr (some (9, 0, 0))), some (zr (some (0, 0, 0))), some (zr (some (1, 0, 0))), some (zi (nI i))] [] (I, L, zpj P, zsj S, 237 + t) Q := by
  obtain ⟨hC, hR, hG, hS, hI⟩ := id h
  refine g250_503 (d := d + 29) (c := c + 20) (s := s + 536) hS hN (by omega) (by omega) ?_
  refine cp_ahead (d := d + 24) (c := 0) (s := 0) hG hC (fun I1 L1 P1 S1 t1 hC1 hG1 hF => ?_)
  have hR1 : zRef (I1 1 0) (L1 1 0) σ := by rw [(hF 1 (Or.inl rfl)).1, (hF 1 (Or.inl rfl)).2.1]; exact hR
  have hS1 : S1 9 0 0 = (20, N) := by rw [(hF 9 (Or.inr rfl)).2.2]; exact hS
  refine g250_517 (d := d + 29) (c := c + 20) (s := s + 536) hS1 hN (by omega) (by omega) ?_
  rw [(hF 9 (Or.inr rfl)).1]
  refine om_ev (r := 1) (j := 0) ?_
  refine rp_ahead (d := d + 26) (c := 0) (s := 0) hG hR1 ?_
  refine g250_531 (c := c + 20) (s := s + 536) hS1 hN (fun _ => ?_) (fun h => absurd rfl h)
  exact k 20 536 _ _ _ _ _ _ (h.nx hC1 hF hG1 hR1)
theorem law_loops (h : lInv f N B I L P S t σ) (hB : B < 2 ^ 29) (hi : i + 5 < N) (hN : N ≤ 3072) (k : lK d c s f N (B + 40) i Q) : Ev (d + 30) (c + 20) (s + 536) 250 536 [some (zr (some (9, 0, 0))), some (zr (some (0, 0, 0))), some (zr (some (1, 0, 0))), some (zi (nI i))] [] (I, L, zpj P, zsj S, 237 + t) Q := by
  obtain ⟨hC, hR, hG, hS, hI⟩ := id h
  refine g250_536 (d := d + 29) (c := c + 20) (s := s + 536) hS hN (by omega) ?_
  refine cp_loops (d := d + 24) (c := 0) (s := 0) hG hC (fun I1 L1 P1 S1 t1 hC1 hG1 hF => ?_)
  have hR1 : zRef (I1 1 0) (L1 1 0) σ := by rw [(hF 1 (Or.inl rfl)).1, (hF 1 (Or.inl rfl)).2.1]; exact hR
  have hS1 : S1 9 0 0 = (20, N) := by rw [(hF 9 (Or.inr rfl)).2.2]; exact hS
  refine g250_545 (d := d + 29) (c := c + 20) (s := s + 536) hS1 hN (by omega) ?_
  rw [(hF 9 (Or.inr rfl)).1]
  refine om_ev (r := 1) (j := 0) ?_
  refine rp_loops (d := d + 26) (c := 0) (s := 0) hG hR1 (fun ρ' l' hR' => ?_)
  refine g250_554 (c := c + 20) (s := s + 536) hS1 hN (fun _ => ?_) (fun h => absurd rfl h)
  exact k 20 536 _ _ _ _ _ _ (h.nx hC1 hF hG1 hR')
theorem law_ways (h : lInv f N B I L P S t σ) (hB : B < 2 ^ 29) (hi : i + 5 < N) (hN : N ≤ 3072) (k : lK d c s f N (B + 40) i Q) : Ev (d + 30) (c + 20) (s + 536) 250 559 [some (zr (some (9, 0, 0))), some (zr (some (0, 0, 0))), some (zr (some (1, 0, 0))), some (zi (nI i))] [] (I, L, zpj P, zsj S, 237 + t) Q := by
  obtain ⟨hC, hR, hG, hS, hI⟩ := id h
  refine g250_559 (d := d + 29) (c := c + 20) (s := s + 536) hS hN (by omega) (by omega) (by omega) ?_
  refine cp_ways (d := d + 23) (c := 0) (s := 0) hG hC (fun I1 L1 P1 S1 t1 hC1 hG1 hF => ?_)
  have hR1 : zRef (I1 1 0) (L1 1 0) σ := by rw [(hF 1 (Or.inl rfl)).1, (hF 1 (Or.inl rfl)).2.1]; exact hR
  have hS1 : S1 9 0 0 = (20, N) := by rw [(hF 9 (Or.inr rfl)).2.2]; exact hS
  refine g250_578 (d := d + 29) (c := c + 20) (s := s + 536) hS1 hN (by omega) (by omega) (by omega) ?_
  rw [(hF 9 (Or.inr rfl)).1]
  refine om_ev (r := 1) (j := 0) ?_
  refine rp_ways (d := d + 25) (c := 0) (s := 0) hG hR1 (fun ρ' l' hR' => ?_)
  refine g250_597 (c := c + 20) (s := s + 536) hS1 hN (fun _ => ?_) (fun h => absurd ((lg_cmp_eq _ _).mpr rfl) h)
  exact k 20 536 _ _ _ _ _ _ (h.nx hC1 hF hG1 hR')
theorem law_odds (h : lInv f N B I L P S t σ) (hB : B < 2 ^ 29) (hi : i + 5 < N) (hN : N ≤ 3072) (k : lK d c s f N (B + 40) i Q) : Ev (d + 30) (c + 20) (s + 536) 250 603 [some (zr (some (9, 0, 0))), some (zr (some (0, 0, 0))), some (zr (some (1, 0, 0))), some (zi (nI i))] [] (I, L, zpj P, zsj S, 237 + t) Q := by
  obtain ⟨hC, hR, hG, hS, hI⟩ := id h
  refine g250_603 (d := d + 29) (c := c + 20) (s := s + 536) hS hN (by omega) (by omega) (by omega) ?_
  refine cp_odds (d := d + 23) (c := 0) (s := 0) hG hC (fun I1 L1 P1 S1 t1 hC1 hG1 hF => ?_)
  have hR1 : zRef (I1 1 0) (L1 1 0) σ := by rw [(hF 1 (Or.inl rfl)).1, (hF 1 (Or.inl rfl)).2.1]; exact hR
  have hS1 : S1 9 0 0 = (20, N) := by rw [(hF 9 (Or.inr rfl)).2.2]; exact hS
  refine g250_622 (d := d + 29) (c := c + 20) (s := s + 536) hS1 hN (by omega) (by omega) (by omega) ?_
  rw [(hF 9 (Or.inr rfl)).1]
  refine om_ev (r := 1) (j := 0) ?_
  refine rp_odds (d := d + 25) (c := 0) (s := 0) hG hR1 (fun ρ' l' hR' => ?_)
  refine g250_641 (c := c + 20) (s := s + 536) hS1 hN (fun _ => ?_) (fun h => absurd ((lg_cmp_eq _ _).mpr rfl) h)
  exact k 20 536 _ _ _ _ _ _ (h.nx hC1 hF hG1 hR')
theorem law_near (h : lInv f N B I L P S t σ) (hB : B < 2 ^ 29) (hi : i + 5 < N) (hN : N ≤ 3072) (k : lK d c s f N (B + 40) i Q) : Ev (d + 30) (c + 20) (s + 536) 250 647 [some (zr (some (9, 0, 0))), some (zr (some (0, 0, 0))), some (zr (some (1, 0, 0))), some (zi (nI i))] [] (I, L, zpj P, zsj S, 237 + t) Q := by
  obtain ⟨hC, hR, hG, hS, hI⟩ := id h
  refine g250_647 (d := d + 29) (c := c + 20) (s := s + 536) hS hN (by omega) (by omega) ?_
  refine cp_near (d := d + 23) (c := 0) (s := 0) hG hC (fun I1 L1 P1 S1 t1 hC1 hG1 hF => ?_)
  have hR1 : zRef (I1 1 0) (L1 1 0) σ := by rw [(hF 1 (Or.inl rfl)).1, (hF 1 (Or.inl rfl)).2.1]; exact hR
  have hS1 : S1 9 0 0 = (20, N) := by rw [(hF 9 (Or.inr rfl)).2.2]; exact hS
  refine g250_661 (d := d + 29) (c := c + 20) (s := s + 536) hS1 hN (by omega) (by omega) ?_
  rw [(hF 9 (Or.inr rfl)).1]
  refine om_ev (r := 1) (j := 0) ?_
  refine rp_near (d := d + 25) (c := 0) (s := 0) hG hR1 (fun ρ' l' hR' => ?_)
  refine g250_675 (c := c + 20) (s := s + 536) hS1 hN (fun _ => ?_) (fun h => absurd rfl h)
  exact k 20 536 _ _ _ _ _ _ (h.nx hC1 hF hG1 hR')
theorem law_drift (h : lInv f N B I L P S t σ) (hB : B < 2 ^ 29) (hi : i + 5 < N) (hN : N ≤ 3072) (k : lK d c s f N (B + 40) i Q) : Ev (d + 30) (c + 20) (s + 536) 250 680 [some (zr (some (9, 0, 0))), some (zr (some (0, 0, 0))), some (zr (some (1, 0, 0))), some (zi (nI i))] [] (I, L, zpj P, zsj S, 237 + t) Q := by
  obtain ⟨hC, hR, hG, hS, hI⟩ := id h
  refine g250_680 (d := d + 29) (c := c + 20) (s := s + 536) hS hN (by omega) ?_
  refine cp_drift (d := d + 23) (c := 0) (s := 0) hG hB hC (fun I1 L1 P1 S1 t1 hC1 hG1 hF => ?_)
  have hR1 : zRef (I1 1 0) (L1 1 0) σ := by rw [(hF 1 (Or.inl rfl)).1, (hF 1 (Or.inl rfl)).2.1]; exact hR
  have hS1 : S1 9 0 0 = (20, N) := by rw [(hF 9 (Or.inr rfl)).2.2]; exact hS
  refine g250_689 (d := d + 29) (c := c + 20) (s := s + 536) hS1 hN (by omega) ?_
  rw [(hF 9 (Or.inr rfl)).1]
  refine om_ev (r := 1) (j := 0) ?_
  refine rp_drift (d := d + 22) (c := 0) (s := 0) hG hR1 (fun ρ' l' hR' => ?_)
  refine g250_698 (c := c + 20) (s := s + 536) hS1 hN (fun _ => ?_) (fun h => absurd rfl h)
  exact k 20 536 _ _ _ _ _ _ (h.nx hC1 hF hG1 hR')
theorem law_undo (h : lInv f N B I L P S t σ) (hB : B < 2 ^ 29) (hi : i + 5 < N) (hN : N ≤ 3072) (k : lK d c s f N (B + 40) i Q) : Ev (d + 30) (c + 20) (s + 536) 250 703 [some (zr (some (9, 0, 0))), some (zr (some (0, 0, 0))), some (zr (some (1, 0, 0))), some (zi (nI i))] [] (I, L, zpj P, zsj S, 237 + t) Q := by
  obtain ⟨hC, hR, hG, hS, hI⟩ := id h
  refine g250_703 (d := d + 29) (c := c + 20) (s := s + 536) hS hN ?_
  refine cp_undo (d := d + 27) (c := 0) (s := 0) hG hC (fun I1 L1 P1 S1 t1 hC1 hG1 hF => ?_)
  have hR1 : zRef (I1 1 0) (L1 1 0) σ := by rw [(hF 1 (Or.inl rfl)).1, (hF 1 (Or.inl rfl)).2.1]; exact hR
  have hS1 : S1 9 0 0 = (20, N) := by rw [(hF 9 (Or.inr rfl)).2.2]; exact hS
  refine g250_707 (d := d + 29) (c := c + 20) (s := s + 536) hS1 hN ?_
  refine om_ev (r := 1) (j := 0) ?_
  refine rp_undo (d := d + 23) (c := 0) (s := 0) hG hR1 (fun ρ' l' hR' => ?_)
  refine g250_711 (c := c + 20) (s := s + 536) hS1 hN (fun _ => ?_) (fun h => absurd rfl h)
  exact k 20 536 _ _ _ _ _ _ (h.nx hC1 hF hG1 hR')
theorem law_seed (h : lInv f N B I L P S t σ) (hB : B < 2 ^ 29) (hi : i + 5 < N) (hN : N ≤ 3072) (k : lK d c s f N (B + 40) i Q) : Ev (d + 30) (c + 20) (s + 536) 250 716 [some (zr (some (9, 0, 0))), some (zr (some (0, 0, 0))), some (zr (some (1, 0, 0))), some (zi (nI i))] [] (I, L, zpj P, zsj S, 237 + t) Q := by
  obtain ⟨hC, hR, hG, hS, hI⟩ := id h
  refine g250_716 (d := d + 29) (c := c + 20) (s := s + 536) hS hN (by omega) ?_
  refine cp_seed (d := d + 28) (c := 0) (s := 0) hG hC (fun I1 L1 P1 S1 t1 hC1 hG1 hF => ?_)
  have hR1 : zRef (I1 1 0) (L1 1 0) σ := by rw [(hF 1 (Or.inl rfl)).1, (hF 1 (Or.inl rfl)).2.1]; exact hR
  have hS1 : S1 9 0 0 = (20, N) := by rw [(hF 9 (Or.inr rfl)).2.2]; exact hS
  refine g250_725 (d := d + 29) (c := c + 20) (s := s + 536) hS1 hN (by omega) ?_
  rw [(hF 9 (Or.inr rfl)).1]
  refine om_ev (r := 1) (j := 0) ?_
  refine rp_seed (d := d + 29) (c := 0) (s := 0) hG hR1 (fun ρ' l' hR' => ?_)
  refine g250_734 (c := c + 20) (s := s + 536) hS1 hN (fun _ => ?_) (fun h => absurd rfl h)
  exact k 20 536 _ _ _ _ _ _ (h.nx hC1 hF hG1 hR')
theorem law_image (h : lInv f N B I L P S t σ) (hB : B < 2 ^ 29) (hi : i + 5 < N) (hN : N ≤ 3072) (k : lK d c s f N (B + 40) i Q) : Ev (d + 30) (c + 20) (s + 536) 250 739 [some (zr (some (9, 0, 0))), some (zr (some (0, 0, 0))), some (zr (some (1, 0, 0))), some (zi (nI i))] [] (I, L, zpj P, zsj S, 237 + t) Q := by
  obtain ⟨hC, hR, hG, hS, hI⟩ := id h
  refine g250_739 (d := d + 29) (c := c + 20) (s := s + 536) hS hN ?_
  refine cp_image (d := d + 27) (c := 0) (s := 0) hG hC (fun I1 L1 P1 S1 t1 hC1 hG1 hF => ?_)
  have hR1 : zRef (I1 1 0) (L1 1 0) σ := by rw [(hF 1 (Or.inl rfl)).1, (hF 1 (Or.inl rfl)).2.1]; exact hR
  have hS1 : S1 9 0 0 = (20, N) := by rw [(hF 9 (Or.inr rfl)).2.2]; exact hS
  refine g250_743 (d := d + 29) (c := c + 20) (s := s + 536) hS1 hN ?_
  refine om_ev (r := 1) (j := 0) ?_
  refine rp_image (d := d + 29) (c := 0) (s := 0) hG hR1 (fun ρ' l' hR' => ?_)
  refine g250_747 (c := c + 20) (s := s + 536) hS1 hN (fun _ => ?_) (fun h => absurd rfl h)
  exact k 20 536 _ _ _ _ _ _ (h.nx hC1 hF hG1 hR')
theorem law_restore (h : lInv f N B I L P S t σ) (hB : B < 2 ^ 29) (hi : i + 5 < N) (hN : N ≤ 3072) (k : lK d c s f N (B + 40) i Q) : Ev (d + 30) (c + 20) (s + 536) 250 752 [some (zr (some (9, 0, 0))), some (zr (some (0, 0, 0))), some (zr (some (1, 0, 0))), some (zi (nI i))] [] (I, L, zpj P, zsj S, 237 + t) Q := by
  obtain ⟨hC, hR, hG, hS, hI⟩ := id h
  refine g250_752 (d := d + 29) (c := c + 20) (s := s + 536) hS hN ?_
  refine cp_restore (d := d + 27) (c := 0) (s := 0) hG hC (fun I1 L1 P1 S1 t1 hC1 hG1 hF => ?_)
  have hR1 : zRef (I1 1 0) (L1 1 0) σ := by rw [(hF 1 (Or.inl rfl)).1, (hF 1 (Or.inl rfl)).2.1]; exact hR
  have hS1 : S1 9 0 0 = (20, N) := by rw [(hF 9 (Or.inr rfl)).2.2]; exact hS
  refine g250_756 (d := d + 29) (c := c + 20) (s := s + 536) hS1 hN ?_
  refine om_ev (r := 1) (j := 0) ?_
  refine rp_restore (d := d + 23) (c := 0) (s := 0) hG hR1 (fun ρ' l' hR' => ?_)
  refine g250_760 (c := c + 20) (s := s + 536) hS1 hN (fun _ => ?_) (fun h => absurd rfl h)
  exact k 20 536 _ _ _ _ _ _ (h.nx hC1 hF hG1 hR')
theorem law_tried (h : lInv f N B I L P S t σ) (hB : B < 2 ^ 29) (hi : i + 5 < N) (hN : N ≤ 3072) (k : lK d c s f N (B + 40) i Q) : Ev (d + 30) (c + 20) (s + 536) 250 765 [some (zr (some (9, 0, 0))), some (zr (some (0, 0, 0))), some (zr (some (1, 0, 0))), some (zi (nI i))] [] (I, L, zpj P, zsj S, 237 + t) Q := by
  obtain ⟨hC, hR, hG, hS, hI⟩ := id h
  refine g250_765 (d := d + 29) (c := c + 20) (s := s + 536) hS hN (by omega) (by omega) (by omega) (by omega) ?_
  refine cp_tried (d := d + 23) (c := 0) (s := 0) hG hB hC (fun I1 L1 P1 S1 t1 hC1 hG1 hF => ?_)
  have hR1 : zRef (I1 1 0) (L1 1 0) σ := by rw [(hF 1 (Or.inl rfl)).1, (hF 1 (Or.inl rfl)).2.1]; exact hR
  have hS1 : S1 9 0 0 = (20, N) := by rw [(hF 9 (Or.inr rfl)).2.2]; exact hS
  refine g250_789 (d := d + 29) (c := c + 20) (s := s + 536) hS1 hN (by omega) (by omega) (by omega) (by omega) ?_
  rw [(hF 9 (Or.inr rfl)).1]
  refine om_ev (r := 1) (j := 0) ?_
  refine rp_tried (d := d + 22) (c := 0) (s := 0) hG hR1 (fun ρ' l' hR' => ?_)
  refine g250_813 (c := c + 20) (s := s + 536) hS1 hN (fun _ => ?_) (fun h => absurd rfl h)
  exact k 20 536 _ _ _ _ _ _ (h.nx hC1 hF hG1 hR')
theorem law_film (h : lInv f N B I L P S t σ) (hB : B < 2 ^ 29) (hi : i + 5 < N) (hN : N ≤ 3072) (k : lK d c s f N (B + 40) i Q) : Ev (d + 30) (c + 20) (s + 536) 250 818 [some (zr (some (9, 0, 0))), some (zr (some (0, 0, 0))), some (zr (some (1, 0, 0))), some (zi (nI i))] [] (I, L, zpj P, zsj S, 237 + t) Q := by
  obtain ⟨hC, hR, hG, hS, hI⟩ := id h
  refine g250_818 (d := d + 29) (c := c + 20) (s := s + 536) hS hN (by omega) (by omega) (by omega) ?_
  refine cp_film (d := d + 27) (c := 0) (s := 0) hG hC (fun I1 L1 P1 S1 t1 hC1 hG1 hF => ?_)
  have hR1 : zRef (I1 1 0) (L1 1 0) σ := by rw [(hF 1 (Or.inl rfl)).1, (hF 1 (Or.inl rfl)).2.1]; exact hR
  have hS1 : S1 9 0 0 = (20, N) := by rw [(hF 9 (Or.inr rfl)).2.2]; exact hS
  refine g250_837 (d := d + 29) (c := c + 20) (s := s + 536) hS1 hN (by omega) (by omega) (by omega) ?_
  rw [(hF 9 (Or.inr rfl)).1]
  refine om_ev (r := 1) (j := 0) ?_
  refine rp_film (d := d + 27) (c := 0) (s := 0) hG hR1 (fun ρ' l' hR' => ?_)
  refine g250_856 (c := c + 20) (s := s + 536) hS1 hN (fun _ => ?_) (fun h => absurd rfl h)
  exact k 20 536 _ _ _ _ _ _ (h.nx hC1 hF hG1 hR')
theorem law_sheet (h : lInv f N B I L P S t σ) (hB : B < 2 ^ 29) (hi : i + 5 < N) (hN : N ≤ 3072) (k : lK d c s f N (B + 40) i Q) : Ev (d + 30) (c + 20) (s + 536) 250 861 [some (zr (some (9, 0, 0))), some (zr (some (0, 0, 0))), some (zr (some (1, 0, 0))), some (zi (nI i))] [] (I, L, zpj P, zsj S, 237 + t) Q := by
  obtain ⟨hC, hR, hG, hS, hI⟩ := id h
  refine g250_861 (d := d + 29) (c := c + 20) (s := s + 536) hS hN (by omega) (by omega) (by omega) ?_
  refine cp_sheet (d := d + 26) (c := 0) (s := 0) hG hC (fun I1 L1 P1 S1 t1 hC1 hG1 hF => ?_)
  have hR1 : zRef (I1 1 0) (L1 1 0) σ := by rw [(hF 1 (Or.inl rfl)).1, (hF 1 (Or.inl rfl)).2.1]; exact hR
  have hS1 : S1 9 0 0 = (20, N) := by rw [(hF 9 (Or.inr rfl)).2.2]; exact hS
  refine g250_880 (d := d + 29) (c := c + 20) (s := s + 536) hS1 hN (by omega) (by omega) (by omega) ?_
  rw [(hF 9 (Or.inr rfl)).1]
  refine om_ev (r := 1) (j := 0) ?_
  refine rp_sheet (d := d + 27) (c := 0) (s := 0) hG hR1 (fun ρ' l' hR' => ?_)
  refine g250_899 (c := c + 20) (s := s + 536) hS1 hN (fun _ => ?_) (fun h => absurd rfl h)
  exact k 20 536 _ _ _ _ _ _ (h.nx hC1 hF hG1 hR')
theorem law_drop (h : lInv f N B I L P S t σ) (hB : B < 2 ^ 29) (hi : i + 5 < N) (hN : N ≤ 3072) (k : lK d c s f N (B + 40) i Q) : Ev (d + 30) (c + 20) (s + 536) 250 904 [some (zr (some (9, 0, 0))), some (zr (some (0, 0, 0))), some (zr (some (1, 0, 0))), some (zi (nI i))] [] (I, L, zpj P, zsj S, 237 + t) Q := by
  obtain ⟨hC, hR, hG, hS, hI⟩ := id h
  refine g250_904 (d := d + 29) (c := c + 20) (s := s + 536) hS hN (by omega) ?_
  refine cp_drop (d := d + 27) (c := 0) (s := 0) hG hC (fun I1 L1 P1 S1 t1 hC1 hG1 hF => ?_)
  have hR1 : zRef (I1 1 0) (L1 1 0) σ := by rw [(hF 1 (Or.inl rfl)).1, (hF 1 (Or.inl rfl)).2.1]; exact hR
  have hS1 : S1 9 0 0 = (20, N) := by rw [(hF 9 (Or.inr rfl)).2.2]; exact hS
  refine g250_913 (d := d + 29) (c := c + 20) (s := s + 536) hS1 hN (by omega) ?_
  rw [(hF 9 (Or.inr rfl)).1]
  refine om_ev (r := 1) (j := 0) ?_
  refine rp_drop (d := d + 27) (c := 0) (s := 0) hG hR1 (fun ρ' l' hR' => ?_)
  refine g250_922 (c := c + 20) (s := s + 536) hS1 hN (fun _ => ?_) (fun h => absurd rfl h)
  exact k 20 536 _ _ _ _ _ _ (h.nx hC1 hF hG1 hR')
theorem law_item (h : lInv f N B I L P S t σ) (hB : B < 2 ^ 29) (hi : i + 5 < N) (hN : N ≤ 3072) (k : lK d c s f N (B + 40) i Q) : Ev (d + 30) (c + 20) (s + 536) 250 927 [some (zr (some (9, 0, 0))), some (zr (some (0, 0, 0))), some (zr (some (1, 0, 0))), some (zi (nI i))] [] (I, L, zpj P, zsj S, 237 + t) Q := by
  obtain ⟨hC, hR, hG, hS, hI⟩ := id h
  refine g250_927 (d := d + 29) (c := c + 20) (s := s + 536) hS hN (by omega) (by omega) (by omega) (by omega) (by omega) ?_
  refine cp_item (d := d + 27) (c := 0) (s := 0) hG hC (fun I1 L1 P1 S1 t1 hC1 hG1 hF => ?_)
  have hR1 : zRef (I1 1 0) (L1 1 0) σ := by rw [(hF 1 (Or.inl rfl)).1, (hF 1 (Or.inl rfl)).2.1]; exact hR
  have hS1 : S1 9 0 0 = (20, N) := by rw [(hF 9 (Or.inr rfl)).2.2]; exact hS
  refine g250_966 (d := d + 29) (c := c + 20) (s := s + 536) hS1 hN (by omega) (by omega) (by omega) (by omega) (by omega) ?_
  rw [(hF 9 (Or.inr rfl)).1]
  refine om_ev (r := 1) (j := 0) ?_
  refine rp_item (d := d + 27) (c := 0) (s := 0) hG hR1 (fun ρ' l' hR' => ?_)
  refine g250_1005 (c := c + 20) (s := s + 536) hS1 hN (fun _ => ?_) (fun h => absurd rfl h)
  exact k 20 536 _ _ _ _ _ _ (h.nx hC1 hF hG1 hR')
theorem law_copy (h : lInv f N B I L P S t σ) (hB : B < 2 ^ 29) (hi : i + 5 < N) (hN : N ≤ 3072) (k : lK d c s f N (B + 40) i Q) : Ev (d + 30) (c + 20) (s + 536) 250 1010 [some (zr (some (9, 0, 0))), some (zr (some (0, 0, 0))), some (zr (some (1, 0, 0))), some (zi (nI i))] [] (I, L, zpj P, zsj S, 237 + t) Q := by
  obtain ⟨hC, hR, hG, hS, hI⟩ := id h
  refine g250_1010 (d := d + 29) (c := c + 20) (s := s + 536) hS hN (by omega) (by omega) (by omega) (by omega) (by omega) ?_
  refine cp_copy (d := d + 27) (c := 0) (s := 0) hG hC (fun I1 L1 P1 S1 t1 hC1 hG1 hF => ?_)
  have hR1 : zRef (I1 1 0) (L1 1 0) σ := by rw [(hF 1 (Or.inl rfl)).1, (hF 1 (Or.inl rfl)).2.1]; exact hR
  have hS1 : S1 9 0 0 = (20, N) := by rw [(hF 9 (Or.inr rfl)).2.2]; exact hS
  refine g250_1039 (d := d + 29) (c := c + 20) (s := s + 536) hS1 hN (by omega) (by omega) (by omega) (by omega) (by omega) ?_
  rw [(hF 9 (Or.inr rfl)).1]
  refine om_ev (r := 1) (j := 0) ?_
  refine rp_copy (d := d + 27) (c := 0) (s := 0) hG hR1 (fun ρ' l' hR' => ?_)
  refine g250_1068 (c := c + 20) (s := s + 536) hS1 hN (fun _ => ?_) (fun h => absurd rfl h)
  exact k 20 536 _ _ _ _ _ _ (h.nx hC1 hF hG1 hR')
end
