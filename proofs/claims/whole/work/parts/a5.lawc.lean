/-! the law: each call on both sides -/
theorem om_ev {d c s m pc top r j : Nat} {ls : List (Option zV)} {st : List zV} {I : zI} {L : zL} {P : zP} {S : zS} {Q : Option zV → zM → Prop} (h : Ev d c s m pc ls st (OM (I, L, P, S, top) r j (I r j) (L r j)) Q) : Ev d c s m pc ls st (I, L, zpj P, zsj S, top) Q := by
  have e : OM (I, L, P, S, top) r j (I r j) (L r j) = (I, L, zpj P, zsj S, top) := by
    show (so I r j (I r j), so L r j (L r j), zpj P, zsj S, top) = _
    rw [so_id, so_id]
  rw [e] at h
  exact h
section
variable {d c s : Nat} {Q : Option zV → zM → Prop} {I : zI} {L : zL} {P : zP} {S : zS} {t B i N : Nat} {σ : zSt} {f : Nat → Int32}
theorem zCls.ref {ρ : Nat → Nat → Int32} {l : Nat → Nat → Int64} (h : zCls I L P S t σ) : zCls (so I 1 0 ρ) (so L 1 0 l) P S t σ :=
  ⟨h.1.fr (Nat.le_refl _) (fun q i => so3 (by omega)) (fun q i => rfl) (cOld_so (by decide)), h.2.fr (Nat.le_refl _) (fun j q i _ => ⟨so3 (by omega), rfl⟩) (fun j q i => ⟨so3 (by omega), rfl⟩) (fun j q i => ⟨so3 (by omega), so3 (by omega)⟩) ⟨so3 (by omega), so3 (by omega), fun i => so3 (by omega)⟩ (cOld_so (by decide))⟩
/-- both sides tell one state; the script stands -/
def lInv (f : Nat → Int32) (N B : Nat) (I : zI) (L : zL) (P : zP) (S : zS) (t : Nat) (σ : zSt) : Prop := zCls I L P S t σ ∧ zRef (I 1 0) (L 1 0) σ ∧ zGood B σ ∧ S 9 0 0 = (20, N) ∧ I 9 0 0 = f
/-- the next round of the law -/
abbrev lK (d c s : Nat) (f : Nat → Int32) (N B i : Nat) (Q : Option zV → zM → Prop) : Prop := ∀ x y I L P S t σ, lInv f N B I L P S t σ → Ev (d + 30) (c + x) (s + y) 249 1073 [some (zr (some (9, 0, 0))), some (zr (some (0, 0, 0))), some (zr (some (1, 0, 0))), some (zi (nI i))] [] (I, L, zpj P, zsj S, 237 + t) Q
theorem lInv.nx {I' : zI} {L' : zL} {P' : zP} {S' : zS} {t' B' : Nat} {σ σ' : zSt} {ρ : Nat → Nat → Int32} {l : Nat → Nat → Int64} (h : lInv f N B I L P S t σ) (hC : zCls I' L' P' S' t' σ') (hF : zFm I L S I' L' S') (hG : zGood B' σ') (hR : zRef ρ l σ') : lInv f N B' (so I' 1 0 ρ) (so L' 1 0 l) P' S' t' σ' := by
  refine ⟨hC.ref, ?_, hG, ?_, ?_⟩
  · rw [so_s, so_s]; exact hR
  · rw [(hF 9 (Or.inr rfl)).2.2]; exact h.2.2.2.1
  · rw [so_n _ _ (by decide), (hF 9 (Or.inr rfl)).1]; exact h.2.2.2.2
theorem law_type (h : lInv f N B I L P S t σ) (hB : B < 2 ^ 29) (hi : i + 5 < N) (hN : N ≤ 3072) (k : lK d c s f N (B + 40) i Q) : Ev (d + 30) (c + 20) (s + 536) 249 164 [some (zr (some (9, 0, 0))), some (zr (some (0, 0, 0))), some (zr (some (1, 0, 0))), some (zi (nI i))] [] (I, L, zpj P, zsj S, 237 + t) Q := by
  obtain ⟨hC, hR, hG, hS, hI⟩ := id h
  refine g249_164 (d := d + 29) (c := c + 20) (s := s + 536) hS hN (by omega) ?_
  refine cp_type (d := d + 28) (c := 0) (s := 0) hG hC (fun I1 L1 P1 S1 t1 hC1 hG1 hF => ?_)
  have hR1 : zRef (I1 1 0) (L1 1 0) σ := by rw [(hF 1 (Or.inl rfl)).1, (hF 1 (Or.inl rfl)).2.1]; exact hR
  have hS1 : S1 9 0 0 = (20, N) := by rw [(hF 9 (Or.inr rfl)).2.2]; exact hS
  refine g249_173 (d := d + 29) (c := c + 20) (s := s + 536) hS1 hN (by omega) ?_
  rw [(hF 9 (Or.inr rfl)).1]
  refine om_ev (r := 1) (j := 0) ?_
  refine rp_type (d := d + 28) (c := 0) (s := 0) hG hR1 (fun ρ' l' hR' => ?_)
  refine g249_182 (c := c + 20) (s := s + 536) hS1 hN (fun _ => ?_) (fun h => absurd rfl h)
  exact k 20 536 _ _ _ _ _ _ (h.nx hC1 hF hG1 hR')
theorem law_program (h : lInv f N B I L P S t σ) (hB : B < 2 ^ 29) (hi : i + 5 < N) (hN : N ≤ 3072) (k : lK d c s f N (B + 40) i Q) : Ev (d + 30) (c + 20) (s + 536) 249 187 [some (zr (some (9, 0, 0))), some (zr (some (0, 0, 0))), some (zr (some (1, 0, 0))), some (zi (nI i))] [] (I, L, zpj P, zsj S, 237 + t) Q := by
  obtain ⟨hC, hR, hG, hS, hI⟩ := id h
  refine g249_187 (d := d + 29) (c := c + 12) (s := s + 281) hS hN (by omega) ?_
  refine cp_program (d := d + 2) (c := 0) (s := 0) hG hC (fun I1 L1 P1 S1 t1 hC1 hG1 hF => ?_)
  have hR1 : zRef (I1 1 0) (L1 1 0) σ := by rw [(hF 1 (Or.inl rfl)).1, (hF 1 (Or.inl rfl)).2.1]; exact hR
  have hS1 : S1 9 0 0 = (20, N) := by rw [(hF 9 (Or.inr rfl)).2.2]; exact hS
  refine g249_196 (d := d + 29) (c := c + 12) (s := s + 281) hS1 hN (by omega) ?_
  rw [(hF 9 (Or.inr rfl)).1]
  refine om_ev (r := 1) (j := 0) ?_
  refine rp_program (d := d + 22) (c := 0) (s := 0) hG hR1 (fun ρ' l' hR' => ?_)
  refine g249_205 (c := c + 12) (s := s + 281) hS1 hN (fun _ => ?_) (fun h => absurd rfl h)
  exact k 12 281 _ _ _ _ _ _ (h.nx hC1 hF hG1 hR')
theorem law_gone (h : lInv f N B I L P S t σ) (hB : B < 2 ^ 29) (hi : i + 5 < N) (hN : N ≤ 3072) (k : lK d c s f N (B + 40) i Q) : Ev (d + 30) (c + 20) (s + 536) 249 210 [some (zr (some (9, 0, 0))), some (zr (some (0, 0, 0))), some (zr (some (1, 0, 0))), some (zi (nI i))] [] (I, L, zpj P, zsj S, 237 + t) Q := by
  obtain ⟨hC, hR, hG, hS, hI⟩ := id h
  refine g249_210 (d := d + 29) (c := c) (s := s) hS hN (by omega) ?_
  refine cp_gone (d := d + 2) (c := 0) (s := 0) hG hC (fun I1 L1 P1 S1 t1 hC1 hG1 hF => ?_)
  have hR1 : zRef (I1 1 0) (L1 1 0) σ := by rw [(hF 1 (Or.inl rfl)).1, (hF 1 (Or.inl rfl)).2.1]; exact hR
  have hS1 : S1 9 0 0 = (20, N) := by rw [(hF 9 (Or.inr rfl)).2.2]; exact hS
  refine g249_219 (d := d + 29) (c := c) (s := s) hS1 hN (by omega) ?_
  rw [(hF 9 (Or.inr rfl)).1]
  refine om_ev (r := 1) (j := 0) ?_
  refine rp_gone (d := d + 22) (c := 0) (s := 0) hG hR1 (fun ρ' l' hR' => ?_)
  refine g249_228 (c := c) (s := s) hS1 hN (fun _ => ?_) (fun h => absurd rfl h)
  exact k 0 0 _ _ _ _ _ _ (h.nx hC1 hF hG1 hR')
theorem law_run (h : lInv f N B I L P S t σ) (hB : B < 2 ^ 29) (hi : i + 5 < N) (hN : N ≤ 3072) (k : lK d c s f N (B + 40) i Q) : Ev (d + 30) (c + 20) (s + 536) 249 233 [some (zr (some (9, 0, 0))), some (zr (some (0, 0, 0))), some (zr (some (1, 0, 0))), some (zi (nI i))] [] (I, L, zpj P, zsj S, 237 + t) Q := by
  obtain ⟨hC, hR, hG, hS, hI⟩ := id h
  refine g249_233 (d := d + 29) (c := c + 20) (s := s + 536) hS hN (by omega) ?_
  refine cp_run (d := d + 26) (c := 0) (s := 0) hG hC (fun I1 L1 P1 S1 t1 hC1 hG1 hF => ?_)
  have hR1 : zRef (I1 1 0) (L1 1 0) σ := by rw [(hF 1 (Or.inl rfl)).1, (hF 1 (Or.inl rfl)).2.1]; exact hR
  have hS1 : S1 9 0 0 = (20, N) := by rw [(hF 9 (Or.inr rfl)).2.2]; exact hS
  refine g249_242 (d := d + 29) (c := c + 20) (s := s + 536) hS1 hN (by omega) ?_
  rw [(hF 9 (Or.inr rfl)).1]
  refine om_ev (r := 1) (j := 0) ?_
  refine rp_run (d := d + 27) (c := 0) (s := 0) hG hR1 (fun ρ' l' hR' => ?_)
  refine g249_251 (c := c + 20) (s := s + 536) hS1 hN (fun _ => ?_) (fun h => absurd rfl h)
  exact k 20 536 _ _ _ _ _ _ (h.nx hC1 hF hG1 hR')
theorem law_alone (h : lInv f N B I L P S t σ) (hB : B < 2 ^ 29) (hi : i + 5 < N) (hN : N ≤ 3072) (k : lK d c s f N (B + 40) i Q) : Ev (d + 30) (c + 20) (s + 536) 249 256 [some (zr (some (9, 0, 0))), some (zr (some (0, 0, 0))), some (zr (some (1, 0, 0))), some (zi (nI i))] [] (I, L, zpj P, zsj S, 237 + t) Q := by
  obtain ⟨hC, hR, hG, hS, hI⟩ := id h
  refine g249_256 (d := d + 29) (c := c + 20) (s := s + 536) hS hN (by omega) (by omega) ?_
  refine cp_alone (d := d + 28) (c := 0) (s := 0) hG hC ?_
  refine g249_270 (d := d + 29) (c := c + 20) (s := s + 536) hS hN (by omega) (by omega) ?_
  refine om_ev (r := 1) (j := 0) ?_
  refine rp_alone (d := d + 27) (c := 0) (s := 0) hG hR ?_
  refine g249_284 (c := c + 20) (s := s + 536) hS hN (fun _ => ?_) (fun h => absurd rfl h)
  exact k 20 536 _ _ _ _ _ _ (h.nx hC zFm.refl (hG.mono (by omega)) hR)
theorem law_step (h : lInv f N B I L P S t σ) (hB : B < 2 ^ 29) (hi : i + 5 < N) (hN : N ≤ 3072) (k : lK d c s f N (B + 40) i Q) : Ev (d + 30) (c + 20) (s + 536) 249 289 [some (zr (some (9, 0, 0))), some (zr (some (0, 0, 0))), some (zr (some (1, 0, 0))), some (zi (nI i))] [] (I, L, zpj P, zsj S, 237 + t) Q := by
  obtain ⟨hC, hR, hG, hS, hI⟩ := id h
  refine g249_289 (d := d + 29) (c := c + 20) (s := s + 536) hS hN (by omega) (by omega) (by omega) ?_
  refine cp_step (d := d + 27) (c := 0) (s := 0) hG hC ?_
  refine g249_308 (d := d + 29) (c := c + 20) (s := s + 536) hS hN (by omega) (by omega) (by omega) ?_
  refine om_ev (r := 1) (j := 0) ?_
  refine rp_step (d := d + 27) (c := 0) (s := 0) hG hR ?_
  refine g249_327 (c := c + 20) (s := s + 536) hS hN (fun _ => ?_) (fun h => absurd rfl h)
  exact k 20 536 _ _ _ _ _ _ (h.nx hC zFm.refl (hG.mono (by omega)) hR)
theorem law_rule (h : lInv f N B I L P S t σ) (hB : B < 2 ^ 29) (hi : i + 5 < N) (hN : N ≤ 3072) (k : lK d c s f N (B + 40) i Q) : Ev (d + 30) (c + 20) (s + 536) 249 332 [some (zr (some (9, 0, 0))), some (zr (some (0, 0, 0))), some (zr (some (1, 0, 0))), some (zi (nI i))] [] (I, L, zpj P, zsj S, 237 + t) Q := by
  obtain ⟨hC, hR, hG, hS, hI⟩ := id h
  refine g249_332 (d := d + 29) (c := c + 20) (s := s + 536) hS hN (by omega) ?_
  refine cp_rule (d := d + 27) (c := 0) (s := 0) hG hC (fun I1 L1 P1 S1 t1 hC1 hG1 hF => ?_)
  have hR1 : zRef (I1 1 0) (L1 1 0) σ := by rw [(hF 1 (Or.inl rfl)).1, (hF 1 (Or.inl rfl)).2.1]; exact hR
  have hS1 : S1 9 0 0 = (20, N) := by rw [(hF 9 (Or.inr rfl)).2.2]; exact hS
  refine g249_341 (d := d + 29) (c := c + 20) (s := s + 536) hS1 hN (by omega) ?_
  rw [(hF 9 (Or.inr rfl)).1]
  refine om_ev (r := 1) (j := 0) ?_
  refine rp_rule (d := d + 27) (c := 0) (s := 0) hG hR1 (fun ρ' l' hR' => ?_)
  refine g249_350 (c := c + 20) (s := s + 536) hS1 hN (fun _ => ?_) (fun h => absurd rfl h)
  exact k 20 536 _ _ _ _ _ _ (h.nx hC1 hF hG1 hR')
theorem law_turn (h : lInv f N B I L P S t σ) (hB : B < 2 ^ 29) (hi : i + 5 < N) (hN : N ≤ 3072) (k : lK d c s f N (B + 40) i Q) : Ev (d + 30) (c + 20) (s + 536) 249 355 [some (zr (some (9, 0, 0))), some (zr (some (0, 0, 0))), some (zr (some (1, 0, 0))), some (zi (nI i))] [] (I, L, zpj P, zsj S, 237 + t) Q := by
  obtain ⟨hC, hR, hG, hS, hI⟩ := id h
  refine g249_355 (d := d + 29) (c := c + 20) (s := s + 536) hS hN (by omega) ?_
  refine cp_turn (d := d + 23) (c := 0) (s := 0) hG hB hC (fun I1 L1 P1 S1 t1 hC1 hG1 hF => ?_)
  have hR1 : zRef (I1 1 0) (L1 1 0) σ := by rw [(hF 1 (Or.inl rfl)).1, (hF 1 (Or.inl rfl)).2.1]; exact hR
  have hS1 : S1 9 0 0 = (20, N) := by rw [(hF 9 (Or.inr rfl)).2.2]; exact hS
  refine g249_364 (d := d + 29) (c := c + 20) (s := s + 536) hS1 hN (by omega) ?_
  rw [(hF 9 (Or.inr rfl)).1]
  refine om_ev (r := 1) (j := 0) ?_
  refine rp_turn (d := d + 22) (c := 0) (s := 0) hG hR1 (fun ρ' l' hR' => ?_)
  refine g249_373 (c := c + 20) (s := s + 536) hS1 hN (fun _ => ?_) (fun h => absurd rfl h)
  exact k 20 536 _ _ _ _ _ _ (h.nx hC1 hF hG1 hR')
theorem law_go (h : lInv f N B I L P S t σ) (hB : B < 2 ^ 29) (hi : i + 5 < N) (hN : N ≤ 3072) (k : lK d c s f N (B + 40) i Q) : Ev (d + 30) (c + 20) (s + 536) 249 378 [some (zr (some (9, 0, 0))), some (zr (some (0, 0, 0))), some (zr (some (1, 0, 0))), some (zi (nI i))] [] (I, L, zpj P, zsj S, 237 + t) Q := by
  obtain ⟨hC, hR, hG, hS, hI⟩ := id h
  refine g249_378 (d := d + 29) (c := c + 20) (s := s + 536) hS hN (by omega) ?_
  refine cp_go (d := d + 23) (c := 0) (s := 0) hG hB hC (fun I1 L1 P1 S1 t1 hC1 hG1 hF => ?_)
  have hR1 : zRef (I1 1 0) (L1 1 0) σ := by rw [(hF 1 (Or.inl rfl)).1, (hF 1 (Or.inl rfl)).2.1]; exact hR
  have hS1 : S1 9 0 0 = (20, N) := by rw [(hF 9 (Or.inr rfl)).2.2]; exact hS
  refine g249_387 (d := d + 29) (c := c + 20) (s := s + 536) hS1 hN (by omega) ?_
  rw [(hF 9 (Or.inr rfl)).1]
  refine om_ev (r := 1) (j := 0) ?_
  refine rp_go (d := d + 22) (c := 0) (s := 0) hG hR1 (fun ρ' l' hR' => ?_)
  refine g249_396 (c := c + 20) (s := s + 536) hS1 hN (fun _ => ?_) (fun h => absurd rfl h)
  exact k 20 536 _ _ _ _ _ _ (h.nx hC1 hF hG1 hR')
theorem law_lay (h : lInv f N B I L P S t σ) (hB : B < 2 ^ 29) (hi : i + 5 < N) (hN : N ≤ 3072) (k : lK d c s f N (B + 40) i Q) : Ev (d + 30) (c + 20) (s + 536) 249 401 [some (zr (some (9, 0, 0))), some (zr (some (0, 0, 0))), some (zr (some (1, 0, 0))), some (zi (nI i))] [] (I, L, zpj P, zsj S, 237 + t) Q := by
  obtain ⟨hC, hR, hG, hS, hI⟩ := id h
  refine g249_401 (d := d + 29) (c := c + 20) (s := s + 536) hS hN ?_
  refine cp_lay (d := d + 25) (c := 0) (s := 0) hG hC (fun I1 L1 P1 S1 t1 hC1 hG1 hF => ?_)
  have hR1 : zRef (I1 1 0) (L1 1 0) σ := by rw [(hF 1 (Or.inl rfl)).1, (hF 1 (Or.inl rfl)).2.1]; exact hR
  have hS1 : S1 9 0 0 = (20, N) := by rw [(hF 9 (Or.inr rfl)).2.2]; exact hS
  refine g249_405 (d := d + 29) (c := c + 20) (s := s + 536) hS1 hN ?_
  refine om_ev (r := 1) (j := 0) ?_
  refine rp_lay (d := d + 26) (c := 0) (s := 0) hG hR1 (fun ρ' l' hR' => ?_)
  refine g249_409 (c := c + 20) (s := s + 536) hS1 hN (fun _ => ?_) (fun h => absurd rfl h)
  exact k 20 536 _ _ _ _ _ _ (h.nx hC1 hF hG1 hR')
theorem law_gate (h : lInv f N B I L P S t σ) (hB : B < 2 ^ 29) (hi : i + 5 < N) (hN : N ≤ 3072) (k : lK d c s f N (B + 40) i Q) : Ev (d + 30) (c + 20) (s + 536) 249 414 [some (zr (some (9, 0, 0))), some (zr (some (0, 0, 0))), some (zr (some (1, 0, 0))), some (zi (nI i))] [] (I, L, zpj P, zsj S, 237 + t) Q := by
  obtain ⟨hC, hR, hG, hS, hI⟩ := id h
  refine g249_414 (d := d + 29) (c := c + 20) (s := s + 536) hS hN (by omega) (by omega) ?_
  refine cp_gate (d := d + 26) (c := 0) (s := 0) hG hC ?_
  refine g249_428 (d := d + 29) (c := c + 20) (s := s + 536) hS hN (by omega) (by omega) ?_
  refine om_ev (r := 1) (j := 0) ?_
  refine rp_gate (d := d + 26) (c := 0) (s := 0) hG hR ?_
  refine g249_442 (c := c + 20) (s := s + 536) hS hN (fun _ => ?_) (fun h => absurd rfl h)
  exact k 20 536 _ _ _ _ _ _ (h.nx hC zFm.refl (hG.mono (by omega)) hR)
theorem law_task (h : lInv f N B I L P S t σ) (hB : B < 2 ^ 29) (hi : i + 5 < N) (hN : N ≤ 3072) (k : lK d c s f N (B + 40) i Q) : Ev (d + 30) (c + 20) (s + 536) 249 447 [some (zr (some (9, 0, 0))), some (zr (some (0, 0, 0))), some (zr (some (1, 0, 0))), some (zi (nI i))] [] (I, L, zpj P, zsj S, 237 + t) Q := by
  obtain ⟨hC, hR, hG, hS, hI⟩ := id h
  refine g249_447 (d := d + 29) (c := c + 20) (s := s + 536) hS hN (by omega) (by omega) ?_
  refine cp_task (d := d + 25) (c := 0) (s := 0) hG hC ?_
  refine g249_461 (d := d + 29) (c := c + 20) (s := s + 536) hS hN (by omega) (by omega) ?_
  refine om_ev (r := 1) (j := 0) ?_
  refine rp_task (d := d + 24) (c := 0) (s := 0) hG hR ?_
  refine g249_475 (c := c + 20) (s := s + 536) hS hN (fun _ => ?_) (fun h => absurd rfl h)
  exact k 20 536 _ _ _ _ _ _ (h.nx hC zFm.refl (hG.mono (by omega)) hR)
theorem law_count (h : lInv f N B I L P S t σ) (hB : B < 2 ^ 29) (hi : i + 5 < N) (hN : N ≤ 3072) (k : lK d c s f N (B + 40) i Q) : Ev (d + 30) (c + 20) (s + 536) 249 480 [some (zr (some (9, 0, 0))), some (zr (some (0, 0, 0))), some (zr (some (1, 0, 0))), some (zi (nI i))] [] (I, L, zpj P, zsj S, 237 + t) Q := by
  obtain ⟨hC, hR, hG, hS, hI⟩ := id h
  refine g249_480 (d := d + 29) (c := c + 20) (s := s + 536) hS hN (by omega) ?_
  refine cp_count (d := d + 24) (c := 0) (s := 0) hG hC ?_
  refine g249_489 (d := d + 29) (c := c + 20) (s := s + 536) hS hN (by omega) ?_
  refine om_ev (r := 1) (j := 0) ?_
  refine rp_count (d := d + 23) (c := 0) (s := 0) hG hR ?_
  refine g249_498 (c := c + 20) (s := s + 536) hS hN (fun _ => ?_) (fun h => absurd rfl h)
  exact k 20 536 _ _ _ _ _ _ (h.nx hC zFm.refl (hG.mono (by omega)) hR)
theorem law_ahead (h : lInv f N B I L P S t σ) (hB : B < 2 ^ 29) (hi : i + 5 < N) (hN : N ≤ 3072) (k : lK d c s f N (B + 40) i Q) : Ev (d + 30) (c + 20) (s + 536) 249 503 [some (zr (some (9, 0, 0))), some (zr (some (0, 0, 0))), some (zr (some (1, 0, 0))), some (zi (nI i))] [] (I, L, zpj P, zsj S, 237 + t) Q := by
  obtain ⟨hC, hR, hG, hS, hI⟩ := id h
  refine g249_503 (d := d + 29) (c := c + 20) (s := s + 536) hS hN (by omega) (by omega) ?_
  refine cp_ahead (d := d + 24) (c := 0) (s := 0) hG hC (fun I1 L1 P1 S1 t1 hC1 hG1 hF => ?_)
  have hR1 : zRef (I1 1 0) (L1 1 0) σ := by rw [(hF 1 (Or.inl rfl)).1, (hF 1 (Or.inl rfl)).2.1]; exact hR
  have hS1 : S1 9 0 0 = (20, N) := by rw [(hF 9 (Or.inr rfl)).2.2]; exact hS
  refine g249_517 (d := d + 29) (c := c + 20) (s := s + 536) hS1 hN (by omega) (by omega) ?_
  rw [(hF 9 (Or.inr rfl)).1]
  refine om_ev (r := 1) (j := 0) ?_
  refine rp_ahead (d := d + 26) (c := 0) (s := 0) hG hR1 ?_
  refine g249_531 (c := c + 20) (s := s + 536) hS1 hN (fun _ => ?_) (fun h => absurd rfl h)
  exact k 20 536 _ _ _ _ _ _ (h.nx hC1 hF hG1 hR1)
theorem law_loops (h : lInv f N B I L P S t σ) (hB : B < 2 ^ 29) (hi : i + 5 < N) (hN : N ≤ 3072) (k : lK d c s f N (B + 40) i Q) : Ev (d + 30) (c + 20) (s + 536) 249 536 [some (zr (some (9, 0, 0))), some (zr (some (0, 0, 0))), some (zr (some (1, 0, 0))), some (zi (nI i))] [] (I, L, zpj P, zsj S, 237 + t) Q := by
  obtain ⟨hC, hR, hG, hS, hI⟩ := id h
  refine g249_536 (d := d + 29) (c := c + 20) (s := s + 536) hS hN (by omega) ?_
  refine cp_loops (d := d + 24) (c := 0) (s := 0) hG hC (fun I1 L1 P1 S1 t1 hC1 hG1 hF => ?_)
  have hR1 : zRef (I1 1 0) (L1 1 0) σ := by rw [(hF 1 (Or.inl rfl)).1, (hF 1 (Or.inl rfl)).2.1]; exact hR
  have hS1 : S1 9 0 0 = (20, N) := by rw [(hF 9 (Or.inr rfl)).2.2]; exact hS
  refine g249_545 (d := d + 29) (c := c + 20) (s := s + 536) hS1 hN (by omega) ?_
  rw [(hF 9 (Or.inr rfl)).1]
  refine om_ev (r := 1) (j := 0) ?_
  refine rp_loops (d := d + 26) (c := 0) (s := 0) hG hR1 (fun ρ' l' hR' => ?_)
  refine g249_554 (c := c + 20) (s := s + 536) hS1 hN (fun _ => ?_) (fun h => absurd rfl h)
  exact k 20 536 _ _ _ _ _ _ (h.nx hC1 hF hG1 hR')
theorem law_ways (h : lInv f N B I L P S t σ) (hB : B < 2 ^ 29) (hi : i + 5 < N) (hN : N ≤ 3072) (k : lK d c s f N (B + 40) i Q) : Ev (d + 30) (c + 20) (s + 536) 249 559 [some (zr (some (9, 0, 0))), some (zr (some (0, 0, 0))), some (zr (some (1, 0, 0))), some (zi (nI i))] [] (I, L, zpj P, zsj S, 237 + t) Q := by
  obtain ⟨hC, hR, hG, hS, hI⟩ := id h
  refine g249_559 (d := d + 29) (c := c + 20) (s := s + 536) hS hN (by omega) (by omega) (by omega) ?_
  refine cp_ways (d := d + 23) (c := 0) (s := 0) hG hC (fun I1 L1 P1 S1 t1 hC1 hG1 hF => ?_)
  have hR1 : zRef (I1 1 0) (L1 1 0) σ := by rw [(hF 1 (Or.inl rfl)).1, (hF 1 (Or.inl rfl)).2.1]; exact hR
  have hS1 : S1 9 0 0 = (20, N) := by rw [(hF 9 (Or.inr rfl)).2.2]; exact hS
  refine g249_578 (d := d + 29) (c := c + 20) (s := s + 536) hS1 hN (by omega) (by omega) (by omega) ?_
  rw [(hF 9 (Or.inr rfl)).1]
  refine om_ev (r := 1) (j := 0) ?_
  refine rp_ways (d := d + 25) (c := 0) (s := 0) hG hR1 (fun ρ' l' hR' => ?_)
  refine g249_597 (c := c + 20) (s := s + 536) hS1 hN (fun _ => ?_) (fun h => absurd ((lg_cmp_eq _ _).mpr rfl) h)
  exact k 20 536 _ _ _ _ _ _ (h.nx hC1 hF hG1 hR')
theorem law_odds (h : lInv f N B I L P S t σ) (hB : B < 2 ^ 29) (hi : i + 5 < N) (hN : N ≤ 3072) (k : lK d c s f N (B + 40) i Q) : Ev (d + 30) (c + 20) (s + 536) 249 603 [some (zr (some (9, 0, 0))), some (zr (some (0, 0, 0))), some (zr (some (1, 0, 0))), some (zi (nI i))] [] (I, L, zpj P, zsj S, 237 + t) Q := by
  obtain ⟨hC, hR, hG, hS, hI⟩ := id h
  refine g249_603 (d := d + 29) (c := c + 20) (s := s + 536) hS hN (by omega) (by omega) (by omega) ?_
  refine cp_odds (d := d + 23) (c := 0) (s := 0) hG hC (fun I1 L1 P1 S1 t1 hC1 hG1 hF => ?_)
  have hR1 : zRef (I1 1 0) (L1 1 0) σ := by rw [(hF 1 (Or.inl rfl)).1, (hF 1 (Or.inl rfl)).2.1]; exact hR
  have hS1 : S1 9 0 0 = (20, N) := by rw [(hF 9 (Or.inr rfl)).2.2]; exact hS
  refine g249_622 (d := d + 29) (c := c + 20) (s := s + 536) hS1 hN (by omega) (by omega) (by omega) ?_
  rw [(hF 9 (Or.inr rfl)).1]
  refine om_ev (r := 1) (j := 0) ?_
  refine rp_odds (d := d + 25) (c := 0) (s := 0) hG hR1 (fun ρ' l' hR' => ?_)
  refine g249_641 (c := c + 20) (s := s + 536) hS1 hN (fun _ => ?_) (fun h => absurd ((lg_cmp_eq _ _).mpr rfl) h)
  exact k 20 536 _ _ _ _ _ _ (h.nx hC1 hF hG1 hR')
theorem law_near (h : lInv f N B I L P S t σ) (hB : B < 2 ^ 29) (hi : i + 5 < N) (hN : N ≤ 3072) (k : lK d c s f N (B + 40) i Q) : Ev (d + 30) (c + 20) (s + 536) 249 647 [some (zr (some (9, 0, 0))), some (zr (some (0, 0, 0))), some (zr (some (1, 0, 0))), some (zi (nI i))] [] (I, L, zpj P, zsj S, 237 + t) Q := by
  obtain ⟨hC, hR, hG, hS, hI⟩ := id h
  refine g249_647 (d := d + 29) (c := c + 20) (s := s + 536) hS hN (by omega) (by omega) ?_
  refine cp_near (d := d + 23) (c := 0) (s := 0) hG hC (fun I1 L1 P1 S1 t1 hC1 hG1 hF => ?_)
  have hR1 : zRef (I1 1 0) (L1 1 0) σ := by rw [(hF 1 (Or.inl rfl)).1, (hF 1 (Or.inl rfl)).2.1]; exact hR
  have hS1 : S1 9 0 0 = (20, N) := by rw [(hF 9 (Or.inr rfl)).2.2]; exact hS
  refine g249_661 (d := d + 29) (c := c + 20) (s := s + 536) hS1 hN (by omega) (by omega) ?_
  rw [(hF 9 (Or.inr rfl)).1]
  refine om_ev (r := 1) (j := 0) ?_
  refine rp_near (d := d + 25) (c := 0) (s := 0) hG hR1 (fun ρ' l' hR' => ?_)
  refine g249_675 (c := c + 20) (s := s + 536) hS1 hN (fun _ => ?_) (fun h => absurd rfl h)
  exact k 20 536 _ _ _ _ _ _ (h.nx hC1 hF hG1 hR')
theorem law_drift (h : lInv f N B I L P S t σ) (hB : B < 2 ^ 29) (hi : i + 5 < N) (hN : N ≤ 3072) (k : lK d c s f N (B + 40) i Q) : Ev (d + 30) (c + 20) (s + 536) 249 680 [some (zr (some (9, 0, 0))), some (zr (some (0, 0, 0))), some (zr (some (1, 0, 0))), some (zi (nI i))] [] (I, L, zpj P, zsj S, 237 + t) Q := by
  obtain ⟨hC, hR, hG, hS, hI⟩ := id h
  refine g249_680 (d := d + 29) (c := c + 20) (s := s + 536) hS hN (by omega) ?_
  refine cp_drift (d := d + 23) (c := 0) (s := 0) hG hB hC (fun I1 L1 P1 S1 t1 hC1 hG1 hF => ?_)
  have hR1 : zRef (I1 1 0) (L1 1 0) σ := by rw [(hF 1 (Or.inl rfl)).1, (hF 1 (Or.inl rfl)).2.1]; exact hR
  have hS1 : S1 9 0 0 = (20, N) := by rw [(hF 9 (Or.inr rfl)).2.2]; exact hS
  refine g249_689 (d := d + 29) (c := c + 20) (s := s + 536) hS1 hN (by omega) ?_
  rw [(hF 9 (Or.inr rfl)).1]
  refine om_ev (r := 1) (j := 0) ?_
  refine rp_drift (d := d + 22) (c := 0) (s := 0) hG hR1 (fun ρ' l' hR' => ?_)
  refine g249_698 (c := c + 20) (s := s + 536) hS1 hN (fun _ => ?_) (fun h => absurd rfl h)
  exact k 20 536 _ _ _ _ _ _ (h.nx hC1 hF hG1 hR')
theorem law_undo (h : lInv f N B I L P S t σ) (hB : B < 2 ^ 29) (hi : i + 5 < N) (hN : N ≤ 3072) (k : lK d c s f N (B + 40) i Q) : Ev (d + 30) (c + 20) (s + 536) 249 703 [some (zr (some (9, 0, 0))), some (zr (some (0, 0, 0))), some (zr (some (1, 0, 0))), some (zi (nI i))] [] (I, L, zpj P, zsj S, 237 + t) Q := by
  obtain ⟨hC, hR, hG, hS, hI⟩ := id h
  refine g249_703 (d := d + 29) (c := c + 20) (s := s + 536) hS hN ?_
  refine cp_undo (d := d + 27) (c := 0) (s := 0) hG hC (fun I1 L1 P1 S1 t1 hC1 hG1 hF => ?_)
  have hR1 : zRef (I1 1 0) (L1 1 0) σ := by rw [(hF 1 (Or.inl rfl)).1, (hF 1 (Or.inl rfl)).2.1]; exact hR
  have hS1 : S1 9 0 0 = (20, N) := by rw [(hF 9 (Or.inr rfl)).2.2]; exact hS
  refine g249_707 (d := d + 29) (c := c + 20) (s := s + 536) hS1 hN ?_
  refine om_ev (r := 1) (j := 0) ?_
  refine rp_undo (d := d + 23) (c := 0) (s := 0) hG hR1 (fun ρ' l' hR' => ?_)
  refine g249_711 (c := c + 20) (s := s + 536) hS1 hN (fun _ => ?_) (fun h => absurd rfl h)
  exact k 20 536 _ _ _ _ _ _ (h.nx hC1 hF hG1 hR')
theorem law_seed (h : lInv f N B I L P S t σ) (hB : B < 2 ^ 29) (hi : i + 5 < N) (hN : N ≤ 3072) (k : lK d c s f N (B + 40) i Q) : Ev (d + 30) (c + 20) (s + 536) 249 716 [some (zr (some (9, 0, 0))), some (zr (some (0, 0, 0))), some (zr (some (1, 0, 0))), some (zi (nI i))] [] (I, L, zpj P, zsj S, 237 + t) Q := by
  obtain ⟨hC, hR, hG, hS, hI⟩ := id h
  refine g249_716 (d := d + 29) (c := c + 20) (s := s + 536) hS hN (by omega) ?_
  refine cp_seed (d := d + 28) (c := 0) (s := 0) hG hC (fun I1 L1 P1 S1 t1 hC1 hG1 hF => ?_)
  have hR1 : zRef (I1 1 0) (L1 1 0) σ := by rw [(hF 1 (Or.inl rfl)).1, (hF 1 (Or.inl rfl)).2.1]; exact hR
  have hS1 : S1 9 0 0 = (20, N) := by rw [(hF 9 (Or.inr rfl)).2.2]; exact hS
  refine g249_725 (d := d + 29) (c := c + 20) (s := s + 536) hS1 hN (by omega) ?_
  rw [(hF 9 (Or.inr rfl)).1]
  refine om_ev (r := 1) (j := 0) ?_
  refine rp_seed (d := d + 29) (c := 0) (s := 0) hG hR1 (fun ρ' l' hR' => ?_)
  refine g249_734 (c := c + 20) (s := s + 536) hS1 hN (fun _ => ?_) (fun h => absurd rfl h)
  exact k 20 536 _ _ _ _ _ _ (h.nx hC1 hF hG1 hR')
theorem law_image (h : lInv f N B I L P S t σ) (hB : B < 2 ^ 29) (hi : i + 5 < N) (hN : N ≤ 3072) (k : lK d c s f N (B + 40) i Q) : Ev (d + 30) (c + 20) (s + 536) 249 739 [some (zr (some (9, 0, 0))), some (zr (some (0, 0, 0))), some (zr (some (1, 0, 0))), some (zi (nI i))] [] (I, L, zpj P, zsj S, 237 + t) Q := by
  obtain ⟨hC, hR, hG, hS, hI⟩ := id h
  refine g249_739 (d := d + 29) (c := c + 20) (s := s + 536) hS hN ?_
  refine cp_image (d := d + 27) (c := 0) (s := 0) hG hC (fun I1 L1 P1 S1 t1 hC1 hG1 hF => ?_)
  have hR1 : zRef (I1 1 0) (L1 1 0) σ := by rw [(hF 1 (Or.inl rfl)).1, (hF 1 (Or.inl rfl)).2.1]; exact hR
  have hS1 : S1 9 0 0 = (20, N) := by rw [(hF 9 (Or.inr rfl)).2.2]; exact hS
  refine g249_743 (d := d + 29) (c := c + 20) (s := s + 536) hS1 hN ?_
  refine om_ev (r := 1) (j := 0) ?_
  refine rp_image (d := d + 29) (c := 0) (s := 0) hG hR1 (fun ρ' l' hR' => ?_)
  refine g249_747 (c := c + 20) (s := s + 536) hS1 hN (fun _ => ?_) (fun h => absurd rfl h)
  exact k 20 536 _ _ _ _ _ _ (h.nx hC1 hF hG1 hR')
theorem law_restore (h : lInv f N B I L P S t σ) (hB : B < 2 ^ 29) (hi : i + 5 < N) (hN : N ≤ 3072) (k : lK d c s f N (B + 40) i Q) : Ev (d + 30) (c + 20) (s + 536) 249 752 [some (zr (some (9, 0, 0))), some (zr (some (0, 0, 0))), some (zr (some (1, 0, 0))), some (zi (nI i))] [] (I, L, zpj P, zsj S, 237 + t) Q := by
  obtain ⟨hC, hR, hG, hS, hI⟩ := id h
  refine g249_752 (d := d + 29) (c := c + 20) (s := s + 536) hS hN ?_
  refine cp_restore (d := d + 27) (c := 0) (s := 0) hG hC (fun I1 L1 P1 S1 t1 hC1 hG1 hF => ?_)
  have hR1 : zRef (I1 1 0) (L1 1 0) σ := by rw [(hF 1 (Or.inl rfl)).1, (hF 1 (Or.inl rfl)).2.1]; exact hR
  have hS1 : S1 9 0 0 = (20, N) := by rw [(hF 9 (Or.inr rfl)).2.2]; exact hS
  refine g249_756 (d := d + 29) (c := c + 20) (s := s + 536) hS1 hN ?_
  refine om_ev (r := 1) (j := 0) ?_
  refine rp_restore (d := d + 23) (c := 0) (s := 0) hG hR1 (fun ρ' l' hR' => ?_)
  refine g249_760 (c := c + 20) (s := s + 536) hS1 hN (fun _ => ?_) (fun h => absurd rfl h)
  exact k 20 536 _ _ _ _ _ _ (h.nx hC1 hF hG1 hR')
theorem law_tried (h : lInv f N B I L P S t σ) (hB : B < 2 ^ 29) (hi : i + 5 < N) (hN : N ≤ 3072) (k : lK d c s f N (B + 40) i Q) : Ev (d + 30) (c + 20) (s + 536) 249 765 [some (zr (some (9, 0, 0))), some (zr (some (0, 0, 0))), some (zr (some (1, 0, 0))), some (zi (nI i))] [] (I, L, zpj P, zsj S, 237 + t) Q := by
  obtain ⟨hC, hR, hG, hS, hI⟩ := id h
  refine g249_765 (d := d + 29) (c := c + 20) (s := s + 536) hS hN (by omega) (by omega) (by omega) (by omega) ?_
  refine cp_tried (d := d + 23) (c := 0) (s := 0) hG hB hC (fun I1 L1 P1 S1 t1 hC1 hG1 hF => ?_)
  have hR1 : zRef (I1 1 0) (L1 1 0) σ := by rw [(hF 1 (Or.inl rfl)).1, (hF 1 (Or.inl rfl)).2.1]; exact hR
  have hS1 : S1 9 0 0 = (20, N) := by rw [(hF 9 (Or.inr rfl)).2.2]; exact hS
  refine g249_789 (d := d + 29) (c := c + 20) (s := s + 536) hS1 hN (by omega) (by omega) (by omega) (by omega) ?_
  rw [(hF 9 (Or.inr rfl)).1]
  refine om_ev (r := 1) (j := 0) ?_
  refine rp_tried (d := d + 22) (c := 0) (s := 0) hG hR1 (fun ρ' l' hR' => ?_)
  refine g249_813 (c := c + 20) (s := s + 536) hS1 hN (fun _ => ?_) (fun h => absurd rfl h)
  exact k 20 536 _ _ _ _ _ _ (h.nx hC1 hF hG1 hR')
theorem law_film (h : lInv f N B I L P S t σ) (hB : B < 2 ^ 29) (hi : i + 5 < N) (hN : N ≤ 3072) (k : lK d c s f N (B + 40) i Q) : Ev (d + 30) (c + 20) (s + 536) 249 818 [some (zr (some (9, 0, 0))), some (zr (some (0, 0, 0))), some (zr (some (1, 0, 0))), some (zi (nI i))] [] (I, L, zpj P, zsj S, 237 + t) Q := by
  obtain ⟨hC, hR, hG, hS, hI⟩ := id h
  refine g249_818 (d := d + 29) (c := c + 20) (s := s + 536) hS hN (by omega) (by omega) (by omega) ?_
  refine cp_film (d := d + 27) (c := 0) (s := 0) hG hC (fun I1 L1 P1 S1 t1 hC1 hG1 hF => ?_)
  have hR1 : zRef (I1 1 0) (L1 1 0) σ := by rw [(hF 1 (Or.inl rfl)).1, (hF 1 (Or.inl rfl)).2.1]; exact hR
  have hS1 : S1 9 0 0 = (20, N) := by rw [(hF 9 (Or.inr rfl)).2.2]; exact hS
  refine g249_837 (d := d + 29) (c := c + 20) (s := s + 536) hS1 hN (by omega) (by omega) (by omega) ?_
  rw [(hF 9 (Or.inr rfl)).1]
  refine om_ev (r := 1) (j := 0) ?_
  refine rp_film (d := d + 27) (c := 0) (s := 0) hG hR1 (fun ρ' l' hR' => ?_)
  refine g249_856 (c := c + 20) (s := s + 536) hS1 hN (fun _ => ?_) (fun h => absurd rfl h)
  exact k 20 536 _ _ _ _ _ _ (h.nx hC1 hF hG1 hR')
theorem law_sheet (h : lInv f N B I L P S t σ) (hB : B < 2 ^ 29) (hi : i + 5 < N) (hN : N ≤ 3072) (k : lK d c s f N (B + 40) i Q) : Ev (d + 30) (c + 20) (s + 536) 249 861 [some (zr (some (9, 0, 0))), some (zr (some (0, 0, 0))), some (zr (some (1, 0, 0))), some (zi (nI i))] [] (I, L, zpj P, zsj S, 237 + t) Q := by
  obtain ⟨hC, hR, hG, hS, hI⟩ := id h
  refine g249_861 (d := d + 29) (c := c + 20) (s := s + 536) hS hN (by omega) (by omega) (by omega) ?_
  refine cp_sheet (d := d + 26) (c := 0) (s := 0) hG hC (fun I1 L1 P1 S1 t1 hC1 hG1 hF => ?_)
  have hR1 : zRef (I1 1 0) (L1 1 0) σ := by rw [(hF 1 (Or.inl rfl)).1, (hF 1 (Or.inl rfl)).2.1]; exact hR
  have hS1 : S1 9 0 0 = (20, N) := by rw [(hF 9 (Or.inr rfl)).2.2]; exact hS
  refine g249_880 (d := d + 29) (c := c + 20) (s := s + 536) hS1 hN (by omega) (by omega) (by omega) ?_
  rw [(hF 9 (Or.inr rfl)).1]
  refine om_ev (r := 1) (j := 0) ?_
  refine rp_sheet (d := d + 27) (c := 0) (s := 0) hG hR1 (fun ρ' l' hR' => ?_)
  refine g249_899 (c := c + 20) (s := s + 536) hS1 hN (fun _ => ?_) (fun h => absurd rfl h)
  exact k 20 536 _ _ _ _ _ _ (h.nx hC1 hF hG1 hR')
theorem law_drop (h : lInv f N B I L P S t σ) (hB : B < 2 ^ 29) (hi : i + 5 < N) (hN : N ≤ 3072) (k : lK d c s f N (B + 40) i Q) : Ev (d + 30) (c + 20) (s + 536) 249 904 [some (zr (some (9, 0, 0))), some (zr (some (0, 0, 0))), some (zr (some (1, 0, 0))), some (zi (nI i))] [] (I, L, zpj P, zsj S, 237 + t) Q := by
  obtain ⟨hC, hR, hG, hS, hI⟩ := id h
  refine g249_904 (d := d + 29) (c := c + 20) (s := s + 536) hS hN (by omega) ?_
  refine cp_drop (d := d + 27) (c := 0) (s := 0) hG hC (fun I1 L1 P1 S1 t1 hC1 hG1 hF => ?_)
  have hR1 : zRef (I1 1 0) (L1 1 0) σ := by rw [(hF 1 (Or.inl rfl)).1, (hF 1 (Or.inl rfl)).2.1]; exact hR
  have hS1 : S1 9 0 0 = (20, N) := by rw [(hF 9 (Or.inr rfl)).2.2]; exact hS
  refine g249_913 (d := d + 29) (c := c + 20) (s := s + 536) hS1 hN (by omega) ?_
  rw [(hF 9 (Or.inr rfl)).1]
  refine om_ev (r := 1) (j := 0) ?_
  refine rp_drop (d := d + 27) (c := 0) (s := 0) hG hR1 (fun ρ' l' hR' => ?_)
  refine g249_922 (c := c + 20) (s := s + 536) hS1 hN (fun _ => ?_) (fun h => absurd rfl h)
  exact k 20 536 _ _ _ _ _ _ (h.nx hC1 hF hG1 hR')
theorem law_item (h : lInv f N B I L P S t σ) (hB : B < 2 ^ 29) (hi : i + 5 < N) (hN : N ≤ 3072) (k : lK d c s f N (B + 40) i Q) : Ev (d + 30) (c + 20) (s + 536) 249 927 [some (zr (some (9, 0, 0))), some (zr (some (0, 0, 0))), some (zr (some (1, 0, 0))), some (zi (nI i))] [] (I, L, zpj P, zsj S, 237 + t) Q := by
  obtain ⟨hC, hR, hG, hS, hI⟩ := id h
  refine g249_927 (d := d + 29) (c := c + 20) (s := s + 536) hS hN (by omega) (by omega) (by omega) (by omega) (by omega) ?_
  refine cp_item (d := d + 27) (c := 0) (s := 0) hG hC (fun I1 L1 P1 S1 t1 hC1 hG1 hF => ?_)
  have hR1 : zRef (I1 1 0) (L1 1 0) σ := by rw [(hF 1 (Or.inl rfl)).1, (hF 1 (Or.inl rfl)).2.1]; exact hR
  have hS1 : S1 9 0 0 = (20, N) := by rw [(hF 9 (Or.inr rfl)).2.2]; exact hS
  refine g249_966 (d := d + 29) (c := c + 20) (s := s + 536) hS1 hN (by omega) (by omega) (by omega) (by omega) (by omega) ?_
  rw [(hF 9 (Or.inr rfl)).1]
  refine om_ev (r := 1) (j := 0) ?_
  refine rp_item (d := d + 27) (c := 0) (s := 0) hG hR1 (fun ρ' l' hR' => ?_)
  refine g249_1005 (c := c + 20) (s := s + 536) hS1 hN (fun _ => ?_) (fun h => absurd rfl h)
  exact k 20 536 _ _ _ _ _ _ (h.nx hC1 hF hG1 hR')
theorem law_copy (h : lInv f N B I L P S t σ) (hB : B < 2 ^ 29) (hi : i + 5 < N) (hN : N ≤ 3072) (k : lK d c s f N (B + 40) i Q) : Ev (d + 30) (c + 20) (s + 536) 249 1010 [some (zr (some (9, 0, 0))), some (zr (some (0, 0, 0))), some (zr (some (1, 0, 0))), some (zi (nI i))] [] (I, L, zpj P, zsj S, 237 + t) Q := by
  obtain ⟨hC, hR, hG, hS, hI⟩ := id h
  refine g249_1010 (d := d + 29) (c := c + 20) (s := s + 536) hS hN (by omega) (by omega) (by omega) (by omega) (by omega) ?_
  refine cp_copy (d := d + 27) (c := 0) (s := 0) hG hC (fun I1 L1 P1 S1 t1 hC1 hG1 hF => ?_)
  have hR1 : zRef (I1 1 0) (L1 1 0) σ := by rw [(hF 1 (Or.inl rfl)).1, (hF 1 (Or.inl rfl)).2.1]; exact hR
  have hS1 : S1 9 0 0 = (20, N) := by rw [(hF 9 (Or.inr rfl)).2.2]; exact hS
  refine g249_1039 (d := d + 29) (c := c + 20) (s := s + 536) hS1 hN (by omega) (by omega) (by omega) (by omega) (by omega) ?_
  rw [(hF 9 (Or.inr rfl)).1]
  refine om_ev (r := 1) (j := 0) ?_
  refine rp_copy (d := d + 27) (c := 0) (s := 0) hG hR1 (fun ρ' l' hR' => ?_)
  refine g249_1068 (c := c + 20) (s := s + 536) hS1 hN (fun _ => ?_) (fun h => absurd rfl h)
  exact k 20 536 _ _ _ _ _ _ (h.nx hC1 hF hG1 hR')
end
