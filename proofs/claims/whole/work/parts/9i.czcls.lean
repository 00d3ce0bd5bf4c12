/-! the class tells the state -/
def cShe (I : zI) (L : zL) (S : Nat → Option (Nat × Nat × (Nat → Int64))) : Prop := ∀ j, j < 4 → match S j with
  | none => I 5 j 0 0 = -1
  | some x => I 5 j 0 0 = nI x.2.1 ∧ I 5 j 0 1 = nI x.1 ∧ ∀ i, i < x.2.1 → L 5 j 1 i = x.2.2 i
def cImg (I : zI) (P : zP) (S : zS) (b : Nat) (K : Option ((Nat → Int32) × List (Nat → Int32))) : Prop := match K with
  | none => I 0 0 0 8 = nI 0 ∧ cHs I P S b 1 9 []
  | some k => I 0 0 0 8 = nI 1 ∧ cTb I P S b 8 k.1 ∧ cHs I P S b 1 9 k.2
def zRst (I : zI) (L : zL) (P : zP) (S : zS) (t : Nat) (σ : zSt) : Prop := cHs I P S (t + 9) 0 2 σ.H ∧ cImg I P S (t + 9) σ.K ∧ cTp (I 0 0) σ.T ∧ cShe I L σ.S
def zCls (I : zI) (L : zL) (P : zP) (S : zS) (t : Nat) (σ : zSt) : Prop := cTb I P S (t + 9) 0 σ.w ∧ zRst I L P S t σ
def zFm (I : zI) (L : zL) (S : zS) (I' : zI) (L' : zL) (S' : zS) : Prop := ∀ r, r = 1 ∨ r = 9 → I' r = I r ∧ L' r = L r ∧ S' r = S r
/-- what comes behind a call -/
abbrev cK (I : zI) (L : zL) (S : zS) (B : Nat) (σ : zSt) (v : zV) (Q : Option zV → zM → Prop) : Prop := ∀ I' L' P' S' t', zCls I' L' P' S' t' σ → zGood (B + 40) σ → zFm I L S I' L' S' → Q (some v) (I', L', zpj P', zsj S', 237 + t')
theorem zFm.refl {I : zI} {L : zL} {S : zS} : zFm I L S I L S := fun _ _ => ⟨rfl, rfl, rfl⟩
theorem zFm.trans {I I' I'' : zI} {L L' L'' : zL} {S S' S'' : zS} (h : zFm I L S I' L' S') (h' : zFm I' L' S' I'' L'' S'') : zFm I L S I'' L'' S'' := fun r hr => ⟨(h' r hr).1.trans (h r hr).1, (h' r hr).2.1.trans (h r hr).2.1, (h' r hr).2.2.trans (h r hr).2.2⟩
section
variable {I I' : zI} {L L' : zL} {P P' : zP} {S S' : zS} {t t' B : Nat} {σ : zSt} {w' : Nat → Int32} {ρ' : Nat → Nat → Int32}
theorem cImg.fr {b b' : Nat} {K : Option ((Nat → Int32) × List (Nat → Int32))} (h : cImg I P S b K) (hb : b ≤ b') (h2 : ∀ j q i, 8 ≤ j → I' 2 j q i = I 2 j q i ∧ P' 2 j q i = P 2 j q i) (h4 : ∀ q i, I' 4 1 q i = I 4 1 q i ∧ P' 4 1 q i = P 4 1 q i) (h0 : I' 0 0 0 8 = I 0 0 0 8) (ho : cOld b I P S I' P' S') : cImg I' P' S' b' K := by
  cases K with
  | none => exact ⟨h0.trans h.1, h.2.fr hb h4 (fun j' a _ q i => h2 j' q i (by omega)) ho⟩
  | some k => exact ⟨h0.trans h.1, h.2.1.fr hb (fun q i => (h2 8 q i (by omega)).1) (fun q i => (h2 8 q i (by omega)).2) ho, h.2.2.fr hb h4 (fun j' a _ q i => h2 j' q i (by omega)) ho⟩
theorem zRst.fr (h : zRst I L P S t σ) (ht : t ≤ t') (h2 : ∀ j q i, 2 ≤ j → I' 2 j q i = I 2 j q i ∧ P' 2 j q i = P 2 j q i) (h4 : ∀ j q i, I' 4 j q i = I 4 j q i ∧ P' 4 j q i = P 4 j q i) (h5 : ∀ j q i, I' 5 j q i = I 5 j q i ∧ L' 5 j q i = L 5 j q i) (h0 : I' 0 0 0 8 = I 0 0 0 8 ∧ I' 0 0 1 1 = I 0 0 1 1 ∧ ∀ i, I' 0 0 2 i = I 0 0 2 i) (ho : cOld (t + 9) I P S I' P' S') : zRst I' L' P' S' t' σ := by
  obtain ⟨a, b, c, e⟩ := h
  refine ⟨a.fr (by omega) (h4 0) (fun j' g _ q i => h2 j' q i (by omega)) ho, b.fr (by omega) (fun j q i g => h2 j q i (by omega)) (h4 1) h0.1 ho, ⟨h0.2.1.trans c.1, fun k hk => (h0.2.2 k).trans (c.2 k hk)⟩, fun j hj => ?_⟩
  have := e j hj
  split
  · rename_i g; rw [g] at this; exact (h5 j 0 0).1.trans this
  · rename_i x g
    rw [g] at this
    exact ⟨(h5 j 0 0).1.trans this.1, (h5 j 0 1).1.trans this.2.1, fun i hi => (h5 j 1 i).2.trans (this.2.2 i hi)⟩
theorem so3 {α : Type} {f : Nat → Nat → Nat → Nat → α} {r j : Nat} {v : Nat → Nat → α} {r' j' q i : Nat} (h : ¬ (r' = r ∧ j' = j)) : so f r j v r' j' q i = f r' j' q i := by rw [so_n _ _ h]
theorem cOld_so {b r j : Nat} {v : Nat → Nat → Int32} (hr : ¬ r = 3) : cOld b I P S (so I r j v) P S := fun n _ => ⟨by rw [so_n _ _ (by omega)], rfl, rfl⟩
/-- the table's row changes, not its texts -/
theorem zCls.row (h : zCls I L P S t σ) (hx : ∀ i, (i = 0 ∨ 26 ≤ i) → w' i = σ.w i) (hT : cTI (tτ σ.w) ρ' w') : zCls (so I 2 0 ρ') L P S t (w', σ.2) := by
  obtain ⟨⟨_, hp⟩, hr⟩ := h
  refine ⟨⟨by show cTI (tτ w') (so I 2 0 ρ' 2 0) w'; rw [so_s, tτ_eq hx]; exact hT, fun u hu => ?_⟩, hr.fr (Nat.le_refl _) (fun j q i g => ⟨so3 (by omega), rfl⟩) (fun j q i => ⟨so3 (by omega), rfl⟩) (fun j q i => ⟨so3 (by omega), rfl⟩) ⟨so3 (by omega), so3 (by omega), fun i => so3 (by omega)⟩ (cOld_so (by decide))⟩
  obtain ⟨⟨m, p1, c1⟩, n, p2, c2⟩ := hp u hu
  have e1 : tL w' u = tL σ.w u := tL_eq (fun i g => hx i (Or.inr g)) u
  have e2 : tTr w' u = tTr σ.w u := tTr_eq hx u
  refine ⟨⟨m, p1, ?_⟩, n, p2, ?_⟩
  · show cSc _ _ _ _ _ (tL w' u)
    rw [e1]; exact c1.fr (Nat.le_refl _) (cOld_so (by decide))
  · show cTr _ _ _ _ _ (tTr w' u)
    rw [e2]; exact c2.fr (Nat.le_refl _) (cOld_so (by decide))
theorem zFm_so {r j : Nat} {v : Nat → Nat → Int32} (h1 : ¬ r = 1) (h9 : ¬ r = 9) : zFm I L S (so I r j v) L S := fun r' hr => ⟨by unfold so; rw [zup_n _ _ (by omega)], rfl, rfl⟩
theorem om_q {top r j : Nat} {v : Option zV} {Q : Option zV → zM → Prop} (h : Q v (I, L, zpj P, zsj S, top)) : Q v (OM (I, L, P, S, top) r j (I r j) (L r j)) := by
  have e : OM (I, L, P, S, top) r j (I r j) (L r j) = (I, L, zpj P, zsj S, top) := by
    show (so I r j (I r j), so L r j (L r j), zpj P, zsj S, top) = _
    rw [so_id, so_id]
  rw [e]
  exact h
theorem om_t {top r j : Nat} {v : Option zV} {Q : Option zV → zM → Prop} (h : Q v (so I r j ρ', L, zpj P, zsj S, top)) : Q v (OM (I, L, P, S, top) r j ρ' (L r j)) := by
  have e : OM (I, L, P, S, top) r j ρ' (L r j) = (so I r j ρ', L, zpj P, zsj S, top) := by
    show (so I r j ρ', so L r j (L r j), zpj P, zsj S, top) = _
    rw [so_id]
  rw [e]
  exact h
theorem zG_f (hG : zGood B σ) : tTx σ.w ∧ tI B (tτ σ.w) σ.w ∧ cUq (tτ σ.w) σ.w ∧ cOk (tτ σ.w) ∧ cSt σ.w ∧ cWt (tτ σ.w) σ.w := by
  have hx := hG.1.2.1
  have ti := hG.1.ti
  have ho : cOk (tτ σ.w) := cOk_of (T := tTr σ.w) (fun t ht => ⟨rTrs_τ hx t ht, tTr_ok hx ht⟩)
  exact ⟨hx, ti.1, ti.2, ho, fun t ht => (ti.1.1 t ht).2.2.2, cWt_of ho ti.1.1⟩
/-- the row is kept -/
theorem cp_keep {d c s : Nat} {Q : Option zV → zM → Prop} (hC : zCls I L P S t σ) (k : ∀ I' P', zCls I' L P' S t (σ.w, hNote σ.H σ.w, σ.2.2) → zFm I L S I' L S → Q none (I', L, zpj P', zsj S, 237 + t)) : Ev (d + 1) c s 2 0 [some (zr (some (4, 0, 0))), some (zr (some (2, 0, 0)))] [] (I, L, zpj P, zsj S, 237 + t) Q := by
  obtain ⟨hT, hH, hK, hTp, hS⟩ := hC
  refine sp_hKeep (by decide) ⟨by decide, by decide⟩ hH hT (fun I1 P1 hf h1 => k I1 P1 ⟨hT.fr (Nat.le_refl _) (fun q i => (hf 2 0 q i (by omega)).1) (fun q i => (hf 2 0 q i (by omega)).2) hf.old, h1, hK.fr (Nat.le_refl _) (fun j q i g => ?_) (fun q i => hf 4 1 q i (by omega)) (hf 0 0 0 8 (by omega)).1 hf.old, ⟨(hf 0 0 1 1 (by omega)).1.trans hTp.1, fun k hk => (hf 0 0 2 k (by omega)).1.trans (hTp.2 k hk)⟩, ?_⟩ (fun r hr => ⟨funext fun j => funext fun q => funext fun i => (hf r j q i (by omega)).1, rfl, rfl⟩))
  · exact hf 2 j q i (by omega)
  · intro j hj
    have := hS j hj
    split
    · rename_i g; rw [show σ.S j = none from g] at this; exact (hf 5 j 0 0 (by omega)).1.trans this
    · rename_i x g
      rw [show σ.S j = some x from g] at this
      exact ⟨(hf 5 j 0 0 (by omega)).1.trans this.1, (hf 5 j 0 1 (by omega)).1.trans this.2.1, this.2.2⟩
end
