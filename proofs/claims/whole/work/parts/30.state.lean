/-! the state that both sides tell of -/
/-- a program's letters in a row -/
def tL (w : Nat → Int32) (t : Nat) : List Nat := (List.range (w (26 + 61 * t)).toNatClampNeg).map fun k => (w (26 + 61 * t + 1 + k)).toNatClampNeg
def tG (w : Nat → Int32) : Nat := (w 0).toNatClampNeg
def tTr (w : Nat → Int32) (t : Nat) : tT := pTrace (tL w t) (tG w)
/-- the rows of traces of a row -/
def tτ (w : Nat → Int32) : Nat → Nat → Int32 := zTau (tTr w)
/-- texts and gates of a row are told -/
def tTx (w : Nat → Int32) : Prop := (w 0 = nI (tG w) ∧ tG w < 64) ∧ ∀ t, t < 4 → (w (26 + 61 * t) = nI (tL w t).length ∧ ∀ k (h : k < (tL w t).length), w (26 + 61 * t + 1 + k) = nI ((tL w t)[k])) ∧ isBody (tL w t) ∧ ¬ pOver (tL w t) (tG w)
/-- no gate has two; states and steps go together -/
def tSt (w : Nat → Int32) : Prop := (∀ t, t < 4 → (w (10 + 4 * t) = 0 → w (10 + 4 * t + 1) = 0) ∧ (nI 3 ≤ w (10 + 4 * t) → rD (zw (tτ w) w) t = (tTr w t).n)) ∧ ∀ g t u, t < 4 → u < 4 → 0 < rIns (tτ w) t (rD (zw (tτ w) w) t) (nI g) → 0 < rIns (tτ w) u (rD (zw (tτ w) w) u) (nI g) → t = u
/-- numbers of a row keep to a bound -/
def tNm (B : Nat) (w : Nat → Int32) : Prop := (∃ r, r < 5 ∧ w 1 = nI r) ∧ (∃ b, b ≤ B ∧ w 2 = nI b) ∧ 0 ≤ w 3 ∧ ∀ t, t < 4 → w (10 + 4 * t + 2) = -4 ∨ ∃ b, b ≤ B ∧ w (10 + 4 * t + 2) = nI b
def tRow (B : Nat) (w : Nat → Int32) : Prop := zEnd w ∧ tTx w ∧ rRw (tτ w) w ∧ tSt w ∧ tNm B w
/-- row; rows kept; the image; the tape; the sheets (lane, size, items) -/
abbrev zSt : Type := (Nat → Int32) × List (Nat → Int32) × Option ((Nat → Int32) × List (Nat → Int32)) × List Nat × (Nat → Option (Nat × Nat × (Nat → Int64)))
def zSt.w (σ : zSt) : Nat → Int32 := σ.1
def zSt.H (σ : zSt) : List (Nat → Int32) := σ.2.1
def zSt.K (σ : zSt) : Option ((Nat → Int32) × List (Nat → Int32)) := σ.2.2.1
def zSt.T (σ : zSt) : List Nat := σ.2.2.2.1
def zSt.S (σ : zSt) : Nat → Option (Nat × Nat × (Nat → Int64)) := σ.2.2.2.2
def zGood (B : Nat) (σ : zSt) : Prop := tRow B σ.w ∧ (σ.H.length ≤ 6 ∧ ∀ h, h ∈ σ.H → tRow B h) ∧ (∀ k, σ.K = some k → tRow B k.1 ∧ k.2.length ≤ 6 ∧ ∀ h, h ∈ k.2 → tRow B h) ∧ (σ.T.length ≤ 60 ∧ ∀ x, x ∈ σ.T → 32 ≤ x ∧ x < 127) ∧ ∀ j x, j < 4 → σ.S j = some x → x.1 < 4 ∧ x.2.1 ≤ 24
/-- the reference tells the state -/
def rImg (ρ : Nat → Nat → Int32) (K : Option ((Nat → Int32) × List (Nat → Int32))) : Prop := match K with
  | none => ρ 0 5 = -1
  | some k => ρ 0 5 = nI k.2.length ∧ (∀ i, i < 270 → ρ 3 i = k.1 i) ∧ rPs (ρ 4) k.2
def rTape (ρ : Nat → Nat → Int32) (T : List Nat) : Prop := ρ 0 7 = nI T.length ∧ ∀ k (h : k < T.length), ρ 5 k = nI T[k]
def rShe (ρ : Nat → Nat → Int32) (l : Nat → Nat → Int64) (S : Nat → Option (Nat × Nat × (Nat → Int64))) : Prop := ∀ j, j < 4 → match S j with
  | none => ρ 6 j = -1
  | some x => ρ 6 j = nI x.1 ∧ ρ 7 j = nI x.2.1 ∧ ∀ i, i < x.2.1 → l 8 (24 * j + i) = x.2.2 i
def rTrs (ρ : Nat → Nat → Int32) (w : Nat → Int32) : Prop := ∀ t, t < 4 → zTrR ρ t (tTr w t)
def zRef (ρ : Nat → Nat → Int32) (l : Nat → Nat → Int64) (σ : zSt) : Prop := ρ 1 = σ.w ∧ rHs ρ σ.H ∧ rImg ρ σ.K ∧ rTape ρ σ.T ∧ rShe ρ l σ.S ∧ rTrs ρ σ.w
theorem pTrace_n (L : List Nat) (g : Nat) : (pTrace L g).n = (pRun (pF L) g).1.1.1 := rfl
