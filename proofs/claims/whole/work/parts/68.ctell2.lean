/-! the class: tables tell gates, tasks, all -/
def cGtv (τ : Nat → Nat → Int32) (w : Nat → Int32) (g : Nat) (y : Int32) : Int32 := if y = nI 0 then w (4 + g) + nI 1000000 else if y = nI 1 then rHold (zw τ w) (nI g) else if y = nI 2 then aDeep τ w (nI g) else if y = nI 3 then (if (w 0 >>> (nI g &&& 31)) &&& nI 1 = nI 1 then nI 1 else nI 0) else if y = nI 4 then rWtrL (zw τ w) (nI g) 4 else -1
def cTkv (τ : Nat → Nat → Int32) (w : Nat → Int32) (t : Nat) (y : Int32) : Int32 := if y = nI 0 then w (10 + 4 * t) else if y = nI 1 then w (10 + 4 * t + 1) else if y = nI 2 then rSet τ t (rD (zw τ w) t) else if y = nI 3 then rWait (zw τ w) t else if y = nI 4 then w (10 + 4 * t + 2) else if y = nI 5 then w (10 + 4 * t + 3) else if y = nI 6 then (if rRing (zw τ w) t = 0 then nI 0 else nI 1) else -1
def cAlv (τ : Nat → Nat → Int32) (w : Nat → Int32) (y : Int32) : Int32 := if y = nI 0 then w 1 else if y = nI 1 then rThoseL (zw zO w) (nI 1) 4 else if y = nI 2 then rThoseL (zw zO w) (nI 2) 4 else if y = nI 3 then rThoseL (zw zO w) (nI 3) 4 else if y = nI 4 then rThoseL (zw zO w) (nI 4) 4 else if y = nI 5 then rRgdL (zw τ w) 4 else if y = nI 6 then w 0 else if y = nI 7 then w 2 else -1
theorem cHas6 {r : Int32} (hr : ∃ v, v < 64 ∧ r = nI v) {t : Nat} (ht : t < 6) : ((r >>> (nI t &&& 31)) &&& nI 1 = nI 1) ↔ cHas r (nI t) := by
  obtain ⟨v, hv, rfl⟩ := hr
  exact (zhas6 ht hv).trans (cHas_bit (by omega) (by omega)).symm
section
variable {d c s j t g : Nat} {y : Int32} {τ : Nat → Nat → Int32} {w : Nat → Int32} {X : zM} {ρ : Nat → Nat → Int32} {l : Nat → Nat → Int64} {Q : Option zV → zM → Prop}
theorem sp_cTellG (hj : j < 15) (hg : g < 6) (h : cTI τ ρ w) (h0 : ∃ v, v < 64 ∧ w 0 = nI v) (k : Q (some (zi (cGtv τ w g y))) (OM X 2 j ρ l)) : Ev (d + 2) c s 64 0 [some (zr (some (2, j, 0))), some (zi (nI g)), some (zi y)] [] (OM X 2 j ρ l) Q := by
  have e := h.2.1 g hg
  have e0 := h.1.1
  have i := cHas6 h0 hg
  unfold cGtv at k
  rw [← e0] at k i
  rw [← e.1, ← e.2.1, ← e.2.2] at k
  apply g64_0 (τ := τ) (w := w) hj <;> intros <;> first
    | exact hg
    | exact h
    | ((repeat' split at k) <;> first | contradiction | exact k | (exact absurd (i.mp ‹_›) ‹_›) | (exact absurd (i.mpr ‹_›) ‹_›))
theorem sp_cTellT (hj : j < 15) (ht : t < 4) (h : cTI τ ρ w) (hu : cUq τ w) (hw : cWt τ w) (k : Q (some (zi (cTkv τ w t y))) (OM X 2 j ρ l)) : Ev (d + 3) c s 65 0 [some (zr (some (2, j, 0))), some (zi (nI t)), some (zi y)] [] (OM X 2 j ρ l) Q := by
  have e := h.2.2 t ht
  unfold cTkv at k
  rw [← e.1, ← e.2.1, ← e.2.2.1, ← e.2.2.2.1, ← e.2.2.2.2] at k
  apply g65_0 (τ := τ) (w := w) hj <;> intros <;> first
    | exact ht
    | exact h
    | exact hu
    | exact hw
    | ((repeat' split at k) <;> first | contradiction | exact k)
theorem sp_cTellA (hj : j < 15) (h : cTI τ ρ w) (hw : cWt τ w) (k : Q (some (zi (cAlv τ w y))) (OM X 2 j ρ l)) : Ev (d + 4) c s 66 0 [some (zr (some (2, j, 0))), some (zi y)] [] (OM X 2 j ρ l) Q := by
  obtain ⟨e0, e1, _, e2⟩ := h.1
  unfold cAlv at k
  rw [← e0, ← e1, ← e2] at k
  apply g66_0 (τ := τ) (w := w) hj <;> intros <;> first
    | exact h
    | exact hw
    | (subst ‹y = _›; (repeat' split at k) <;> first | contradiction | exact k)
    | ((repeat' split at k) <;> first | contradiction | exact k)
end
theorem aGate_c (σ : zSt) {g : Nat} (hg : g < 6) (y : Int32) : aGate σ (nI g) y = cGtv (tτ σ.w) σ.w g y := by
  unfold aGate
  rw [aIx_some hg (by decide)]
  rfl
theorem aTask_c (σ : zSt) {t : Nat} (ht : t < 4) (y : Int32) : aTask σ (nI t) y = cTkv (tτ σ.w) σ.w t y := by
  unfold aTask
  rw [aIx_some ht (by decide)]
  rfl
theorem aCount_c (σ : zSt) (y : Int32) : aCount σ y = if y = nI 8 then nI σ.H.length else cAlv (tτ σ.w) σ.w y := by
  unfold aCount cAlv
  by_cases h : y = nI 8
  · subst h
    rfl
  · rw [if_neg h, if_neg h]
