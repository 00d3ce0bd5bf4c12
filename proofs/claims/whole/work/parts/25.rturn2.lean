/-! the reference: a turn -/
def rIdleW (t : Nat) (w : Nat → Int32) : Nat → Int32 := zup (zup (zup w (10 + 4 * t) (nI 0)) (10 + 4 * t + 1) (nI 0)) (10 + 4 * t + 2) (-4)
def rFallW (ρ : Nat → Nat → Int32) (t : Nat) (w : Nat → Int32) : Nat → Int32 := rIdleW t (zup (rComeW ρ t (-1) w (rD (zw ρ w) t)) (10 + 4 * t + 3) (rComeW ρ t (-1) w (rD (zw ρ w) t) (10 + 4 * t + 3) + nI 1))
theorem g200_0 {d c s : Nat} {t D : Nat} {w : Nat → Int32} {X : zM} {ρ : Nat → Nat → Int32} {l : Nat → Nat → Int64} {Q : Option zV → zM → Prop} (hD : w (10 + 4 * t + 1) = nI D)
    (b1 : 10 + 4 * t + 1 < 270)
    (b2 : t < 4)
    (b3 : D ≤ 30)
    (b4 : rGok ρ t D)
    (b5 : 10 + 4 * t + 3 < 270)
    (b6 : 10 + 4 * t + 3 < 270)
    (b7 : 10 + 4 * t < 270)
    (b8 : 10 + 4 * t + 1 < 270)
    (b9 : 10 + 4 * t + 2 < 270)
    (h1 : Q none (OM X 1 0 (zw ρ (zup (zup (zup (zup (rComeW ρ t ((-1)) w D) (10 + 4 * t + 3) (((rComeW ρ t ((-1)) w D) (10 + 4 * t + 3)) + (nI 1))) (10 + 4 * t) (nI 0)) (10 + 4 * t + 1) (nI 0)) (10 + 4 * t + 2) ((-4)))) l)) : Ev (d + 2) c s 200 0 [some (zr (some (1, 0, 0))), some (zi (nI t))] [] (OM X 1 0 (zw ρ w) l) Q := by
  refine Ew.ld f200_0 rfl rfl rfl rfl ?_
  refine Ew.ld f200_1 rfl rfl rfl rfl ?_
  refine Ew.ld f200_2 rfl rfl rfl rfl ?_
  refine Ew.ld f200_3 rfl rfl rfl rfl ?_
  refine Ew.op (st' := zi (nI 1) :: _) f200_4 rfl rfl ?_
  refine Ew.call0 (ls0 := [some (zr (some (1, 0, 0))), some (zi (nI t)), some (zi (nI 1))]) f200_5 rfl (Nat.le_of_ble_eq_true rfl) rfl rfl (Nat.le_of_ble_eq_true rfl) rfl (Nat.le_of_ble_eq_true rfl) rfl rfl ?_
  refine Ew.ld f156_0 rfl rfl rfl rfl ?_
  refine Ew.getp (v := some (1, 0, 1)) f156_1 rfl rfl rfl ?_
  refine Ew.op (st' := zi (nI 10) :: _) f156_4 rfl rfl ?_
  refine Ew.op (st' := zi (nI 4) :: _) f156_6 rfl rfl ?_
  refine Ew.ld f156_7 rfl rfl rfl rfl ?_
  refine Ew.muln f156_8 rfl ?_
  refine Ew.addn f156_9 rfl ?_
  refine Ew.ld f156_10 rfl rfl rfl rfl ?_
  refine Ew.addn f156_11 rfl ?_
  refine Ew.ialdnV (v := nI D) f156_12 rfl b1 (Nat.le_of_ble_eq_true rfl) rfl (so_v hD) ?_
  refine Ew.ireti f156_13 ?_
  show Ev (d + 2) c s 200 8 [some (zr (some (1, 0, 0))), some (zi (nI t))] [zi (nI D), zi (nI t), zr (some (1, 0, 0))] (OM X 1 0 (zw ρ w) l) Q
  refine Ew.op (st' := zi ((-1)) :: _) f200_8 rfl rfl ?_
  refine Ew.call0 (ls0 := [some (zr (some (1, 0, 0))), some (zi (nI t)), some (zi (nI D)), some (zi ((-1))), none]) f200_9 rfl (Nat.le_of_ble_eq_true rfl) rfl rfl (Nat.le_of_ble_eq_true rfl) rfl (Nat.le_of_ble_eq_true rfl) rfl rfl ?_
  refine sp_comes b2 b3 b4 ?_
  show Ev (d + 2) c s 200 12 [some (zr (some (1, 0, 0))), some (zi (nI t))] [] (OM X 1 0 (zw ρ (rComeW ρ t ((-1)) w D)) l) Q
  refine Ew.ld f200_12 rfl rfl rfl rfl ?_
  refine Ew.ld f200_13 rfl rfl rfl rfl ?_
  refine Ew.op (st' := zi (nI 3) :: _) f200_14 rfl rfl ?_
  refine Ew.ld f200_15 rfl rfl rfl rfl ?_
  refine Ew.ld f200_16 rfl rfl rfl rfl ?_
  refine Ew.op (st' := zi (nI 3) :: _) f200_17 rfl rfl ?_
  refine Ew.call0 (ls0 := [some (zr (some (1, 0, 0))), some (zi (nI t)), some (zi (nI 3))]) f200_18 rfl (Nat.le_of_ble_eq_true rfl) rfl rfl (Nat.le_of_ble_eq_true rfl) rfl (Nat.le_of_ble_eq_true rfl) rfl rfl ?_
  refine Ew.ld f156_0 rfl rfl rfl rfl ?_
  refine Ew.getp (v := some (1, 0, 1)) f156_1 rfl rfl rfl ?_
  refine Ew.op (st' := zi (nI 10) :: _) f156_4 rfl rfl ?_
  refine Ew.op (st' := zi (nI 4) :: _) f156_6 rfl rfl ?_
  refine Ew.ld f156_7 rfl rfl rfl rfl ?_
  refine Ew.muln f156_8 rfl ?_
  refine Ew.addn f156_9 rfl ?_
  refine Ew.ld f156_10 rfl rfl rfl rfl ?_
  refine Ew.addn f156_11 rfl ?_
  refine Ew.ialdnO f156_12 rfl b5 (Nat.le_of_ble_eq_true rfl) rfl ?_
  refine Ew.ireti f156_13 ?_
  show Ev (d + 2) c s 200 21 [some (zr (some (1, 0, 0))), some (zi (nI t))] [zi ((rComeW ρ t ((-1)) w D) (10 + 4 * t + 3)), zi (nI 3), zi (nI t), zr (some (1, 0, 0))] (OM X 1 0 (zw ρ (rComeW ρ t ((-1)) w D)) l) Q
  refine Ew.op (st' := zi (nI 1) :: _) f200_21 rfl rfl ?_
  refine Ew.op (st' := zi (((rComeW ρ t ((-1)) w D) (10 + 4 * t + 3)) + (nI 1)) :: _) f200_22 rfl rfl ?_
  refine Ew.call0 (ls0 := [some (zr (some (1, 0, 0))), some (zi (nI t)), some (zi (nI 3)), some (zi (((rComeW ρ t ((-1)) w D) (10 + 4 * t + 3)) + (nI 1)))]) f200_23 rfl (Nat.le_of_ble_eq_true rfl) rfl rfl (Nat.le_of_ble_eq_true rfl) rfl (Nat.le_of_ble_eq_true rfl) rfl rfl ?_
  refine Ew.ld f157_0 rfl rfl rfl rfl ?_
  refine Ew.getp (v := some (1, 0, 1)) f157_1 rfl rfl rfl ?_
  refine Ew.op (st' := zi (nI 10) :: _) f157_4 rfl rfl ?_
  refine Ew.op (st' := zi (nI 4) :: _) f157_6 rfl rfl ?_
  refine Ew.ld f157_7 rfl rfl rfl rfl ?_
  refine Ew.muln f157_8 rfl ?_
  refine Ew.addn f157_9 rfl ?_
  refine Ew.ld f157_10 rfl rfl rfl rfl ?_
  refine Ew.addn f157_11 rfl ?_
  refine Ew.ld f157_12 rfl rfl rfl rfl ?_
  refine Ew.iastnO f157_13 (by decide) rfl b6 (Nat.le_of_ble_eq_true rfl) rfl ?_
  rw [zw_up]
  refine Ew.vret f157_14 ?_
  show Ev (d + 2) c s 200 26 [some (zr (some (1, 0, 0))), some (zi (nI t))] [] (OM X 1 0 (zw ρ (zup (rComeW ρ t ((-1)) w D) (10 + 4 * t + 3) (((rComeW ρ t ((-1)) w D) (10 + 4 * t + 3)) + (nI 1)))) l) Q
  refine Ew.ld f200_26 rfl rfl rfl rfl ?_
  refine Ew.ld f200_27 rfl rfl rfl rfl ?_
  refine Ew.call0 (ls0 := [some (zr (some (1, 0, 0))), some (zi (nI t))]) f200_28 rfl (Nat.le_of_ble_eq_true rfl) rfl rfl (Nat.le_of_ble_eq_true rfl) rfl (Nat.le_of_ble_eq_true rfl) rfl rfl ?_
  refine Ew.ld f178_0 rfl rfl rfl rfl ?_
  refine Ew.ld f178_1 rfl rfl rfl rfl ?_
  refine Ew.op (st' := zi (nI 0) :: _) f178_2 rfl rfl ?_
  refine Ew.op (st' := zi (nI 0) :: _) f178_3 rfl rfl ?_
  refine Ew.call0 (ls0 := [some (zr (some (1, 0, 0))), some (zi (nI t)), some (zi (nI 0)), some (zi (nI 0))]) f178_4 rfl (Nat.le_of_ble_eq_true rfl) rfl rfl (Nat.le_of_ble_eq_true rfl) rfl (Nat.le_of_ble_eq_true rfl) rfl rfl ?_
  refine Ew.ld f157_0 rfl rfl rfl rfl ?_
  refine Ew.getp (v := some (1, 0, 1)) f157_1 rfl rfl rfl ?_
  refine Ew.op (st' := zi (nI 10) :: _) f157_4 rfl rfl ?_
  refine Ew.op (st' := zi (nI 4) :: _) f157_6 rfl rfl ?_
  refine Ew.ld f157_7 rfl rfl rfl rfl ?_
  refine Ew.muln f157_8 rfl ?_
  refine Ew.addn f157_9 rfl ?_
  refine Ew.ld f157_10 rfl rfl rfl rfl ?_
  refine Ew.addn f157_11 rfl ?_
  refine Ew.ld f157_12 rfl rfl rfl rfl ?_
  refine Ew.iastnO f157_13 (by decide) rfl b7 (Nat.le_of_ble_eq_true rfl) rfl ?_
  rw [zw_up]
  refine Ew.vret f157_14 ?_
  show Ev (d + 1) 0 0 178 7 [some (zr (some (1, 0, 0))), some (zi (nI t))] [] (OM X 1 0 (zw ρ (zup (zup (rComeW ρ t ((-1)) w D) (10 + 4 * t + 3) (((rComeW ρ t ((-1)) w D) (10 + 4 * t + 3)) + (nI 1))) (10 + 4 * t) (nI 0))) l) (fun r M' => Ev (d + 2) c s 200 31 [some (zr (some (1, 0, 0))), some (zi (nI t))] (zpush r []) M' Q)
  refine Ew.ld f178_7 rfl rfl rfl rfl ?_
  refine Ew.ld f178_8 rfl rfl rfl rfl ?_
  refine Ew.op (st' := zi (nI 1) :: _) f178_9 rfl rfl ?_
  refine Ew.op (st' := zi (nI 0) :: _) f178_10 rfl rfl ?_
  refine Ew.call0 (ls0 := [some (zr (some (1, 0, 0))), some (zi (nI t)), some (zi (nI 1)), some (zi (nI 0))]) f178_11 rfl (Nat.le_of_ble_eq_true rfl) rfl rfl (Nat.le_of_ble_eq_true rfl) rfl (Nat.le_of_ble_eq_true rfl) rfl rfl ?_
  refine Ew.ld f157_0 rfl rfl rfl rfl ?_
  refine Ew.getp (v := some (1, 0, 1)) f157_1 rfl rfl rfl ?_
  refine Ew.op (st' := zi (nI 10) :: _) f157_4 rfl rfl ?_
  refine Ew.op (st' := zi (nI 4) :: _) f157_6 rfl rfl ?_
  refine Ew.ld f157_7 rfl rfl rfl rfl ?_
  refine Ew.muln f157_8 rfl ?_
  refine Ew.addn f157_9 rfl ?_
  refine Ew.ld f157_10 rfl rfl rfl rfl ?_
  refine Ew.addn f157_11 rfl ?_
  refine Ew.ld f157_12 rfl rfl rfl rfl ?_
  refine Ew.iastnO f157_13 (by decide) rfl b8 (Nat.le_of_ble_eq_true rfl) rfl ?_
  rw [zw_up]
  refine Ew.vret f157_14 ?_
  show Ev (d + 1) 0 0 178 14 [some (zr (some (1, 0, 0))), some (zi (nI t))] [] (OM X 1 0 (zw ρ (zup (zup (zup (rComeW ρ t ((-1)) w D) (10 + 4 * t + 3) (((rComeW ρ t ((-1)) w D) (10 + 4 * t + 3)) + (nI 1))) (10 + 4 * t) (nI 0)) (10 + 4 * t + 1) (nI 0))) l) (fun r M' => Ev (d + 2) c s 200 31 [some (zr (some (1, 0, 0))), some (zi (nI t))] (zpush r []) M' Q)
  refine Ew.ld f178_14 rfl rfl rfl rfl ?_
  refine Ew.ld f178_15 rfl rfl rfl rfl ?_
  refine Ew.op (st' := zi (nI 2) :: _) f178_16 rfl rfl ?_
  refine Ew.op (st' := zi ((-4)) :: _) f178_17 rfl rfl ?_
  refine Ew.call0 (ls0 := [some (zr (some (1, 0, 0))), some (zi (nI t)), some (zi (nI 2)), some (zi ((-4)))]) f178_19 rfl (Nat.le_of_ble_eq_true rfl) rfl rfl (Nat.le_of_ble_eq_true rfl) rfl (Nat.le_of_ble_eq_true rfl) rfl rfl ?_
  refine Ew.ld f157_0 rfl rfl rfl rfl ?_
  refine Ew.getp (v := some (1, 0, 1)) f157_1 rfl rfl rfl ?_
  refine Ew.op (st' := zi (nI 10) :: _) f157_4 rfl rfl ?_
  refine Ew.op (st' := zi (nI 4) :: _) f157_6 rfl rfl ?_
  refine Ew.ld f157_7 rfl rfl rfl rfl ?_
  refine Ew.muln f157_8 rfl ?_
  refine Ew.addn f157_9 rfl ?_
  refine Ew.ld f157_10 rfl rfl rfl rfl ?_
  refine Ew.addn f157_11 rfl ?_
  refine Ew.ld f157_12 rfl rfl rfl rfl ?_
  refine Ew.iastnO f157_13 (by decide) rfl b9 (Nat.le_of_ble_eq_true rfl) rfl ?_
  rw [zw_up]
  refine Ew.vret f157_14 ?_
  show Ev (d + 1) 0 0 178 22 [some (zr (some (1, 0, 0))), some (zi (nI t))] [] (OM X 1 0 (zw ρ (zup (zup (zup (zup (rComeW ρ t ((-1)) w D) (10 + 4 * t + 3) (((rComeW ρ t ((-1)) w D) (10 + 4 * t + 3)) + (nI 1))) (10 + 4 * t) (nI 0)) (10 + 4 * t + 1) (nI 0)) (10 + 4 * t + 2) ((-4)))) l) (fun r M' => Ev (d + 2) c s 200 31 [some (zr (some (1, 0, 0))), some (zi (nI t))] (zpush r []) M' Q)
  refine Ew.vret f178_22 ?_
  show Ev (d + 2) c s 200 31 [some (zr (some (1, 0, 0))), some (zi (nI t))] [] (OM X 1 0 (zw ρ (zup (zup (zup (zup (rComeW ρ t ((-1)) w D) (10 + 4 * t + 3) (((rComeW ρ t ((-1)) w D) (10 + 4 * t + 3)) + (nI 1))) (10 + 4 * t) (nI 0)) (10 + 4 * t + 1) (nI 0)) (10 + 4 * t + 2) ((-4)))) l) Q
  refine Ew.vret f200_31 ?_
  exact h1
/-- gates of steps that are done are gates -/
def rGall (ρ : Nat → Nat → Int32) (w : Nat → Int32) : Prop := ∀ t, t < 4 → rGok ρ t (rD (zw ρ w) t)
theorem sp_falls {d c s t : Nat} {w : Nat → Int32} {X : zM} {ρ : Nat → Nat → Int32} {l : Nat → Nat → Int64} {Q : Option zV → zM → Prop} (ht : t < 4) (h : rDok (zw ρ w)) (hg : rGall ρ w) (k : Q none (OM X 1 0 (zw ρ (rFallW ρ t w)) l)) : Ev (d + 2) c s 200 0 [some (zr (some (1, 0, 0))), some (zi (nI t))] [] (OM X 1 0 (zw ρ w) l) Q := by
  have hd := h t ht
  apply g200_0 (D := rD (zw ρ w) t) hd.1 <;> first
    | omega
    | exact hd.2
    | exact hg t ht
    | exact k
/-- bits of sets of tasks -/
theorem zor4 {v k : Nat} (hk : k < 4) (hv : v < 16) : nI v ||| (nI 1 <<< (nI k &&& 31)) = nI (v ||| 2 ^ k) ∧ v ||| 2 ^ k < 16 := by
  have h : ∀ k, k < 4 → ∀ v, v < 16 → nI v ||| (nI 1 <<< (nI k &&& 31)) = nI (v ||| 2 ^ k) ∧ v ||| 2 ^ k < 16 := by decide
  exact h k hk v hv
theorem zhas4 {v k : Nat} (hk : k < 4) (hv : v < 16) : ((nI v >>> (nI k &&& 31)) &&& nI 1 = nI 1) ↔ v.testBit k = true := by
  have h : ∀ k, k < 4 → ∀ v, v < 16 → (((nI v >>> (nI k &&& 31)) &&& nI 1 = nI 1) ↔ v.testBit k = true) := by decide
  exact h k hk v hv
theorem rRingL_bits (ρ : Nat → Nat → Int32) (t : Nat) (a : Nat) : ∀ (n v : Nat) (x : Int32), v < 16 → v.testBit a = true → (x = -4 ∨ ∃ u, u < 4 ∧ x = nI u) → rRingL ρ t n (nI v) x = 0 ∨ ∃ r, r < 16 ∧ r.testBit a = true ∧ rRingL ρ t n (nI v) x = nI r := by
  intro n
  induction n with
  | zero => intro v x _ _ _; exact Or.inl rfl
  | succ n ih =>
    intro v x hv ha hx
    rcases hx with rfl | ⟨u, hu, rfl⟩
    · exact Or.inl rfl
    · have e1 : (nI u).toNatClampNeg = u := nI_clamp (by omega)
      have e0 : ¬ nI u < 0 := nI_pos (by omega)
      obtain ⟨z1, z2⟩ := zor4 hu hv
      have hb : (v ||| 2 ^ u).testBit a = true := by rw [Nat.testBit_or, ha, Bool.true_or]
      simp only [rRingL, e1, if_neg e0, z1]
      split
      · exact Or.inr ⟨_, z2, hb, rfl⟩
      · exact ih _ _ z2 hb (rNext_cases ρ u)
theorem rRing_bits (ρ : Nat → Nat → Int32) {t : Nat} (ht : t < 4) : rRing ρ t = 0 ∨ ∃ r, r < 16 ∧ r.testBit t = true ∧ rRing ρ t = nI r := by
  unfold rRing rRingL
  have e1 : (nI t).toNatClampNeg = t := nI_clamp (by omega)
  have e0 : ¬ nI t < 0 := nI_pos (by omega)
  obtain ⟨z1, z2⟩ := zor4 (v := 0) ht (by decide)
  have hb : (0 ||| 2 ^ t).testBit t = true := by rw [Nat.testBit_or, Nat.testBit_two_pow_self, Bool.or_true]
  rw [if_neg e0, e1, z1]
  split
  · exact Or.inr ⟨_, z2, hb, rfl⟩
  · exact rRingL_bits ρ t t 3 _ _ z2 hb (rNext_cases ρ t)
theorem rVicL_some (ρ : Nat → Nat → Int32) {r a : Nat} (hr : r < 16) (hb : r.testBit a = true) : ∀ n, n ≤ 4 → a < n → ∃ v, v < n ∧ rVicL ρ (nI r) n = nI v := by
  intro n
  induction n with
  | zero => intro _ h; omega
  | succ n ih =>
    intro hn ha
    unfold rVicL
    by_cases hc : ((nI r >>> (nI n &&& 31)) &&& nI 1 = nI 1)
    · rw [if_pos hc]
      split
      · exact ⟨n, by omega, rfl⟩
      · split
        · exact ⟨n, by omega, rfl⟩
        · rename_i h1 h2
          rcases rVicL_cases ρ (nI r) n with e | ⟨f, hf, e⟩
          · exact absurd (by rw [e]; decide) h1
          · exact ⟨f, by omega, e⟩
    · rw [if_neg hc]
      have hne : ¬ a = n := fun e => hc ((zhas4 (by omega) hr).mpr (by rw [← e]; exact hb))
      obtain ⟨v, hv, e⟩ := ih (by omega) (by omega)
      exact ⟨v, by omega, e⟩
theorem rVic_some (ρ : Nat → Nat → Int32) {t : Nat} (ht : t < 4) (h : ¬ rRing ρ t = 0) : ∃ v, v < 4 ∧ rVic ρ (rRing ρ t) = nI v := by
  rcases rRing_bits ρ ht with e | ⟨r, hr, hb, e⟩
  · exact absurd e h
  · rw [e]
    exact rVicL_some ρ hr hb 4 (Nat.le_refl 4) ht
/-- the row while one waits -/
def rWw (t : Nat) (w : Nat → Int32) : Nat → Int32 := zup w (10 + 4 * t) (nI 2)
def rWaitsR (ρ : Nat → Nat → Int32) (t : Nat) (w : Nat → Int32) : Int32 := if rRing (zw ρ (rWw t w)) t = 0 then nI 1 else if w 1 = 0 then nI 4 else nI 10 + rVic (zw ρ (rWw t w)) (rRing (zw ρ (rWw t w)) t)
def rWaitsW (ρ : Nat → Nat → Int32) (t : Nat) (w : Nat → Int32) : Nat → Int32 := if rRing (zw ρ (rWw t w)) t = 0 then rWw t w else if w 1 = 0 then rWw t w else rFallW ρ (rVic (zw ρ (rWw t w)) (rRing (zw ρ (rWw t w)) t)).toNatClampNeg (rWw t w)
theorem g203_0 {d c s : Nat} {t : Nat} {w : Nat → Int32} {X : zM} {ρ : Nat → Nat → Int32} {l : Nat → Nat → Int64} {Q : Option zV → zM → Prop}
    (b1 : 10 + 4 * t < 270)
    (b2 : t < 4)
    (b3 : rDok (zw ρ (zup w (10 + 4 * t) (nI 2))))
    (b4 : rWok (zw ρ (zup w (10 + 4 * t) (nI 2))))
    (h1 : ((rRing (zw ρ (zup w (10 + 4 * t) (nI 2))) t) = 0) → (¬ (rRing (zw ρ (zup w (10 + 4 * t) (nI 2))) t) = 0) → Q (some (zi (nI 4))) (OM X 1 0 (zw ρ (zup w (10 + 4 * t) (nI 2))) l))
    (h2 : ((rRing (zw ρ (zup w (10 + 4 * t) (nI 2))) t) = 0) → ((rRing (zw ρ (zup w (10 + 4 * t) (nI 2))) t) = 0) → Q (some (zi (nI 1))) (OM X 1 0 (zw ρ (zup w (10 + 4 * t) (nI 2))) l))
    (b5 : (¬ (rRing (zw ρ (zup w (10 + 4 * t) (nI 2))) t) = 0) → (¬ ((zup w (10 + 4 * t) (nI 2)) 1) = 0) → rDok (zw ρ (zup w (10 + 4 * t) (nI 2))))
    (h3 : (¬ (rRing (zw ρ (zup w (10 + 4 * t) (nI 2))) t) = 0) → (¬ ((zup w (10 + 4 * t) (nI 2)) 1) = 0) → Ev (d + 5) c s 203 42 [some (zr (some (1, 0, 0))), some (zi (nI t)), some (zi (rRing (zw ρ (zup w (10 + 4 * t) (nI 2))) t)), some (zi (rVic (zw ρ (zup w (10 + 4 * t) (nI 2))) (rRing (zw ρ (zup w (10 + 4 * t) (nI 2))) t)))] [] (OM X 1 0 (zw ρ (zup w (10 + 4 * t) (nI 2))) l) Q)
    (h4 : (¬ (rRing (zw ρ (zup w (10 + 4 * t) (nI 2))) t) = 0) → (((zup w (10 + 4 * t) (nI 2)) 1) = 0) → (¬ (rRing (zw ρ (zup w (10 + 4 * t) (nI 2))) t) = 0) → Q (some (zi (nI 4))) (OM X 1 0 (zw ρ (zup w (10 + 4 * t) (nI 2))) l))
    (h5 : (¬ (rRing (zw ρ (zup w (10 + 4 * t) (nI 2))) t) = 0) → (((zup w (10 + 4 * t) (nI 2)) 1) = 0) → ((rRing (zw ρ (zup w (10 + 4 * t) (nI 2))) t) = 0) → Q (some (zi (nI 1))) (OM X 1 0 (zw ρ (zup w (10 + 4 * t) (nI 2))) l)) : Ev (d + 5) c s 203 0 [some (zr (some (1, 0, 0))), some (zi (nI t)), none, none] [] (OM X 1 0 (zw ρ w) l) Q := by
  refine Ew.ld f203_0 rfl rfl rfl rfl ?_
  refine Ew.ld f203_1 rfl rfl rfl rfl ?_
  refine Ew.op (st' := zi (nI 0) :: _) f203_2 rfl rfl ?_
  refine Ew.op (st' := zi (nI 2) :: _) f203_3 rfl rfl ?_
  refine Ew.call0 (ls0 := [some (zr (some (1, 0, 0))), some (zi (nI t)), some (zi (nI 0)), some (zi (nI 2))]) f203_4 rfl (Nat.le_of_ble_eq_true rfl) rfl rfl (Nat.le_of_ble_eq_true rfl) rfl (Nat.le_of_ble_eq_true rfl) rfl rfl ?_
  refine Ew.ld f157_0 rfl rfl rfl rfl ?_
  refine Ew.getp (v := some (1, 0, 1)) f157_1 rfl rfl rfl ?_
  refine Ew.op (st' := zi (nI 10) :: _) f157_4 rfl rfl ?_
  refine Ew.op (st' := zi (nI 4) :: _) f157_6 rfl rfl ?_
  refine Ew.ld f157_7 rfl rfl rfl rfl ?_
  refine Ew.muln f157_8 rfl ?_
  refine Ew.addn f157_9 rfl ?_
  refine Ew.ld f157_10 rfl rfl rfl rfl ?_
  refine Ew.addn f157_11 rfl ?_
  refine Ew.ld f157_12 rfl rfl rfl rfl ?_
  refine Ew.iastnO f157_13 (by decide) rfl b1 (Nat.le_of_ble_eq_true rfl) rfl ?_
  rw [zw_up]
  refine Ew.vret f157_14 ?_
  show Ev (d + 5) c s 203 7 [some (zr (some (1, 0, 0))), some (zi (nI t)), none, none] [] (OM X 1 0 (zw ρ (zup w (10 + 4 * t) (nI 2))) l) Q
  refine Ew.ld f203_7 rfl rfl rfl rfl ?_
  refine Ew.ld f203_8 rfl rfl rfl rfl ?_
  refine Ew.call0 (ls0 := [some (zr (some (1, 0, 0))), some (zi (nI t)), none, none, none]) f203_9 rfl (Nat.le_of_ble_eq_true rfl) rfl rfl (Nat.le_of_ble_eq_true rfl) rfl (Nat.le_of_ble_eq_true rfl) rfl rfl ?_
  refine sp_ring b2 b3 b4 ?_
  show Ev (d + 5) c s 203 12 [some (zr (some (1, 0, 0))), some (zi (nI t)), none, none] [zi (rRing (zw ρ (zup w (10 + 4 * t) (nI 2))) t)] (OM X 1 0 (zw ρ (zup w (10 + 4 * t) (nI 2))) l) Q
  refine Ew.sr (ls' := [some (zr (some (1, 0, 0))), some (zi (nI t)), some (zi (rRing (zw ρ (zup w (10 + 4 * t) (nI 2))) t)), none]) f203_12 rfl rfl (Nat.le_of_ble_eq_true rfl) rfl rfl ?_
  refine Ew.ld f203_13 rfl rfl rfl rfl ?_
  refine Ew.ifc f203_14 rfl rfl (fun c1 => ?_) (fun c1 => ?_)
  · refine Ew.ld f203_26 rfl rfl rfl rfl ?_
    refine Ew.ifc f203_27 rfl rfl (fun c2 => ?_) (fun c2 => ?_)
    · refine Ew.op (st' := zi (nI 4) :: _) f203_34 rfl rfl ?_
      refine Ew.ireti f203_35 ?_
      exact h1 c1 c2
    · refine Ew.op (st' := zi (nI 1) :: _) f203_30 rfl rfl ?_
      refine Ew.goto f203_31 rfl ?_
      refine Ew.ireti f203_35 ?_
      exact h2 c1 (Classical.not_not.mp c2)
  · refine Ew.ld f203_17 rfl rfl rfl rfl ?_
    refine Ew.getp (v := some (1, 0, 1)) f203_18 rfl rfl rfl ?_
    refine Ew.op (st' := zi (nI 1) :: _) f203_21 rfl rfl ?_
    refine Ew.ialdnO f203_22 rfl (show 1 < 270 by decide) (Nat.le_of_ble_eq_true rfl) rfl ?_
    refine Ew.ifc f203_23 rfl rfl (fun c3 => ?_) (fun c3 => ?_)
    · refine Ew.ld f203_36 rfl rfl rfl rfl ?_
      refine Ew.ld f203_37 rfl rfl rfl rfl ?_
      refine Ew.call0 (ls0 := [some (zr (some (1, 0, 0))), some (zi (rRing (zw ρ (zup w (10 + 4 * t) (nI 2))) t)), none, none]) f203_38 rfl (Nat.le_of_ble_eq_true rfl) rfl rfl (Nat.le_of_ble_eq_true rfl) rfl (Nat.le_of_ble_eq_true rfl) rfl rfl ?_
      refine sp_victim (b5 c1 c3) ?_
      show Ev (d + 5) c s 203 41 [some (zr (some (1, 0, 0))), some (zi (nI t)), some (zi (rRing (zw ρ (zup w (10 + 4 * t) (nI 2))) t)), none] [zi (rVic (zw ρ (zup w (10 + 4 * t) (nI 2))) (rRing (zw ρ (zup w (10 + 4 * t) (nI 2))) t))] (OM X 1 0 (zw ρ (zup w (10 + 4 * t) (nI 2))) l) Q
      refine Ew.sr (ls' := [some (zr (some (1, 0, 0))), some (zi (nI t)), some (zi (rRing (zw ρ (zup w (10 + 4 * t) (nI 2))) t)), some (zi (rVic (zw ρ (zup w (10 + 4 * t) (nI 2))) (rRing (zw ρ (zup w (10 + 4 * t) (nI 2))) t)))]) f203_41 rfl rfl (Nat.le_of_ble_eq_true rfl) rfl rfl ?_
      exact h3 c1 c3
    · refine Ew.ld f203_26 rfl rfl rfl rfl ?_
      refine Ew.ifc f203_27 rfl rfl (fun c4 => ?_) (fun c4 => ?_)
      · refine Ew.op (st' := zi (nI 4) :: _) f203_34 rfl rfl ?_
        refine Ew.ireti f203_35 ?_
        exact h4 c1 (Classical.not_not.mp c3) c4
      · refine Ew.op (st' := zi (nI 1) :: _) f203_30 rfl rfl ?_
        refine Ew.goto f203_31 rfl ?_
        refine Ew.ireti f203_35 ?_
        exact h5 c1 (Classical.not_not.mp c3) (Classical.not_not.mp c4)
theorem g203_42 {d c s : Nat} {t v : Nat} {r : Int32} {w : Nat → Int32} {X : zM} {ρ : Nat → Nat → Int32} {l : Nat → Nat → Int64} {Q : Option zV → zM → Prop}
    (b1 : v < 4)
    (b2 : rDok (zw ρ w))
    (b3 : rGall ρ w)
    (h1 : Q (some (zi (nI (10 + v)))) (OM X 1 0 (zw ρ (rFallW ρ v w)) l)) : Ev (d + 3) c s 203 42 [some (zr (some (1, 0, 0))), some (zi (nI t)), some (zi r), some (zi (nI v))] [] (OM X 1 0 (zw ρ w) l) Q := by
  refine Ew.ld f203_42 rfl rfl rfl rfl ?_
  refine Ew.ld f203_43 rfl rfl rfl rfl ?_
  refine Ew.call0 (ls0 := [some (zr (some (1, 0, 0))), some (zi (nI v))]) f203_44 rfl (Nat.le_of_ble_eq_true rfl) rfl rfl (Nat.le_of_ble_eq_true rfl) rfl (Nat.le_of_ble_eq_true rfl) rfl rfl ?_
  refine sp_falls b1 b2 b3 ?_
  show Ev (d + 3) c s 203 47 [some (zr (some (1, 0, 0))), some (zi (nI t)), some (zi r), some (zi (nI v))] [] (OM X 1 0 (zw ρ (rFallW ρ v w)) l) Q
  refine Ew.op (st' := zi (nI 10) :: _) f203_47 rfl rfl ?_
  refine Ew.ld f203_49 rfl rfl rfl rfl ?_
  refine Ew.addn f203_50 rfl ?_
  refine Ew.ireti f203_51 ?_
  exact h1
theorem sp_waits {d c s t : Nat} {w : Nat → Int32} {X : zM} {ρ : Nat → Nat → Int32} {l : Nat → Nat → Int64} {Q : Option zV → zM → Prop} (ht : t < 4) (h : rDok (zw ρ (rWw t w))) (hw : rWok (zw ρ (rWw t w))) (hg : rGall ρ (rWw t w)) (k : Q (some (zi (rWaitsR ρ t w))) (OM X 1 0 (zw ρ (rWaitsW ρ t w)) l)) : Ev (d + 5) c s 203 0 [some (zr (some (1, 0, 0))), some (zi (nI t)), none, none] [] (OM X 1 0 (zw ρ w) l) Q := by
  have e1 : rWw t w 1 = w 1 := by
    unfold rWw
    rw [zup_n]
    omega
  unfold rWaitsR rWaitsW at k
  refine g203_0 (by omega) ht h hw (fun h1 h2 => absurd h1 h2) (fun h1 _ => ?_) (fun _ _ => h) (fun h1 h2 => ?_) (fun h1 h2 _ => ?_) (fun h1 _ h2 => absurd h2 h1)
  · have h1' : rRing (zw ρ (rWw t w)) t = 0 := h1
    rw [if_pos h1', if_pos h1'] at k
    exact k
  · have h1' : ¬ rRing (zw ρ (rWw t w)) t = 0 := h1
    have h2' : ¬ w 1 = 0 := by rw [← e1]; exact h2
    rw [if_neg h1', if_neg h1', if_neg h2', if_neg h2'] at k
    obtain ⟨v, hv, ev⟩ := rVic_some (zw ρ (rWw t w)) ht h1'
    show Ev (d + 5) c s 203 42 [some (zr (some (1, 0, 0))), some (zi (nI t)), some (zi (rRing (zw ρ (rWw t w)) t)), some (zi (rVic (zw ρ (rWw t w)) (rRing (zw ρ (rWw t w)) t)))] [] (OM X 1 0 (zw ρ (rWw t w)) l) Q
    rw [ev] at k ⊢
    rw [nI_clamp (by omega), nI_add] at k
    exact g203_42 hv h hg k
  · have h1' : ¬ rRing (zw ρ (rWw t w)) t = 0 := h1
    have h2' : w 1 = 0 := by rw [← e1]; exact h2
    rw [if_neg h1', if_neg h1', if_pos h2', if_pos h2'] at k
    exact k
/-- a turn: it begins -/
def rBegW (t : Nat) (w : Nat → Int32) : Nat → Int32 := if w (10 + 4 * t) = 0 then zup (zup w (10 + 4 * t + 2) (w 2)) 2 (w 2 + nI 1) else w
def rM (ρ : Nat → Nat → Int32) (t : Nat) : Nat := (ρ 13 t).toNatClampNeg
/-- a turn: who holds what its next step enters -/
def rHldr (ρ : Nat → Nat → Int32) (t : Nat) (w : Nat → Int32) (D : Nat) : Int32 := if ρ 10 (30 * t + D) = 0 then rHold (zw ρ w) (ρ 11 (30 * t + D)) else -4
/-- a turn: the step is done -/
def rStepW (ρ : Nat → Nat → Int32) (t : Nat) (w : Nat → Int32) (D : Nat) : Nat → Int32 := zup (zup (zup w (10 + 4 * t) (nI 1)) (10 + 4 * t + 1) (nI (D + 1))) (4 + rG ρ t D) ((zup (zup w (10 + 4 * t) (nI 1)) (10 + 4 * t + 1) (nI (D + 1))) (4 + rG ρ t D) + ρ 12 (30 * t + D))
def rEndR (ρ : Nat → Nat → Int32) (t : Nat) : Int32 := if ρ 14 t = 0 then nI 2 else nI 3
def rEndW (ρ : Nat → Nat → Int32) (t : Nat) (w : Nat → Int32) : Nat → Int32 := zup w (10 + 4 * t) (if ρ 14 t = 0 then nI 3 else nI 4)
def rTurnR (ρ : Nat → Nat → Int32) (t : Nat) (w0 : Nat → Int32) : Int32 := if rD (zw ρ (rBegW t w0)) t < rM ρ t then (if 0 ≤ rHldr ρ t (rBegW t w0) (rD (zw ρ (rBegW t w0)) t) ∧ ¬ rHldr ρ t (rBegW t w0) (rD (zw ρ (rBegW t w0)) t) = nI t then rWaitsR ρ t (rBegW t w0) else if rD (zw ρ (rBegW t w0)) t + 1 < rM ρ t then nI 0 else rEndR ρ t) else rEndR ρ t
def rTurnW (ρ : Nat → Nat → Int32) (t : Nat) (w0 : Nat → Int32) : Nat → Int32 := if rD (zw ρ (rBegW t w0)) t < rM ρ t then (if 0 ≤ rHldr ρ t (rBegW t w0) (rD (zw ρ (rBegW t w0)) t) ∧ ¬ rHldr ρ t (rBegW t w0) (rD (zw ρ (rBegW t w0)) t) = nI t then rWaitsW ρ t (rBegW t w0) else if rD (zw ρ (rBegW t w0)) t + 1 < rM ρ t then rStepW ρ t (rBegW t w0) (rD (zw ρ (rBegW t w0)) t) else rEndW ρ t (rStepW ρ t (rBegW t w0) (rD (zw ρ (rBegW t w0)) t))) else rEndW ρ t (rBegW t w0)
theorem g202_0 {d c s : Nat} {t : Nat} {w : Nat → Int32} {X : zM} {ρ : Nat → Nat → Int32} {l : Nat → Nat → Int64} {Q : Option zV → zM → Prop}
    (b1 : 10 + 4 * t < 270)
    (h1 : (¬ (w (10 + 4 * t)) = 0) → Ev (d + 1) c s 202 31 [some (zr (some (1, 0, 0))), some (zi (nI t)), none, none] [] (OM X 1 0 (zw ρ w) l) Q)
    (b2 : ((w (10 + 4 * t)) = 0) → 10 + 4 * t + 2 < 270)
    (h2 : ((w (10 + 4 * t)) = 0) → Ev (d + 1) c s 202 31 [some (zr (some (1, 0, 0))), some (zi (nI t)), none, none] [] (OM X 1 0 (zw ρ (zup (zup w (10 + 4 * t + 2) (w 2)) 2 (((zup w (10 + 4 * t + 2) (w 2)) 2) + (nI 1)))) l) Q) : Ev (d + 1) c s 202 0 [some (zr (some (1, 0, 0))), some (zi (nI t)), none, none] [] (OM X 1 0 (zw ρ w) l) Q := by
  refine Ew.ld f202_0 rfl rfl rfl rfl ?_
  refine Ew.ld f202_1 rfl rfl rfl rfl ?_
  refine Ew.op (st' := zi (nI 0) :: _) f202_2 rfl rfl ?_
  refine Ew.call0 (ls0 := [some (zr (some (1, 0, 0))), some (zi (nI t)), some (zi (nI 0))]) f202_3 rfl (Nat.le_of_ble_eq_true rfl) rfl rfl (Nat.le_of_ble_eq_true rfl) rfl (Nat.le_of_ble_eq_true rfl) rfl rfl ?_
  refine Ew.ld f156_0 rfl rfl rfl rfl ?_
  refine Ew.getp (v := some (1, 0, 1)) f156_1 rfl rfl rfl ?_
  refine Ew.op (st' := zi (nI 10) :: _) f156_4 rfl rfl ?_
  refine Ew.op (st' := zi (nI 4) :: _) f156_6 rfl rfl ?_
  refine Ew.ld f156_7 rfl rfl rfl rfl ?_
  refine Ew.muln f156_8 rfl ?_
  refine Ew.addn f156_9 rfl ?_
  refine Ew.ld f156_10 rfl rfl rfl rfl ?_
  refine Ew.addn f156_11 rfl ?_
  refine Ew.ialdnO f156_12 rfl b1 (Nat.le_of_ble_eq_true rfl) rfl ?_
  refine Ew.ireti f156_13 ?_
  show Ev (d + 1) c s 202 6 [some (zr (some (1, 0, 0))), some (zi (nI t)), none, none] [zi (w (10 + 4 * t))] (OM X 1 0 (zw ρ w) l) Q
  refine Ew.ifc f202_6 rfl rfl (fun c1 => ?_) (fun c1 => ?_)
  · exact h1 c1
  · refine Ew.ld f202_9 rfl rfl rfl rfl ?_
    refine Ew.ld f202_10 rfl rfl rfl rfl ?_
    refine Ew.op (st' := zi (nI 2) :: _) f202_11 rfl rfl ?_
    refine Ew.ld f202_12 rfl rfl rfl rfl ?_
    refine Ew.getp (v := some (1, 0, 1)) f202_13 rfl rfl rfl ?_
    refine Ew.op (st' := zi (nI 2) :: _) f202_16 rfl rfl ?_
    refine Ew.ialdnO f202_17 rfl (show 2 < 270 by decide) (Nat.le_of_ble_eq_true rfl) rfl ?_
    refine Ew.call0 (ls0 := [some (zr (some (1, 0, 0))), some (zi (nI t)), some (zi (nI 2)), some (zi (w 2))]) f202_18 rfl (Nat.le_of_ble_eq_true rfl) rfl rfl (Nat.le_of_ble_eq_true rfl) rfl (Nat.le_of_ble_eq_true rfl) rfl rfl ?_
    refine Ew.ld f157_0 rfl rfl rfl rfl ?_
    refine Ew.getp (v := some (1, 0, 1)) f157_1 rfl rfl rfl ?_
    refine Ew.op (st' := zi (nI 10) :: _) f157_4 rfl rfl ?_
    refine Ew.op (st' := zi (nI 4) :: _) f157_6 rfl rfl ?_
    refine Ew.ld f157_7 rfl rfl rfl rfl ?_
    refine Ew.muln f157_8 rfl ?_
    refine Ew.addn f157_9 rfl ?_
    refine Ew.ld f157_10 rfl rfl rfl rfl ?_
    refine Ew.addn f157_11 rfl ?_
    refine Ew.ld f157_12 rfl rfl rfl rfl ?_
    refine Ew.iastnO f157_13 (by decide) rfl (b2 (Classical.not_not.mp c1)) (Nat.le_of_ble_eq_true rfl) rfl ?_
    rw [zw_up]
    refine Ew.vret f157_14 ?_
    show Ev (d + 1) c s 202 21 [some (zr (some (1, 0, 0))), some (zi (nI t)), none, none] [] (OM X 1 0 (zw ρ (zup w (10 + 4 * t + 2) (w 2))) l) Q
    refine Ew.ld f202_21 rfl rfl rfl rfl ?_
    refine Ew.getp (v := some (1, 0, 1)) f202_22 rfl rfl rfl ?_
    refine Ew.op (st' := zi (nI 2) :: _) f202_25 rfl rfl ?_
    refine Ew.op (st' := zi (nI 2) :: zr (some (1, 0, 1)) :: zi (nI 2) :: zr (some (1, 0, 1)) :: _) f202_26 rfl rfl ?_
    refine Ew.ialdnO f202_27 rfl (show 2 < 270 by decide) (Nat.le_of_ble_eq_true rfl) rfl ?_
    refine Ew.op (st' := zi (nI 1) :: _) f202_28 rfl rfl ?_
    refine Ew.op (st' := zi (((zup w (10 + 4 * t + 2) (w 2)) 2) + (nI 1)) :: _) f202_29 rfl rfl ?_
    refine Ew.iastnO f202_30 (by decide) rfl (show 2 < 270 by decide) (Nat.le_of_ble_eq_true rfl) rfl ?_
    rw [zw_up]
    exact h2 (Classical.not_not.mp c1)
theorem g202_31 {d c s : Nat} {t D m : Nat} {w : Nat → Int32} {X : zM} {ρ : Nat → Nat → Int32} {l : Nat → Nat → Int64} {Q : Option zV → zM → Prop} (hD : w (10 + 4 * t + 1) = nI D) (hm : ρ 13 t = nI m) (nb_D : D < 5000) (nb_m : m < 5000)
    (b1 : 10 + 4 * t + 1 < 270)
    (b2 : t < 4)
    (h1 : (m ≤ D) → Ev (d + 3) c s 202 131 [some (zr (some (1, 0, 0))), some (zi (nI t)), some (zi (nI D)), none] [] (OM X 1 0 (zw ρ w) l) Q)
    (b3 : (D < m) → 30 * t + D < 120)
    (h2 : (D < m) → (¬ (ρ 10 (30 * t + D)) = 0) → Ev (d + 3) c s 202 73 [some (zr (some (1, 0, 0))), some (zi (nI t)), some (zi (nI D)), some (zi ((-4)))] [] (OM X 1 0 (zw ρ w) l) Q)
    (b4 : (D < m) → ((ρ 10 (30 * t + D)) = 0) → 30 * t + D < 120)
    (b5 : (D < m) → ((ρ 10 (30 * t + D)) = 0) → rDok (zw ρ w))
    (h3 : (D < m) → ((ρ 10 (30 * t + D)) = 0) → Ev (d + 3) c s 202 73 [some (zr (some (1, 0, 0))), some (zi (nI t)), some (zi (nI D)), some (zi (rHold (zw ρ w) (ρ 11 (30 * t + D))))] [] (OM X 1 0 (zw ρ w) l) Q) : Ev (d + 3) c s 202 31 [some (zr (some (1, 0, 0))), some (zi (nI t)), none, none] [] (OM X 1 0 (zw ρ w) l) Q := by
  refine Ew.ld f202_31 rfl rfl rfl rfl ?_
  refine Ew.ld f202_32 rfl rfl rfl rfl ?_
  refine Ew.op (st' := zi (nI 1) :: _) f202_33 rfl rfl ?_
  refine Ew.call0 (ls0 := [some (zr (some (1, 0, 0))), some (zi (nI t)), some (zi (nI 1))]) f202_34 rfl (Nat.le_of_ble_eq_true rfl) rfl rfl (Nat.le_of_ble_eq_true rfl) rfl (Nat.le_of_ble_eq_true rfl) rfl rfl ?_
  refine Ew.ld f156_0 rfl rfl rfl rfl ?_
  refine Ew.getp (v := some (1, 0, 1)) f156_1 rfl rfl rfl ?_
  refine Ew.op (st' := zi (nI 10) :: _) f156_4 rfl rfl ?_
  refine Ew.op (st' := zi (nI 4) :: _) f156_6 rfl rfl ?_
  refine Ew.ld f156_7 rfl rfl rfl rfl ?_
  refine Ew.muln f156_8 rfl ?_
  refine Ew.addn f156_9 rfl ?_
  refine Ew.ld f156_10 rfl rfl rfl rfl ?_
  refine Ew.addn f156_11 rfl ?_
  refine Ew.ialdnV (v := nI D) f156_12 rfl b1 (Nat.le_of_ble_eq_true rfl) rfl (so_v hD) ?_
  refine Ew.ireti f156_13 ?_
  show Ev (d + 3) c s 202 37 [some (zr (some (1, 0, 0))), some (zi (nI t)), none, none] [zi (nI D)] (OM X 1 0 (zw ρ w) l) Q
  refine Ew.sr (ls' := [some (zr (some (1, 0, 0))), some (zi (nI t)), some (zi (nI D)), none]) f202_37 rfl rfl (Nat.le_of_ble_eq_true rfl) rfl rfl ?_
  refine Ew.ld f202_38 rfl rfl rfl rfl ?_
  refine Ew.ld f202_39 rfl rfl rfl rfl ?_
  refine Ew.getp (v := some (1, 0, 13)) f202_40 rfl rfl rfl ?_
  refine Ew.ld f202_43 rfl rfl rfl rfl ?_
  refine Ew.ialdnV (v := nI m) f202_44 rfl b2 (Nat.le_of_ble_eq_true rfl) rfl (so_v hm) ?_
  refine Ew.icmp f202_45 rfl rfl (fun c1 => ?_) (fun c1 => ?_)
  · exact h1 ((zle_iff nb_m nb_D).mp c1)
  · refine Ew.ld f202_48 rfl rfl rfl rfl ?_
    refine Ew.ld f202_49 rfl rfl rfl rfl ?_
    refine Ew.ld f202_50 rfl rfl rfl rfl ?_
    refine Ew.call0 (ls0 := [some (zr (some (1, 0, 0))), some (zi (nI t)), some (zi (nI D))]) f202_51 rfl (Nat.le_of_ble_eq_true rfl) rfl rfl (Nat.le_of_ble_eq_true rfl) rfl (Nat.le_of_ble_eq_true rfl) rfl rfl ?_
    refine Ew.ld f170_0 rfl rfl rfl rfl ?_
    refine Ew.getp (v := some (1, 0, 10)) f170_1 rfl rfl rfl ?_
    refine Ew.op (st' := zi (nI 30) :: _) f170_4 rfl rfl ?_
    refine Ew.ld f170_6 rfl rfl rfl rfl ?_
    refine Ew.muln f170_7 rfl ?_
    refine Ew.ld f170_8 rfl rfl rfl rfl ?_
    refine Ew.addn f170_9 rfl ?_
    refine Ew.ialdnO f170_10 rfl (b3 (Nat.not_le.mp fun e => c1 ((zle_iff nb_m nb_D).mpr e))) (Nat.le_of_ble_eq_true rfl) rfl ?_
    refine Ew.ireti f170_11 ?_
    show Ev (d + 3) c s 202 54 [some (zr (some (1, 0, 0))), some (zi (nI t)), some (zi (nI D)), none] [zi (ρ 10 (30 * t + D))] (OM X 1 0 (zw ρ w) l) Q
    refine Ew.ifc f202_54 rfl rfl (fun c2 => ?_) (fun c2 => ?_)
    · refine Ew.op (st' := zi ((-4)) :: _) f202_70 rfl rfl ?_
      refine Ew.sr (ls' := [some (zr (some (1, 0, 0))), some (zi (nI t)), some (zi (nI D)), some (zi ((-4)))]) f202_72 rfl rfl (Nat.le_of_ble_eq_true rfl) rfl rfl ?_
      exact h2 (Nat.not_le.mp fun e => c1 ((zle_iff nb_m nb_D).mpr e)) c2
    · refine Ew.ld f202_57 rfl rfl rfl rfl ?_
      refine Ew.ld f202_58 rfl rfl rfl rfl ?_
      refine Ew.ld f202_59 rfl rfl rfl rfl ?_
      refine Ew.ld f202_60 rfl rfl rfl rfl ?_
      refine Ew.call0 (ls0 := [some (zr (some (1, 0, 0))), some (zi (nI t)), some (zi (nI D))]) f202_61 rfl (Nat.le_of_ble_eq_true rfl) rfl rfl (Nat.le_of_ble_eq_true rfl) rfl (Nat.le_of_ble_eq_true rfl) rfl rfl ?_
      refine Ew.ld f171_0 rfl rfl rfl rfl ?_
      refine Ew.getp (v := some (1, 0, 11)) f171_1 rfl rfl rfl ?_
      refine Ew.op (st' := zi (nI 30) :: _) f171_4 rfl rfl ?_
      refine Ew.ld f171_6 rfl rfl rfl rfl ?_
      refine Ew.muln f171_7 rfl ?_
      refine Ew.ld f171_8 rfl rfl rfl rfl ?_
      refine Ew.addn f171_9 rfl ?_
      refine Ew.ialdnO f171_10 rfl (b4 (Nat.not_le.mp fun e => c1 ((zle_iff nb_m nb_D).mpr e)) (Classical.not_not.mp c2)) (Nat.le_of_ble_eq_true rfl) rfl ?_
      refine Ew.ireti f171_11 ?_
      show Ev (d + 3) c s 202 64 [some (zr (some (1, 0, 0))), some (zi (nI t)), some (zi (nI D)), none] [zi (ρ 11 (30 * t + D)), zr (some (1, 0, 0))] (OM X 1 0 (zw ρ w) l) Q
      refine Ew.call0 (ls0 := [some (zr (some (1, 0, 0))), some (zi (ρ 11 (30 * t + D))), none, none]) f202_64 rfl (Nat.le_of_ble_eq_true rfl) rfl rfl (Nat.le_of_ble_eq_true rfl) rfl (Nat.le_of_ble_eq_true rfl) rfl rfl ?_
      refine sp_holder (b5 (Nat.not_le.mp fun e => c1 ((zle_iff nb_m nb_D).mpr e)) (Classical.not_not.mp c2)) ?_
      show Ev (d + 3) c s 202 67 [some (zr (some (1, 0, 0))), some (zi (nI t)), some (zi (nI D)), none] [zi (rHold (zw ρ w) (ρ 11 (30 * t + D)))] (OM X 1 0 (zw ρ w) l) Q
      refine Ew.goto f202_67 rfl ?_
      refine Ew.sr (ls' := [some (zr (some (1, 0, 0))), some (zi (nI t)), some (zi (nI D)), some (zi (rHold (zw ρ w) (ρ 11 (30 * t + D))))]) f202_72 rfl rfl (Nat.le_of_ble_eq_true rfl) rfl rfl ?_
      exact h3 (Nat.not_le.mp fun e => c1 ((zle_iff nb_m nb_D).mpr e)) (Classical.not_not.mp c2)
theorem g202_73 {d c s : Nat} {t D G : Nat} {h : Int32} {w : Nat → Int32} {X : zM} {ρ : Nat → Nat → Int32} {l : Nat → Nat → Int64} {Q : Option zV → zM → Prop} (hG : ρ 11 (30 * t + D) = nI G)
    (b1 : (h < 0) → 10 + 4 * t < 270)
    (b2 : (h < 0) → 10 + 4 * t + 1 < 270)
    (b3 : (h < 0) → 30 * t + D < 120)
    (b4 : (h < 0) → 4 + G < 270)
    (b5 : (h < 0) → 30 * t + D < 120)
    (b6 : (h < 0) → 4 + G < 270)
    (h1 : (h < 0) → Ev (d + 6) c s 202 131 [some (zr (some (1, 0, 0))), some (zi (nI t)), some (zi (nI D)), some (zi h)] [] (OM X 1 0 (zw ρ (zup (zup (zup w (10 + 4 * t) (nI 1)) (10 + 4 * t + 1) (nI (D + 1))) (4 + G) (((zup (zup w (10 + 4 * t) (nI 1)) (10 + 4 * t + 1) (nI (D + 1))) (4 + G)) + (ρ 12 (30 * t + D))))) l) Q)
    (b7 : (0 ≤ h) → (h = (nI t)) → 10 + 4 * t < 270)
    (b8 : (0 ≤ h) → (h = (nI t)) → 10 + 4 * t + 1 < 270)
    (b9 : (0 ≤ h) → (h = (nI t)) → 30 * t + D < 120)
    (b10 : (0 ≤ h) → (h = (nI t)) → 4 + G < 270)
    (b11 : (0 ≤ h) → (h = (nI t)) → 30 * t + D < 120)
    (b12 : (0 ≤ h) → (h = (nI t)) → 4 + G < 270)
    (h2 : (0 ≤ h) → (h = (nI t)) → Ev (d + 6) c s 202 131 [some (zr (some (1, 0, 0))), some (zi (nI t)), some (zi (nI D)), some (zi h)] [] (OM X 1 0 (zw ρ (zup (zup (zup w (10 + 4 * t) (nI 1)) (10 + 4 * t + 1) (nI (D + 1))) (4 + G) (((zup (zup w (10 + 4 * t) (nI 1)) (10 + 4 * t + 1) (nI (D + 1))) (4 + G)) + (ρ 12 (30 * t + D))))) l) Q)
    (b13 : (0 ≤ h) → (¬ h = (nI t)) → t < 4)
    (b14 : (0 ≤ h) → (¬ h = (nI t)) → rDok (zw ρ (rWw t w)))
    (b15 : (0 ≤ h) → (¬ h = (nI t)) → rWok (zw ρ (rWw t w)))
    (b16 : (0 ≤ h) → (¬ h = (nI t)) → rGall ρ (rWw t w))
    (h3 : (0 ≤ h) → (¬ h = (nI t)) → Q (some (zi (rWaitsR ρ t w))) (OM X 1 0 (zw ρ (rWaitsW ρ t w)) l)) : Ev (d + 6) c s 202 73 [some (zr (some (1, 0, 0))), some (zi (nI t)), some (zi (nI D)), some (zi h)] [] (OM X 1 0 (zw ρ w) l) Q := by
  refine Ew.ld f202_73 rfl rfl rfl rfl ?_
  refine Ew.ifc f202_74 rfl rfl (fun c1 => ?_) (fun c1 => ?_)
  · refine Ew.ld f202_88 rfl rfl rfl rfl ?_
    refine Ew.ld f202_89 rfl rfl rfl rfl ?_
    refine Ew.op (st' := zi (nI 0) :: _) f202_90 rfl rfl ?_
    refine Ew.op (st' := zi (nI 1) :: _) f202_91 rfl rfl ?_
    refine Ew.call0 (ls0 := [some (zr (some (1, 0, 0))), some (zi (nI t)), some (zi (nI 0)), some (zi (nI 1))]) f202_92 rfl (Nat.le_of_ble_eq_true rfl) rfl rfl (Nat.le_of_ble_eq_true rfl) rfl (Nat.le_of_ble_eq_true rfl) rfl rfl ?_
    refine Ew.ld f157_0 rfl rfl rfl rfl ?_
    refine Ew.getp (v := some (1, 0, 1)) f157_1 rfl rfl rfl ?_
    refine Ew.op (st' := zi (nI 10) :: _) f157_4 rfl rfl ?_
    refine Ew.op (st' := zi (nI 4) :: _) f157_6 rfl rfl ?_
    refine Ew.ld f157_7 rfl rfl rfl rfl ?_
    refine Ew.muln f157_8 rfl ?_
    refine Ew.addn f157_9 rfl ?_
    refine Ew.ld f157_10 rfl rfl rfl rfl ?_
    refine Ew.addn f157_11 rfl ?_
    refine Ew.ld f157_12 rfl rfl rfl rfl ?_
    refine Ew.iastnO f157_13 (by decide) rfl (b1 c1) (Nat.le_of_ble_eq_true rfl) rfl ?_
    rw [zw_up]
    refine Ew.vret f157_14 ?_
    show Ev (d + 6) c s 202 95 [some (zr (some (1, 0, 0))), some (zi (nI t)), some (zi (nI D)), some (zi h)] [] (OM X 1 0 (zw ρ (zup w (10 + 4 * t) (nI 1))) l) Q
    refine Ew.ld f202_95 rfl rfl rfl rfl ?_
    refine Ew.ld f202_96 rfl rfl rfl rfl ?_
    refine Ew.op (st' := zi (nI 1) :: _) f202_97 rfl rfl ?_
    refine Ew.ld f202_98 rfl rfl rfl rfl ?_
    refine Ew.op (st' := zi (nI 1) :: _) f202_99 rfl rfl ?_
    refine Ew.addn f202_100 rfl ?_
    refine Ew.call0 (ls0 := [some (zr (some (1, 0, 0))), some (zi (nI t)), some (zi (nI 1)), some (zi (nI (D + 1)))]) f202_101 rfl (Nat.le_of_ble_eq_true rfl) rfl rfl (Nat.le_of_ble_eq_true rfl) rfl (Nat.le_of_ble_eq_true rfl) rfl rfl ?_
    refine Ew.ld f157_0 rfl rfl rfl rfl ?_
    refine Ew.getp (v := some (1, 0, 1)) f157_1 rfl rfl rfl ?_
    refine Ew.op (st' := zi (nI 10) :: _) f157_4 rfl rfl ?_
    refine Ew.op (st' := zi (nI 4) :: _) f157_6 rfl rfl ?_
    refine Ew.ld f157_7 rfl rfl rfl rfl ?_
    refine Ew.muln f157_8 rfl ?_
    refine Ew.addn f157_9 rfl ?_
    refine Ew.ld f157_10 rfl rfl rfl rfl ?_
    refine Ew.addn f157_11 rfl ?_
    refine Ew.ld f157_12 rfl rfl rfl rfl ?_
    refine Ew.iastnO f157_13 (by decide) rfl (b2 c1) (Nat.le_of_ble_eq_true rfl) rfl ?_
    rw [zw_up]
    refine Ew.vret f157_14 ?_
    show Ev (d + 6) c s 202 104 [some (zr (some (1, 0, 0))), some (zi (nI t)), some (zi (nI D)), some (zi h)] [] (OM X 1 0 (zw ρ (zup (zup w (10 + 4 * t) (nI 1)) (10 + 4 * t + 1) (nI (D + 1)))) l) Q
    refine Ew.ld f202_104 rfl rfl rfl rfl ?_
    refine Ew.getp (v := some (1, 0, 1)) f202_105 rfl rfl rfl ?_
    refine Ew.op (st' := zi (nI 4) :: _) f202_108 rfl rfl ?_
    refine Ew.ld f202_109 rfl rfl rfl rfl ?_
    refine Ew.ld f202_110 rfl rfl rfl rfl ?_
    refine Ew.ld f202_111 rfl rfl rfl rfl ?_
    refine Ew.call0 (ls0 := [some (zr (some (1, 0, 0))), some (zi (nI t)), some (zi (nI D))]) f202_112 rfl (Nat.le_of_ble_eq_true rfl) rfl rfl (Nat.le_of_ble_eq_true rfl) rfl (Nat.le_of_ble_eq_true rfl) rfl rfl ?_
    refine Ew.ld f171_0 rfl rfl rfl rfl ?_
    refine Ew.getp (v := some (1, 0, 11)) f171_1 rfl rfl rfl ?_
    refine Ew.op (st' := zi (nI 30) :: _) f171_4 rfl rfl ?_
    refine Ew.ld f171_6 rfl rfl rfl rfl ?_
    refine Ew.muln f171_7 rfl ?_
    refine Ew.ld f171_8 rfl rfl rfl rfl ?_
    refine Ew.addn f171_9 rfl ?_
    refine Ew.ialdnV (v := nI G) f171_10 rfl (b3 c1) (Nat.le_of_ble_eq_true rfl) rfl (so_v hG) ?_
    refine Ew.ireti f171_11 ?_
    show Ev (d + 6) c s 202 115 [some (zr (some (1, 0, 0))), some (zi (nI t)), some (zi (nI D)), some (zi h)] [zi (nI G), zi (nI 4), zr (some (1, 0, 1))] (OM X 1 0 (zw ρ (zup (zup w (10 + 4 * t) (nI 1)) (10 + 4 * t + 1) (nI (D + 1)))) l) Q
    refine Ew.addn f202_115 rfl ?_
    refine Ew.op (st' := zi (nI (4 + G)) :: zr (some (1, 0, 1)) :: zi (nI (4 + G)) :: zr (some (1, 0, 1)) :: _) f202_116 rfl rfl ?_
    refine Ew.ialdnO f202_117 rfl (b4 c1) (Nat.le_of_ble_eq_true rfl) rfl ?_
    refine Ew.ld f202_118 rfl rfl rfl rfl ?_
    refine Ew.getp (v := some (1, 0, 12)) f202_119 rfl rfl rfl ?_
    refine Ew.op (st' := zi (nI 30) :: _) f202_122 rfl rfl ?_
    refine Ew.ld f202_124 rfl rfl rfl rfl ?_
    refine Ew.muln f202_125 rfl ?_
    refine Ew.ld f202_126 rfl rfl rfl rfl ?_
    refine Ew.addn f202_127 rfl ?_
    refine Ew.ialdnO f202_128 rfl (b5 c1) (Nat.le_of_ble_eq_true rfl) rfl ?_
    refine Ew.op (st' := zi (((zup (zup w (10 + 4 * t) (nI 1)) (10 + 4 * t + 1) (nI (D + 1))) (4 + G)) + (ρ 12 (30 * t + D))) :: _) f202_129 rfl rfl ?_
    refine Ew.iastnO f202_130 (by decide) rfl (b6 c1) (Nat.le_of_ble_eq_true rfl) rfl ?_
    rw [zw_up]
    exact h1 c1
  · refine Ew.ld f202_77 rfl rfl rfl rfl ?_
    refine Ew.ld f202_78 rfl rfl rfl rfl ?_
    refine Ew.icmp f202_79 rfl rfl (fun c2 => ?_) (fun c2 => ?_)
    · refine Ew.ld f202_88 rfl rfl rfl rfl ?_
      refine Ew.ld f202_89 rfl rfl rfl rfl ?_
      refine Ew.op (st' := zi (nI 0) :: _) f202_90 rfl rfl ?_
      refine Ew.op (st' := zi (nI 1) :: _) f202_91 rfl rfl ?_
      refine Ew.call0 (ls0 := [some (zr (some (1, 0, 0))), some (zi (nI t)), some (zi (nI 0)), some (zi (nI 1))]) f202_92 rfl (Nat.le_of_ble_eq_true rfl) rfl rfl (Nat.le_of_ble_eq_true rfl) rfl (Nat.le_of_ble_eq_true rfl) rfl rfl ?_
      refine Ew.ld f157_0 rfl rfl rfl rfl ?_
      refine Ew.getp (v := some (1, 0, 1)) f157_1 rfl rfl rfl ?_
      refine Ew.op (st' := zi (nI 10) :: _) f157_4 rfl rfl ?_
      refine Ew.op (st' := zi (nI 4) :: _) f157_6 rfl rfl ?_
      refine Ew.ld f157_7 rfl rfl rfl rfl ?_
      refine Ew.muln f157_8 rfl ?_
      refine Ew.addn f157_9 rfl ?_
      refine Ew.ld f157_10 rfl rfl rfl rfl ?_
      refine Ew.addn f157_11 rfl ?_
      refine Ew.ld f157_12 rfl rfl rfl rfl ?_
      refine Ew.iastnO f157_13 (by decide) rfl (b7 (Int32.not_lt.mp c1) c2) (Nat.le_of_ble_eq_true rfl) rfl ?_
      rw [zw_up]
      refine Ew.vret f157_14 ?_
      show Ev (d + 6) c s 202 95 [some (zr (some (1, 0, 0))), some (zi (nI t)), some (zi (nI D)), some (zi h)] [] (OM X 1 0 (zw ρ (zup w (10 + 4 * t) (nI 1))) l) Q
      refine Ew.ld f202_95 rfl rfl rfl rfl ?_
      refine Ew.ld f202_96 rfl rfl rfl rfl ?_
      refine Ew.op (st' := zi (nI 1) :: _) f202_97 rfl rfl ?_
      refine Ew.ld f202_98 rfl rfl rfl rfl ?_
      refine Ew.op (st' := zi (nI 1) :: _) f202_99 rfl rfl ?_
      refine Ew.addn f202_100 rfl ?_
      refine Ew.call0 (ls0 := [some (zr (some (1, 0, 0))), some (zi (nI t)), some (zi (nI 1)), some (zi (nI (D + 1)))]) f202_101 rfl (Nat.le_of_ble_eq_true rfl) rfl rfl (Nat.le_of_ble_eq_true rfl) rfl (Nat.le_of_ble_eq_true rfl) rfl rfl ?_
      refine Ew.ld f157_0 rfl rfl rfl rfl ?_
      refine Ew.getp (v := some (1, 0, 1)) f157_1 rfl rfl rfl ?_
      refine Ew.op (st' := zi (nI 10) :: _) f157_4 rfl rfl ?_
      refine Ew.op (st' := zi (nI 4) :: _) f157_6 rfl rfl ?_
      refine Ew.ld f157_7 rfl rfl rfl rfl ?_
      refine Ew.muln f157_8 rfl ?_
      refine Ew.addn f157_9 rfl ?_
      refine Ew.ld f157_10 rfl rfl rfl rfl ?_
      refine Ew.addn f157_11 rfl ?_
      refine Ew.ld f157_12 rfl rfl rfl rfl ?_
      refine Ew.iastnO f157_13 (by decide) rfl (b8 (Int32.not_lt.mp c1) c2) (Nat.le_of_ble_eq_true rfl) rfl ?_
      rw [zw_up]
      refine Ew.vret f157_14 ?_
      show Ev (d + 6) c s 202 104 [some (zr (some (1, 0, 0))), some (zi (nI t)), some (zi (nI D)), some (zi h)] [] (OM X 1 0 (zw ρ (zup (zup w (10 + 4 * t) (nI 1)) (10 + 4 * t + 1) (nI (D + 1)))) l) Q
      refine Ew.ld f202_104 rfl rfl rfl rfl ?_
      refine Ew.getp (v := some (1, 0, 1)) f202_105 rfl rfl rfl ?_
      refine Ew.op (st' := zi (nI 4) :: _) f202_108 rfl rfl ?_
      refine Ew.ld f202_109 rfl rfl rfl rfl ?_
      refine Ew.ld f202_110 rfl rfl rfl rfl ?_
      refine Ew.ld f202_111 rfl rfl rfl rfl ?_
      refine Ew.call0 (ls0 := [some (zr (some (1, 0, 0))), some (zi (nI t)), some (zi (nI D))]) f202_112 rfl (Nat.le_of_ble_eq_true rfl) rfl rfl (Nat.le_of_ble_eq_true rfl) rfl (Nat.le_of_ble_eq_true rfl) rfl rfl ?_
      refine Ew.ld f171_0 rfl rfl rfl rfl ?_
      refine Ew.getp (v := some (1, 0, 11)) f171_1 rfl rfl rfl ?_
      refine Ew.op (st' := zi (nI 30) :: _) f171_4 rfl rfl ?_
      refine Ew.ld f171_6 rfl rfl rfl rfl ?_
      refine Ew.muln f171_7 rfl ?_
      refine Ew.ld f171_8 rfl rfl rfl rfl ?_
      refine Ew.addn f171_9 rfl ?_
      refine Ew.ialdnV (v := nI G) f171_10 rfl (b9 (Int32.not_lt.mp c1) c2) (Nat.le_of_ble_eq_true rfl) rfl (so_v hG) ?_
      refine Ew.ireti f171_11 ?_
      show Ev (d + 6) c s 202 115 [some (zr (some (1, 0, 0))), some (zi (nI t)), some (zi (nI D)), some (zi h)] [zi (nI G), zi (nI 4), zr (some (1, 0, 1))] (OM X 1 0 (zw ρ (zup (zup w (10 + 4 * t) (nI 1)) (10 + 4 * t + 1) (nI (D + 1)))) l) Q
      refine Ew.addn f202_115 rfl ?_
      refine Ew.op (st' := zi (nI (4 + G)) :: zr (some (1, 0, 1)) :: zi (nI (4 + G)) :: zr (some (1, 0, 1)) :: _) f202_116 rfl rfl ?_
      refine Ew.ialdnO f202_117 rfl (b10 (Int32.not_lt.mp c1) c2) (Nat.le_of_ble_eq_true rfl) rfl ?_
      refine Ew.ld f202_118 rfl rfl rfl rfl ?_
      refine Ew.getp (v := some (1, 0, 12)) f202_119 rfl rfl rfl ?_
      refine Ew.op (st' := zi (nI 30) :: _) f202_122 rfl rfl ?_
      refine Ew.ld f202_124 rfl rfl rfl rfl ?_
      refine Ew.muln f202_125 rfl ?_
      refine Ew.ld f202_126 rfl rfl rfl rfl ?_
      refine Ew.addn f202_127 rfl ?_
      refine Ew.ialdnO f202_128 rfl (b11 (Int32.not_lt.mp c1) c2) (Nat.le_of_ble_eq_true rfl) rfl ?_
      refine Ew.op (st' := zi (((zup (zup w (10 + 4 * t) (nI 1)) (10 + 4 * t + 1) (nI (D + 1))) (4 + G)) + (ρ 12 (30 * t + D))) :: _) f202_129 rfl rfl ?_
      refine Ew.iastnO f202_130 (by decide) rfl (b12 (Int32.not_lt.mp c1) c2) (Nat.le_of_ble_eq_true rfl) rfl ?_
      rw [zw_up]
      exact h2 (Int32.not_lt.mp c1) c2
    · refine Ew.ld f202_82 rfl rfl rfl rfl ?_
      refine Ew.ld f202_83 rfl rfl rfl rfl ?_
      refine Ew.call0 (ls0 := [some (zr (some (1, 0, 0))), some (zi (nI t)), none, none]) f202_84 rfl (Nat.le_of_ble_eq_true rfl) rfl rfl (Nat.le_of_ble_eq_true rfl) rfl (Nat.le_of_ble_eq_true rfl) rfl rfl ?_
      refine sp_waits (b13 (Int32.not_lt.mp c1) c2) (b14 (Int32.not_lt.mp c1) c2) (b15 (Int32.not_lt.mp c1) c2) (b16 (Int32.not_lt.mp c1) c2) ?_
      show Ev (d + 6) c s 202 87 [some (zr (some (1, 0, 0))), some (zi (nI t)), some (zi (nI D)), some (zi h)] [zi (rWaitsR ρ t w)] (OM X 1 0 (zw ρ (rWaitsW ρ t w)) l) Q
      refine Ew.ireti f202_87 ?_
      exact h3 (Int32.not_lt.mp c1) c2
theorem g202_131 {d c s : Nat} {t E D m : Nat} {w : Nat → Int32} {X : zM} {ρ : Nat → Nat → Int32} {l : Nat → Nat → Int64} {Q : Option zV → zM → Prop} (hD : w (10 + 4 * t + 1) = nI D) (hm : ρ 13 t = nI m) (nb_D : D < 5000) (nb_m : m < 5000)
    (b1 : 10 + 4 * t + 1 < 270)
    (b2 : t < 4)
    (b3 : (m ≤ D) → t < 4)
    (b4 : (m ≤ D) → (¬ (ρ 14 t) = 0) → 10 + 4 * t < 270)
    (b5 : (m ≤ D) → (¬ (ρ 14 t) = 0) → t < 4)
    (h1 : (m ≤ D) → (¬ (ρ 14 t) = 0) → (¬ (ρ 14 t) = 0) → Q (some (zi (nI 3))) (OM X 1 0 (zw ρ (zup w (10 + 4 * t) (nI 4))) l))
    (h2 : (m ≤ D) → (¬ (ρ 14 t) = 0) → ((ρ 14 t) = 0) → Q (some (zi (nI 2))) (OM X 1 0 (zw ρ (zup w (10 + 4 * t) (nI 4))) l))
    (b6 : (m ≤ D) → ((ρ 14 t) = 0) → 10 + 4 * t < 270)
    (b7 : (m ≤ D) → ((ρ 14 t) = 0) → t < 4)
    (h3 : (m ≤ D) → ((ρ 14 t) = 0) → (¬ (ρ 14 t) = 0) → Q (some (zi (nI 3))) (OM X 1 0 (zw ρ (zup w (10 + 4 * t) (nI 3))) l))
    (h4 : (m ≤ D) → ((ρ 14 t) = 0) → ((ρ 14 t) = 0) → Q (some (zi (nI 2))) (OM X 1 0 (zw ρ (zup w (10 + 4 * t) (nI 3))) l))
    (h5 : (D < m) → Q (some (zi (nI 0))) (OM X 1 0 (zw ρ w) l)) : Ev (d + 1) c s 202 131 [some (zr (some (1, 0, 0))), some (zi (nI t)), some (zi (nI E)), none] [] (OM X 1 0 (zw ρ w) l) Q := by
  refine Ew.ld f202_131 rfl rfl rfl rfl ?_
  refine Ew.ld f202_132 rfl rfl rfl rfl ?_
  refine Ew.op (st' := zi (nI 1) :: _) f202_133 rfl rfl ?_
  refine Ew.call0 (ls0 := [some (zr (some (1, 0, 0))), some (zi (nI t)), some (zi (nI 1))]) f202_134 rfl (Nat.le_of_ble_eq_true rfl) rfl rfl (Nat.le_of_ble_eq_true rfl) rfl (Nat.le_of_ble_eq_true rfl) rfl rfl ?_
  refine Ew.ld f156_0 rfl rfl rfl rfl ?_
  refine Ew.getp (v := some (1, 0, 1)) f156_1 rfl rfl rfl ?_
  refine Ew.op (st' := zi (nI 10) :: _) f156_4 rfl rfl ?_
  refine Ew.op (st' := zi (nI 4) :: _) f156_6 rfl rfl ?_
  refine Ew.ld f156_7 rfl rfl rfl rfl ?_
  refine Ew.muln f156_8 rfl ?_
  refine Ew.addn f156_9 rfl ?_
  refine Ew.ld f156_10 rfl rfl rfl rfl ?_
  refine Ew.addn f156_11 rfl ?_
  refine Ew.ialdnV (v := nI D) f156_12 rfl b1 (Nat.le_of_ble_eq_true rfl) rfl (so_v hD) ?_
  refine Ew.ireti f156_13 ?_
  show Ev (d + 1) c s 202 137 [some (zr (some (1, 0, 0))), some (zi (nI t)), some (zi (nI E)), none] [zi (nI D)] (OM X 1 0 (zw ρ w) l) Q
  refine Ew.ld f202_137 rfl rfl rfl rfl ?_
  refine Ew.getp (v := some (1, 0, 13)) f202_138 rfl rfl rfl ?_
  refine Ew.ld f202_141 rfl rfl rfl rfl ?_
  refine Ew.ialdnV (v := nI m) f202_142 rfl b2 (Nat.le_of_ble_eq_true rfl) rfl (so_v hm) ?_
  refine Ew.icmp f202_143 rfl rfl (fun c1 => ?_) (fun c1 => ?_)
  · refine Ew.ld f202_148 rfl rfl rfl rfl ?_
    refine Ew.ld f202_149 rfl rfl rfl rfl ?_
    refine Ew.op (st' := zi (nI 0) :: _) f202_150 rfl rfl ?_
    refine Ew.ld f202_151 rfl rfl rfl rfl ?_
    refine Ew.getp (v := some (1, 0, 14)) f202_152 rfl rfl rfl ?_
    refine Ew.ld f202_155 rfl rfl rfl rfl ?_
    refine Ew.ialdnO f202_156 rfl (b3 ((zle_iff nb_m nb_D).mp c1)) (Nat.le_of_ble_eq_true rfl) rfl ?_
    refine Ew.ifc f202_157 rfl rfl (fun c2 => ?_) (fun c2 => ?_)
    · refine Ew.op (st' := zi (nI 4) :: _) f202_164 rfl rfl ?_
      refine Ew.call0 (ls0 := [some (zr (some (1, 0, 0))), some (zi (nI t)), some (zi (nI 0)), some (zi (nI 4))]) f202_165 rfl (Nat.le_of_ble_eq_true rfl) rfl rfl (Nat.le_of_ble_eq_true rfl) rfl (Nat.le_of_ble_eq_true rfl) rfl rfl ?_
      refine Ew.ld f157_0 rfl rfl rfl rfl ?_
      refine Ew.getp (v := some (1, 0, 1)) f157_1 rfl rfl rfl ?_
      refine Ew.op (st' := zi (nI 10) :: _) f157_4 rfl rfl ?_
      refine Ew.op (st' := zi (nI 4) :: _) f157_6 rfl rfl ?_
      refine Ew.ld f157_7 rfl rfl rfl rfl ?_
      refine Ew.muln f157_8 rfl ?_
      refine Ew.addn f157_9 rfl ?_
      refine Ew.ld f157_10 rfl rfl rfl rfl ?_
      refine Ew.addn f157_11 rfl ?_
      refine Ew.ld f157_12 rfl rfl rfl rfl ?_
      refine Ew.iastnO f157_13 (by decide) rfl (b4 ((zle_iff nb_m nb_D).mp c1) c2) (Nat.le_of_ble_eq_true rfl) rfl ?_
      rw [zw_up]
      refine Ew.vret f157_14 ?_
      show Ev (d + 1) c s 202 168 [some (zr (some (1, 0, 0))), some (zi (nI t)), some (zi (nI E)), none] [] (OM X 1 0 (zw ρ (zup w (10 + 4 * t) (nI 4))) l) Q
      refine Ew.ld f202_168 rfl rfl rfl rfl ?_
      refine Ew.getp (v := some (1, 0, 14)) f202_169 rfl rfl rfl ?_
      refine Ew.ld f202_172 rfl rfl rfl rfl ?_
      refine Ew.ialdnO f202_173 rfl (b5 ((zle_iff nb_m nb_D).mp c1) c2) (Nat.le_of_ble_eq_true rfl) rfl ?_
      refine Ew.ifc f202_174 rfl rfl (fun c3 => ?_) (fun c3 => ?_)
      · refine Ew.op (st' := zi (nI 3) :: _) f202_181 rfl rfl ?_
        refine Ew.ireti f202_182 ?_
        exact h1 ((zle_iff nb_m nb_D).mp c1) c2 c3
      · refine Ew.op (st' := zi (nI 2) :: _) f202_177 rfl rfl ?_
        refine Ew.goto f202_178 rfl ?_
        refine Ew.ireti f202_182 ?_
        exact h2 ((zle_iff nb_m nb_D).mp c1) c2 (Classical.not_not.mp c3)
    · refine Ew.op (st' := zi (nI 3) :: _) f202_160 rfl rfl ?_
      refine Ew.goto f202_161 rfl ?_
      refine Ew.call0 (ls0 := [some (zr (some (1, 0, 0))), some (zi (nI t)), some (zi (nI 0)), some (zi (nI 3))]) f202_165 rfl (Nat.le_of_ble_eq_true rfl) rfl rfl (Nat.le_of_ble_eq_true rfl) rfl (Nat.le_of_ble_eq_true rfl) rfl rfl ?_
      refine Ew.ld f157_0 rfl rfl rfl rfl ?_
      refine Ew.getp (v := some (1, 0, 1)) f157_1 rfl rfl rfl ?_
      refine Ew.op (st' := zi (nI 10) :: _) f157_4 rfl rfl ?_
      refine Ew.op (st' := zi (nI 4) :: _) f157_6 rfl rfl ?_
      refine Ew.ld f157_7 rfl rfl rfl rfl ?_
      refine Ew.muln f157_8 rfl ?_
      refine Ew.addn f157_9 rfl ?_
      refine Ew.ld f157_10 rfl rfl rfl rfl ?_
      refine Ew.addn f157_11 rfl ?_
      refine Ew.ld f157_12 rfl rfl rfl rfl ?_
      refine Ew.iastnO f157_13 (by decide) rfl (b6 ((zle_iff nb_m nb_D).mp c1) (Classical.not_not.mp c2)) (Nat.le_of_ble_eq_true rfl) rfl ?_
      rw [zw_up]
      refine Ew.vret f157_14 ?_
      show Ev (d + 1) c s 202 168 [some (zr (some (1, 0, 0))), some (zi (nI t)), some (zi (nI E)), none] [] (OM X 1 0 (zw ρ (zup w (10 + 4 * t) (nI 3))) l) Q
      refine Ew.ld f202_168 rfl rfl rfl rfl ?_
      refine Ew.getp (v := some (1, 0, 14)) f202_169 rfl rfl rfl ?_
      refine Ew.ld f202_172 rfl rfl rfl rfl ?_
      refine Ew.ialdnO f202_173 rfl (b7 ((zle_iff nb_m nb_D).mp c1) (Classical.not_not.mp c2)) (Nat.le_of_ble_eq_true rfl) rfl ?_
      refine Ew.ifc f202_174 rfl rfl (fun c4 => ?_) (fun c4 => ?_)
      · refine Ew.op (st' := zi (nI 3) :: _) f202_181 rfl rfl ?_
        refine Ew.ireti f202_182 ?_
        exact h3 ((zle_iff nb_m nb_D).mp c1) (Classical.not_not.mp c2) c4
      · refine Ew.op (st' := zi (nI 2) :: _) f202_177 rfl rfl ?_
        refine Ew.goto f202_178 rfl ?_
        refine Ew.ireti f202_182 ?_
        exact h4 ((zle_iff nb_m nb_D).mp c1) (Classical.not_not.mp c2) (Classical.not_not.mp c4)
  · refine Ew.op (st' := zi (nI 0) :: _) f202_146 rfl rfl ?_
    refine Ew.ireti f202_147 ?_
    exact h5 (Nat.not_le.mp fun e => c1 ((zle_iff nb_m nb_D).mpr e))
theorem g202_131h {d c s : Nat} {t E D m : Nat} {h : Int32} {w : Nat → Int32} {X : zM} {ρ : Nat → Nat → Int32} {l : Nat → Nat → Int64} {Q : Option zV → zM → Prop} (hD : w (10 + 4 * t + 1) = nI D) (hm : ρ 13 t = nI m) (nb_D : D < 5000) (nb_m : m < 5000)
    (b1 : 10 + 4 * t + 1 < 270)
    (b2 : t < 4)
    (b3 : (m ≤ D) → t < 4)
    (b4 : (m ≤ D) → (¬ (ρ 14 t) = 0) → 10 + 4 * t < 270)
    (b5 : (m ≤ D) → (¬ (ρ 14 t) = 0) → t < 4)
    (h1 : (m ≤ D) → (¬ (ρ 14 t) = 0) → (¬ (ρ 14 t) = 0) → Q (some (zi (nI 3))) (OM X 1 0 (zw ρ (zup w (10 + 4 * t) (nI 4))) l))
    (h2 : (m ≤ D) → (¬ (ρ 14 t) = 0) → ((ρ 14 t) = 0) → Q (some (zi (nI 2))) (OM X 1 0 (zw ρ (zup w (10 + 4 * t) (nI 4))) l))
    (b6 : (m ≤ D) → ((ρ 14 t) = 0) → 10 + 4 * t < 270)
    (b7 : (m ≤ D) → ((ρ 14 t) = 0) → t < 4)
    (h3 : (m ≤ D) → ((ρ 14 t) = 0) → (¬ (ρ 14 t) = 0) → Q (some (zi (nI 3))) (OM X 1 0 (zw ρ (zup w (10 + 4 * t) (nI 3))) l))
    (h4 : (m ≤ D) → ((ρ 14 t) = 0) → ((ρ 14 t) = 0) → Q (some (zi (nI 2))) (OM X 1 0 (zw ρ (zup w (10 + 4 * t) (nI 3))) l))
    (h5 : (D < m) → Q (some (zi (nI 0))) (OM X 1 0 (zw ρ w) l)) : Ev (d + 1) c s 202 131 [some (zr (some (1, 0, 0))), some (zi (nI t)), some (zi (nI E)), some (zi h)] [] (OM X 1 0 (zw ρ w) l) Q := by
  refine Ew.ld f202_131 rfl rfl rfl rfl ?_
  refine Ew.ld f202_132 rfl rfl rfl rfl ?_
  refine Ew.op (st' := zi (nI 1) :: _) f202_133 rfl rfl ?_
  refine Ew.call0 (ls0 := [some (zr (some (1, 0, 0))), some (zi (nI t)), some (zi (nI 1))]) f202_134 rfl (Nat.le_of_ble_eq_true rfl) rfl rfl (Nat.le_of_ble_eq_true rfl) rfl (Nat.le_of_ble_eq_true rfl) rfl rfl ?_
  refine Ew.ld f156_0 rfl rfl rfl rfl ?_
  refine Ew.getp (v := some (1, 0, 1)) f156_1 rfl rfl rfl ?_
  refine Ew.op (st' := zi (nI 10) :: _) f156_4 rfl rfl ?_
  refine Ew.op (st' := zi (nI 4) :: _) f156_6 rfl rfl ?_
  refine Ew.ld f156_7 rfl rfl rfl rfl ?_
  refine Ew.muln f156_8 rfl ?_
  refine Ew.addn f156_9 rfl ?_
  refine Ew.ld f156_10 rfl rfl rfl rfl ?_
  refine Ew.addn f156_11 rfl ?_
  refine Ew.ialdnV (v := nI D) f156_12 rfl b1 (Nat.le_of_ble_eq_true rfl) rfl (so_v hD) ?_
  refine Ew.ireti f156_13 ?_
  show Ev (d + 1) c s 202 137 [some (zr (some (1, 0, 0))), some (zi (nI t)), some (zi (nI E)), some (zi h)] [zi (nI D)] (OM X 1 0 (zw ρ w) l) Q
  refine Ew.ld f202_137 rfl rfl rfl rfl ?_
  refine Ew.getp (v := some (1, 0, 13)) f202_138 rfl rfl rfl ?_
  refine Ew.ld f202_141 rfl rfl rfl rfl ?_
  refine Ew.ialdnV (v := nI m) f202_142 rfl b2 (Nat.le_of_ble_eq_true rfl) rfl (so_v hm) ?_
  refine Ew.icmp f202_143 rfl rfl (fun c1 => ?_) (fun c1 => ?_)
  · refine Ew.ld f202_148 rfl rfl rfl rfl ?_
    refine Ew.ld f202_149 rfl rfl rfl rfl ?_
    refine Ew.op (st' := zi (nI 0) :: _) f202_150 rfl rfl ?_
    refine Ew.ld f202_151 rfl rfl rfl rfl ?_
    refine Ew.getp (v := some (1, 0, 14)) f202_152 rfl rfl rfl ?_
    refine Ew.ld f202_155 rfl rfl rfl rfl ?_
    refine Ew.ialdnO f202_156 rfl (b3 ((zle_iff nb_m nb_D).mp c1)) (Nat.le_of_ble_eq_true rfl) rfl ?_
    refine Ew.ifc f202_157 rfl rfl (fun c2 => ?_) (fun c2 => ?_)
    · refine Ew.op (st' := zi (nI 4) :: _) f202_164 rfl rfl ?_
      refine Ew.call0 (ls0 := [some (zr (some (1, 0, 0))), some (zi (nI t)), some (zi (nI 0)), some (zi (nI 4))]) f202_165 rfl (Nat.le_of_ble_eq_true rfl) rfl rfl (Nat.le_of_ble_eq_true rfl) rfl (Nat.le_of_ble_eq_true rfl) rfl rfl ?_
      refine Ew.ld f157_0 rfl rfl rfl rfl ?_
      refine Ew.getp (v := some (1, 0, 1)) f157_1 rfl rfl rfl ?_
      refine Ew.op (st' := zi (nI 10) :: _) f157_4 rfl rfl ?_
      refine Ew.op (st' := zi (nI 4) :: _) f157_6 rfl rfl ?_
      refine Ew.ld f157_7 rfl rfl rfl rfl ?_
      refine Ew.muln f157_8 rfl ?_
      refine Ew.addn f157_9 rfl ?_
      refine Ew.ld f157_10 rfl rfl rfl rfl ?_
      refine Ew.addn f157_11 rfl ?_
      refine Ew.ld f157_12 rfl rfl rfl rfl ?_
      refine Ew.iastnO f157_13 (by decide) rfl (b4 ((zle_iff nb_m nb_D).mp c1) c2) (Nat.le_of_ble_eq_true rfl) rfl ?_
      rw [zw_up]
      refine Ew.vret f157_14 ?_
      show Ev (d + 1) c s 202 168 [some (zr (some (1, 0, 0))), some (zi (nI t)), some (zi (nI E)), some (zi h)] [] (OM X 1 0 (zw ρ (zup w (10 + 4 * t) (nI 4))) l) Q
      refine Ew.ld f202_168 rfl rfl rfl rfl ?_
      refine Ew.getp (v := some (1, 0, 14)) f202_169 rfl rfl rfl ?_
      refine Ew.ld f202_172 rfl rfl rfl rfl ?_
      refine Ew.ialdnO f202_173 rfl (b5 ((zle_iff nb_m nb_D).mp c1) c2) (Nat.le_of_ble_eq_true rfl) rfl ?_
      refine Ew.ifc f202_174 rfl rfl (fun c3 => ?_) (fun c3 => ?_)
      · refine Ew.op (st' := zi (nI 3) :: _) f202_181 rfl rfl ?_
        refine Ew.ireti f202_182 ?_
        exact h1 ((zle_iff nb_m nb_D).mp c1) c2 c3
      · refine Ew.op (st' := zi (nI 2) :: _) f202_177 rfl rfl ?_
        refine Ew.goto f202_178 rfl ?_
        refine Ew.ireti f202_182 ?_
        exact h2 ((zle_iff nb_m nb_D).mp c1) c2 (Classical.not_not.mp c3)
    · refine Ew.op (st' := zi (nI 3) :: _) f202_160 rfl rfl ?_
      refine Ew.goto f202_161 rfl ?_
      refine Ew.call0 (ls0 := [some (zr (some (1, 0, 0))), some (zi (nI t)), some (zi (nI 0)), some (zi (nI 3))]) f202_165 rfl (Nat.le_of_ble_eq_true rfl) rfl rfl (Nat.le_of_ble_eq_true rfl) rfl (Nat.le_of_ble_eq_true rfl) rfl rfl ?_
      refine Ew.ld f157_0 rfl rfl rfl rfl ?_
      refine Ew.getp (v := some (1, 0, 1)) f157_1 rfl rfl rfl ?_
      refine Ew.op (st' := zi (nI 10) :: _) f157_4 rfl rfl ?_
      refine Ew.op (st' := zi (nI 4) :: _) f157_6 rfl rfl ?_
      refine Ew.ld f157_7 rfl rfl rfl rfl ?_
      refine Ew.muln f157_8 rfl ?_
      refine Ew.addn f157_9 rfl ?_
      refine Ew.ld f157_10 rfl rfl rfl rfl ?_
      refine Ew.addn f157_11 rfl ?_
      refine Ew.ld f157_12 rfl rfl rfl rfl ?_
      refine Ew.iastnO f157_13 (by decide) rfl (b6 ((zle_iff nb_m nb_D).mp c1) (Classical.not_not.mp c2)) (Nat.le_of_ble_eq_true rfl) rfl ?_
      rw [zw_up]
      refine Ew.vret f157_14 ?_
      show Ev (d + 1) c s 202 168 [some (zr (some (1, 0, 0))), some (zi (nI t)), some (zi (nI E)), some (zi h)] [] (OM X 1 0 (zw ρ (zup w (10 + 4 * t) (nI 3))) l) Q
      refine Ew.ld f202_168 rfl rfl rfl rfl ?_
      refine Ew.getp (v := some (1, 0, 14)) f202_169 rfl rfl rfl ?_
      refine Ew.ld f202_172 rfl rfl rfl rfl ?_
      refine Ew.ialdnO f202_173 rfl (b7 ((zle_iff nb_m nb_D).mp c1) (Classical.not_not.mp c2)) (Nat.le_of_ble_eq_true rfl) rfl ?_
      refine Ew.ifc f202_174 rfl rfl (fun c4 => ?_) (fun c4 => ?_)
      · refine Ew.op (st' := zi (nI 3) :: _) f202_181 rfl rfl ?_
        refine Ew.ireti f202_182 ?_
        exact h3 ((zle_iff nb_m nb_D).mp c1) (Classical.not_not.mp c2) c4
      · refine Ew.op (st' := zi (nI 2) :: _) f202_177 rfl rfl ?_
        refine Ew.goto f202_178 rfl ?_
        refine Ew.ireti f202_182 ?_
        exact h4 ((zle_iff nb_m nb_D).mp c1) (Classical.not_not.mp c2) (Classical.not_not.mp c4)
  · refine Ew.op (st' := zi (nI 0) :: _) f202_146 rfl rfl ?_
    refine Ew.ireti f202_147 ?_
    exact h5 (Nat.not_le.mp fun e => c1 ((zle_iff nb_m nb_D).mpr e))
