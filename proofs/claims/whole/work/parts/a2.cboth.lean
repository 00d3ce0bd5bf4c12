/-! both are made -/
theorem g150_264 {d c s : Nat} {w : Nat → Int32} {X : zM} {ρ : Nat → Nat → Int32} {l : Nat → Nat → Int64} {Q : Option zV → zM → Prop}
    (h1 : Ev d c s 150 273 [some (zr (some (1, 0, 0))), some (zi (nI 0))] [] (OM X 1 0 (zw ρ (zup w 3 (nI 1))) l) Q) : Ev d c s 150 264 [some (zr (some (1, 0, 0))), none] [] (OM X 1 0 (zw ρ w) l) Q := by
  refine Ew.ld f150_264 rfl rfl rfl rfl ?_
  refine Ew.getp (v := some (1, 0, 1)) f150_265 rfl rfl rfl ?_
  refine Ew.op (st' := zi (nI 3) :: _) f150_268 rfl rfl ?_
  refine Ew.op (st' := zi (nI 1) :: _) f150_269 rfl rfl ?_
  refine Ew.iastnO f150_270 (by decide) rfl (show 3 < 270 by decide) (Nat.le_of_ble_eq_true rfl) rfl ?_
  rw [zw_up]
  refine Ew.op (st' := zi (nI 0) :: _) f150_271 rfl rfl ?_
  refine Ew.sr (ls' := [some (zr (some (1, 0, 0))), some (zi (nI 0))]) f150_272 rfl rfl (Nat.le_of_ble_eq_true rfl) rfl rfl ?_
  exact h1
theorem g150_273 {d c s : Nat} {k : Nat} {w : Nat → Int32} {X : zM} {ρ : Nat → Nat → Int32} {l : Nat → Nat → Int64} {Q : Option zV → zM → Prop} (nb_k : k < 5000)
    (h1 : (4 ≤ k) → Ev (d + 1) c s 150 294 [some (zr (some (1, 0, 0))), some (zi (nI 0))] [] (OM X 1 0 (zw ρ w) l) Q)
    (b1 : (k < 4) → 10 + 4 * k + 2 < 270)
    (h2 : (k < 4) → Ev (d + 1) c s 150 273 [some (zr (some (1, 0, 0))), some (zi (nI (k + 1)))] [] (OM X 1 0 (zw ρ (zup w (10 + 4 * k + 2) ((-4)))) l) Q) : Ev (d + 1) c s 150 273 [some (zr (some (1, 0, 0))), some (zi (nI k))] [] (OM X 1 0 (zw ρ w) l) Q := by
  refine Ew.ld f150_273 rfl rfl rfl rfl ?_
  refine Ew.op (st' := zi (nI 4) :: _) f150_274 rfl rfl ?_
  refine Ew.icmp f150_275 rfl rfl (fun c1 => ?_) (fun c1 => ?_)
  · refine Ew.op (st' := zi (nI 0) :: _) f150_292 rfl rfl ?_
    refine Ew.sr (ls' := [some (zr (some (1, 0, 0))), some (zi (nI 0))]) f150_293 rfl rfl (Nat.le_of_ble_eq_true rfl) rfl rfl ?_
    exact h1 ((zle_iff (by decide) nb_k).mp c1)
  · refine Ew.ld f150_278 rfl rfl rfl rfl ?_
    refine Ew.ld f150_279 rfl rfl rfl rfl ?_
    refine Ew.op (st' := zi (nI 2) :: _) f150_280 rfl rfl ?_
    refine Ew.op (st' := zi ((-4)) :: _) f150_281 rfl rfl ?_
    refine Ew.call0 (ls0 := [some (zr (some (1, 0, 0))), some (zi (nI k)), some (zi (nI 2)), some (zi ((-4)))]) f150_283 rfl (Nat.le_of_ble_eq_true rfl) rfl rfl (Nat.le_of_ble_eq_true rfl) rfl (Nat.le_of_ble_eq_true rfl) rfl rfl ?_
    refine Ew.ld f157_0 rfl rfl rfl rfl ?_
    refine Ew.getp (v := some (1, 0, 1)) f157_1 rfl rfl rfl ?_
    refine Ew.op (st' := zi (nI 10) :: _) f157_4 rfl rfl ?_
    refine Ew.op (st' := zi (nI 4) :: _) f157_6 rfl rfl ?_
    refine Ew.ld f157_7 rfl rfl rfl rfl ?_
    refine Ew.muln f157_8 rfl ?_
    refine Ew.addn f157_9 rfl ?_
    refine Ew.ld f157_10 rfl rfl rfl rfl ?_
    refine Ew.addn f157_11 rfl ?_
    refine Ew.ld f157_12 rfl rfl rfl rfl ?_
    refine Ew.iastnO f157_13 (by decide) rfl (b1 (Nat.not_le.mp fun e => c1 ((zle_iff (by decide) nb_k).mpr e))) (Nat.le_of_ble_eq_true rfl) rfl ?_
    rw [zw_up]
    refine Ew.vret f157_14 ?_
    show Ev (d + 1) c s 150 286 [some (zr (some (1, 0, 0))), some (zi (nI k))] [] (OM X 1 0 (zw ρ (zup w (10 + 4 * k + 2) ((-4)))) l) Q
    refine Ew.iinc (v := nI (k + 1)) (ls' := [some (zr (some (1, 0, 0))), some (zi (nI (k + 1)))]) f150_286 rfl (nI_1 _) rfl rfl ?_
    refine Ew.goto f150_289 rfl ?_
    exact h2 (Nat.not_le.mp fun e => c1 ((zle_iff (by decide) nb_k).mpr e))
theorem g150_294 {d c s : Nat} {k : Nat} {w : Nat → Int32} {X : zM} {ρ : Nat → Nat → Int32} {l : Nat → Nat → Int64} {Q : Option zV → zM → Prop} (nb_k : k < 5000)
    (h1 : (4 ≤ k) → Ev d 0 0 169 0 [some (zr (some (1, 0, 0))), none] [] (OM X 1 0 (zw ρ w) l) (fun r M' => Ev (d + 1) c s 150 316 [some (zr (some (1, 0, 0))), some (zi (nI k))] (zpush r []) M' Q))
    (b1 : (k < 4) → k < 4)
    (h2 : (k < 4) → Ev (d + 1) c s 150 294 [some (zr (some (1, 0, 0))), some (zi (nI (k + 1)))] [] (OM X 1 0 (zw (zu ρ 6 k ((-1))) w) l) Q) : Ev (d + 1) c s 150 294 [some (zr (some (1, 0, 0))), some (zi (nI k))] [] (OM X 1 0 (zw ρ w) l) Q := by
  refine Ew.ld f150_294 rfl rfl rfl rfl ?_
  refine Ew.op (st' := zi (nI 4) :: _) f150_295 rfl rfl ?_
  refine Ew.icmp f150_296 rfl rfl (fun c1 => ?_) (fun c1 => ?_)
  · refine Ew.ld f150_312 rfl rfl rfl rfl ?_
    refine Ew.call0 (ls0 := [some (zr (some (1, 0, 0))), none]) f150_313 rfl (Nat.le_of_ble_eq_true rfl) rfl rfl (Nat.le_of_ble_eq_true rfl) rfl (Nat.le_of_ble_eq_true rfl) rfl rfl ?_
    exact h1 ((zle_iff (by decide) nb_k).mp c1)
  · refine Ew.ld f150_299 rfl rfl rfl rfl ?_
    refine Ew.getp (v := some (1, 0, 6)) f150_300 rfl rfl rfl ?_
    refine Ew.ld f150_303 rfl rfl rfl rfl ?_
    refine Ew.op (st' := zi ((-1)) :: _) f150_304 rfl rfl ?_
    refine Ew.iastnO f150_305 (by decide) rfl (b1 (Nat.not_le.mp fun e => c1 ((zle_iff (by decide) nb_k).mpr e))) (Nat.le_of_ble_eq_true rfl) rfl ?_
    rw [zw_uq _ _ (by decide)]
    refine Ew.iinc (v := nI (k + 1)) (ls' := [some (zr (some (1, 0, 0))), some (zi (nI (k + 1)))]) f150_306 rfl (nI_1 _) rfl rfl ?_
    refine Ew.goto f150_309 rfl ?_
    exact h2 (Nat.not_le.mp fun e => c1 ((zle_iff (by decide) nb_k).mpr e))
theorem zw0_eq : zup (zup (zup (zup (zup (fun _ => (0 : Int32)) 3 (nI 1)) (10 + 4 * 0 + 2) (-4)) (10 + 4 * 1 + 2) (-4)) (10 + 4 * 2 + 2) (-4)) (10 + 4 * 3 + 2) (-4) = w0 := by
  funext i
  unfold w0 zup
  by_cases h24 : i = 24
  · subst h24; rfl
  by_cases h20 : i = 20
  · subst h20; rfl
  by_cases h16 : i = 16
  · subst h16; rfl
  by_cases h12 : i = 12
  · subst h12; rfl
  rw [if_neg (by omega), if_neg (by omega), if_neg (by omega), if_neg (by omega)]
  by_cases h3 : i = 3
  · rw [if_pos h3, if_pos h3]
  · rw [if_neg h3, if_neg h3, if_neg (by omega)]
theorem cn_Ref2 {d c s : Nat} {X : zM} {ρ : Nat → Nat → Int32} {l : Nat → Nat → Int64} {Q : Option zV → zM → Prop} (h0 : ρ 0 = fun i => if i = 5 then -1 else 0) (h1 : ρ 1 = fun _ => 0) (k : ∀ ρ', zRef ρ' l σ0 → Q none (OM X 1 0 ρ' l)) : Ev (d + 6) c s 150 264 [some (zr (some (1, 0, 0))), none] [] (OM X 1 0 ρ l) Q := by
  rw [← zw_id ρ, h1]
  refine g150_264 ?_
  refine g150_273 (d := d + 5) (by decide) (fun h => by omega) (fun _ => by omega) (fun _ => ?_)
  refine g150_273 (d := d + 5) (by decide) (fun h => by omega) (fun _ => by omega) (fun _ => ?_)
  refine g150_273 (d := d + 5) (by decide) (fun h => by omega) (fun _ => by omega) (fun _ => ?_)
  refine g150_273 (d := d + 5) (by decide) (fun h => by omega) (fun _ => by omega) (fun _ => ?_)
  refine g150_273 (d := d + 5) (by decide) (fun _ => ?_) (fun h => by omega) (fun h => by omega)
  rw [zw0_eq]
  refine g150_294 (d := d + 5) (by decide) (fun h => by omega) (fun _ => by omega) (fun _ => ?_)
  refine g150_294 (d := d + 5) (by decide) (fun h => by omega) (fun _ => by omega) (fun _ => ?_)
  refine g150_294 (d := d + 5) (by decide) (fun h => by omega) (fun _ => by omega) (fun _ => ?_)
  refine g150_294 (d := d + 5) (by decide) (fun h => by omega) (fun _ => by omega) (fun _ => ?_)
  refine g150_294 (d := d + 5) (by decide) (fun _ => ?_) (fun h => by omega) (fun h => by omega)
  refine sp_laysTraces (d := d) tTb_0 (fun _ ρ' hf ht => ?_) (fun h => absurd h tOv_0)
  refine Ew.op f150_316 rfl rfl ?_
  refine Ew.vret f150_317 ?_
  have e0 : ∀ i, ¬ (i = 21 ∨ i = 26 ∨ i = 29 ∨ i = 31 ∨ i = 32) → ρ' 0 i = if i = 5 then -1 else 0 := fun i hi => by
    rw [hf 0 i (by decide) (by decide) (by omega)]
    simp only [zu_v]
    rw [if_neg (by omega), if_neg (by omega), if_neg (by omega), if_neg (by omega), h0]
  refine k _ (zRef_mk (σ := σ0) (H := []) ⟨?_, ⟨?_, fun k h => absurd h (Nat.not_lt_zero _)⟩, fun j hj => ?_⟩ ⟨?_, Nat.zero_le _, fun k h => absurd h (Nat.not_lt_zero _)⟩ ht)
  · exact e0 5 (by decide)
  · exact e0 7 (by decide)
  · show ρ' 6 j = -1
    rw [hf 6 j (by decide) (by decide) (by omega)]
    have h : j = 0 ∨ j = 1 ∨ j = 2 ∨ j = 3 := by omega
    rcases h with e | e | e | e <;> subst e <;> simp [zu_v]
  · exact e0 2 (by decide)
/-! the memory then -/
def I00 (f : Nat → Int32) : zI := fun r _ _ i => if r = 9 then f i else 0
def L00 : zL := fun _ _ _ _ => 0
def P00 : zP := zpj (fun _ _ _ _ => none)
def S00 (n : Nat) : zS := fun r _ _ => if r = 9 then (20, n) else (0, 0)
theorem zst0 : ∀ q, q < 18 → zal (zix (0, 0, q)) = (0, 0, q) ∧ zix (0, 0, q) < 237 := by decide +kernel
theorem zst1 : ∀ q, q < 33 → zal (zix (1, 0, q)) = (1, 0, q) ∧ zix (1, 0, q) < 237 := by decide +kernel
theorem zst2 : ∀ j, j < 15 → ∀ q, q < 11 → zal (zix (2, j, q)) = (2, j, q) ∧ zix (2, j, q) < 237 := by decide +kernel
theorem zst4 : ∀ j, j < 2 → ∀ q, q < 2 → zal (zix (4, j, q)) = (4, j, q) ∧ zix (4, j, q) < 237 := by decide +kernel
theorem zst5 : ∀ j, j < 4 → ∀ q, q < 2 → zal (zix (5, j, q)) = (5, j, q) ∧ zix (5, j, q) < 237 := by decide +kernel
theorem zst9 : ∀ n, n < 237 → ¬ (zal n).1 = 9 := by decide +kernel
theorem zb_f {j n : Nat} (h : ¬ j < n) : Nat.blt j n = false := by
  cases hb : Nat.blt j n
  · rfl
  · exact absurd (Nat.blt_eq.mp hb) h
/-- a shape of no cell -/
theorem zsj_no {S : zS} {r j q : Nat} (h : ∀ n, n < 237 → ¬ zal n = (r, j, q)) (hS : S r j q = if r = 9 then S r j q else (0, 0)) : zsj S r j q = S r j q := by
  unfold zsj
  split
  · rw [hS, if_neg (by decide)]
    by_cases hj : j = 0
    · subst hj
      by_cases hq : q < 18
      · exact absurd (zst0 q hq).1 (h _ (zst0 q hq).2)
      · show zs0 q = (0, 0)
        unfold zs0
        repeat' split
        all_goals first | rfl | omega
    · rw [show Nat.beq j 0 = false by cases j with | zero => exact absurd rfl hj | succ j => rfl]; rfl
  · rw [hS, if_neg (by decide)]
    by_cases hj : j = 0
    · subst hj
      by_cases hq : q < 33
      · exact absurd (zst1 q hq).1 (h _ (zst1 q hq).2)
      · show zs1 q = (0, 0)
        unfold zs1
        repeat' split
        all_goals first | rfl | omega
    · rw [show Nat.beq j 0 = false by cases j with | zero => exact absurd rfl hj | succ j => rfl]; rfl
  · rw [hS, if_neg (by decide)]
    by_cases hj : j < 15
    · rw [Nat.blt_eq.mpr hj]
      by_cases hq : q < 11
      · exact absurd (zst2 j hj q hq).1 (h _ (zst2 j hj q hq).2)
      · show zs2 q = (0, 0)
        unfold zs2
        repeat' split
        all_goals first | rfl | omega
    · rw [zb_f hj]; rfl
  · rw [hS, if_neg (by decide)]
    by_cases hj : j < 2
    · rw [Nat.blt_eq.mpr hj]
      by_cases hq : q < 2
      · exact absurd (zst4 j hj q hq).1 (h _ (zst4 j hj q hq).2)
      · show zs4 q = (0, 0)
        unfold zs4
        repeat' split
        all_goals first | rfl | omega
    · rw [zb_f hj]; rfl
  · rw [hS, if_neg (by decide)]
    by_cases hj : j < 4
    · rw [Nat.blt_eq.mpr hj]
      by_cases hq : q < 2
      · exact absurd (zst5 j hj q hq).1 (h _ (zst5 j hj q hq).2)
      · show zs5 q = (0, 0)
        unfold zs5
        repeat' split
        all_goals first | rfl | omega
    · rw [zb_f hj]; rfl
  · rfl
theorem zsj_dep {S S' : zS} {r j q : Nat} (h : S r j q = S' r j q) : zsj S r j q = zsj S' r j q := by
  unfold zsj
  repeat' split
  all_goals first | rfl | exact h
theorem zsj_ES {r j q : Nat} : zsj ES r j q = ES r j q := by
  unfold zsj
  repeat' split
  all_goals rfl
