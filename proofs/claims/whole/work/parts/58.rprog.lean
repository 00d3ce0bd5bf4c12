/-! the reference: type, program -/
theorem zrangeA (x : Int32) (a m : Nat) (ha : a < 5000) (hm : m < 5000) : (lN a ≤ x.toInt64 ∧ x.toInt64 ≤ lN m) ↔ ∃ n, a ≤ n ∧ n ≤ m ∧ x = nI n := by
  constructor
  · rintro ⟨h1, h2⟩
    have h0 : lN 0 ≤ x.toInt64 := Int64.le_trans ((lN_le (by decide) (by omega)).mpr (Nat.zero_le a)) h1
    obtain ⟨n, hn, e⟩ := (zrange x m hm).mp ⟨h0, h2⟩
    subst e
    exact ⟨n, ((zinN (by omega) ha hm).mp ⟨h1, h2⟩).1, hn, rfl⟩
  · rintro ⟨n, h1, h2, rfl⟩
    exact (zinN (by omega) ha hm).mpr ⟨h1, h2⟩
theorem g179_0 {d c s : Nat} {x : Int32} {m : Nat} {X : zM} {ρ : Nat → Nat → Int32} {l : Nat → Nat → Int64} {Q : Option zV → zM → Prop} (e1 : ρ 0 7 = nI m) (nb_m : m < 5000)
    (b1 : ((lN 32) ≤ x.toInt64 ∧ x.toInt64 ≤ (lN 126)) → (¬ m = 60) → m < 60)
    (h1 : ((lN 32) ≤ x.toInt64 ∧ x.toInt64 ≤ (lN 126)) → (¬ m = 60) → Q (some (zi ((zu (zu ρ 5 m x) 0 7 (nI (m + 1))) 0 7))) (OM X 1 0 (zu (zu ρ 5 m x) 0 7 (nI (m + 1))) l))
    (h2 : ((lN 32) ≤ x.toInt64 ∧ x.toInt64 ≤ (lN 126)) → (m = 60) → Q (some (zi ((-3)))) (OM X 1 0 ρ l))
    (h3 : (¬ ((lN 32) ≤ x.toInt64 ∧ x.toInt64 ≤ (lN 126))) → Q (some (zi ((-1)))) (OM X 1 0 ρ l)) : Ev (d + 1) c s 179 0 [some (zr (some (1, 0, 0))), some (zi x)] [] (OM X 1 0 ρ l) Q := by
  refine Ew.ld f179_0 rfl rfl rfl rfl ?_
  refine Ew.op (st' := zl x.toInt64 :: _) f179_1 rfl rfl ?_
  refine Ew.op (st' := zl (lN 32) :: _) f179_2 rfl rfl ?_
  refine Ew.op (st' := zl (lN 126) :: _) f179_5 rfl rfl ?_
  refine Ew.call0 (ls0 := [some (zl x.toInt64), none, some (zl (lN 32)), none, some (zl (lN 126)), none]) f179_8 rfl (Nat.le_of_ble_eq_true rfl) rfl rfl (Nat.le_of_ble_eq_true rfl) trivial (Nat.le_of_ble_eq_true rfl) rfl rfl ?_
  refine sp_in (fun c1 => ?_) (fun c1 => ?_)
  · refine Ew.ifc f179_11 rfl rfl (fun _ => ?_) (fun h => absurd (show ¬ ((nI 1) : Int32) = 0 by decide) h)
    refine Ew.ld f179_16 rfl rfl rfl rfl ?_
    refine Ew.getiV (v := nI m) f179_17 rfl (so_v e1) rfl ?_
    refine Ew.op (st' := zi (nI 60) :: _) f179_20 rfl rfl ?_
    refine Ew.icmp f179_22 rfl rfl (fun c2 => ?_) (fun c2 => ?_)
    · refine Ew.ld f179_28 rfl rfl rfl rfl ?_
      refine Ew.getp (v := some (1, 0, 5)) f179_29 rfl rfl rfl ?_
      refine Ew.ld f179_32 rfl rfl rfl rfl ?_
      refine Ew.getiV (v := nI m) f179_33 rfl (so_v e1) rfl ?_
      refine Ew.ld f179_36 rfl rfl rfl rfl ?_
      refine Ew.iastnO f179_37 (by decide) rfl (b1 c1 (fun e => c2 ((zeq nb_m (by decide)).mpr e))) (Nat.le_of_ble_eq_true rfl) rfl ?_
      refine Ew.ld f179_38 rfl rfl rfl rfl ?_
      refine Ew.op (st' := zr (some (1, 0, 0)) :: zr (some (1, 0, 0)) :: _) f179_39 rfl rfl ?_
      refine Ew.getiV (v := nI m) f179_40 rfl (so_v e1) rfl ?_
      refine Ew.op (st' := zi (nI 1) :: _) f179_43 rfl rfl ?_
      refine Ew.addn f179_44 rfl ?_
      refine Ew.putiO f179_45 rfl rfl ?_
      refine Ew.ld f179_48 rfl rfl rfl rfl ?_
      refine Ew.getiO f179_49 rfl rfl ?_
      refine Ew.ireti f179_52 ?_
      exact h1 c1 (fun e => c2 ((zeq nb_m (by decide)).mpr e))
    · refine Ew.op (st' := zi ((-3)) :: _) f179_25 rfl rfl ?_
      refine Ew.ireti f179_27 ?_
      exact h2 c1 ((zeq nb_m (by decide)).mp (Classical.not_not.mp c2))
  · refine Ew.ifc f179_11 rfl rfl (fun h => absurd h (show ¬ (¬ ((nI 0) : Int32) = 0) by decide)) (fun _ => ?_)
    refine Ew.op (st' := zi ((-1)) :: _) f179_14 rfl rfl ?_
    refine Ew.ireti f179_15 ?_
    exact h3 c1
def aType (σ : zSt) (x : Int32) : Int32 × zSt := match aIx x 127 with
  | none => (-1, σ)
  | some c => if c < 32 then (-1, σ) else if σ.T.length = 60 then (-3, σ) else (nI (σ.T.length + 1), (σ.1, σ.2.1, σ.2.2.1, σ.T ++ [c], σ.S))
theorem aIx_inv {x : Int32} {N c : Nat} (h : aIx x N = some c) : x = nI c ∧ c < N := by
  unfold aIx at h
  by_cases h0 : x < 0
  · rw [if_pos h0] at h; cases h
  · rw [if_neg h0] at h
    obtain ⟨j, hj, ej⟩ := nI_of h0
    rw [ej, nI_clamp hj] at h
    by_cases hn : N ≤ j
    · rw [if_pos hn] at h; cases h
    · rw [if_neg hn] at h
      injection h with h
      subst h
      exact ⟨ej, by omega⟩
theorem rp_type {d c s B : Nat} {x : Int32} {σ : zSt} {X : zM} {ρ : Nat → Nat → Int32} {l : Nat → Nat → Int64} {Q : Option zV → zM → Prop} (hG : zGood B σ) (hR : zRef ρ l σ) (k : ∀ ρ' l', zRef ρ' l' (aType σ x).2 → Q (some (zi (aType σ x).1)) (OM X 1 0 ρ' l')) : Ev (d + 1) c s 179 0 [some (zr (some (1, 0, 0))), some (zi x)] [] (OM X 1 0 ρ l) Q := by
  have h60 := hG.2.2.2.1.1
  have hT := hR.2.2.2.1
  unfold aType at k
  refine g179_0 (m := σ.T.length) hT.1 (by omega) (fun _ g => by omega) (fun h g => ?_) (fun h g => ?_) (fun h => ?_)
  · obtain ⟨c, hc1, hc2, rfl⟩ := (zrangeA x 32 126 (by decide) (by decide)).mp h
    rw [aIx_some (show c < 127 by omega) (by decide)] at k
    simp only [] at k
    rw [if_neg (by omega), if_neg g] at k
    rw [zu_s]
    refine k _ l ?_
    obtain ⟨r1, r2, r3, r4, r5, r6⟩ := hR
    have fr : ∀ q i, ¬ q = 5 → ¬ (q = 0 ∧ i = 7) → zu (zu ρ 5 σ.T.length (nI c)) 0 7 (nI (σ.T.length + 1)) q i = ρ q i := by
      intro q i a1 a2
      rw [zu_i_ne a2, zu_i_ne (fun e => a1 e.1)]
    have frr : ∀ q, ¬ q = 5 → ¬ q = 0 → zu (zu ρ 5 σ.T.length (nI c)) 0 7 (nI (σ.T.length + 1)) q = ρ q := fun q a1 a2 => funext fun i => fr q i a1 (fun e => a2 e.1)
    have tp : rTape (zu (zu ρ 5 σ.T.length (nI c)) 0 7 (nI (σ.T.length + 1))) (σ.T ++ [c]) := by
      refine ⟨?_, fun k hk => ?_⟩
      · rw [zu_s, List.length_append]
        rfl
      · have hk' := hk
        rw [List.length_append, List.length_singleton] at hk'
        rw [zu_i_ne (by omega)]
        by_cases e : k = σ.T.length
        · subst e
          rw [zu_s]
          simp
        · rw [zu_i_ne (by omega), List.getElem_append_left (by omega)]
          exact r4.2 k (by omega)
    refine ⟨(frr 1 (by decide) (by decide)).trans r1, ⟨(fr 0 2 (by decide) (by decide)).trans r2.1, r2.2.1, by rw [frr 2 (by decide) (by decide)]; exact r2.2.2⟩, ?_, tp, ?_, ?_⟩
    · show rImg _ σ.K
      unfold rImg at r3 ⊢
      rw [fr 0 5 (by decide) (by decide), frr 3 (by decide) (by decide), frr 4 (by decide) (by decide)]
      exact r3
    · show rShe _ l σ.S
      unfold rShe at r5 ⊢
      rw [frr 6 (by decide) (by decide), frr 7 (by decide) (by decide)]
      exact r5
    · show rTrs _ σ.w
      intro t ht
      have := r6 t ht
      unfold zTrR at this ⊢
      rw [frr 13 (by decide) (by decide), frr 14 (by decide) (by decide), frr 15 (by decide) (by decide), frr 16 (by decide) (by decide), frr 17 (by decide) (by decide), frr 18 (by decide) (by decide), frr 10 (by decide) (by decide), frr 11 (by decide) (by decide), frr 12 (by decide) (by decide)]
      exact this
  · obtain ⟨c, hc1, hc2, rfl⟩ := (zrangeA x 32 126 (by decide) (by decide)).mp h
    rw [aIx_some (show c < 127 by omega) (by decide)] at k
    simp only [] at k
    rw [if_neg (by omega), if_pos g] at k
    exact k _ _ hR
  · rcases hi : aIx x 127 with _ | c
    · rw [hi] at k
      exact k _ _ hR
    · rw [hi] at k
      simp only [] at k
      obtain ⟨e, hc⟩ := aIx_inv hi
      rw [if_pos (by
        refine Nat.lt_of_not_le fun hle => h ((zrangeA x 32 126 (by decide) (by decide)).mpr ⟨c, hle, by omega, e⟩))] at k
      exact k _ _ hR
/-- a program told -/
def aTxtW (t : Nat) (L : List Nat) (w : Nat → Int32) : Nat → Int32 := fun i => if i = 26 + 61 * t then nI L.length else if 26 + 61 * t + 1 ≤ i ∧ i < 26 + 61 * t + 61 then nI (L.getD (i - (26 + 61 * t + 1)) 0) else w i
def aProgW (t : Nat) (L : List Nat) (w : Nat → Int32) : Nat → Int32 := rIdleW t (aTxtW t L w)
def aProg (σ : zSt) (x : Int32) : Int32 × zSt := match aIx x 4 with
  | none => (-1, σ)
  | some t => if aBusy σ.w = 0 then (match aFlt σ.T with
    | some p => (-20 - nI p, (σ.1, σ.2.1, σ.2.2.1, [], σ.S))
    | none => if tOvB (aProgW t (aDense σ.T) σ.w) = true then (-3, (σ.1, σ.2.1, σ.2.2.1, [], σ.S)) else (nI (tTr (aProgW t (aDense σ.T) σ.w) t).n, (aProgW t (aDense σ.T) σ.w, hNote σ.H σ.w, σ.2.2.1, [], σ.S))) else (-2, (σ.1, σ.2.1, σ.2.2.1, [], σ.S))
theorem aProgW_hi {t : Nat} (ht : t < 4) (L : List Nat) (w : Nat → Int32) {i : Nat} (hi : 26 ≤ i) : aProgW t L w i = aTxtW t L w i := rIdleW_at _ (by omega)
theorem aProgW_tL {t : Nat} (ht : t < 4) {L : List Nat} (hL : L.length ≤ 60) (h127 : ∀ x, x ∈ L → x < 127) (w : Nat → Int32) : tL (aProgW t L w) t = L := by
  have e0 : aProgW t L w (26 + 61 * t) = nI L.length := by
    rw [aProgW_hi ht _ _ (by omega)]
    unfold aTxtW
    rw [if_pos rfl]
  unfold tL
  rw [e0, nI_clamp (by omega)]
  apply List.ext_getElem
  · rw [List.length_map, List.length_range]
  · intro k h1 h2
    rw [List.getElem_map, List.getElem_range, aProgW_hi ht _ _ (by omega)]
    unfold aTxtW
    rw [if_neg (by omega), if_pos (by omega), show 26 + 61 * t + 1 + k - (26 + 61 * t + 1) = k by omega, List.getD_eq_getElem?_getD, List.getElem?_eq_getElem h2]
    have := h127 _ (List.getElem_mem h2)
    show (nI L[k]).toNatClampNeg = _
    exact nI_clamp (by omega)
theorem aProgW_tb {w : Nat → Int32} (h : tTx w) {t : Nat} (ht : t < 4) {L : List Nat} (hb : isBody L) : tTb (aProgW t L w) := by
  have h127 : ∀ x, x ∈ L → x < 127 := fun x hx => (hb.2.1 x hx).2
  have eL := aProgW_tL ht hb.1 h127 w
  have e0 : aProgW t L w 0 = w 0 := by
    unfold aProgW
    rw [rIdleW_at _ (by omega)]
    unfold aTxtW
    rw [if_neg (by omega), if_neg (by omega)]
  have eG : tG (aProgW t L w) = tG w := by unfold tG; rw [e0]
  refine ⟨by rw [eG, e0]; exact h.1, fun u hu => ?_⟩
  by_cases e : u = t
  · subst e
    rw [eL]
    refine ⟨⟨?_, fun k hk => ?_⟩, hb⟩
    · rw [aProgW_hi ht _ _ (by omega)]
      unfold aTxtW
      rw [if_pos rfl]
    · have := hb.1
      rw [aProgW_hi ht _ _ (by omega)]
      unfold aTxtW
      rw [if_neg (by omega), if_pos (by omega), show 26 + 61 * u + 1 + k - (26 + 61 * u + 1) = k by omega, List.getD_eq_getElem?_getD, List.getElem?_eq_getElem hk]
      rfl
  · obtain ⟨⟨a1, a2⟩, a3, _⟩ := h.2 u hu
    have l60 := a3.1
    have eh : ∀ k, k ≤ 60 → aProgW t L w (26 + 61 * u + k) = w (26 + 61 * u + k) := by
      intro k hk
      rw [aProgW_hi ht _ _ (by omega)]
      unfold aTxtW
      rw [if_neg (by omega), if_neg (by omega)]
    have e1 : tL (aProgW t L w) u = tL w u := by
      have q0 : aProgW t L w (26 + 61 * u) = w (26 + 61 * u) := eh 0 (by omega)
      unfold tL
      rw [q0]
      apply List.map_congr_left
      intro k hk
      have hk := List.mem_range.mp hk
      rw [a1, nI_clamp (by omega)] at hk
      have := eh (1 + k) (by omega)
      rw [← Nat.add_assoc] at this
      rw [this]
    rw [e1]
    refine ⟨⟨(eh 0 (by omega)).trans a1, fun k hk => ?_⟩, a3⟩
    have := eh (1 + k) (by omega)
    rw [← Nat.add_assoc] at this
    rw [this]
    exact a2 k hk
theorem g188_0 {d c s : Nat} {x : Int32} {X : zM} {ρ : Nat → Nat → Int32} {l : Nat → Nat → Int64} {Q : Option zV → zM → Prop}
    (h1 : (lN 0 ≤ x.toInt64 ∧ x.toInt64 ≤ lN 3) → Ev (d + 1) 0 0 186 0 [some (zr (some (1, 0, 0))), none, none] [] (OM X 1 0 ρ l) (fun r M' => Ev (d + 2) c s 188 14 [some (zr (some (1, 0, 0))), some (zi x), none, none, none] (zpush r []) M' Q))
    (h2 : (¬ (lN 0 ≤ x.toInt64 ∧ x.toInt64 ≤ lN 3)) → Q (some (zi ((-1)))) (OM X 1 0 ρ l)) : Ev (d + 2) c s 188 0 [some (zr (some (1, 0, 0))), some (zi x), none, none, none] [] (OM X 1 0 ρ l) Q := by
  refine Ew.ld f188_0 rfl rfl rfl rfl ?_
  refine Ew.op (st' := zl x.toInt64 :: _) f188_1 rfl rfl ?_
  refine Ew.call0 (ls0 := [some (zl x.toInt64), none]) f188_2 rfl (Nat.le_of_ble_eq_true rfl) rfl rfl (Nat.le_of_ble_eq_true rfl) trivial (Nat.le_of_ble_eq_true rfl) rfl rfl ?_
  refine sp_isTask (fun c1 => ?_) (fun c1 => ?_)
  · refine Ew.ifc f188_5 rfl rfl (fun _ => ?_) (fun h => absurd (show ¬ ((nI 1) : Int32) = 0 by decide) h)
    refine Ew.ld f188_10 rfl rfl rfl rfl ?_
    refine Ew.call0 (ls0 := [some (zr (some (1, 0, 0))), none, none]) f188_11 rfl (Nat.le_of_ble_eq_true rfl) rfl rfl (Nat.le_of_ble_eq_true rfl) rfl (Nat.le_of_ble_eq_true rfl) rfl rfl ?_
    exact h1 c1
  · refine Ew.ifc f188_5 rfl rfl (fun h => absurd h (show ¬ (¬ ((nI 0) : Int32) = 0) by decide)) (fun _ => ?_)
    refine Ew.op (st' := zi ((-1)) :: _) f188_8 rfl rfl ?_
    refine Ew.ireti f188_9 ?_
    exact h2 c1
theorem g188_14 {d c s : Nat} {t b : Nat} {X : zM} {ρ : Nat → Nat → Int32} {l : Nat → Nat → Int64} {Q : Option zV → zM → Prop}
    (h1 : Ev d 0 0 180 0 [some (zr (some (1, 0, 0)))] [] (OM X 1 0 ρ l) (fun r M' => Ev (d + 1) c s 188 19 [some (zr (some (1, 0, 0))), some (zi (nI t)), some (zi (nI b)), none, none] (zpush r []) M' Q)) : Ev (d + 1) c s 188 14 [some (zr (some (1, 0, 0))), some (zi (nI t)), none, none, none] [zi (nI b)] (OM X 1 0 ρ l) Q := by
  refine Ew.sr (ls' := [some (zr (some (1, 0, 0))), some (zi (nI t)), some (zi (nI b)), none, none]) f188_14 rfl rfl (Nat.le_of_ble_eq_true rfl) rfl rfl ?_
  refine Ew.ld f188_15 rfl rfl rfl rfl ?_
  refine Ew.call0 (ls0 := [some (zr (some (1, 0, 0)))]) f188_16 rfl (Nat.le_of_ble_eq_true rfl) rfl rfl (Nat.le_of_ble_eq_true rfl) rfl (Nat.le_of_ble_eq_true rfl) rfl rfl ?_
  exact h1
theorem g188_19 {d c s : Nat} {t b x p : Nat} {w : Nat → Int32} {X : zM} {ρ : Nat → Nat → Int32} {l : Nat → Nat → Int64} {Q : Option zV → zM → Prop} (e1 : ρ 0 34 = nI p) (nb_b : b < 5000)
    (b1 : ((rBusy (zw (zu ρ 0 7 (nI 0)) w)) = 0) → (¬ b = 0) → ∀ ρ1 : Nat → Nat → Int32, (rHd (zu ρ 0 7 (nI 0)) w ρ1) → 26 + 61 * t < 270)
    (h1 : ((rBusy (zw (zu ρ 0 7 (nI 0)) w)) = 0) → (¬ b = 0) → ∀ ρ1 : Nat → Nat → Int32, (rHd (zu ρ 0 7 (nI 0)) w ρ1) → Ev (d + 2) c s 188 72 [some (zr (some (1, 0, 0))), some (zi (nI t)), some (zi (nI b)), some (zi (((-20)) - (nI p))), some (zi (nI 0))] [] (OM X 1 0 (zw ρ1 (zup w (26 + 61 * t) (ρ1 0 36))) l) Q)
    (h2 : ((rBusy (zw (zu ρ 0 7 (nI 0)) w)) = 0) → (b = 0) → Q (some (zi (((-20)) - (nI p)))) (OM X 1 0 (zw (zu ρ 0 7 (nI 0)) w) l))
    (h3 : (¬ (rBusy (zw (zu ρ 0 7 (nI 0)) w)) = 0) → Q (some (zi ((-2)))) (OM X 1 0 (zw (zu ρ 0 7 (nI 0)) w) l)) : Ev (d + 2) c s 188 19 [some (zr (some (1, 0, 0))), some (zi (nI t)), some (zi (nI b)), none, none] [zi (nI x)] (OM X 1 0 (zw ρ w) l) Q := by
  refine Ew.op f188_19 rfl rfl ?_
  refine Ew.op (st' := zi ((-20)) :: _) f188_20 rfl rfl ?_
  refine Ew.ld f188_22 rfl rfl rfl rfl ?_
  refine Ew.getiV (v := nI p) f188_23 rfl (so_v e1) rfl ?_
  refine Ew.op (st' := zi (((-20)) - (nI p)) :: _) f188_26 rfl rfl ?_
  refine Ew.sr (ls' := [some (zr (some (1, 0, 0))), some (zi (nI t)), some (zi (nI b)), some (zi (((-20)) - (nI p))), none]) f188_27 rfl rfl (Nat.le_of_ble_eq_true rfl) rfl rfl ?_
  refine Ew.ld f188_28 rfl rfl rfl rfl ?_
  refine Ew.op (st' := zi (nI 0) :: _) f188_29 rfl rfl ?_
  refine Ew.putiO f188_30 rfl rfl ?_
  rw [zw_uq _ _ (by decide)]
  refine Ew.ld f188_33 rfl rfl rfl rfl ?_
  refine Ew.call0 (ls0 := [some (zr (some (1, 0, 0))), none, none]) f188_34 rfl (Nat.le_of_ble_eq_true rfl) rfl rfl (Nat.le_of_ble_eq_true rfl) rfl (Nat.le_of_ble_eq_true rfl) rfl rfl ?_
  refine sp_isBusy ?_
  show Ev (d + 2) c s 188 37 [some (zr (some (1, 0, 0))), some (zi (nI t)), some (zi (nI b)), some (zi (((-20)) - (nI p))), none] [zi (rBusy (zw (zu ρ 0 7 (nI 0)) w))] (OM X 1 0 (zw (zu ρ 0 7 (nI 0)) w) l) Q
  refine Ew.ifc f188_37 rfl rfl (fun c1 => ?_) (fun c1 => ?_)
  · refine Ew.ld f188_43 rfl rfl rfl rfl ?_
    refine Ew.ifc f188_44 rfl rfl (fun c2 => ?_) (fun c2 => ?_)
    · refine Ew.ld f188_49 rfl rfl rfl rfl ?_
      refine Ew.call0 (ls0 := [some (zr (some (1, 0, 0))), none]) f188_50 rfl (Nat.le_of_ble_eq_true rfl) rfl rfl (Nat.le_of_ble_eq_true rfl) rfl (Nat.le_of_ble_eq_true rfl) rfl rfl ?_
      refine sp_holds' (fun ρ1 f1 => ?_)
      show Ev (d + 2) c s 188 53 [some (zr (some (1, 0, 0))), some (zi (nI t)), some (zi (nI b)), some (zi (((-20)) - (nI p))), none] [] (OM X 1 0 (zw ρ1 w) l) Q
      refine Ew.ld f188_53 rfl rfl rfl rfl ?_
      refine Ew.getp (v := some (1, 0, 1)) f188_54 rfl rfl rfl ?_
      refine Ew.op (st' := zi (nI 26) :: _) f188_57 rfl rfl ?_
      refine Ew.op (st' := zi (nI 61) :: _) f188_59 rfl rfl ?_
      refine Ew.ld f188_61 rfl rfl rfl rfl ?_
      refine Ew.muln f188_62 rfl ?_
      refine Ew.addn f188_63 rfl ?_
      refine Ew.ld f188_64 rfl rfl rfl rfl ?_
      refine Ew.getiO f188_65 rfl rfl ?_
      refine Ew.iastnO f188_68 (by decide) rfl (b1 c1 (fun e => c2 ((zeq nb_b (by decide)).mpr e)) ρ1 f1) (Nat.le_of_ble_eq_true rfl) rfl ?_
      rw [zw_up]
      refine Ew.op (st' := zi (nI 0) :: _) f188_69 rfl rfl ?_
      refine Ew.sr (ls' := [some (zr (some (1, 0, 0))), some (zi (nI t)), some (zi (nI b)), some (zi (((-20)) - (nI p))), some (zi (nI 0))]) f188_70 rfl rfl (Nat.le_of_ble_eq_true rfl) rfl rfl ?_
      exact h1 c1 (fun e => c2 ((zeq nb_b (by decide)).mpr e)) ρ1 f1
    · refine Ew.ld f188_47 rfl rfl rfl rfl ?_
      refine Ew.ireti f188_48 ?_
      exact h2 c1 ((zeq nb_b (by decide)).mp (Classical.not_not.mp c2))
  · refine Ew.op (st' := zi ((-2)) :: _) f188_40 rfl rfl ?_
    refine Ew.ireti f188_42 ?_
    exact h3 c1
theorem g188_72 {d c s : Nat} {t n k : Nat} {f : Int32} {w : Nat → Int32} {X : zM} {ρ : Nat → Nat → Int32} {l : Nat → Nat → Int64} {Q : Option zV → zM → Prop} (e1 : ρ 0 36 = nI n) (nb_k : k < 5000) (nb_n : n < 5000)
    (b1 : (60 ≤ k) → 10 + 4 * t < 270)
    (b2 : (60 ≤ k) → 10 + 4 * t + 1 < 270)
    (b3 : (60 ≤ k) → 10 + 4 * t + 2 < 270)
    (h1 : (60 ≤ k) → Ev (d + 1) 0 0 187 0 [some (zr (some (1, 0, 0))), none] [] (OM X 1 0 (zw ρ (zup (zup (zup w (10 + 4 * t) (nI 0)) (10 + 4 * t + 1) (nI 0)) (10 + 4 * t + 2) ((-4)))) l) (fun r M' => Ev (d + 2) c s 188 131 [some (zr (some (1, 0, 0))), some (zi (nI t)), some (zi (nI 1)), some (zi f), some (zi (nI k))] (zpush r []) M' Q))
    (b4 : (k < 60) → (n ≤ k) → 26 + 61 * t + 1 + k < 270)
    (h2 : (k < 60) → (n ≤ k) → Ev (d + 2) c s 188 72 [some (zr (some (1, 0, 0))), some (zi (nI t)), some (zi (nI 1)), some (zi f), some (zi (nI (k + 1)))] [] (OM X 1 0 (zw ρ (zup w (26 + 61 * t + 1 + k) (nI 0))) l) Q)
    (b5 : (k < 60) → (k < n) → k < 60)
    (b6 : (k < 60) → (k < n) → 26 + 61 * t + 1 + k < 270)
    (h3 : (k < 60) → (k < n) → Ev (d + 2) c s 188 72 [some (zr (some (1, 0, 0))), some (zi (nI t)), some (zi (nI 1)), some (zi f), some (zi (nI (k + 1)))] [] (OM X 1 0 (zw ρ (zup w (26 + 61 * t + 1 + k) (ρ 27 k))) l) Q) : Ev (d + 2) c s 188 72 [some (zr (some (1, 0, 0))), some (zi (nI t)), some (zi (nI 1)), some (zi f), some (zi (nI k))] [] (OM X 1 0 (zw ρ w) l) Q := by
  refine Ew.ld f188_72 rfl rfl rfl rfl ?_
  refine Ew.op (st' := zi (nI 60) :: _) f188_74 rfl rfl ?_
  refine Ew.icmp f188_76 rfl rfl (fun c1 => ?_) (fun c1 => ?_)
  · refine Ew.ld f188_122 rfl rfl rfl rfl ?_
    refine Ew.ld f188_123 rfl rfl rfl rfl ?_
    refine Ew.call0 (ls0 := [some (zr (some (1, 0, 0))), some (zi (nI t))]) f188_124 rfl (Nat.le_of_ble_eq_true rfl) rfl rfl (Nat.le_of_ble_eq_true rfl) rfl (Nat.le_of_ble_eq_true rfl) rfl rfl ?_
    refine Ew.ld f178_0 rfl rfl rfl rfl ?_
    refine Ew.ld f178_1 rfl rfl rfl rfl ?_
    refine Ew.op (st' := zi (nI 0) :: _) f178_2 rfl rfl ?_
    refine Ew.op (st' := zi (nI 0) :: _) f178_3 rfl rfl ?_
    refine Ew.call0 (ls0 := [some (zr (some (1, 0, 0))), some (zi (nI t)), some (zi (nI 0)), some (zi (nI 0))]) f178_4 rfl (Nat.le_of_ble_eq_true rfl) rfl rfl (Nat.le_of_ble_eq_true rfl) rfl (Nat.le_of_ble_eq_true rfl) rfl rfl ?_
    refine Ew.ld f157_0 rfl rfl rfl rfl ?_
    refine Ew.getp (v := some (1, 0, 1)) f157_1 rfl rfl rfl ?_
    refine Ew.op (st' := zi (nI 10) :: _) f157_4 rfl rfl ?_
    refine Ew.op (st' := zi (nI 4) :: _) f157_6 rfl rfl ?_
    refine Ew.ld f157_7 rfl rfl rfl rfl ?_
    refine Ew.muln f157_8 rfl ?_
    refine Ew.addn f157_9 rfl ?_
    refine Ew.ld f157_10 rfl rfl rfl rfl ?_
    refine Ew.addn f157_11 rfl ?_
    refine Ew.ld f157_12 rfl rfl rfl rfl ?_
    refine Ew.iastnO f157_13 (by decide) rfl (b1 ((zle_iff (by decide) nb_k).mp c1)) (Nat.le_of_ble_eq_true rfl) rfl ?_
    rw [zw_up]
    refine Ew.vret f157_14 ?_
    show Ev (d + 1) 0 0 178 7 [some (zr (some (1, 0, 0))), some (zi (nI t))] [] (OM X 1 0 (zw ρ (zup w (10 + 4 * t) (nI 0))) l) (fun r M' => Ev (d + 2) c s 188 127 [some (zr (some (1, 0, 0))), some (zi (nI t)), some (zi (nI 1)), some (zi f), some (zi (nI k))] (zpush r []) M' Q)
    refine Ew.ld f178_7 rfl rfl rfl rfl ?_
    refine Ew.ld f178_8 rfl rfl rfl rfl ?_
    refine Ew.op (st' := zi (nI 1) :: _) f178_9 rfl rfl ?_
    refine Ew.op (st' := zi (nI 0) :: _) f178_10 rfl rfl ?_
    refine Ew.call0 (ls0 := [some (zr (some (1, 0, 0))), some (zi (nI t)), some (zi (nI 1)), some (zi (nI 0))]) f178_11 rfl (Nat.le_of_ble_eq_true rfl) rfl rfl (Nat.le_of_ble_eq_true rfl) rfl (Nat.le_of_ble_eq_true rfl) rfl rfl ?_
    refine Ew.ld f157_0 rfl rfl rfl rfl ?_
    refine Ew.getp (v := some (1, 0, 1)) f157_1 rfl rfl rfl ?_
    refine Ew.op (st' := zi (nI 10) :: _) f157_4 rfl rfl ?_
    refine Ew.op (st' := zi (nI 4) :: _) f157_6 rfl rfl ?_
    refine Ew.ld f157_7 rfl rfl rfl rfl ?_
    refine Ew.muln f157_8 rfl ?_
    refine Ew.addn f157_9 rfl ?_
    refine Ew.ld f157_10 rfl rfl rfl rfl ?_
    refine Ew.addn f157_11 rfl ?_
    refine Ew.ld f157_12 rfl rfl rfl rfl ?_
    refine Ew.iastnO f157_13 (by decide) rfl (b2 ((zle_iff (by decide) nb_k).mp c1)) (Nat.le_of_ble_eq_true rfl) rfl ?_
    rw [zw_up]
    refine Ew.vret f157_14 ?_
    show Ev (d + 1) 0 0 178 14 [some (zr (some (1, 0, 0))), some (zi (nI t))] [] (OM X 1 0 (zw ρ (zup (zup w (10 + 4 * t) (nI 0)) (10 + 4 * t + 1) (nI 0))) l) (fun r M' => Ev (d + 2) c s 188 127 [some (zr (some (1, 0, 0))), some (zi (nI t)), some (zi (nI 1)), some (zi f), some (zi (nI k))] (zpush r []) M' Q)
    refine Ew.ld f178_14 rfl rfl rfl rfl ?_
    refine Ew.ld f178_15 rfl rfl rfl rfl ?_
    refine Ew.op (st' := zi (nI 2) :: _) f178_16 rfl rfl ?_
    refine Ew.op (st' := zi ((-4)) :: _) f178_17 rfl rfl ?_
    refine Ew.call0 (ls0 := [some (zr (some (1, 0, 0))), some (zi (nI t)), some (zi (nI 2)), some (zi ((-4)))]) f178_19 rfl (Nat.le_of_ble_eq_true rfl) rfl rfl (Nat.le_of_ble_eq_true rfl) rfl (Nat.le_of_ble_eq_true rfl) rfl rfl ?_
    refine Ew.ld f157_0 rfl rfl rfl rfl ?_
    refine Ew.getp (v := some (1, 0, 1)) f157_1 rfl rfl rfl ?_
    refine Ew.op (st' := zi (nI 10) :: _) f157_4 rfl rfl ?_
    refine Ew.op (st' := zi (nI 4) :: _) f157_6 rfl rfl ?_
    refine Ew.ld f157_7 rfl rfl rfl rfl ?_
    refine Ew.muln f157_8 rfl ?_
    refine Ew.addn f157_9 rfl ?_
    refine Ew.ld f157_10 rfl rfl rfl rfl ?_
    refine Ew.addn f157_11 rfl ?_
    refine Ew.ld f157_12 rfl rfl rfl rfl ?_
    refine Ew.iastnO f157_13 (by decide) rfl (b3 ((zle_iff (by decide) nb_k).mp c1)) (Nat.le_of_ble_eq_true rfl) rfl ?_
    rw [zw_up]
    refine Ew.vret f157_14 ?_
    show Ev (d + 1) 0 0 178 22 [some (zr (some (1, 0, 0))), some (zi (nI t))] [] (OM X 1 0 (zw ρ (zup (zup (zup w (10 + 4 * t) (nI 0)) (10 + 4 * t + 1) (nI 0)) (10 + 4 * t + 2) ((-4)))) l) (fun r M' => Ev (d + 2) c s 188 127 [some (zr (some (1, 0, 0))), some (zi (nI t)), some (zi (nI 1)), some (zi f), some (zi (nI k))] (zpush r []) M' Q)
    refine Ew.vret f178_22 ?_
    show Ev (d + 2) c s 188 127 [some (zr (some (1, 0, 0))), some (zi (nI t)), some (zi (nI 1)), some (zi f), some (zi (nI k))] [] (OM X 1 0 (zw ρ (zup (zup (zup w (10 + 4 * t) (nI 0)) (10 + 4 * t + 1) (nI 0)) (10 + 4 * t + 2) ((-4)))) l) Q
    refine Ew.ld f188_127 rfl rfl rfl rfl ?_
    refine Ew.call0 (ls0 := [some (zr (some (1, 0, 0))), none]) f188_128 rfl (Nat.le_of_ble_eq_true rfl) rfl rfl (Nat.le_of_ble_eq_true rfl) rfl (Nat.le_of_ble_eq_true rfl) rfl rfl ?_
    exact h1 ((zle_iff (by decide) nb_k).mp c1)
  · refine Ew.ld f188_79 rfl rfl rfl rfl ?_
    refine Ew.getp (v := some (1, 0, 1)) f188_80 rfl rfl rfl ?_
    refine Ew.op (st' := zi (nI 26) :: _) f188_83 rfl rfl ?_
    refine Ew.op (st' := zi (nI 61) :: _) f188_85 rfl rfl ?_
    refine Ew.ld f188_87 rfl rfl rfl rfl ?_
    refine Ew.muln f188_88 rfl ?_
    refine Ew.addn f188_89 rfl ?_
    refine Ew.op (st' := zi (nI 1) :: _) f188_90 rfl rfl ?_
    refine Ew.addn f188_91 rfl ?_
    refine Ew.ld f188_92 rfl rfl rfl rfl ?_
    refine Ew.addn f188_94 rfl ?_
    refine Ew.ld f188_95 rfl rfl rfl rfl ?_
    refine Ew.ld f188_97 rfl rfl rfl rfl ?_
    refine Ew.getiV (v := nI n) f188_98 rfl (so_v e1) rfl ?_
    refine Ew.icmp f188_101 rfl rfl (fun c2 => ?_) (fun c2 => ?_)
    · refine Ew.op (st' := zi (nI 0) :: _) f188_114 rfl rfl ?_
      refine Ew.iastnO f188_115 (by decide) rfl (b4 (Nat.not_le.mp fun e => c1 ((zle_iff (by decide) nb_k).mpr e)) ((zle_iff nb_n nb_k).mp c2)) (Nat.le_of_ble_eq_true rfl) rfl ?_
      rw [zw_up]
      refine Ew.iinc (v := nI (k + 1)) (ls' := [some (zr (some (1, 0, 0))), some (zi (nI t)), some (zi (nI 1)), some (zi f), some (zi (nI (k + 1)))]) f188_116 rfl (nI_1 _) rfl rfl ?_
      refine Ew.goto f188_119 rfl ?_
      exact h2 (Nat.not_le.mp fun e => c1 ((zle_iff (by decide) nb_k).mpr e)) ((zle_iff nb_n nb_k).mp c2)
    · refine Ew.ld f188_104 rfl rfl rfl rfl ?_
      refine Ew.getp (v := some (1, 0, 27)) f188_105 rfl rfl rfl ?_
      refine Ew.ld f188_108 rfl rfl rfl rfl ?_
      refine Ew.ialdnO f188_110 rfl (b5 (Nat.not_le.mp fun e => c1 ((zle_iff (by decide) nb_k).mpr e)) (Nat.not_le.mp fun e => c2 ((zle_iff nb_n nb_k).mpr e))) (Nat.le_of_ble_eq_true rfl) rfl ?_
      refine Ew.goto f188_111 rfl ?_
      refine Ew.iastnO f188_115 (by decide) rfl (b6 (Nat.not_le.mp fun e => c1 ((zle_iff (by decide) nb_k).mpr e)) (Nat.not_le.mp fun e => c2 ((zle_iff nb_n nb_k).mpr e))) (Nat.le_of_ble_eq_true rfl) rfl ?_
      rw [zw_up]
      refine Ew.iinc (v := nI (k + 1)) (ls' := [some (zr (some (1, 0, 0))), some (zi (nI t)), some (zi (nI 1)), some (zi f), some (zi (nI (k + 1)))]) f188_116 rfl (nI_1 _) rfl rfl ?_
      refine Ew.goto f188_119 rfl ?_
      exact h3 (Nat.not_le.mp fun e => c1 ((zle_iff (by decide) nb_k).mpr e)) (Nat.not_le.mp fun e => c2 ((zle_iff nb_n nb_k).mpr e))
theorem g188_131 {d c s : Nat} {t k : Nat} {f : Int32} {w : Nat → Int32} {X : zM} {ρ : Nat → Nat → Int32} {l : Nat → Nat → Int64} {Q : Option zV → zM → Prop}
    (b1 : t < 4)
    (h1 : Q (some (zi (ρ 13 t))) (OM X 1 0 (zw ρ w) l)) : Ev d c s 188 131 [some (zr (some (1, 0, 0))), some (zi (nI t)), some (zi (nI 1)), some (zi f), some (zi (nI k))] [zi (nI 1)] (OM X 1 0 (zw ρ w) l) Q := by
  refine Ew.ifc f188_131 rfl rfl (fun h => absurd h (show ¬ (((nI 1) : Int32) = 0) by decide)) (fun _ => ?_)
  refine Ew.ld f188_134 rfl rfl rfl rfl ?_
  refine Ew.getp (v := some (1, 0, 13)) f188_135 rfl rfl rfl ?_
  refine Ew.ld f188_138 rfl rfl rfl rfl ?_
  refine Ew.ialdnO f188_139 rfl b1 (Nat.le_of_ble_eq_true rfl) rfl ?_
  refine Ew.goto f188_140 rfl ?_
  refine Ew.ireti f188_145 ?_
  exact h1
theorem g188_131z {d c s : Nat} {t k : Nat} {f : Int32} {w : Nat → Int32} {X : zM} {ρ : Nat → Nat → Int32} {l : Nat → Nat → Int64} {Q : Option zV → zM → Prop}
    (h1 : Q (some (zi ((-3)))) (OM X 1 0 (zw ρ w) l)) : Ev d c s 188 131 [some (zr (some (1, 0, 0))), some (zi (nI t)), some (zi (nI 1)), some (zi f), some (zi (nI k))] [zi (nI 0)] (OM X 1 0 (zw ρ w) l) Q := by
  refine Ew.ifc f188_131 rfl rfl (fun _ => ?_) (fun h => absurd (show ((nI 0) : Int32) = 0 by decide) h)
  refine Ew.op (st' := zi ((-3)) :: _) f188_143 rfl rfl ?_
  refine Ew.ireti f188_145 ?_
  exact h1
/-- so many letters of the text are laid -/
def aTxtL (t : Nat) (L : List Nat) (w : Nat → Int32) (n : Nat) : Nat → Int32 := fun i => if i = 26 + 61 * t then nI L.length else if 26 + 61 * t + 1 ≤ i ∧ i < 26 + 61 * t + 1 + n then nI (L.getD (i - (26 + 61 * t + 1)) 0) else w i
theorem aTxtL_s (t : Nat) (L : List Nat) (w : Nat → Int32) (n : Nat) : zup (aTxtL t L w n) (26 + 61 * t + 1 + n) (nI (L.getD n 0)) = aTxtL t L w (n + 1) := by
  funext i
  unfold zup aTxtL
  by_cases e : i = 26 + 61 * t + 1 + n
  · subst e
    rw [if_pos rfl, if_neg (by omega), if_pos (by omega), show 26 + 61 * t + 1 + n - (26 + 61 * t + 1) = n by omega]
  · rw [if_neg e]
    by_cases e2 : i = 26 + 61 * t
    · rw [if_pos e2, if_pos e2]
    · rw [if_neg e2, if_neg e2]
      by_cases e3 : 26 + 61 * t + 1 ≤ i ∧ i < 26 + 61 * t + 1 + n
      · rw [if_pos e3, if_pos (by omega)]
      · rw [if_neg e3, if_neg (by omega)]
theorem aTxtL_0 (t : Nat) (L : List Nat) (w : Nat → Int32) : zup w (26 + 61 * t) (nI L.length) = aTxtL t L w 0 := by
  funext i
  unfold zup aTxtL
  by_cases e : i = 26 + 61 * t
  · rw [if_pos e, if_pos e]
  · rw [if_neg e, if_neg e, if_neg (by omega)]
theorem rp_program {d c s B : Nat} {x : Int32} {σ : zSt} {X : zM} {ρ : Nat → Nat → Int32} {l : Nat → Nat → Int64} {Q : Option zV → zM → Prop} (hG : zGood B σ) (hR : zRef ρ l σ) (k : ∀ ρ' l', zRef ρ' l' (aProg σ x).2 → Q (some (zi (aProg σ x).1)) (OM X 1 0 ρ' l')) : Ev (d + 7) c s 188 0 [some (zr (some (1, 0, 0))), some (zi x), none, none, none] [] (OM X 1 0 ρ l) Q := by
  have hTx := hG.1.2.1
  obtain ⟨h60, h32⟩ := hG.2.2.2.1
  have h127 : ∀ x, x ∈ σ.T → x < 127 := fun x hx => (h32 x hx).2
  have hTp := hR.2.2.2.1
  unfold aProg at k
  refine g188_0 (fun h => ?_) (fun h => ?_)
  · obtain ⟨t, ht, rfl⟩ := zrangeL (by decide) h
    have ht : t < 4 := ht
    rw [aIx_some ht (by decide)] at k
    simp only [] at k
    -- behind the reading
    have aft : ∀ (b p : Nat) (ρ1 : Nat → Nat → Int32) (O D : List Nat), kR ρ ρ1 p O D → (b = 0 → aFlt σ.T = some p) → (¬ b = 0 → b = 1 ∧ aFlt σ.T = none ∧ D = aDense σ.T) → ∀ y, Ev (d + 7) c s 188 19 [some (zr (some (1, 0, 0))), some (zi (nI t)), some (zi (nI b)), none, none] [zi (nI y)] (OM X 1 0 ρ1 l) Q := by
      intro b p ρ1 O D h1 hb0 hb1 y
      have hb5 : b < 5000 := by
        by_cases e : b = 0
        · omega
        · have := (hb1 e).1; omega
      have f1 : ρ1 1 = σ.w := by
        rw [← hR.1]
        funext i
        exact h1.2.2.2 1 i (by unfold kScr; omega)
      have ew : zw ρ1 σ.w = ρ1 := by rw [← f1]; exact zw_id ρ1
      rw [← ew]
      have fq : ∀ q, ¬ q = 0 → ¬ q = 19 → ¬ q = 27 → ρ1 q = ρ q := fun q a1 a2 a3 => funext fun i => h1.2.2.2 q i (by unfold kScr; omega)
      -- the frame, the tape being empty
      have hrest : rRest (zu ρ1 0 7 (nI 0)) l (σ.1, σ.2.1, σ.2.2.1, [], σ.S) := by
        obtain ⟨r1, r2, r3, r4, r5, r6⟩ := hR
        refine ⟨?_, ⟨zu_s _ _ _ _, fun k hk => absurd hk (Nat.not_lt_zero k)⟩, ?_⟩
        · show rImg _ σ.K
          unfold rImg at r3 ⊢
          have z3 : zu ρ1 0 7 (nI 0) 3 = ρ 3 := by rw [zu_q _ _ _ _ (by decide)]; exact fq 3 (by decide) (by decide) (by decide)
          have z4 : zu ρ1 0 7 (nI 0) 4 = ρ 4 := by rw [zu_q _ _ _ _ (by decide)]; exact fq 4 (by decide) (by decide) (by decide)
          have z5 : zu ρ1 0 7 (nI 0) 0 5 = ρ 0 5 := by rw [zu_i_ne (by decide)]; exact h1.2.2.2 0 5 (by unfold kScr; omega)
          rw [z3, z4, z5]
          exact r3
        · show rShe _ l σ.S
          unfold rShe at r5 ⊢
          have z6 : zu ρ1 0 7 (nI 0) 6 = ρ 6 := by rw [zu_q _ _ _ _ (by decide)]; exact fq 6 (by decide) (by decide) (by decide)
          have z7 : zu ρ1 0 7 (nI 0) 7 = ρ 7 := by rw [zu_q _ _ _ _ (by decide)]; exact fq 7 (by decide) (by decide) (by decide)
          rw [z6, z7]
          exact r5
      have hH : rHs (zu ρ1 0 7 (nI 0)) σ.H := by
        obtain ⟨r1, r2, r3⟩ := hR.2.1
        refine ⟨?_, r2, ?_⟩
        · rw [zu_i_ne (by omega), h1.2.2.2 0 2 (by unfold kScr; omega)]; exact r1
        · rw [zu_q _ _ _ _ (by decide), fq 2 (by decide) (by decide) (by decide)]; exact r3
      have hTr : rTrs (zu ρ1 0 7 (nI 0)) σ.w := by
        intro u hu
        have := hR.2.2.2.2.2 u hu
        unfold zTrR at this ⊢
        have fz : ∀ q, 10 ≤ q → q ≤ 18 → zu ρ1 0 7 (nI 0) q = ρ q := fun q a1 a2 => by rw [zu_q _ _ _ _ (by omega), fq q (by omega) (by omega) (by omega)]
        rw [fz 13 (by decide) (by decide), fz 14 (by decide) (by decide), fz 15 (by decide) (by decide), fz 16 (by decide) (by decide), fz 17 (by decide) (by decide), fz 18 (by decide) (by decide), fz 10 (by decide) (by decide), fz 11 (by decide) (by decide), fz 12 (by decide) (by decide)]
        exact this
      have same : zRef (zw (zu ρ1 0 7 (nI 0)) σ.w) l (σ.1, σ.2.1, σ.2.2.1, [], σ.S) := zRef_mk (σ := (σ.1, σ.2.1, σ.2.2.1, [], σ.S)) hrest hH hTr
      have eB : rBusy (zw (zu ρ1 0 7 (nI 0)) σ.w) = aBusy σ.w := rBusyL_zw _ _ _ _
      refine g188_19 (p := p) h1.1 hb5 (fun _ _ _ _ => by omega) (fun hz hb ρ2 hd => ?_) (fun hz hb => ?_) (fun hz => ?_)
      · rw [eB] at hz
        obtain ⟨rfl, hfl, hD⟩ := hb1 hb
        rw [if_pos hz, hfl] at k
        simp only [] at k
        have e36 : ρ2 0 36 = nI (aDense σ.T).length := by
          rw [hd.2.1, zu_i_ne (by omega), ← hD]
          exact h1.2.1.1
        have e27 : ∀ j, j < (aDense σ.T).length → ρ2 27 j = nI ((aDense σ.T).getD j 0) := by
          intro j hj
          rw [hd.1.row (by decide) (by decide) (by decide) (by decide), zu_q _ _ _ _ (by decide), h1.2.1.2 j (by rw [hD]; exact hj)]
          subst hD
          rw [List.getD_eq_getElem?_getD, List.getElem?_eq_getElem hj]
          rfl
        have hlen := aDense_len σ.T
        rw [e36, aTxtL_0]
        refine loopN (fun n => Ev (d + 7) c s 188 72 [some (zr (some (1, 0, 0))), some (zi (nI t)), some (zi (nI 1)), some (zi (-20 - nI p)), some (zi (nI n))] [] (OM X 1 0 (zw ρ2 (aTxtL t (aDense σ.T) σ.w n)) l) Q) 60 (fun n hn hE => ?_) ?_
        · rw [← aTxtL_s] at hE
          refine g188_72 e36 (by omega) (by omega) (fun g => by omega) (fun g => by omega) (fun g => by omega) (fun g => by omega) (fun _ _ => by omega) (fun _ g => ?_) (fun _ _ => hn) (fun _ _ => by omega) (fun _ g => ?_)
          · rw [List.getD_eq_getElem?_getD, List.getElem?_eq_none g] at hE
            exact hE
          · rw [e27 n g]
            exact hE
        · refine g188_72 e36 (by omega) (by omega) (fun _ => by omega) (fun _ => by omega) (fun _ => by omega) (fun _ => ?_) (fun g => by omega) (fun g => by omega) (fun g => by omega) (fun g => by omega) (fun g => by omega)
          have ee : aTxtL t (aDense σ.T) σ.w 60 = aTxtW t (aDense σ.T) σ.w := rfl
          show Ev (d + 6) 0 0 187 0 _ [] (OM X 1 0 (zw ρ2 (aProgW t (aDense σ.T) σ.w)) l) _
          have hb := aFlt_body hfl h60 h32
          refine sp_isKept (w := σ.w) (H := σ.H) (σ := (σ.1, σ.2.1, σ.2.2.1, [], σ.S)) (aProgW_tb hTx ht hb) hTx hd.2.2.2 (fun i hi => ?_) (rHs_hd hH hd) (hrest.fr hd.1) (fun ho ρ3 q1 q2 q3 => ?_) (fun ho ρ3 q1 q2 q3 => ?_)
          · rw [aProgW_hi ht _ _ (by omega)]
            unfold aTxtW
            rw [if_neg (by omega), if_neg (by omega)]
          · rw [if_neg (fun e => ho ((tOvB_iff _).mp e))] at k
            refine g188_131 ht ?_
            rw [(q3 t ht).1]
            exact k _ _ (zRef_mk q1 q2 q3)
          · rw [if_pos ((tOvB_iff _).mpr ho)] at k
            exact g188_131z (k _ _ (zRef_mk q1 q2 q3))
      · rw [eB] at hz
        rw [if_pos hz, hb0 hb] at k
        exact k _ _ same
      · rw [eB] at hz
        rw [if_neg hz] at k
        exact k _ _ same
    refine sp_isBody h60 h32 hTp (fun hf ρ1 h1 => ?_) (fun ρ1 p1 O1 D1 h1 hp1 hN1 hf => ?_)
    · refine g188_14 (b := 1) (sp_here h60 h127 hTp 0 σ.T.length ρ1 (by omega) h1 (fun ρ2 p2 h2 _ _ _ _ => ?_))
      exact aft 1 p2 ρ2 _ _ h2 (fun e => absurd e (by decide)) (fun _ => ⟨rfl, hf, rfl⟩) _
    · refine g188_14 (b := 0) (sp_here h60 h127 hTp (σ.T.length - p1) p1 ρ1 (by omega) h1 (fun ρ2 p2 h2 _ _ _ e2 => ?_))
      have e2 := e2 hN1
      subst e2
      exact aft 0 p2 ρ2 _ _ h2 (fun _ => hf) (fun e => absurd rfl e) _
  · rw [zrangeN (by decide) h] at k
    exact k _ _ hR
