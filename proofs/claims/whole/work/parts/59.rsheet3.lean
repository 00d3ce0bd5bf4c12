/-! the reference: items, films, copies -/
theorem rShe_items {ρ : Nat → Nat → Int32} {l l' : Nat → Nat → Int64} {S : Nat → Option (Nat × Nat × (Nat → Int64))} (h : rShe ρ l S) (hz : ∀ j x, j < 4 → S j = some x → x.1 < 4 ∧ x.2.1 ≤ 24) {j : Nat} (hj : j < 4) {z : Nat × Nat × (Nat → Int64)} (e : S j = some z) (hf : ∀ i, ¬ (24 * j ≤ i ∧ i < 24 * j + 24) → l' 8 i = l 8 i) {g : Nat → Int64} (hg : ∀ i, i < z.2.1 → l' 8 (24 * j + i) = g i) : rShe ρ l' (zup S j (some (z.1, z.2.1, g))) := by
  intro v hv
  by_cases ev : v = j
  · subst ev
    rw [zup_s]
    have := h v hv
    rw [e] at this
    exact ⟨this.1, this.2.1, hg⟩
  · rw [zup_n _ _ ev]
    have := h v hv
    rcases e2 : S v with _ | y
    · rw [e2] at this
      exact this
    · rw [e2] at this
      obtain ⟨g1, g2⟩ := hz v y hv e2
      refine ⟨this.1, this.2.1, fun i hi => ?_⟩
      have hi : i < y.2.1 := hi
      rw [hf _ (by omega)]
      exact this.2.2 i hi
theorem aFnd_ok {o : Option (Nat × Nat × (Nat → Int64))} {x i : Int32} {n : Nat} (h : 0 ≤ aFnd o x i n) : ∃ z m, o = some z ∧ nI z.1 = x ∧ i = nI m ∧ m + n ≤ z.2.1 ∧ m < 2 ^ 31 ∧ aFnd o x i n = 0 := by
  unfold aFnd at h ⊢
  cases o with
  | none => exact absurd (show (0 : Int32) ≤ -11 from h) (by decide)
  | some z =>
    simp only [] at h ⊢
    by_cases h1 : nI z.1 = x
    · rw [if_pos h1] at h ⊢
      by_cases h2 : 0 ≤ i.toInt ∧ i.toInt + n ≤ z.2.1
      · rw [if_pos h2]
        have h0 : ¬ i < 0 := by
          intro g
          have := Int32.lt_iff_toInt_lt.mp g
          rw [show (0 : Int32).toInt = 0 from rfl] at this
          omega
        obtain ⟨m, hm, e⟩ := nI_of h0
        subst e
        rw [nI_toInt hm] at h2
        exact ⟨z, m, rfl, h1, rfl, by omega, hm, rfl⟩
      · rw [if_neg h2] at h
        exact absurd h (by decide)
    · rw [if_neg h1] at h
      exact absurd h (by decide)
def aItem (σ : zSt) (a x i : Int32) (v : Int64) : Int32 × zSt := match aIx a 4, aIx x 4 with
  | some j, some _ => if aFnd (σ.S j) x i 1 < 0 then (aFnd (σ.S j) x i 1, σ) else (match σ.S j with
    | some z => (nI 1, aSh σ j (some (z.1, z.2.1, zup z.2.2 i.toNatClampNeg (aCut x v))))
    | none => (-1, σ))
  | _, _ => (-1, σ)
theorem rp_item {d c s B : Nat} {a x i : Int32} {v : Int64} {σ : zSt} {X : zM} {ρ : Nat → Nat → Int32} {l : Nat → Nat → Int64} {Q : Option zV → zM → Prop} (hG : zGood B σ) (hR : zRef ρ l σ) (k : ∀ ρ' l', zRef ρ' l' (aItem σ a x i v).2 → Q (some (zi (aItem σ a x i v).1)) (OM X 1 0 ρ' l')) : Ev (d + 2) c s 242 0 [some (zr (some (1, 0, 0))), some (zi a), some (zi x), some (zi i), some (zl v), none, none] [] (OM X 1 0 ρ l) Q := by
  unfold aItem at k
  refine g242_0 (fun h hx => ?_) (fun h hx => ?_) (fun h => ?_)
  · obtain ⟨j, hj, rfl⟩ := zrangeL (by decide) h
    have hj : j < 4 := hj
    obtain ⟨y, hy, rfl⟩ := zrangeL (by decide) hx
    have hy : y < 4 := hy
    rw [aIx_some hj (by decide), aIx_some hy (by decide)] at k
    simp only [] at k
    refine g242_21 (sp_found hG hR.2.2.2.2.1 hj (by decide) (g242_29 (fun hf => ?_) (fun hf => ?_)))
    · rw [if_neg (Int32.not_lt.mpr hf)] at k
      obtain ⟨z, m, e1, e2, e3, e4, hm31, e5⟩ := aFnd_ok hf
      subst e3
      obtain ⟨z4, z24⟩ := hG.2.2.2.2 j z hj e1
      rw [e1] at k
      simp only [] at k
      rw [nI_clamp hm31] at k
      refine g242_39 (by omega) (k _ _ (hR.sheet (fun _ _ _ _ => rfl) (rShe_items hR.2.2.2.2.1 hG.2.2.2.2 hj e1 (fun i hi => zu_i_ne (by omega)) (fun i hi => ?_))))
      by_cases e : i = m
      · subst e
        rw [zu_s, zup_s]
      · rw [zu_i_ne (by omega), zup_n _ _ e]
        have := hR.2.2.2.2.1 j hj
        rw [e1] at this
        exact this.2.2 i hi
    · rw [if_pos hf] at k
      exact k _ _ hR
  · obtain ⟨j, hj, rfl⟩ := zrangeL (by decide) h
    rw [aIx_some (N := 4) hj (by decide), zrangeN (m := 3) (by decide) hx] at k
    exact k _ _ hR
  · rw [zrangeN (m := 3) (by decide) h] at k
    exact k _ _ hR
def aFilmG (w : Nat → Int32) (x : Int32) (m : Nat) (g : Nat → Int64) (n : Nat) : Nat → Int64 := fun u => if m ≤ u ∧ u < m + n then aCut x ((w (10 + 4 * (u - m) + 1)).toInt64) else g u
def aFilm (σ : zSt) (a x i : Int32) : Int32 × zSt := match aIx a 4, aIx x 4 with
  | some j, some _ => if aFnd (σ.S j) x i 4 < 0 then (aFnd (σ.S j) x i 4, σ) else (match σ.S j with
    | some z => (nI 4, aSh σ j (some (z.1, z.2.1, aFilmG σ.w x i.toNatClampNeg z.2.2 4)))
    | none => (-1, σ))
  | _, _ => (-1, σ)
theorem rp_film {d c s B : Nat} {a x i : Int32} {σ : zSt} {X : zM} {ρ : Nat → Nat → Int32} {l : Nat → Nat → Int64} {Q : Option zV → zM → Prop} (hG : zGood B σ) (hR : zRef ρ l σ) (k : ∀ ρ' l', zRef ρ' l' (aFilm σ a x i).2 → Q (some (zi (aFilm σ a x i).1)) (OM X 1 0 ρ' l')) : Ev (d + 2) c s 239 0 [some (zr (some (1, 0, 0))), some (zi a), some (zi x), some (zi i), none, none] [] (OM X 1 0 ρ l) Q := by
  unfold aFilm at k
  refine g239_0 (fun h hx => ?_) (fun h hx => ?_) (fun h => ?_)
  · obtain ⟨j, hj, rfl⟩ := zrangeL (by decide) h
    have hj : j < 4 := hj
    obtain ⟨y, hy, rfl⟩ := zrangeL (by decide) hx
    have hy : y < 4 := hy
    rw [aIx_some hj (by decide), aIx_some hy (by decide)] at k
    simp only [] at k
    refine g239_21 (sp_found hG hR.2.2.2.2.1 hj (by decide) (g239_29 (fun hf => ?_) (fun hf => ?_)))
    · rw [if_neg (Int32.not_lt.mpr hf)] at k
      obtain ⟨z, m, e1, e2, e3, e4, hm31, e5⟩ := aFnd_ok hf
      subst e3
      obtain ⟨z4, z24⟩ := hG.2.2.2.2 j z hj e1
      rw [e1] at k
      simp only [] at k
      rw [nI_clamp hm31] at k
      refine g239_39 ?_
      have key : ∀ u t (l' : Nat → Nat → Int64), t + u = 4 → (∀ i, ¬ (24 * j ≤ i ∧ i < 24 * j + 24) → l' 8 i = l 8 i) → (∀ i, i < z.2.1 → l' 8 (24 * j + i) = aFilmG σ.w (nI y) m z.2.2 t i) → Ev (d + 2) c s 239 42 [some (zr (some (1, 0, 0))), some (zi (nI j)), some (zi (nI y)), some (zi (nI m)), some (zi (aFnd (σ.S j) (nI y) (nI m) 4)), some (zi (nI t))] [] (OM X 1 0 ρ l') Q := by
        intro u
        induction u with
        | zero =>
          intro t l' ht h1 h2
          have ht4 : t = 4 := by omega
          subst ht4
          refine g239_42 (by omega) (fun _ => ?_) (fun g => by omega) (fun g => by omega) (fun g => by omega)
          exact k _ _ (hR.sheet (fun _ _ _ _ => rfl) (rShe_items hR.2.2.2.2.1 hG.2.2.2.2 hj e1 h1 h2))
        | succ u ih =>
          intro t l' ht h1 h2
          refine g239_42 (by omega) (fun g => by omega) (fun _ => by omega) (fun _ => by omega) (fun _ => ih (t + 1) _ (by omega) (fun i hi => ?_) (fun i hi => ?_))
          · rw [zu_i_ne (by omega)]
            exact h1 i hi
          · by_cases e : i = m + t
            · subst e
              rw [show 24 * j + (m + t) = 24 * j + m + t by omega, zu_s, hR.1]
              unfold aFilmG
              rw [if_pos (by omega), show m + t - m = t by omega]
            · rw [zu_i_ne (by omega), h2 i hi]
              unfold aFilmG
              by_cases e2 : m ≤ i ∧ i < m + t
              · rw [if_pos e2, if_pos (by omega)]
              · rw [if_neg e2, if_neg (by omega)]
      refine key 4 0 l (by omega) (fun _ _ => rfl) (fun i hi => ?_)
      have := hR.2.2.2.2.1 j hj
      rw [e1] at this
      unfold aFilmG
      rw [if_neg (by omega)]
      exact this.2.2 i hi
    · rw [if_pos hf] at k
      exact k _ _ hR
  · obtain ⟨j, hj, rfl⟩ := zrangeL (by decide) h
    rw [aIx_some (N := 4) hj (by decide), zrangeN (m := 3) (by decide) hx] at k
    exact k _ _ hR
  · rw [zrangeN (m := 3) (by decide) h] at k
    exact k _ _ hR
def aCopG (f g : Nat → Int64) (i k n : Nat) : Nat → Int64 := fun u => if k ≤ u ∧ u < k + n then f (i + (u - k)) else g u
def aCopy (σ : zSt) (a i b k n : Int32) : Int32 × zSt := match aIx a 4, aIx b 4 with
  | some p, some q => (match σ.S p, σ.S q with
    | some y, some z => if y.1 = z.1 then (if 0 ≤ n.toInt ∧ 0 ≤ i.toInt ∧ 0 ≤ k.toInt ∧ i.toInt + n.toInt ≤ y.2.1 ∧ k.toInt + n.toInt ≤ z.2.1 then (n, aSh σ q (some (z.1, z.2.1, aCopG y.2.2 z.2.2 i.toNatClampNeg k.toNatClampNeg n.toNatClampNeg))) else (-13, σ)) else (-12, σ)
    | _, _ => (-11, σ))
  | _, _ => (-1, σ)
theorem zge0 {x : Int32} : 0 ≤ x ↔ 0 ≤ x.toInt := by
  rw [Int32.le_iff_toInt_le]
  rfl
theorem zlt0 {x : Int32} : x < 0 ↔ x.toInt < 0 := by
  rw [Int32.lt_iff_toInt_lt]
  rfl
theorem zroomN {z : Nat} {n i : Int32} (hz : z < 5000) (hn : 0 ≤ n) (hi : 0 ≤ i) : n ≤ nI z - i ↔ i.toInt + n.toInt ≤ z := by
  obtain ⟨j, hj, rfl⟩ := nI_of (Int32.not_lt.mpr hi)
  rw [Int32.le_iff_toInt_le, zsubI hz hj, nI_toInt hj]
  omega
theorem rp_copy {d c s B : Nat} {a i b k n : Int32} {σ : zSt} {X : zM} {ρ : Nat → Nat → Int32} {l : Nat → Nat → Int64} {Q : Option zV → zM → Prop} (hG : zGood B σ) (hR : zRef ρ l σ) (kk : ∀ ρ' l', zRef ρ' l' (aCopy σ a i b k n).2 → Q (some (zi (aCopy σ a i b k n).1)) (OM X 1 0 ρ' l')) : Ev (d + 2) c s 243 0 [some (zr (some (1, 0, 0))), some (zi a), some (zi i), some (zi b), some (zi k), some (zi n), none] [] (OM X 1 0 ρ l) Q := by
  unfold aCopy at kk
  refine g243_0 (fun h hx => ?_) (fun h hx => ?_) (fun h => ?_)
  · obtain ⟨p, hp, rfl⟩ := zrangeL (by decide) h
    have hp : p < 4 := hp
    obtain ⟨q, hq, rfl⟩ := zrangeL (by decide) hx
    have hq : q < 4 := hq
    rw [aIx_some hp (by decide), aIx_some hq (by decide)] at kk
    simp only [] at kk
    have hSp := hR.2.2.2.2.1 p hp
    have hSq := hR.2.2.2.2.1 q hq
    rcases ep : σ.S p with _ | y
    · rw [ep] at hSp kk
      have hSp : ρ 6 p = -1 := hSp
      have kk := kk _ _ hR
      have neg : ¬ 0 ≤ ρ 6 p := by rw [hSp]; decide
      exact g243_16 hp (fun _ => kk) (fun _ => hq) (fun g => absurd g neg) (fun g => absurd g neg) (fun g => absurd g neg) (fun g => absurd g neg) (fun g => absurd g neg) (fun g => absurd g neg) (fun g => absurd g neg) (fun g => absurd g neg) (fun g => absurd g neg) (fun g => absurd g neg) (fun g => absurd g neg) (fun g => absurd g neg)
    · rw [ep] at hSp kk
      obtain ⟨hy1, hy2, hy3⟩ := hSp
      obtain ⟨y4, y24⟩ := hG.2.2.2.2 p y hp ep
      have pos : ¬ ρ 6 p < 0 := by rw [hy1]; exact nI_pos (by omega)
      rcases eq : σ.S q with _ | z
      · rw [eq] at hSq kk
        have hSq : ρ 6 q = -1 := hSq
        have kk := kk _ _ hR
        have neg : ¬ 0 ≤ ρ 6 q := by rw [hSq]; decide
        exact g243_16 hp (fun g => absurd g pos) (fun _ => hq) (fun _ g => absurd g neg) (fun _ g => absurd g neg) (fun _ g => absurd g neg) (fun _ g => absurd g neg) (fun _ g => absurd g neg) (fun _ g => absurd g neg) (fun _ g => absurd g neg) (fun _ g => absurd g neg) (fun _ g => absurd g neg) (fun _ g => absurd g neg) (fun _ g => absurd g neg) (fun _ _ => kk)
      · rw [eq] at hSq kk
        obtain ⟨hz1, hz2, hz3⟩ := hSq
        obtain ⟨z4, z24⟩ := hG.2.2.2.2 q z hq eq
        have posq : ¬ ρ 6 q < 0 := by rw [hz1]; exact nI_pos (by omega)
        simp only [] at kk
        have e6 : ρ 6 p = ρ 6 q ↔ y.1 = z.1 := by rw [hy1, hz1]; exact zeq (by omega) (by omega)
        by_cases hyz : y.1 = z.1
        · rw [if_pos hyz] at kk
          by_cases hr : 0 ≤ n.toInt ∧ 0 ≤ i.toInt ∧ 0 ≤ k.toInt ∧ i.toInt + n.toInt ≤ y.2.1 ∧ k.toInt + n.toInt ≤ z.2.1
          · rw [if_pos hr] at kk
            obtain ⟨r1, r2, r3, r4, r5⟩ := hr
            have n0 := zge0.mpr r1
            have i0 := zge0.mpr r2
            have k0 := zge0.mpr r3
            have c1 : n ≤ ρ 7 p - i := by rw [hy2]; exact (zroomN (by omega) n0 i0).mpr r4
            have c2 : n ≤ ρ 7 q - k := by rw [hz2]; exact (zroomN (by omega) n0 k0).mpr r5
            refine g243_16 hp (fun g => absurd g pos) (fun _ => hq) (fun _ _ => hp) (fun _ _ => hq) (fun _ _ _ g => absurd g (Int32.not_lt.mpr n0)) (fun _ _ _ _ g => absurd g (Int32.not_lt.mpr i0)) (fun _ _ _ _ _ g => absurd g (Int32.not_lt.mpr k0)) (fun _ _ _ _ _ _ => hp) (fun _ _ _ _ _ _ g => absurd g (Int32.not_lt.mpr c1)) (fun _ _ _ _ _ _ _ => hq) (fun _ _ _ _ _ _ _ _ => ?_) (fun _ _ _ _ _ _ _ g => absurd g (Int32.not_lt.mpr c2)) (fun _ _ g => absurd (e6.mpr hyz) g) (fun _ g => absurd g posq)
            obtain ⟨n', hn', rfl⟩ := nI_of (Int32.not_lt.mpr n0)
            obtain ⟨i', hi', rfl⟩ := nI_of (Int32.not_lt.mpr i0)
            obtain ⟨k', hk', rfl⟩ := nI_of (Int32.not_lt.mpr k0)
            rw [nI_toInt hn', nI_toInt hi'] at r4
            rw [nI_toInt hn', nI_toInt hk'] at r5
            rw [nI_clamp hn', nI_clamp hi', nI_clamp hk'] at kk
            refine g243_99 ?_
            -- taken, then put
            have put : ∀ u t (l' : Nat → Nat → Int64), t + u = n' → (∀ j, j < n' → l' 9 j = y.2.2 (i' + j)) → (∀ i, ¬ (24 * q ≤ i ∧ i < 24 * q + 24) → l' 8 i = l 8 i) → (∀ i, i < z.2.1 → l' 8 (24 * q + i) = aCopG y.2.2 z.2.2 i' k' t i) → Ev (d + 2) c s 243 139 [some (zr (some (1, 0, 0))), some (zi (nI p)), some (zi (nI i')), some (zi (nI q)), some (zi (nI k')), some (zi (nI n')), some (zi (nI t))] [] (OM X 1 0 ρ l') Q := by
              intro u
              induction u with
              | zero =>
                intro t l' ht h9 h1 h2
                have ht : t = n' := by omega
                subst ht
                refine g243_139 (by omega) (by omega) (fun _ => ?_) (fun g => by omega) (fun g => by omega) (fun g => by omega)
                exact kk _ _ (hR.sheet (fun _ _ _ _ => rfl) (rShe_items hR.2.2.2.2.1 hG.2.2.2.2 hq eq h1 h2))
              | succ u ih =>
                intro t l' ht h9 h1 h2
                refine g243_139 (by omega) (by omega) (fun g => by omega) (fun _ => by omega) (fun _ => by omega) (fun _ => ih (t + 1) _ (by omega) (fun j hj => ?_) (fun i hi => ?_) (fun i hi => ?_))
                · rw [zu_i_ne (by omega)]
                  exact h9 j hj
                · rw [zu_i_ne (by omega)]
                  exact h1 i hi
                · by_cases e : i = k' + t
                  · subst e
                    rw [show 24 * q + (k' + t) = 24 * q + k' + t by omega, zu_s, h9 t (by omega)]
                    unfold aCopG
                    rw [if_pos (by omega), show k' + t - k' = t by omega]
                  · rw [zu_i_ne (by omega), h2 i hi]
                    unfold aCopG
                    by_cases e2 : k' ≤ i ∧ i < k' + t
                    · rw [if_pos e2, if_pos (by omega)]
                    · rw [if_neg e2, if_neg (by omega)]
            have tak : ∀ u t (l' : Nat → Nat → Int64), t + u = n' → (∀ j, j < t → l' 9 j = y.2.2 (i' + j)) → (∀ i, l' 8 i = l 8 i) → Ev (d + 2) c s 243 102 [some (zr (some (1, 0, 0))), some (zi (nI p)), some (zi (nI i')), some (zi (nI q)), some (zi (nI k')), some (zi (nI n')), some (zi (nI t))] [] (OM X 1 0 ρ l') Q := by
              intro u
              induction u with
              | zero =>
                intro t l' ht h9 h8
                refine g243_102 (by omega) (by omega) (fun _ => ?_) (fun g => by omega) (fun g => by omega) (fun g => by omega)
                refine put n' 0 l' (by omega) (fun j hj => h9 j (by omega)) (fun i _ => h8 i) (fun i hi => ?_)
                unfold aCopG
                rw [if_neg (by omega), h8]
                exact hz3 i hi
              | succ u ih =>
                intro t l' ht h9 h8
                refine g243_102 (by omega) (by omega) (fun g => by omega) (fun _ => by omega) (fun _ => by omega) (fun _ => ih (t + 1) _ (by omega) (fun j hj => ?_) (fun i => ?_))
                · by_cases e : j = t
                  · subst e
                    rw [zu_s, h8, show 24 * p + i' + j = 24 * p + (i' + j) by omega]
                    exact hy3 _ (by omega)
                  · rw [zu_i_ne (by omega)]
                    exact h9 j (by omega)
                · rw [zu_i_ne (by omega)]
                  exact h8 i
            exact tak n' 0 l (by omega) (fun j hj => absurd hj (Nat.not_lt_zero j)) (fun _ => rfl)
          · rw [if_neg hr] at kk
            have kk := kk _ _ hR
            refine g243_16 hp (fun g => absurd g pos) (fun _ => hq) (fun _ _ => hp) (fun _ _ => hq) (fun _ _ _ _ => kk) (fun _ _ _ _ _ => kk) (fun _ _ _ _ _ _ => kk) (fun _ _ _ _ _ _ => hp) (fun _ _ _ _ _ _ _ => kk) (fun _ _ _ _ _ _ _ => hq) (fun _ _ _ n0 i0 k0 c1 c2 => ?_) (fun _ _ _ _ _ _ _ _ => kk) (fun _ _ g => absurd (e6.mpr hyz) g) (fun _ g => absurd g posq)
            exfalso
            rw [hy2] at c1
            rw [hz2] at c2
            exact hr ⟨zge0.mp n0, zge0.mp i0, zge0.mp k0, (zroomN (by omega) n0 i0).mp c1, (zroomN (by omega) n0 k0).mp c2⟩
        · rw [if_neg hyz] at kk
          have kk := kk _ _ hR
          have ne : ¬ ρ 6 p = ρ 6 q := fun e => hyz (e6.mp e)
          exact g243_16 hp (fun g => absurd g pos) (fun _ => hq) (fun _ _ => hp) (fun _ _ => hq) (fun _ _ g => absurd g ne) (fun _ _ g => absurd g ne) (fun _ _ g => absurd g ne) (fun _ _ g => absurd g ne) (fun _ _ g => absurd g ne) (fun _ _ g => absurd g ne) (fun _ _ g => absurd g ne) (fun _ _ g => absurd g ne) (fun _ _ _ => kk) (fun _ g => absurd g posq)
  · obtain ⟨j, hj, rfl⟩ := zrangeL (by decide) h
    rw [aIx_some (N := 4) hj (by decide), zrangeN (m := 3) (by decide) hx] at kk
    exact kk _ _ hR
  · rw [zrangeN (m := 3) (by decide) h] at kk
    exact kk _ _ hR
