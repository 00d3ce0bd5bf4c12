/-! the interpreter's memory beside the machine's heap -/
def zcv (ρ : zR → Nat) (v : zV) : Value := match v with
  | .inl x => .int x
  | .inr (.inl x) => .long x
  | .inr (.inr none) => .null
  | .inr (.inr (some r)) => .ref (ρ r)
theorem zcv_cat (ρ : zR → Nat) (v : zV) : (zcv ρ v).category = zcat v := by
  rcases v with x | x | _ | r <;> rfl
theorem zcv_cats (ρ : zR → Nat) (st : List zV) : ((st.map (zcv ρ)).map fun v => v.category).sum = zcats st := by
  unfold zcats
  rw [List.map_map]
  congr 1
  apply List.map_congr_left
  intro v _
  exact zcv_cat ρ v
/-- the kind of a field or of an array's places: 0 whole numbers, 1 long ones, 2 references, 3 truth values -/
def zkf (ty : FieldType) : Nat := match ty with
  | .int => 0
  | .long => 1
  | .object _ => 2
  | .array _ => 2
  | .boolean => 3
  | _ => 9
def zcl (ci : Nat) : vw_C := vwCl.getD ci (RX0, TX0, 2)
def zty (ci : Nat) : Nat → FieldType := match ci with
  | 0 => tyX0
  | 1 => tyX1
  | 2 => tyX2
  | 3 => tyX3
  | 4 => tyX4
  | 5 => tyX5
  | 6 => tyX6
  | 7 => tyX7
  | 8 => tyX8
  | 9 => tyX9
  | _ => tyX10
def zaf (tag : Nat) : FieldType := match tag with
  | 20 => .int
  | 21 => .long
  | 22 => .char
  | 23 => .object RX4
  | 24 => .object RX8
  | 25 => .object RX6
  | 26 => .object RX5
  | _ => .int
def zak (tag : Nat) : Nat := match tag with
  | 21 => 1
  | 23 => 2
  | 24 => 2
  | 25 => 2
  | 26 => 2
  | _ => 0
def zrho (b base : Nat) (ix : zR → Nat) (r : zR) : Nat := if r.1 = 9 then b else base + ix r
def zobj (ρ : zR → Nat) (D : va_G) (M : zM) (H : Heap) (r j q ci : Nat) : Prop := t_OB (ρ (r, j, q)) (D.1 ci) (zcl ci).2.2 (D.2 ci) H (fun k => zcv ρ (zget M (zkf (zty ci k)) r j q k))
def zarr (ρ : zR → Nat) (U : State) (M : zM) (H : Heap) (r j q : Nat) : Prop := ∃ cA : ClassId, H[ρ (r, j, q)]? = some (arrV cA (M.2.2.2.1 r j q).2 (fun i => zcv ρ (zget M (zak (M.2.2.2.1 r j q).1) r j q i))) ∧ ArrOfT U cA (zaf (M.2.2.2.1 r j q).1) ∧ va_RA U cA (zaf (M.2.2.2.1 r j q).1) ∧ ((M.2.2.2.1 r j q).1 = 22 → ∀ i, fits .char (.int (M.1 r j q i)) = true)
def zRel (b base : Nat) (ix : zR → Nat) (al : Nat → zR) (D : va_G) (U : State) (M : zM) (H : Heap) : Prop :=
  (H.size = base + M.2.2.2.2 ∧ b < base ∧ (∀ n, ix (al n) = n) ∧ (∀ n, (al n).1 ≠ 9)) ∧
  (∀ r j q, (M.2.2.2.1 r j q).1 ≠ 0 → r ≠ 9 → ix (r, j, q) < M.2.2.2.2 ∧ al (ix (r, j, q)) = (r, j, q)) ∧
  (∀ r j q ci, (M.2.2.2.1 r j q).1 = ci + 1 → ci < 11 → r ≠ 9 ∧ zobj (zrho b base ix) D M H r j q ci) ∧
  (∀ r j q, 19 < (M.2.2.2.1 r j q).1 → r ≠ 9 → zarr (zrho b base ix) U M H r j q) ∧
  (∀ j q, (M.2.2.2.1 9 j q).1 ≠ 0 → (M.2.2.2.1 9 j q).1 = 20 ∧ va_X b (M.2.2.2.1 9 j q).2 (M.1 9 j q) U H)
section
variable {b base : Nat} {ix : zR → Nat} {al : Nat → zR} {D : va_G} {U : State} {M M' : zM} {H H' : Heap}
theorem zrho_ne9 {r : zR} (h : r.1 ≠ 9) : zrho b base ix r = base + ix r := by
  unfold zrho
  rw [if_neg h]
theorem zRel.moved {U' : State} (h : zRel b base ix al D U M H) (hvm : U.vm.Alike U'.vm) : zRel b base ix al D U' M H := by
  obtain ⟨h1, h2, h3, h4, h5⟩ := h
  refine ⟨h1, h2, h3, fun r j q ht h9 => ?_, fun j q ht => ?_⟩
  · obtain ⟨cA, g1, g2, g3, g4⟩ := h4 r j q ht h9
    exact ⟨cA, g1, arrOfT_moved hvm g2, g3.moved hvm, g4⟩
  · obtain ⟨g1, scr, e1, e2, e3, e4, e5⟩ := h5 j q ht
    exact ⟨g1, scr, e1, State.isArrayOf_alike hvm e2, e3, e4, e5⟩
theorem zRel.inj (h : zRel b base ix al D U M H) {r j q r' j' q' : Nat} (h1 : (M.2.2.2.1 r j q).1 ≠ 0) (h2 : r ≠ 9) (h3 : (M.2.2.2.1 r' j' q').1 ≠ 0) (h4 : r' ≠ 9) (he : zrho b base ix (r, j, q) = zrho b base ix (r', j', q')) : (r, j, q) = (r', j', q') := by
  rw [zrho_ne9 h2, zrho_ne9 h4] at he
  have e : ix (r, j, q) = ix (r', j', q') := by omega
  have g1 := (h.2.1 r j q h1 h2).2
  have g2 := (h.2.1 r' j' q' h3 h4).2
  rw [← g1, ← g2, e]
/-- memory that agrees away from one cell -/
def zsame (M M' : zM) (r j q : Nat) : Prop := M'.2.2.2 = M.2.2.2 ∧ ∀ r' j' q', (r', j', q') ≠ (r, j, q) → ∀ kd i, zget M' kd r' j' q' i = zget M kd r' j' q' i
theorem zget0 (M : zM) (r j q i : Nat) : zget M 0 r j q i = zi (M.1 r j q i) := rfl
theorem zobj.keep {ρ : zR → Nat} {r j q ci : Nat} (h : zobj ρ D M H r j q ci) (he : ∀ kd i, zget M' kd r j q i = zget M kd r j q i) (hH : H'[ρ (r, j, q)]? = H[ρ (r, j, q)]?) : zobj ρ D M' H' r j q ci := by
  unfold zobj at h ⊢
  simp only [he]
  exact h.kept hH
theorem zarr.keep {ρ : zR → Nat} {r j q : Nat} (h : zarr ρ U M H r j q) (hS : M'.2.2.2.1 r j q = M.2.2.2.1 r j q) (he : ∀ kd i, zget M' kd r j q i = zget M kd r j q i) (hH : H'[ρ (r, j, q)]? = H[ρ (r, j, q)]?) : zarr ρ U M' H' r j q := by
  obtain ⟨cA, g1, g2, g3, g4⟩ := h
  refine ⟨cA, ?_, ?_, ?_, ?_⟩
  · rw [hS, hH]
    simp only [he]
    exact g1
  · rw [hS]; exact g2
  · rw [hS]; exact g3
  · rw [hS]
    intro ht i
    have e := he 0 i
    simp only [zget0] at e
    rw [Sum.inl.inj e]
    exact g4 ht i
theorem zRel.set (h : zRel b base ix al D U M H) {r j q : Nat} (hr : r ≠ 9) (ha : (M.2.2.2.1 r j q).1 ≠ 0) (hz : H'.size = H.size) (ho : ∀ a, a ≠ zrho b base ix (r, j, q) → H'[a]? = H[a]?) (hM : zsame M M' r j q)
    (hob : ∀ ci, (M.2.2.2.1 r j q).1 = ci + 1 → ci < 11 → zobj (zrho b base ix) D M' H' r j q ci) (har : 19 < (M.2.2.2.1 r j q).1 → zarr (zrho b base ix) U M' H' r j q) : zRel b base ix al D U M' H' := by
  obtain ⟨e4, em⟩ := hM
  obtain ⟨⟨h1, h1b, h1c, h1d⟩, h2, h3, h4, h5⟩ := id h
  have hb : b ≠ zrho b base ix (r, j, q) := by
    rw [zrho_ne9 hr]; omega
  refine ⟨⟨by rw [hz, e4]; exact h1, h1b, h1c, h1d⟩, by rw [e4]; exact h2, ?_, ?_, ?_⟩
  · intro r' j' q' ci ht hc
    rw [e4] at ht
    by_cases hq : (r', j', q') = (r, j, q)
    · cases hq
      exact ⟨hr, hob ci ht hc⟩
    · obtain ⟨g1, g2⟩ := h3 r' j' q' ci ht hc
      refine ⟨g1, g2.keep (em r' j' q' hq) (ho _ fun he => hq ?_)⟩
      exact h.inj (by rw [ht]; omega) g1 ha hr he
  · intro r' j' q' ht h9
    rw [e4] at ht
    by_cases hq : (r', j', q') = (r, j, q)
    · cases hq
      exact har ht
    · refine (h4 r' j' q' ht h9).keep (by rw [e4]) (em r' j' q' hq) (ho _ fun he => hq ?_)
      exact h.inj (by omega) h9 ha hr he
  · intro j' q' ht
    rw [e4] at ht ⊢
    obtain ⟨g1, scr, e1, e2, e3, e5, e6⟩ := h5 j' q' ht
    refine ⟨g1, scr, by rw [ho b hb]; exact e1, e2, e3, e5, fun i hi => ?_⟩
    have e := em 9 j' q' (by intro hq; cases hq; exact hr rfl) 0 i
    simp only [zget0] at e
    rw [Sum.inl.inj e]
    exact e6 i hi
theorem zup_s {α : Type} (f : Nat → α) (k : Nat) (v : α) : zup f k v k = v := by simp [zup]
theorem zup_n {α : Type} (f : Nat → α) {k i : Nat} (v : α) (h : i ≠ k) : zup f k v i = f i := by simp [zup, h]
theorem zup3_s {α : Type} (f : Nat → Nat → Nat → α) (r j q : Nat) (v : α) : zup3 f r j q v r j q = v := by simp [zup3, zup]
theorem zup3_n {α : Type} (f : Nat → Nat → Nat → α) {r j q r' j' q' : Nat} (v : α) (h : (r', j', q') ≠ (r, j, q)) : zup3 f r j q v r' j' q' = f r' j' q' := by
  unfold zup3
  by_cases h1 : r' = r
  · subst h1
    rw [zup_s]
    by_cases h2 : j' = j
    · subst h2
      rw [zup_s]
      exact zup_n _ _ (fun h3 => h (by rw [h3]))
    · rw [zup_n _ _ h2]
  · rw [zup_n _ _ h1]
theorem zup4_s {α : Type} (f : Nat → Nat → Nat → Nat → α) (r j q i : Nat) (v : α) (i' : Nat) : zup4 f r j q i v r j q i' = if i' = i then v else f r j q i' := by
  unfold zup4
  rw [zup3_s]
  rfl
theorem zup4_n {α : Type} (f : Nat → Nat → Nat → Nat → α) {r j q i r' j' q' : Nat} (v : α) (h : (r', j', q') ≠ (r, j, q)) : zup4 f r j q i v r' j' q' = f r' j' q' := by
  unfold zup4
  exact zup3_n _ _ h
theorem zget_I (I' : zI) (M : zM) {r j q : Nat} (h : I' r j q = M.1 r j q) (kd i : Nat) : zget (I', M.2) kd r j q i = zget M kd r j q i := by
  unfold zget
  split <;> first | rfl | (rw [show ((I', M.2) : zM).1 = I' from rfl, h])
theorem zget_L (L' : zL) (M : zM) {r j q : Nat} (h : L' r j q = M.2.1 r j q) (kd i : Nat) : zget (M.1, L', M.2.2) kd r j q i = zget M kd r j q i := by
  unfold zget
  split <;> first | rfl | (rw [show ((M.1, L', M.2.2) : zM).2.1 = L' from rfl, h])
theorem zget_P (P' : zP) (M : zM) {r j q : Nat} (h : P' r j q = M.2.2.1 r j q) (kd i : Nat) : zget (M.1, M.2.1, P', M.2.2.2) kd r j q i = zget M kd r j q i := by
  unfold zget
  split <;> first | rfl | (rw [show ((M.1, M.2.1, P', M.2.2.2) : zM).2.2.1 = P' from rfl, h])
theorem zsame_I {I' : zI} {r j q : Nat} (h : ∀ r' j' q', (r', j', q') ≠ (r, j, q) → I' r' j' q' = M.1 r' j' q') : zsame M (I', M.2) r j q := ⟨rfl, fun r' j' q' hq kd i => zget_I I' M (h r' j' q' hq) kd i⟩
theorem zsame_L {L' : zL} {r j q : Nat} (h : ∀ r' j' q', (r', j', q') ≠ (r, j, q) → L' r' j' q' = M.2.1 r' j' q') : zsame M (M.1, L', M.2.2) r j q := ⟨rfl, fun r' j' q' hq kd i => zget_L L' M (h r' j' q' hq) kd i⟩
theorem zsame_P {P' : zP} {r j q : Nat} (h : ∀ r' j' q', (r', j', q') ≠ (r, j, q) → P' r' j' q' = M.2.2.1 r' j' q') : zsame M (M.1, M.2.1, P', M.2.2.2) r j q := ⟨rfl, fun r' j' q' hq kd i => zget_P P' M (h r' j' q' hq) kd i⟩
/-- a new cell -/
theorem zRel.push (h : zRel b base ix al D U M H) {tag len : Nat} (hz : H'.size = H.size + 1) (ho : ∀ a, a < H.size → H'[a]? = H[a]?) (ht : tag ≠ 0) (hS : M'.2.2.2 = (zup3 M.2.2.2.1 (al M.2.2.2.2).1 (al M.2.2.2.2).2.1 (al M.2.2.2.2).2.2 (tag, len), M.2.2.2.2 + 1))
    (hM : ∀ r' j' q', (r', j', q') ≠ al M.2.2.2.2 → ∀ kd i, zget M' kd r' j' q' i = zget M kd r' j' q' i)
    (hob : ∀ ci, tag = ci + 1 → ci < 11 → zobj (zrho b base ix) D M' H' (al M.2.2.2.2).1 (al M.2.2.2.2).2.1 (al M.2.2.2.2).2.2 ci) (har : 19 < tag → zarr (zrho b base ix) U M' H' (al M.2.2.2.2).1 (al M.2.2.2.2).2.1 (al M.2.2.2.2).2.2) :
    zRel b base ix al D U M' H' ∧ zrho b base ix (al M.2.2.2.2) = H.size := by
  obtain ⟨⟨h1, h1b, h1c, h1d⟩, h2, h3, h4, h5⟩ := h
  have hal : al M.2.2.2.2 = ((al M.2.2.2.2).1, (al M.2.2.2.2).2.1, (al M.2.2.2.2).2.2) := rfl
  have hne : ∀ r j q, (r, j, q) ≠ al M.2.2.2.2 → M'.2.2.2.1 r j q = M.2.2.2.1 r j q := fun r j q hq => by rw [hS]; exact zup3_n _ _ (by rw [← hal]; exact hq)
  have hsf : M'.2.2.2.1 (al M.2.2.2.2).1 (al M.2.2.2.2).2.1 (al M.2.2.2.2).2.2 = (tag, len) := by rw [hS]; exact zup3_s _ _ _ _ _
  have htop : M'.2.2.2.2 = M.2.2.2.2 + 1 := by rw [hS]
  have hlt : ∀ r j q, (M.2.2.2.1 r j q).1 ≠ 0 → r ≠ 9 → zrho b base ix (r, j, q) < H.size := fun r j q g1 g2 => by
    have := (h2 r j q g1 g2).1
    rw [zrho_ne9 g2, h1]; omega
  refine ⟨⟨⟨by rw [hz, h1, htop]; omega, h1b, h1c, h1d⟩, ?_, ?_, ?_, ?_⟩, ?_⟩
  · intro r j q ha h9
    by_cases hq : (r, j, q) = al M.2.2.2.2
    · rw [hq, h1c, htop]
      exact ⟨by omega, rfl⟩
    · rw [hne r j q hq] at ha
      have := h2 r j q ha h9
      rw [htop]
      exact ⟨by omega, this.2⟩
  · intro r j q ci ha hc
    by_cases hq : (r, j, q) = al M.2.2.2.2
    · rw [← hq] at hsf hob
      rw [hsf] at ha
      refine ⟨?_, hob ci ha hc⟩
      have := h1d M.2.2.2.2
      rw [← hq] at this
      exact this
    · rw [hne r j q hq] at ha
      obtain ⟨g1, g2⟩ := h3 r j q ci ha hc
      exact ⟨g1, g2.keep (hM r j q hq) (ho _ (hlt r j q (by rw [ha]; omega) g1))⟩
  · intro r j q ha h9
    by_cases hq : (r, j, q) = al M.2.2.2.2
    · rw [← hq] at hsf har
      rw [hsf] at ha
      exact har ha
    · have e := hne r j q hq
      rw [e] at ha
      exact (h4 r j q ha h9).keep e (hM r j q hq) (ho _ (hlt r j q (by omega) h9))
  · intro j q ha
    have hq : ((9 : Nat), j, q) ≠ al M.2.2.2.2 := fun hq => h1d M.2.2.2.2 (by rw [← hq])
    have e := hne 9 j q hq
    rw [e] at ha ⊢
    obtain ⟨g1, scr, e1, e2, e3, e5, e6⟩ := h5 j q ha
    refine ⟨g1, scr, by rw [ho b (by omega)]; exact e1, e2, e3, e5, fun i hi => ?_⟩
    have e := hM 9 j q hq 0 i
    simp only [zget0] at e
    rw [Sum.inl.inj e]
    exact e6 i hi
  · rw [zrho_ne9 (h1d _), h1c, h1]
end
