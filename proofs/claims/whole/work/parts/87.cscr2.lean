/-! the class: where a bracket closes -/
theorem getD_in {A : List Nat} {k : Nat} (h : k < A.length) : A.getD k 0 = A[k] := by
  rw [List.getD_eq_getElem?_getD, List.getElem?_eq_getElem h]
  rfl
theorem getD_out {A : List Nat} {k : Nat} (h : A.length ≤ k) : A.getD k 0 = 0 := by
  rw [List.getD_eq_getElem?_getD, List.getElem?_eq_none h]
  rfl
theorem mSh_out {A : List Nat} : ∀ {m k D r : Nat}, A.length ≤ k → 1 ≤ D → ¬ mSh (fun k => A.getD k 0) m k D r := by
  intro m
  induction m with
  | zero => intro k D r _ _ h; exact h
  | succ m ih =>
    intro k D r hk hD h
    have e : A.getD k 0 = 0 := getD_out hk
    unfold mSh at h
    simp only [e] at h
    rw [if_neg (by decide), if_neg (by decide), if_neg (by omega)] at h
    exact ih (by omega) hD h
theorem sp_sClo {d c s bb n a r m : Nat} {A : List Nat} {I : zI} {L : zL} {P : zP} {S : zS} {top : Nat} {Q : Option zV → zM → Prop} (hc : cSc I P S bb n A) (ha : A.getD a 0 = 91) (ha5 : a ≤ 200) (hm : m ≤ 200) (h : mSh (fun k => A.getD k 0) m a 0 r) (kk : Q (some (zi (nI r))) (I, L, zpj P, zsj S, top)) : Ev (d + 2) c s 39 0 [some (zr (some (3, n, 0))), some (zi (nI a)), none, none] [] (I, L, zpj P, zsj S, top) Q := by
  obtain ⟨h60, h127, q, _, sn, pa, sa, hl⟩ := id hc
  have seg : ∀ (k D : Nat), k < A.length → D ≤ 1000 → (1 ≤ D ∨ A.getD k 0 = 91) → (((A.getD k 0 = 40 ∨ A.getD k 0 = 91 ∨ A.getD k 0 = 123) → Ev (d + 2) c s 39 4 [some (zr (some (3, n, 0))), some (zi (nI a)), some (zi (nI (D + 1))), some (zi (nI (k + 1)))] [] (I, L, zpj P, zsj S, top) Q)) → (¬ (A.getD k 0 = 40 ∨ A.getD k 0 = 91 ∨ A.getD k 0 = 123) → (A.getD k 0 = 41 ∨ A.getD k 0 = 93 ∨ A.getD k 0 = 125) → ¬ D ≤ 1 → Ev (d + 2) c s 39 4 [some (zr (some (3, n, 0))), some (zi (nI a)), some (zi (nI (D - 1))), some (zi (nI (k + 1)))] [] (I, L, zpj P, zsj S, top) Q) → (¬ (A.getD k 0 = 40 ∨ A.getD k 0 = 91 ∨ A.getD k 0 = 123) → (A.getD k 0 = 41 ∨ A.getD k 0 = 93 ∨ A.getD k 0 = 125) → D ≤ 1 → Q (some (zi (nI k))) (I, L, zpj P, zsj S, top)) → (¬ (A.getD k 0 = 40 ∨ A.getD k 0 = 91 ∨ A.getD k 0 = 123) → ¬ (A.getD k 0 = 41 ∨ A.getD k 0 = 93 ∨ A.getD k 0 = 125) → Ev (d + 2) c s 39 4 [some (zr (some (3, n, 0))), some (zi (nI a)), some (zi (nI D)), some (zi (nI (k + 1)))] [] (I, L, zpj P, zsj S, top) Q) → Ev (d + 2) c s 39 4 [some (zr (some (3, n, 0))), some (zi (nI a)), some (zi (nI D)), some (zi (nI k))] [] (I, L, zpj P, zsj S, top) Q := by
    intro k D hk hD h1 ko kc kr kn
    have eg : A.getD k 0 = A[k] := getD_in hk
    have hx : I 3 q 0 k = nI (A.getD k 0) := by rw [hl k hk, eg]
    have hb : A.getD k 0 < 127 := by rw [eg]; exact h127 _ (List.getElem_mem hk)
    have e1 : nI D + 1 = nI (D + 1) := nI_1 _
    have n1 : ¬ nI D + 1 = 0 := by
      rw [e1]
      exact fun p => by have := (zeq (a := D + 1) (b := 0) (by omega) (by omega)).mp p; omega
    generalize A.getD k 0 = x at *
    refine g39_4 (d := d + 1) sn pa sa (by omega) (fun _ => hx) (by omega) (by omega) (by omega) (fun p => by omega) (fun p => p) (fun _ p _ => ?_) (fun _ _ p => absurd p n1) (fun p _ => p) (fun _ _ p _ => ?_) (fun _ _ _ p => absurd p n1) (fun p _ _ => p) (fun p _ _ _ => p) (fun _ _ _ _ => hb) (fun _ p1 p2 p3 p4 p5 => ?_) (fun _ p1 p2 p3 p4 p5 => ?_) (fun _ p1 p2 p3 p4 p5 => ?_) (fun _ p1 p2 p3 p4 p5 => ?_) (fun _ _ _ p _ => ?_) (fun _ _ _ _ p => absurd p n1)
    · rw [e1]; exact ko (Or.inl p)
    · rw [e1]; exact ko (Or.inr (Or.inl p))
    · have hD1 : 1 ≤ D := h1.resolve_right p2
      rw [zdec hD1] at p5 ⊢
      refine kc (by omega) p4 (fun p => p5 ?_)
      rw [show D - 1 = 0 by omega]
      rfl
    · have hD1 : 1 ≤ D := h1.resolve_right p2
      rw [zdec hD1] at p5
      have := (zeq (a := D - 1) (b := 0) (by omega) (by omega)).mp p5
      exact kr (by omega) p4 (by omega)
    · exact kn (by omega) p4
    · have hD1 : 1 ≤ D := h1.resolve_right p2
      have := (zeq (a := D) (b := 0) (by omega) (by omega)).mp p5
      omega
    · rw [e1]; exact ko (Or.inr (Or.inr p))
  have loop : ∀ m k D, D + m ≤ 1000 → 1 ≤ D → mSh (fun k => A.getD k 0) m k D r → Ev (d + 2) c s 39 4 [some (zr (some (3, n, 0))), some (zi (nI a)), some (zi (nI D)), some (zi (nI k))] [] (I, L, zpj P, zsj S, top) Q := by
    intro m
    induction m with
    | zero => intro k D _ _ h; exact h.elim
    | succ m ih =>
      intro k D hDm hD h
      have hk : k < A.length := by
        by_cases p : k < A.length
        · exact p
        · exact absurd h (mSh_out (by omega) hD)
      unfold mSh at h
      refine seg k D hk (by omega) (Or.inl hD) (fun p => ?_) (fun p1 p2 p3 => ?_) (fun p1 p2 p3 => ?_) (fun p1 p2 => ?_)
      · rw [if_pos p] at h; exact ih _ _ (by omega) (by omega) h
      · rw [if_neg p1, if_pos p2, if_neg p3] at h; exact ih _ _ (by omega) (by omega) h
      · rw [if_neg p1, if_pos p2, if_pos p3] at h; subst h; exact kk
      · rw [if_neg p1, if_neg p2, if_neg (by omega)] at h; exact ih _ _ (by omega) (by omega) h
  refine g39_0 sn ?_
  have hk : a < A.length := by
    by_cases p : a < A.length
    · exact p
    · rw [getD_out (by omega)] at ha; exact absurd ha (by decide)
  match m, hm, h with
  | m + 1, hm, h =>
    unfold mSh at h
    refine seg a 0 hk (by omega) (Or.inr ha) (fun p => ?_) (fun p1 p2 p3 => ?_) (fun p1 p2 p3 => ?_) (fun p1 p2 => ?_)
    · rw [if_pos p] at h; exact loop _ _ _ (by omega) (by omega) h
    · exact absurd (Or.inr (Or.inl ha)) p1
    · exact absurd (Or.inr (Or.inl ha)) p1
    · exact absurd (Or.inr (Or.inl ha)) p1
