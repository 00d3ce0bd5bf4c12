/-! the class: a table becomes another, whole -/
theorem zu4k {α : Type} {j k : Nat} (hne : ¬ k = j) (f : Nat → Nat → Nat → Nat → α) (q i : Nat) (v : α) (q' i' : Nat) : zup4 f 2 j q i v 2 k q' i' = f 2 k q' i' := zu4n _ _ (by omega)
/-- the pointers of a table point to scripts and traces -/
def cPo (P : zP) (S : zS) (k : Nat) : Prop := ∀ t, t < 4 → ∃ a n, (P 2 k 1 t = some (3, a, 0) ∧ S 3 a 0 = (5, 0)) ∧ P 2 k 2 t = some (3, n, 0) ∧ S 3 n 0 = (9, 0)
theorem sp_cBec {d c s j k : Nat} {I : zI} {L : zL} {P : zP} {S : zS} {top : Nat} {Q : Option zV → zM → Prop} (hj : j < 15) (hk : k < 15) (hne : ¬ k = j) (hp : cPo P S k) (kk : ∀ I' P', cBe j k I I' P P' → Q none (I', L, zpj P', zsj S, top)) : Ev d c s 52 0 [some (zr (some (2, j, 0))), some (zr (some (2, k, 0))), none] [] (I, L, zpj P, zsj S, top) Q := by
  have two : ∀ m, m ≤ 4 → ∀ I' P', cBeT j k I I' P P' (4 - m) → Ev d c s 52 84 [some (zr (some (2, j, 0))), some (zr (some (2, k, 0))), some (zi (nI (4 - m)))] [] (I', L, zpj P', zsj S, top) Q := by
    intro m
    induction m with
    | zero =>
      intro _ I' P' h
      obtain ⟨a, n, ⟨pa, sa⟩, pn, sn⟩ := hp 0 (by decide)
      obtain ⟨⟨f, ff, hg⟩, fp, ht⟩ := h
      exact g52_84 (t := 4) hj hk sn sa (fun q => by omega) (fun q => by omega) (by omega) (fun _ => kk I' P' ⟨⟨f, fp⟩, ff, hg, ht⟩) (fun q => by omega) (fun q => by omega) (fun q => by omega) (fun q => by omega) (fun q => by omega) (fun q => by omega) (fun q => by omega) (fun q => by omega) (fun q => by omega) (fun q => by omega) (fun q => by omega) (fun q => by omega) (fun q => by omega) (fun q => by omega) (fun q => by omega)
    | succ m ih =>
      intro hm I' P' h
      have ht : 4 - (m + 1) < 4 := by omega
      have et : 4 - m = 4 - (m + 1) + 1 := by omega
      rw [et] at ih
      generalize 4 - (m + 1) = t at ht ih h ⊢
      obtain ⟨a, n, ⟨pa, sa⟩, pn, sn⟩ := hp t ht
      have ep : ∀ q i, P' 2 k q i = P 2 k q i := fun q i => h.2.1 _ _ _ _ (by omega)
      refine g52_84 (a := a) (n := n) hj hk sn sa (fun _ => (ep 1 t).trans pa) (fun _ => by rw [zu4k hne, ep]; exact pn) (by omega) (fun q => by omega) (fun _ => ht) (fun _ => ht) (fun _ => ht) (fun _ => ht) (fun _ => ht) (fun _ => ht) (fun _ => ht) (fun _ => ht) (fun _ => ht) (fun _ => ht) (fun _ => ht) (fun _ => ht) (fun _ => ht) (fun _ => ht) (fun _ => ?_)
      simp only [zu4k hne]
      exact ih (by omega) _ _ (cBeT_next hne h pa pn)
  have one : ∀ m, m ≤ 6 → ∀ I', cBeG j k I I' (6 - m) → Ev d c s 52 34 [some (zr (some (2, j, 0))), some (zr (some (2, k, 0))), some (zi (nI (6 - m)))] [] (I', L, zpj P, zsj S, top) Q := by
    intro m
    induction m with
    | zero =>
      intro _ I' h
      exact g52_34 (g := 6) hj hk (by omega) (fun _ => two 4 (Nat.le_refl 4) I' P ⟨h, cFr.rfl, fun t' h' => absurd h' (by omega)⟩) (fun q => by omega) (fun q => by omega) (fun q => by omega) (fun q => by omega) (fun q => by omega) (fun q => by omega) (fun q => by omega)
    | succ m ih =>
      intro hm I' h
      have hg : 6 - (m + 1) < 6 := by omega
      have eg : 6 - m = 6 - (m + 1) + 1 := by omega
      rw [eg] at ih
      generalize 6 - (m + 1) = g at hg ih h ⊢
      refine g52_34 hj hk (by omega) (fun q => by omega) (fun _ => hg) (fun _ => hg) (fun _ => hg) (fun _ => hg) (fun _ => hg) (fun _ => hg) (fun _ => ?_)
      simp only [zu4k hne]
      exact ih (by omega) _ (cBeG_next hne h)
  refine g52_0 hj hk ?_
  simp only [zu4k hne]
  refine one 6 (Nat.le_refl 6) _ ⟨(((cFr.rfl.up _ _ _).up _ _ _).up _ _ _).up _ _ _, ⟨?_, ?_, ?_, ?_⟩, fun g' h' => absurd h' (by omega)⟩
  · rw [zu4n _ _ (by omega), zu4n _ _ (by omega), zu4n _ _ (by omega), zu4s]
  · rw [zu4n _ _ (by omega), zu4n _ _ (by omega), zu4s]
  · rw [zu4n _ _ (by omega), zu4s]
  · rw [zu4s]
