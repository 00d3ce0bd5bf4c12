/-! the class: pointers change -/
theorem zup4_if {α : Type} (f : Nat → Nat → Nat → Nat → α) (r j q i : Nat) (v : α) (r' j' q' i' : Nat) : zup4 f r j q i v r' j' q' i' = if r' = r ∧ j' = j ∧ q' = q ∧ i' = i then v else f r' j' q' i' := by
  unfold zup4 zup3
  by_cases h1 : r' = r
  · subst h1
    rw [zup_s]
    by_cases h2 : j' = j
    · subst h2
      rw [zup_s]
      by_cases h3 : q' = q
      · subst h3
        rw [zup_s]
        by_cases h4 : i' = i
        · subst h4; rw [zup_s, if_pos ⟨rfl, rfl, rfl, rfl⟩]
        · rw [zup_n _ _ h4, if_neg (fun g => h4 g.2.2.2)]
      · rw [zup_n _ _ h3, if_neg (fun g => h3 g.2.2.1)]
    · rw [zup_n _ _ h2, if_neg (fun g => h2 g.2.1)]
  · rw [zup_n _ _ h1, if_neg (fun g => h1 g.1)]
theorem zpj_st (P P' : zP) (r j q i : Nat) (h : P' r j q i = P r j q i) : zpj P' r j q i = zpj P r j q i := by
  unfold zpj
  split
  · split
    all_goals first | exact h | (split <;> first | exact h | rfl)
  · split
    all_goals first | exact h | (split <;> first | exact h | rfl)
  · split
    all_goals first | exact h | (split <;> first | exact h | rfl)
  · split
    all_goals first | exact h | (split <;> first | exact h | rfl)
  · split
    all_goals first | exact h | (split <;> first | exact h | rfl)
  · exact h
theorem zpj_up {P : zP} {r j q n : Nat} {v : Option zR} (ha : ∀ P : zP, zpj P r j q n = P r j q n) : zup4 (zpj P) r j q n v = zpj (zup4 P r j q n v) := by
  funext r' j' q' i'
  rw [zup4_if]
  by_cases h : r' = r ∧ j' = j ∧ q' = q ∧ i' = n
  · rw [if_pos h]
    obtain ⟨rfl, rfl, rfl, rfl⟩ := h
    rw [ha, zup4_if, if_pos ⟨rfl, rfl, rfl, rfl⟩]
  · rw [if_neg h]
    exact (zpj_st _ _ _ _ _ _ (by rw [zup4_if, if_neg h])).symm
/-- a memory with a pointer laid -/
def XP (X : zM) (r j q n : Nat) (v : Option zR) : zM := (X.1, X.2.1, zup4 X.2.2.1 r j q n v, X.2.2.2)
