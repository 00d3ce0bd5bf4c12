/-! the state at the beginning -/
def σ0 : zSt := (w0, [], none, [], fun _ => none)
theorem w0_z {i : Nat} (h : 26 ≤ i) : w0 i = 0 := by
  unfold w0
  rw [if_neg (by omega), if_neg (by omega)]
theorem tL_0 {t : Nat} : tL w0 t = [] := by
  unfold tL
  rw [w0_z (by omega)]
  rfl
theorem tG_0 : tG w0 = 0 := rfl
theorem isBody_0 : isBody [] := ⟨Nat.zero_le _, fun x h => (List.not_mem_nil h).elim, Or.inl rfl⟩
theorem pOver_0 : ¬ pOver [] 0 := by
  unfold pOver
  decide
theorem tTb_0 : tTb w0 := by
  refine ⟨⟨rfl, by rw [tG_0]; decide⟩, fun t ht => ?_⟩
  rw [tL_0]
  exact ⟨⟨w0_z (by omega), fun k h => absurd h (Nat.not_lt_zero _)⟩, isBody_0⟩
theorem tTx_0 : tTx w0 := ⟨tTb_0.1, fun t ht => ⟨(tTb_0.2 t ht).1, (tTb_0.2 t ht).2, by rw [tL_0, tG_0]; exact pOver_0⟩⟩
theorem tOv_0 : ¬ tOv w0 := fun ⟨t, ht, h⟩ => (tTx_0.2 t ht).2.2 h
theorem tRest_0 : tRest w0 := by
  intro u hu
  have h : u = 0 ∨ u = 1 ∨ u = 2 ∨ u = 3 := by omega
  rcases h with e | e | e | e <;> subst e <;> exact Or.inl ⟨rfl, rfl⟩
theorem zGood_0 : zGood 0 σ0 := by
  refine ⟨rest_row (fun i hi => w0_z (by omega)) tTx_0 tRest_0 ⟨⟨0, by decide, rfl⟩, ⟨0, Nat.le_refl _, rfl⟩, by decide, fun t ht => ?_⟩, ⟨Nat.zero_le _, fun h hh => (List.not_mem_nil hh).elim⟩, fun k hk => (by cases hk), ⟨Nat.zero_le _, fun x hx => (List.not_mem_nil hx).elim⟩, fun j x _ hx => by cases hx⟩
  have h : t = 0 ∨ t = 1 ∨ t = 2 ∨ t = 3 := by omega
  rcases h with e | e | e | e <;> subst e <;> exact Or.inl rfl
theorem tTr_0 {t : Nat} : (tTr w0 t).n = 0 := by
  unfold tTr
  rw [tL_0, tG_0]
  rfl
/-- static cells' pointers and shapes are laid already -/
theorem zpj_dep {P P' : zP} {r j q i : Nat} (h : P r j q i = P' r j q i) : zpj P r j q i = zpj P' r j q i := by
  unfold zpj
  repeat' split
  all_goals first | rfl | exact h
theorem zpj_self {P P' : zP} {r j q i : Nat} (h : P' r j q i = zpj P r j q i) : zpj P' r j q i = P' r j q i := by
  unfold zpj
  repeat' split
  all_goals first | rfl | exact h.symm
theorem zpj_EP {r j q i : Nat} : zpj EP r j q i = EP r j q i := by
  unfold zpj
  repeat' split
  all_goals rfl
