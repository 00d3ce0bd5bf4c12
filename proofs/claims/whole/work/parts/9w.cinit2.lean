/-! a table is made -/
section
variable {d c s top : Nat} {Q : Option zV → zM → Prop} {I : zI} {L : zL} {P : zP} {S : zS} {r j q : Nat}
theorem sp_fillE {v : Int32} {N : Nat} (h9 : ¬ r = 9) (hS : S r j q = (20, N)) (hN : N < 5000) (k : Q none (zup3 I r j q (fun i => if i < N then v else I r j q i), L, P, S, top)) : Ev d c s 246 0 [some (zr (some (r, j, q))), some (zi v), none, none] [] (I, L, P, S, top) Q := by
  refine sp_fillR h9 hS hN (fun I' f1 f2 f3 => ?_)
  have e : I' = zup3 I r j q (fun i => if i < N then v else I r j q i) := by
    funext r' j' q' i
    rw [zup3_if]
    by_cases h : r' = r ∧ j' = j ∧ q' = q
    · rw [if_pos h]
      obtain ⟨rfl, rfl, rfl⟩ := h
      by_cases g : i < N
      · rw [if_pos g]; exact f2 i g
      · rw [if_neg g]; exact f3 i (by omega)
    · rw [if_neg h]; exact f1 r' j' q' i h
  rw [e]
  exact k
theorem cn_Tab {a : Nat} (hj : j < 15) (hal : ∀ k, k ≤ 10 → zal (a + k) = (2, j, k)) (hf : cFresh I L P S 2 j 0 (7, 0)) (sm : S 3 2 0 = (5, 0)) (sn : S 3 4 0 = (9, 0)) (k : ∀ I' L' P' S', fAB a (a + 11) I L P S I' L' P' S' → (∀ n, a ≤ n → n < a + 11 → Ec I' L' P' S' (zal n)) → Q none (I', L', P', S', a + 11)) : Ev (d + 1) (c + 10) (s + 46) 51 0 [some (zr (some (2, j, 0))), some (zr (some (3, 2, 0))), some (zr (some (3, 4, 0))), none] [] (I, L, P, S, a + 1) Q := by
  obtain ⟨f1, f2, f3, f4⟩ := hf
  refine k51_0 (d := d) (T := a + 1) (fun k hk => by rw [show a + 1 + k = a + (k + 1) by omega]; exact hal (k + 1) (by omega)) f4 ?_
  refine sp_fillE (N := 6) (by decide) (by simp [zup3_if]) (by decide) ?_
  refine k51_108 (d := d) (by simp [zup3_if, f4]) (by simp [zup3_if, zup4_if]) ?_
  refine sp_fillE (N := 4) (by decide) (by simp [zup3_if]) (by decide) ?_
  refine k51_117 (d := d) (by simp [zup3_if, f4]) (by simp [zup3_if, zup4_if]) ?_
  refine sp_fillE (N := 4) (by decide) (by simp [zup3_if]) (by decide) ?_
  refine k51_126 (by simp [zup3_if, f4]) (by simp [zup3_if]) (by simp [zup3_if]) (by simp [zup3_if, sm]) (by simp [zup3_if, sn]) (by simp [zup3_if, zup4_if]) (by simp [zup3_if, zup4_if]) ?_
  refine k _ _ _ _ (fun r j' q g => ?_) (fun n h1 h2 => ?_)
  · have hne : ¬ (r = 2 ∧ j' = j ∧ q ≤ 10) := fun e => g (a + q) (by omega) (by omega) (by rw [hal q e.2.2, e.1, e.2.1])
    refine ⟨?_, ?_, ?_, ?_⟩
    · repeat (first | rw [zup3_o _ _ (by omega)] | rw [zu4r _ _ (by omega)])
    · repeat (first | rw [zup3_o _ _ (by omega)] | rw [zu4r _ _ (by omega)])
    · repeat (first | rw [zup3_o _ _ (by omega)] | rw [zu4r _ _ (by omega)])
    · repeat (first | rw [zup3_o _ _ (by omega)] | rw [zu4r _ _ (by omega)])
  · obtain ⟨q, hq, rfl⟩ : ∃ q, q ≤ 10 ∧ n = a + q := ⟨n - a, by omega, by omega⟩
    rw [hal q hq]
    have h11 : q = 0 ∨ q = 1 ∨ q = 2 ∨ q = 3 ∨ q = 4 ∨ q = 5 ∨ q = 6 ∨ q = 7 ∨ q = 8 ∨ q = 9 ∨ q = 10 := by omega
    refine ⟨funext fun i => ?_, funext fun i => ?_, funext fun i => ?_, ?_⟩
    · rcases h11 with e | e | e | e | e | e | e | e | e | e | e <;> subst e <;> simp [zup3_if, zup4_if, EI, f1]
      · repeat' split
        all_goals first | rfl | omega | simp_all
    · rcases h11 with e | e | e | e | e | e | e | e | e | e | e <;> subst e <;> simp [zup3_if, f2]
    · rcases h11 with e | e | e | e | e | e | e | e | e | e | e <;> subst e <;> simp [zup3_if, zup4_if, EP, f3]
      · simp only [zpj]
        by_cases e0 : i = 0
        · subst e0; rfl
        by_cases e1 : i = 1
        · subst e1; rfl
        by_cases e6 : i = 6
        · subst e6; rfl
        by_cases e7 : i = 7
        · subst e7; rfl
        by_cases e8 : i = 8
        · subst e8; rfl
        by_cases e9 : i = 9
        · subst e9; rfl
        by_cases e10 : i = 10
        · subst e10; rfl
        by_cases e11 : i = 11
        · subst e11; rfl
        by_cases e12 : i = 12
        · subst e12; rfl
        by_cases e13 : i = 13
        · subst e13; rfl
        simp only [e0, e1, e6, e7, e8, e9, e10, e11, e12, e13, if_false]
      · repeat' split
        all_goals first | rfl | omega | simp_all
      · repeat' split
        all_goals first | rfl | omega | simp_all
      all_goals simp only [zpj]
    · show _ = zsj (fun _ _ _ => (0, 0)) 2 j q
      rw [zsj2 _ hj]
      rcases h11 with e | e | e | e | e | e | e | e | e | e | e <;> subst e <;> simp [zup3_if, f4, zs2]
end
