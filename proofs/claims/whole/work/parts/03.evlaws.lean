/-! each step has one way on: the transformer is that of a function -/
theorem zmem_pt {i : Instr} {a : List Nat} {st : List zV} {M : zM} {k : List zV → zM → Prop} (h : zmem i a st M k) : ∃ st' M', k st' M' ∧ ∀ k' : List zV → zM → Prop, k' st' M' → zmem i a st M k' := by
  unfold zmem at h
  split at h <;> (try (exact h.elim)) <;> split at h <;> first
    | exact h.elim
    | exact ⟨_, _, h, fun k' hk => hk⟩
    | exact ⟨_, _, h.2, fun k' hk => ⟨h.1, hk⟩⟩
    | exact ⟨_, _, h.2.2, fun k' hk => ⟨h.1, h.2.1, hk⟩⟩
    | exact ⟨_, _, h.2.2.2, fun k' hk => ⟨h.1, h.2.1, h.2.2.1, hk⟩⟩
theorem zmk_pt {al : Nat → zR} {i : Instr} {a : List Nat} {st : List zV} {M : zM} {c s : Nat} {k : Nat → Nat → List zV → zM → Prop} (h : zmk al i a st M c s k) : ∃ c' s' st' M', k c' s' st' M' ∧ ∀ k' : Nat → Nat → List zV → zM → Prop, k' c' s' st' M' → zmk al i a st M c s k' := by
  unfold zmk at h
  split at h <;> (try (exact h.elim)) <;> split at h <;> first
    | exact h.elim
    | exact ⟨_, _, _, _, h.2.2, fun k' hk => ⟨h.1, h.2.1, hk⟩⟩
    | exact ⟨_, _, _, _, h.2.2.2.2, fun k' hk => ⟨h.1, h.2.1, h.2.2.1, h.2.2.2.1, hk⟩⟩
theorem zcln_pt {al : Nat → zR} {t0 : Nat} {st : List zV} {M : zM} {c s : Nat} {k : Nat → Nat → List zV → zM → Prop} (h : zcln al t0 st M c s k) : ∃ c' s' st' M', k c' s' st' M' ∧ ∀ k' : Nat → Nat → List zV → zM → Prop, k' c' s' st' M' → zcln al t0 st M c s k' := by
  unfold zcln at h
  split at h
  · obtain ⟨h1, h2, h3, h4, h5, h6⟩ := h
    exact ⟨_, _, _, _, h6, fun k' hk => ⟨h1, h2, h3, h4, h5, hk⟩⟩
  · exact h.elim
theorem znat_pt {al : Nat → zR} {mode : Nat} {st : List zV} {M : zM} {c s : Nat} {k : Nat → Nat → List zV → zM → Prop} (h : znat al mode st M c s k) : ∃ c' s' st' M', k c' s' st' M' ∧ ∀ k' : Nat → Nat → List zV → zM → Prop, k' c' s' st' M' → znat al mode st M c s k' := by
  unfold znat at h
  split at h
  · split at h
    · obtain ⟨h1, h2, h3, h4, h5, h6, h7, h8, h9, h10⟩ := h
      rcases h10 with ⟨g1, g2⟩ | ⟨g1, g2⟩
      · exact ⟨_, _, _, _, g2, fun k' hk => ⟨h1, h2, h3, h4, h5, h6, h7, h8, h9, Or.inl ⟨g1, hk⟩⟩⟩
      · exact ⟨_, _, _, _, g2, fun k' hk => ⟨h1, h2, h3, h4, h5, h6, h7, h8, h9, Or.inr ⟨g1, hk⟩⟩⟩
    · exact h.elim
  · exact zcln_pt h
  · exact zcln_pt h
  · split at h
    · exact ⟨_, _, _, _, h.2, fun k' hk => ⟨h.1, hk⟩⟩
    · exact h.elim
  · split at h
    · exact ⟨_, _, _, _, h.2, fun k' hk => ⟨h.1, hk⟩⟩
    · exact h.elim
  · split at h
    · exact ⟨_, _, _, _, h.2, fun k' hk => ⟨h.1, hk⟩⟩
    · exact h.elim
  · exact h.elim
theorem zbr_pt {i : Instr} {pc len : Nat} {st : List zV} {k : Nat → List zV → Prop} (h : zbr i pc len st k) : ∃ pc' st', k pc' st' ∧ ∀ k' : Nat → List zV → Prop, k' pc' st' → zbr i pc len st k' := by
  unfold zbr at h
  split at h <;> (try (exact h.elim))
  · exact ⟨_, _, h, fun k' hk => hk⟩
  · split at h
    · rename_i x t
      by_cases hc : zcz ‹ClassFile.Cond› x
      · exact ⟨_, _, h.1 hc, fun k' hk => ⟨fun _ => hk, fun g => absurd hc g⟩⟩
      · exact ⟨_, _, h.2 hc, fun k' hk => ⟨fun g => absurd g hc, fun _ => hk⟩⟩
    · exact h.elim
  · split at h
    · rename_i y x t
      by_cases hc : zcc ‹ClassFile.Cond› x y
      · exact ⟨_, _, h.1 hc, fun k' hk => ⟨fun _ => hk, fun g => absurd hc g⟩⟩
      · exact ⟨_, _, h.2 hc, fun k' hk => ⟨fun g => absurd g hc, fun _ => hk⟩⟩
    · exact h.elim
  · split at h
    · exact ⟨_, _, h, fun k' hk => hk⟩
    · exact h.elim
theorem zret_pt {i : Instr} {a : List Nat} {st : List zV} {k : Option zV → Prop} (h : zret i a st k) : ∃ r, k r ∧ ∀ k' : Option zV → Prop, k' r → zret i a st k' := by
  unfold zret at h
  split at h <;> (try (exact h.elim)) <;> split at h <;> first
    | exact h.elim
    | exact ⟨_, h, fun k' hk => hk⟩
    | exact ⟨_, h.2, fun k' hk => ⟨h.1, hk⟩⟩
section
variable {F : Nat → Nat → Option zE} {al : Nat → zR}
theorem ev_pt : ∀ {n d c s mid pc : Nat} {ls : List (Option zV)} {st : List zV} {M : zM} {Q : Option zV → zM → Prop}, ev F al n d c s mid pc ls st M Q → ∃ r M', Q r M' ∧ ∀ Q' : Option zV → zM → Prop, Q' r M' → ev F al n d c s mid pc ls st M Q' := by
  intro n
  induction n with
  | zero => intro d c s mid pc ls st M Q h; exact h.elim
  | succ n ih =>
    intro d c s mid pc ls st M Q h
    simp only [ev] at h ⊢
    split at h
    · exact h.elim
    · rename_i i len a z hF
      split at h
      · exact ih h
      · split at h
        · split at h
          · obtain ⟨r, M', h1, h2⟩ := ih h.2
            exact ⟨r, M', h1, fun Q' hQ => ⟨h.1, h2 Q' hQ⟩⟩
          · exact h.elim
        · split at h
          · split at h
            · obtain ⟨r, M', h1, h2⟩ := ih h.2.2
              exact ⟨r, M', h1, fun Q' hQ => ⟨h.1, h.2.1, h2 Q' hQ⟩⟩
            · exact h.elim
          · split at h
            · split at h
              · exact ih h
              · exact h.elim
            · split at h
              · split at h
                · exact h.elim
                · split at h
                  · obtain ⟨c', s', st', M', h1, h2⟩ := znat_pt h
                    obtain ⟨r, M2, h3, h4⟩ := ih h1
                    exact ⟨r, M2, h3, fun Q' hQ => h2 (fun c s st M => ev F al n _ c s mid (pc + len) ls st M Q') (h4 Q' hQ)⟩
                  · obtain ⟨g1, g2, g3, g4, g5, g7, g6⟩ := h
                    obtain ⟨r1, M1, h1, h2⟩ := ih g6
                    obtain ⟨r, M2, h3, h4⟩ := ih h1
                    exact ⟨r, M2, h3, fun Q' hQ => ⟨g1, g2, g3, g4, g5, g7, h2 _ (h4 Q' hQ)⟩⟩
                  · exact h.elim
              · rcases h with h | h | h | h
                · obtain ⟨st', M', h1, h2⟩ := zmem_pt h
                  obtain ⟨r, M2, h3, h4⟩ := ih h1
                  exact ⟨r, M2, h3, fun Q' hQ => Or.inl (h2 (fun st M => ev F al n d c s mid (pc + len) ls st M Q') (h4 Q' hQ))⟩
                · obtain ⟨c', s', st', M', h1, h2⟩ := zmk_pt h
                  obtain ⟨r, M2, h3, h4⟩ := ih h1
                  exact ⟨r, M2, h3, fun Q' hQ => Or.inr (Or.inl (h2 (fun c s st M => ev F al n d c s mid (pc + len) ls st M Q') (h4 Q' hQ)))⟩
                · obtain ⟨pc', st', h1, h2⟩ := zbr_pt h
                  obtain ⟨r, M2, h3, h4⟩ := ih h1
                  exact ⟨r, M2, h3, fun Q' hQ => Or.inr (Or.inr (Or.inl (h2 (fun pc st => ev F al n d c s mid pc ls st M Q') (h4 Q' hQ))))⟩
                · obtain ⟨r, h1, h2⟩ := zret_pt h
                  exact ⟨r, M, h1, fun Q' hQ => Or.inr (Or.inr (Or.inr (h2 (fun r => Q' r M) hQ)))⟩
theorem ev_q {n d c s mid pc : Nat} {ls : List (Option zV)} {st : List zV} {M : zM} {Q Q' : Option zV → zM → Prop} (h : ev F al n d c s mid pc ls st M Q) (hQ : ∀ r M, Q r M → Q' r M) : ev F al n d c s mid pc ls st M Q' := by
  obtain ⟨r, M', h1, h2⟩ := ev_pt h
  exact h2 Q' (hQ _ _ h1)
theorem ev_s : ∀ {n d c s mid pc : Nat} {ls : List (Option zV)} {st : List zV} {M : zM} {Q : Option zV → zM → Prop}, ev F al n d c s mid pc ls st M Q → ev F al (n + 1) d c s mid pc ls st M Q := by
  intro n
  induction n with
  | zero => intro d c s mid pc ls st M Q h; exact h.elim
  | succ n ih =>
    intro d c s mid pc ls st M Q h
    rw [ev] at h ⊢
    split at h
    · exact h.elim
    · rename_i i len a z hF
      split at h
      · exact ih h
      · split at h
        · split at h
          · exact ⟨h.1, ih h.2⟩
          · exact h.elim
        · split at h
          · split at h
            · exact ⟨h.1, h.2.1, ih h.2.2⟩
            · exact h.elim
          · split at h
            · split at h
              · exact ih h
              · exact h.elim
            · split at h
              · split at h
                · exact h.elim
                · split at h
                  · obtain ⟨c', s', st', M', h1, h2⟩ := znat_pt h
                    exact h2 (fun c s st M => ev F al (n + 1) _ c s mid (pc + len) ls st M Q) (ih h1)
                  · obtain ⟨g1, g2, g3, g4, g5, g7, g6⟩ := h
                    exact ⟨g1, g2, g3, g4, g5, g7, ev_q (ih g6) (fun r M' h => ih h)⟩
                  · exact h.elim
              · rcases h with h | h | h | h
                · obtain ⟨st', M', h1, h2⟩ := zmem_pt h
                  exact Or.inl (h2 (fun st M => ev F al (n + 1) d c s mid (pc + len) ls st M Q) (ih h1))
                · obtain ⟨c', s', st', M', h1, h2⟩ := zmk_pt h
                  exact Or.inr (Or.inl (h2 (fun c s st M => ev F al (n + 1) d c s mid (pc + len) ls st M Q) (ih h1)))
                · obtain ⟨pc', st', h1, h2⟩ := zbr_pt h
                  exact Or.inr (Or.inr (Or.inl (h2 (fun pc st => ev F al (n + 1) d c s mid pc ls st M Q) (ih h1))))
                · exact Or.inr (Or.inr (Or.inr h))
theorem ev_le {n m d c s mid pc : Nat} {ls : List (Option zV)} {st : List zV} {M : zM} {Q : Option zV → zM → Prop} (h : ev F al n d c s mid pc ls st M Q) (hm : n ≤ m) : ev F al m d c s mid pc ls st M Q := by
  induction hm with
  | refl => exact h
  | step _ ih => exact ev_s ih
end
