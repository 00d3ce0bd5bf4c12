/-! the class: the player does often -/
theorem sp_cOft {d c s a D j0 : Nat} {z : pS} {R : Nat → pS → pO} {Pz : pS → Prop} {X : zM} {ρ : Nat → Nat → Int32} {l : Nat → Nat → Int64} {Q : Option zV → zM → Prop} (hj : 1 ≤ j0 ∧ j0 ≤ 5) (hl : cPl ρ z) (hok : pOk z) (hz : Pz z) (hK : ∀ a s, pOk s → pKeep s (R a s)) (hPk : ∀ z1, pOk z1 → Pz z1 → Pz (R (a + 2) z1).1) (hR : ∀ ρ1 z1 (Q' : Option zV → zM → Prop), cPl ρ1 z1 → pOk z1 → Pz z1 → cPg ρ ρ1 → (∀ ρ' x, cOu ρ1 (R (a + 2) z1) ρ' x → (∀ e, (R (a + 2) z1).2 = Sum.inl e → e < 4000) → Q' (some (zi x)) (OM X 0 0 ρ' l)) → Ev d 0 0 25 0 [some (zr (some (0, 0, 4))), some (zi (nI (a + 2))), some (zi (nI (D + 1))), none, none] [] (OM X 0 0 ρ1 l) Q') (k : ∀ ρ' x, cOu ρ (pOft R a j0 z 0) ρ' x → Q (some (zi x)) (OM X 0 0 ρ' l)) : Ev (d + 1) c s 30 0 [some (zr (some (0, 0, 4))), some (zi (nI a)), some (zi (nI j0)), some (zi (nI D)), none, none, none, none] [] (OM X 0 0 ρ l) Q := by
  have key : ∀ (j : Nat) (z : pS) (ρ1 : Nat → Nat → Int32) (e : Nat) (x : Int32) (o6 o7 : Option zV), j ≤ j0 → (j = 0 → x = nI e) → cPl ρ1 z → pOk z → Pz z → cPg ρ ρ1 → (∀ ρ' y, cOu ρ (pOft R a j z e) ρ' y → Q (some (zi y)) (OM X 0 0 ρ' l)) → Ev (d + 1) c s 30 6 [some (zr (some (0, 0, 4))), some (zi (nI a)), some (zi (nI j0)), some (zi (nI D)), some (zi x), some (zi (nI (j0 - j))), o6, o7] [] (OM X 0 0 ρ1 l) Q := by
    intro j
    induction j with
    | zero =>
      intro z ρ1 e x o6 o7 _ hx h1 ho1 hz1 f1 hk
      have hx := hx rfl
      subst hx
      refine g30_6 h1.1.2.1 h1.2.2.2.1.2.2.2 (by omega) (by omega) (fun _ => ?_) (fun q => by omega)
      rw [nI_add]
      exact hk _ _ ⟨h1, f1, rfl⟩
    | succ j ih =>
      intro z ρ1 e x o6 o7 hj1 _ h1 ho1 hz1 f1 hk
      unfold pOft at hk
      refine g30_6 h1.1.2.1 h1.2.2.2.1.2.2.2 (by omega) (by omega) (fun q => by omega) (fun _ => ?_)
      refine hR ρ1 z _ h1 ho1 hz1 f1 (fun ρ2 y ho he => ?_)
      have hkp := hK (a + 2) z ho1
      have hz2 := hPk z ho1 hz1
      generalize R (a + 2) z = r at hk ho he hkp hz2
      obtain ⟨s2, o⟩ := r
      obtain ⟨ok2, le2, _, _, hm2⟩ := hkp
      have ok2 : pOk s2 := ok2
      have hm2 : z.2.1 9 ≤ s2.2.1 9 := hm2
      have hz2 : Pz s2 := hz2
      cases o with
      | inr b =>
        obtain ⟨h2, f2, ey, hw⟩ := ho
        have ey : y = -1 := ey
        subst ey
        exact g30_34m (hk _ _ ⟨h2, f1.trans f2, rfl, hw⟩)
      | inl e2 =>
        obtain ⟨h2, f2, ey⟩ := ho
        have h2 : cPl ρ2 s2 := h2
        have ey : y = nI e2 := ey
        subst ey
        have he2 : e2 < 4000 := he e2 rfl
        have hn1 := ho1.1
        have hn2 : s2.1.1 ≤ 30 := ok2.1
        have hk : ∀ ρ' y, cOu ρ (if s2.1.1 = z.1.1 then ((s2.1, zup s2.2.1 9 (s2.2.1 9 + (s2.2.1 9 - z.2.1 9) * j), s2.2.2), Sum.inl (e2 + 1)) else pOft R a j s2 e2) ρ' y → Q (some (zi y)) (OM X 0 0 ρ' l) := hk
        refine g30_34 h2.1.2.1 h2.2.2.2.1.2.2.2 (by omega) (by omega) (fun _ q => ?_) (fun _ q => ?_) (fun p => absurd p (nI_nem1 (by omega)))
        · rw [if_neg q] at hk
          rw [show j0 - (j + 1) + 1 = j0 - j by omega]
          exact ih s2 ρ2 e2 _ _ _ (by omega) (fun _ => rfl) h2 ok2 hz2 (f1.trans f2) hk
        · rw [if_pos q] at hk
          have em : nI (s2.2.1 9) + (nI (s2.2.1 9) - nI (z.2.1 9)) * (nI j0 - nI 1 - nI (j0 - (j + 1))) = nI (s2.2.1 9 + (s2.2.1 9 - z.2.1 9) * j) := by
            rw [pk_sub hm2, pk_sub (by omega), pk_sub (by omega), pk_mul, nI_add, show j0 - 1 - (j0 - (j + 1)) = j by omega]
          rw [em]
          have hm := cPl_m h2 (s2.2.1 9 + (s2.2.1 9 - z.2.1 9) * j)
          exact hk _ _ ⟨hm.1, (f1.trans f2).trans hm.2.g, rfl⟩
  refine g30_0 ?_
  have r := key j0 z ρ 0 (-1) none none (Nat.le_refl _) (fun q => by omega) hl hok hz (cPf.refl ρ).g k
  rw [Nat.sub_self] at r
  exact r
