/-! the class: the player takes back -/
theorem cPl_un {ρ : Nat → Nat → Int32} {T : tT} {c : Nat → Nat} {v u : List (Nat × Int32)} (h : cPl ρ (T, c, v ++ u)) : cPl (zu ρ 4 13 (nI u.length)) (T, c, u) := by
  obtain ⟨⟨h30, h6, h7⟩, hr, hs, ⟨h10, h11, h17, h16⟩, ⟨h13, hu⟩, h9, h8⟩ := h
  refine ⟨⟨h30, ?_, ?_⟩, fun k hk => ?_, fun g hg => ?_, ⟨?_, ?_, ?_, ?_⟩, ⟨zu_e, fun i hi => ?_⟩, ?_, fun e k hk => ?_⟩
  · rw [zu_i_ne (by omega)]; exact h6
  · rw [zu_i_ne (by omega)]; exact h7
  · rw [zu_i_ne (by omega), zu_i_ne (by omega), zu_i_ne (by omega)]; exact hr k hk
  · rw [zu_i_ne (by omega)]; exact hs g hg
  · rw [zu_i_ne (by omega)]; exact h10
  · rw [zu_i_ne (by omega)]; exact h11
  · rw [zu_i_ne (by omega)]; exact h17
  · rw [zu_i_ne (by omega)]; exact h16
  · have hi : i < u.length := hi
    have hl : v.length + i < (v ++ u).length := by rw [List.length_append]; omega
    obtain ⟨p, hp, e1, e2, e3⟩ := hu (v.length + i) hl
    have eg : (v ++ u)[v.length + i] = u[i] := by
      rw [List.getElem_append_right (by omega)]
      congr 1
      omega
    have en : (v ++ u).length - 1 - (v.length + i) = u.length - 1 - i := by rw [List.length_append]; omega
    rw [eg] at e2 e3
    refine ⟨p, hp, ?_, e2, e3⟩
    rw [zu_i_ne (by omega)]
    show ρ 10 (u.length - 1 - i) = nI p
    rw [← en]
    exact e1
  · rw [zu_i_ne (by omega)]; exact h9
  · rw [zu_i_ne (by omega)]; exact h8 e k hk
theorem pPut_l (T : tT) (c : Nat → Nat) (u u' : List (Nat × Int32)) (k g : Nat) (b : Int32) : pPut (T, c, u) k g b = ((pPut (T, c, u') k g b).1, (pPut (T, c, u') k g b).2.1, u) := by
  by_cases h : T.1 < 30
  · rw [pPut_n (s := (T, c, u)) h, pPut_n (s := (T, c, u')) h]
  · rw [pPut_o (s := (T, c, u)) (by show 30 ≤ T.1; omega), pPut_o (s := (T, c, u')) (by show 30 ≤ T.1; omega)]
theorem sp_cTake {d c s m : Nat} {z : pS} {X : zM} {ρ : Nat → Nat → Int32} {l : Nat → Nat → Int64} {Q : Option zV → zM → Prop} (hl : cPl ρ z) (hok : pOk z) (hm : m ≤ z.2.2.length) (k : ∀ ρ', cPl ρ' (pTake m z) → cPf ρ ρ' → Q none (OM X 0 0 ρ' l)) : Ev (d + 1) c s 34 0 [some (zr (some (0, 0, 4))), some (zi (nI m)), none, none] [] (OM X 0 0 ρ l) Q := by
  obtain ⟨T0, c0, u0⟩ := z
  have h30 : u0.length ≤ 30 := Nat.le_trans hok.2.2.1.1 hok.1
  have hm : m ≤ u0.length := hm
  have key : ∀ (u v : List (Nat × Int32)) (T : tT) (C : Nat → Nat) (ρ' : Nat → Nat → Int32) (o3 : Option zV), u0 = v ++ u → pOk (T, C, u0) → cPl ρ' (T, C, u0) → cPf ρ ρ' → m ≤ u.length → pTakeL u m (T, C, u) = pTake m (T0, c0, u0) → Ev (d + 1) c s 34 7 [some (zr (some (0, 0, 4))), some (zi (nI m)), some (zi (nI u.length - nI 1)), o3] [] (OM X 0 0 ρ' l) Q := by
    intro u
    induction u with
    | nil =>
      intro v T C ρ' o3 hv ho hl' hf hm' he
      have e0 : m = 0 := Nat.le_zero.mp hm'
      subst e0
      refine g34_7m (fun _ => k _ ?_ ?_) (fun q => absurd q (by decide)) (fun q => absurd q (by decide)) (fun q => absurd q (by decide)) (fun q => absurd q (by decide))
      · rw [← he]
        rw [hv] at hl'
        exact cPl_un hl'
      · exact hf.trans ⟨fun q i hq => zu_i_ne (by omega), zu_i_ne (by omega), zu_i_ne (by omega), zu_i_ne (by omega)⟩
    | cons a u ih =>
      obtain ⟨g, b⟩ := a
      intro v T C ρ' o3 hv ho hl' hf hm' he
      have hlen : ((g, b) :: u).length = u.length + 1 := rfl
      have elen : u0.length = v.length + (u.length + 1) := by rw [hv, List.length_append, hlen]
      rw [hlen, show nI (u.length + 1) - nI 1 = nI u.length from pk_sub (a := u.length + 1) (b := 1) (by omega)]
      by_cases hlt : m < u.length + 1
      · obtain ⟨⟨h30', _, _⟩, hr, _, _, ⟨_, hu⟩, _⟩ := id hl'
        obtain ⟨p, hp, e1, e2, e3⟩ := hu v.length (by show v.length < u0.length; omega)
        have eg : u0[v.length]'(by omega) = (g, b) := by
          subst hv
          rw [List.getElem_append_right (by omega)]
          simp
        have e1 : ρ' 10 u.length = nI p := by
          rw [← e1]
          congr 1
          show u.length = u0.length - 1 - v.length
          omega
        have hp : p < T.1 := hp
        have h30' : T.1 ≤ 30 := h30'
        have e2 : T.2 1 p = nI g := e2.trans (by show nI (u0[v.length]'(by omega)).1 = nI g; rw [eg])
        have e3 : T.2 2 p = b := e3.trans (by show (u0[v.length]'(by omega)).2 = b; rw [eg])
        have e6 : ρ' 6 p = nI g := (hr p hp).2.1.trans e2
        have e7 : ρ' 7 p = b := (hr p hp).2.2.trans e3
        have g6 : g < 6 := ho.2.2.1.2 (g, b) (by show (g, b) ∈ u0; rw [hv]; exact List.mem_append_right _ List.mem_cons_self)
        have hput : pOk (pPut (T, C, u0) 2 g (-b)) := ho.put (c' := C) (by decide) g6 (fun q => absurd rfl q) rfl (fun _ _ _ => rfl) (fun q => absurd q (by decide)) (fun q => absurd q (by decide)) (fun _ => rfl)
        refine g34_7 (p := p) (G := g) (fun _ => e1) (fun _ => e6) (by omega) (by omega) (fun q => by omega) (fun _ => by omega) (fun _ => by omega) (fun _ => by omega) (fun _ => ?_)
        rw [e7]
        refine sp_cPut hl' hput (fun ρ2 h2 f2 => ?_)
        refine g34_37 ?_
        have ez : nI u.length + -1 = nI u.length - nI 1 := by
          rw [Int32.sub_eq_add_neg]
          exact congrArg (nI u.length + ·) (show (-1 : Int32) = -(nI 1) by decide)
        rw [ez]
        rw [pPut_l T C u0 ((g, b) :: u)] at h2 hput
        refine ih (v ++ [(g, b)]) _ _ ρ2 _ (by rw [hv, List.append_assoc]; rfl) hput h2 (hf.trans f2) (by omega) ?_
        rw [← he]
        show _ = if m < ((g, b) :: u).length then _ else _
        rw [if_pos (by rw [hlen]; exact hlt)]
      · have em : m = u.length + 1 := by rw [hlen] at hm'; omega
        refine g34_7 (p := 0) (G := 0) (fun q => by omega) (fun q => by omega) (by omega) (by omega) (fun _ => k _ ?_ ?_) (fun q => by omega) (fun q => by omega) (fun q => by omega) (fun q => by omega)
        · have ee : pTakeL ((g, b) :: u) m (T, C, (g, b) :: u) = (T, C, (g, b) :: u) := by
            show (if m < ((g, b) :: u).length then _ else _) = _
            rw [if_neg (by rw [hlen]; exact hlt)]
          rw [← he, ee, em]
          rw [hv] at hl'
          exact cPl_un hl'
        · exact hf.trans ⟨fun q i hq => zu_i_ne (by omega), zu_i_ne (by omega), zu_i_ne (by omega), zu_i_ne (by omega)⟩
  refine g34_0 ?_
  rw [hl.2.2.2.2.1.1]
  exact key u0 [] T0 c0 ρ none rfl hok hl (cPf.refl ρ) hm rfl
