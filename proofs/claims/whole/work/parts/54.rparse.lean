/-! texts: letters one by one, what can't stand; the reference's reading -/
abbrev kSt : Type := Nat × List Nat
/-- 0 at an item, 1 behind a letter, 2 behind a sign, 3 behind a figure; what is to be shut -/
def kStep (x : kSt) (c : Nat) : Option kSt := if x.1 = 1 then (if c = 43 ∨ c = 45 then some (2, x.2) else if c = 40 ∧ x.2.length < 6 then some (0, 41 :: x.2) else none) else if x.1 = 2 then (if 49 ≤ c ∧ c ≤ 57 then some (0, x.2) else none) else if x.1 = 3 then (if c = 123 ∧ x.2.length < 6 then some (0, 125 :: x.2) else none) else if 97 ≤ c ∧ c ≤ 102 then some (1, x.2) else if 50 ≤ c ∧ c ≤ 53 then some (3, x.2) else if c = 91 then (if x.2.length < 6 then some (0, 93 :: x.2) else none) else if c = 33 then some (0, x.2) else match x.2 with
  | [] => none
  | d :: r => if c = d then some (0, r) else none
def kScan : List Nat → Nat → kSt → Nat ⊕ kSt
  | [], _, x => Sum.inr x
  | c :: T, k, x => if c = 32 then kScan T (k + 1) x else match kStep x c with
    | none => Sum.inl k
    | some y => kScan T (k + 1) y
/-- the place of what can't stand -/
def aFlt (T : List Nat) : Option Nat := match kScan T 0 (0, []) with
  | Sum.inl k => some k
  | Sum.inr x => if x.1 = 0 ∧ x.2 = [] then none else some T.length
def aDense (T : List Nat) : List Nat := T.filter fun x => decide (¬ x = 32)
def kP (T : List Nat) (p q : Nat) (O D : List Nat) : Prop := kScan T 0 (0, []) = kScan (T.drop p) p (q, O) ∧ D = aDense (T.take p) ∧ p ≤ T.length ∧ O.length ≤ 6 ∧ ∀ c, c ∈ O → c = 41 ∨ c = 93 ∨ c = 125
theorem drop_get {T : List Nat} {p : Nat} (h : p < T.length) : T.drop p = T.getD p 0 :: T.drop (p + 1) := by
  rw [List.drop_eq_getElem_cons h, List.getD_eq_getElem?_getD, List.getElem?_eq_getElem h]
  rfl
theorem take_get {T : List Nat} {p : Nat} (h : p < T.length) : T.take (p + 1) = T.take p ++ [T.getD p 0] := by
  rw [List.take_succ_eq_append_getElem h, List.getD_eq_getElem?_getD, List.getElem?_eq_getElem h]
  rfl
theorem aDense_app (u v : List Nat) : aDense (u ++ v) = aDense u ++ aDense v := List.filter_append _ _
theorem aDense_32 : aDense [32] = [] := by decide
theorem aDense_1 {c : Nat} (h : ¬ c = 32) : aDense [c] = [c] := by
  unfold aDense
  rw [List.filter_cons_of_pos (by simpa using h)]
  rfl
theorem aDense_len (u : List Nat) : (aDense u).length ≤ u.length := List.length_filter_le _ _
theorem kP.skip {T : List Nat} {p q : Nat} {O D : List Nat} (h : kP T p q O D) (hp : p < T.length) (h32 : T.getD p 0 = 32) : kP T (p + 1) q O D := by
  obtain ⟨h1, h2, h3, h4⟩ := h
  refine ⟨?_, ?_, hp, h4⟩
  · rw [h1, drop_get hp, h32]
    show (if (32 : Nat) = 32 then kScan (T.drop (p + 1)) (p + 1) (q, O) else _) = _
    rw [if_pos rfl]
  · rw [take_get hp, h32, aDense_app, aDense_32, List.append_nil]
    exact h2
theorem kStep_ok {q q' c : Nat} {O O' : List Nat} (h : kStep (q, O) c = some (q', O')) (h6 : O.length ≤ 6) (hO : ∀ c, c ∈ O → c = 41 ∨ c = 93 ∨ c = 125) : O'.length ≤ 6 ∧ ∀ c, c ∈ O' → c = 41 ∨ c = 93 ∨ c = 125 := by
  have same : ∀ x : kSt, some x = some (q', O') → x.2 = O → O'.length ≤ 6 ∧ ∀ c, c ∈ O' → c = 41 ∨ c = 93 ∨ c = 125 := by
    intro x hx e
    injection hx with hx
    subst hx
    have e : O' = O := e
    subst e
    exact ⟨h6, hO⟩
  have push : ∀ x : kSt, ∀ d, some x = some (q', O') → x.2 = d :: O → O.length < 6 → (d = 41 ∨ d = 93 ∨ d = 125) → O'.length ≤ 6 ∧ ∀ c, c ∈ O' → c = 41 ∨ c = 93 ∨ c = 125 := by
    intro x d hx e hl hd
    injection hx with hx
    subst hx
    have e : O' = d :: O := e
    subst e
    refine ⟨hl, fun c hc => ?_⟩
    rcases List.mem_cons.mp hc with rfl | hc
    · exact hd
    · exact hO c hc
  unfold kStep at h
  simp only [] at h
  repeat' split at h
  all_goals first
    | (exact same _ h rfl)
    | (rename_i g; exact push _ _ h rfl g.2 (by decide))
    | (rename_i g; exact push _ _ h rfl g (by decide))
    | (injection h with h
       injection h with h1 h2
       subst h2
       refine ⟨?_, fun c hc => hO c (List.mem_cons_of_mem _ hc)⟩
       have := h6
       rw [List.length_cons] at this
       omega)
    | (cases h; done)
theorem kP.take {T : List Nat} {p q q' : Nat} {O O' D : List Nat} (h : kP T p q O D) (hp : p < T.length) (h32 : ¬ T.getD p 0 = 32) (hs : kStep (q, O) (T.getD p 0) = some (q', O')) : kP T (p + 1) q' O' (D ++ [T.getD p 0]) := by
  obtain ⟨h1, h2, h3, h4, h5⟩ := h
  refine ⟨?_, ?_, hp, kStep_ok hs h4 h5⟩
  · rw [h1, drop_get hp]
    show (if T.getD p 0 = 32 then _ else match kStep (q, O) (T.getD p 0) with | none => Sum.inl p | some y => kScan (T.drop (p + 1)) (p + 1) y) = _
    rw [if_neg h32, hs]
  · rw [take_get hp, aDense_app, aDense_1 h32, ← h2]
theorem kP.fault {T : List Nat} {p q : Nat} {O D : List Nat} (h : kP T p q O D) (hp : p < T.length) (h32 : ¬ T.getD p 0 = 32) (hs : kStep (q, O) (T.getD p 0) = none) : aFlt T = some p := by
  have e : kScan T 0 (0, []) = Sum.inl p := by
    rw [h.1, drop_get hp]
    show (if T.getD p 0 = 32 then _ else match kStep (q, O) (T.getD p 0) with | none => Sum.inl p | some y => kScan (T.drop (p + 1)) (p + 1) y) = _
    rw [if_neg h32, hs]
  unfold aFlt
  rw [e]
theorem kP.fin {T : List Nat} {q : Nat} {O D : List Nat} (h : kP T T.length q O D) : (aFlt T = if q = 0 ∧ O = [] then none else some T.length) ∧ D = aDense T := by
  have e : kScan T 0 (0, []) = Sum.inr (q, O) := by
    rw [h.1, List.drop_eq_nil_of_le (Nat.le_refl _)]
    rfl
  refine ⟨?_, ?_⟩
  · unfold aFlt
    rw [e]
  · rw [h.2.1, List.take_of_length_le (Nat.le_refl _)]
theorem kP0 (T : List Nat) : kP T 0 0 [] [] := ⟨rfl, rfl, Nat.zero_le _, Nat.zero_le _, fun _ h => absurd h List.not_mem_nil⟩
/-! the reference's memory while it reads -/
def kOp (c : Nat) : Nat := if c = 41 then 40 else if c = 93 then 91 else 123
def kStk (ρ : Nat → Nat → Int32) : List Nat → Prop
  | [] => True
  | c :: r => ρ 19 r.length = nI (kOp c) ∧ kStk ρ r
def kScr (q i : Nat) : Prop := (q = 0 ∧ (i = 34 ∨ i = 36 ∨ i = 26)) ∨ q = 27 ∨ q = 19
def kR (ρ0 ρ : Nat → Nat → Int32) (p : Nat) (O D : List Nat) : Prop := ρ 0 34 = nI p ∧ (ρ 0 36 = nI D.length ∧ ∀ k (h : k < D.length), ρ 27 k = nI (D[k])) ∧ (ρ 0 26 = nI O.length ∧ kStk ρ O) ∧ ∀ q i, ¬ kScr q i → ρ q i = ρ0 q i
theorem kStk_ext {ρ ρ' : Nat → Nat → Int32} : ∀ {O : List Nat}, (∀ k, k < O.length → ρ' 19 k = ρ 19 k) → kStk ρ O → kStk ρ' O := by
  intro O
  induction O with
  | nil => intro _ _; trivial
  | cons c r ih =>
    intro h hO
    exact ⟨(h _ (by rw [List.length_cons]; omega)).trans hO.1, ih (fun k hk => h k (by rw [List.length_cons]; omega)) hO.2⟩
theorem kR.at {ρ0 ρ : Nat → Nat → Int32} {p : Nat} {O D : List Nat} (h : kR ρ0 ρ p O D) (p' : Nat) : kR ρ0 (zu ρ 0 34 (nI p')) p' O D := by
  obtain ⟨h1, ⟨h2, h3⟩, ⟨h4, h5⟩, h6⟩ := h
  refine ⟨zu_s _ _ _ _, ⟨?_, fun k hk => ?_⟩, ⟨?_, kStk_ext (fun k hk => ?_) h5⟩, fun q i hq => ?_⟩
  · rw [zu_i_ne (by omega)]; exact h2
  · rw [zu_i_ne (by omega)]; exact h3 k hk
  · rw [zu_i_ne (by omega)]; exact h4
  · rw [zu_i_ne (by omega)]
  · rw [zu_i_ne (by unfold kScr at hq; omega)]; exact h6 q i hq
theorem kR.say {ρ0 ρ : Nat → Nat → Int32} {p : Nat} {O D : List Nat} (h : kR ρ0 ρ p O D) (c p' : Nat) : kR ρ0 (zu (zu (zu ρ 27 D.length (nI c)) 0 36 (nI (D.length + 1))) 0 34 (nI p')) p' O (D ++ [c]) := by
  obtain ⟨h1, ⟨h2, h3⟩, ⟨h4, h5⟩, h6⟩ := h
  refine ⟨zu_s _ _ _ _, ⟨?_, fun k hk => ?_⟩, ⟨?_, kStk_ext (fun k hk => ?_) h5⟩, fun q i hq => ?_⟩
  · rw [zu_i_ne (by omega), zu_s, List.length_append]; rfl
  · rw [List.length_append, List.length_singleton] at hk
    rw [zu_i_ne (by omega), zu_i_ne (by omega)]
    by_cases e : k = D.length
    · subst e
      rw [zu_s]
      simp
    · rw [zu_i_ne (by omega), h3 k (by omega), List.getElem_append_left (by omega)]
  · rw [zu_i_ne (by omega), zu_i_ne (by omega), zu_i_ne (by omega)]; exact h4
  · rw [zu_i_ne (by omega), zu_i_ne (by omega), zu_i_ne (by omega)]
  · rw [zu_i_ne (by unfold kScr at hq; omega), zu_i_ne (by unfold kScr at hq; omega), zu_i_ne (by unfold kScr at hq; omega)]; exact h6 q i hq
theorem kR.opn {ρ0 ρ : Nat → Nat → Int32} {p : Nat} {O D : List Nat} (h : kR ρ0 ρ p O D) (c : Nat) : kR ρ0 (zu (zu ρ 19 O.length (nI (kOp c))) 0 26 (nI (O.length + 1))) p (c :: O) D := by
  obtain ⟨h1, ⟨h2, h3⟩, ⟨h4, h5⟩, h6⟩ := h
  refine ⟨?_, ⟨?_, fun k hk => ?_⟩, ⟨zu_s _ _ _ _, ?_, kStk_ext (fun k hk => ?_) h5⟩, fun q i hq => ?_⟩
  · rw [zu_i_ne (by omega), zu_i_ne (by omega)]; exact h1
  · rw [zu_i_ne (by omega), zu_i_ne (by omega)]; exact h2
  · rw [zu_i_ne (by omega), zu_i_ne (by omega)]; exact h3 k hk
  · rw [zu_i_ne (by omega), zu_s]
  · rw [zu_i_ne (by omega), zu_i_ne (by omega)]
  · rw [zu_i_ne (by unfold kScr at hq; omega), zu_i_ne (by unfold kScr at hq; omega)]; exact h6 q i hq
theorem kR.shut {ρ0 ρ : Nat → Nat → Int32} {p c : Nat} {O D : List Nat} (h : kR ρ0 ρ p (c :: O) D) : kR ρ0 (zu ρ 0 26 (nI O.length)) p O D := by
  obtain ⟨h1, ⟨h2, h3⟩, ⟨h4, h5⟩, h6⟩ := h
  refine ⟨?_, ⟨?_, fun k hk => ?_⟩, ⟨zu_s _ _ _ _, kStk_ext (fun k hk => ?_) h5.2⟩, fun q i hq => ?_⟩
  · rw [zu_i_ne (by omega)]; exact h1
  · rw [zu_i_ne (by omega)]; exact h2
  · rw [zu_i_ne (by omega)]; exact h3 k hk
  · rw [zu_i_ne (by omega)]
  · rw [zu_i_ne (by unfold kScr at hq; omega)]; exact h6 q i hq
def kN (T : List Nat) (p : Nat) : Prop := p < T.length → ¬ T.getD p 0 = 32
theorem kR.tape {ρ0 ρ : Nat → Nat → Int32} {p : Nat} {O D T : List Nat} (h : kR ρ0 ρ p O D) (hT : rTape ρ0 T) : ρ 0 7 = nI T.length ∧ ∀ k, k < T.length → ρ 5 k = nI (T.getD k 0) := by
  refine ⟨(h.2.2.2 0 7 (by unfold kScr; omega)).trans hT.1, fun k hk => (h.2.2.2 5 k (by unfold kScr; omega)).trans ?_⟩
  rw [hT.2 k hk, List.getD_eq_getElem?_getD, List.getElem?_eq_getElem hk]
  rfl
theorem g180_0 {d c s : Nat} {p n x : Nat} {X : zM} {ρ : Nat → Nat → Int32} {l : Nat → Nat → Int64} {Q : Option zV → zM → Prop} (e1 : ρ 0 34 = nI p) (e2 : ρ 0 7 = nI n) (e3 : p < n → ρ 5 p = nI x) (nb_p : p < 5000) (nb_n : n < 5000) (nb_x : x < 5000)
    (h1 : (n ≤ p) → (n ≤ p) → Q (some (zi (nI 0))) (OM X 1 0 ρ l))
    (b1 : (n ≤ p) → (p < n) → p < 60)
    (h2 : (n ≤ p) → (p < n) → Q (some (zi (nI x))) (OM X 1 0 ρ l))
    (b2 : (p < n) → p < 60)
    (h3 : (p < n) → (¬ x = 32) → (n ≤ p) → Q (some (zi (nI 0))) (OM X 1 0 ρ l))
    (b3 : (p < n) → (¬ x = 32) → (p < n) → p < 60)
    (h4 : (p < n) → (¬ x = 32) → (p < n) → Q (some (zi (nI x))) (OM X 1 0 ρ l))
    (h5 : (p < n) → (x = 32) → Ev d c s 180 0 [some (zr (some (1, 0, 0)))] [] (OM X 1 0 (zu ρ 0 34 (nI (p + 1))) l) Q) : Ev d c s 180 0 [some (zr (some (1, 0, 0)))] [] (OM X 1 0 ρ l) Q := by
  refine Ew.ld f180_0 rfl rfl rfl rfl ?_
  refine Ew.getiV (v := nI p) f180_1 rfl (so_v e1) rfl ?_
  refine Ew.ld f180_4 rfl rfl rfl rfl ?_
  refine Ew.getiV (v := nI n) f180_5 rfl (so_v e2) rfl ?_
  refine Ew.icmp f180_8 rfl rfl (fun c1 => ?_) (fun c1 => ?_)
  · refine Ew.ld f180_38 rfl rfl rfl rfl ?_
    refine Ew.getiV (v := nI p) f180_39 rfl (so_v e1) rfl ?_
    refine Ew.ld f180_42 rfl rfl rfl rfl ?_
    refine Ew.getiV (v := nI n) f180_43 rfl (so_v e2) rfl ?_
    refine Ew.icmp f180_46 rfl rfl (fun c2 => ?_) (fun c2 => ?_)
    · refine Ew.op (st' := zi (nI 0) :: _) f180_61 rfl rfl ?_
      refine Ew.ireti f180_62 ?_
      exact h1 ((zle_iff nb_n nb_p).mp c1) ((zle_iff nb_n nb_p).mp c2)
    · refine Ew.ld f180_49 rfl rfl rfl rfl ?_
      refine Ew.getp (v := some (1, 0, 5)) f180_50 rfl rfl rfl ?_
      refine Ew.ld f180_53 rfl rfl rfl rfl ?_
      refine Ew.getiV (v := nI p) f180_54 rfl (so_v e1) rfl ?_
      refine Ew.ialdnV (v := nI x) f180_57 rfl (b1 ((zle_iff nb_n nb_p).mp c1) (Nat.not_le.mp fun e => c2 ((zle_iff nb_n nb_p).mpr e))) (Nat.le_of_ble_eq_true rfl) rfl (so_v (e3 (Nat.not_le.mp fun e => c2 ((zle_iff nb_n nb_p).mpr e)))) ?_
      refine Ew.goto f180_58 rfl ?_
      refine Ew.ireti f180_62 ?_
      exact h2 ((zle_iff nb_n nb_p).mp c1) (Nat.not_le.mp fun e => c2 ((zle_iff nb_n nb_p).mpr e))
  · refine Ew.ld f180_11 rfl rfl rfl rfl ?_
    refine Ew.getp (v := some (1, 0, 5)) f180_12 rfl rfl rfl ?_
    refine Ew.ld f180_15 rfl rfl rfl rfl ?_
    refine Ew.getiV (v := nI p) f180_16 rfl (so_v e1) rfl ?_
    refine Ew.ialdnV (v := nI x) f180_19 rfl (b2 (Nat.not_le.mp fun e => c1 ((zle_iff nb_n nb_p).mpr e))) (Nat.le_of_ble_eq_true rfl) rfl (so_v (e3 (Nat.not_le.mp fun e => c1 ((zle_iff nb_n nb_p).mpr e)))) ?_
    refine Ew.op (st' := zi (nI 32) :: _) f180_20 rfl rfl ?_
    refine Ew.icmp f180_22 rfl rfl (fun c3 => ?_) (fun c3 => ?_)
    · refine Ew.ld f180_38 rfl rfl rfl rfl ?_
      refine Ew.getiV (v := nI p) f180_39 rfl (so_v e1) rfl ?_
      refine Ew.ld f180_42 rfl rfl rfl rfl ?_
      refine Ew.getiV (v := nI n) f180_43 rfl (so_v e2) rfl ?_
      refine Ew.icmp f180_46 rfl rfl (fun c4 => ?_) (fun c4 => ?_)
      · refine Ew.op (st' := zi (nI 0) :: _) f180_61 rfl rfl ?_
        refine Ew.ireti f180_62 ?_
        exact h3 (Nat.not_le.mp fun e => c1 ((zle_iff nb_n nb_p).mpr e)) (fun e => c3 ((zeq nb_x (by decide)).mpr e)) ((zle_iff nb_n nb_p).mp c4)
      · refine Ew.ld f180_49 rfl rfl rfl rfl ?_
        refine Ew.getp (v := some (1, 0, 5)) f180_50 rfl rfl rfl ?_
        refine Ew.ld f180_53 rfl rfl rfl rfl ?_
        refine Ew.getiV (v := nI p) f180_54 rfl (so_v e1) rfl ?_
        refine Ew.ialdnV (v := nI x) f180_57 rfl (b3 (Nat.not_le.mp fun e => c1 ((zle_iff nb_n nb_p).mpr e)) (fun e => c3 ((zeq nb_x (by decide)).mpr e)) (Nat.not_le.mp fun e => c4 ((zle_iff nb_n nb_p).mpr e))) (Nat.le_of_ble_eq_true rfl) rfl (so_v (e3 (Nat.not_le.mp fun e => c1 ((zle_iff nb_n nb_p).mpr e)))) ?_
        refine Ew.goto f180_58 rfl ?_
        refine Ew.ireti f180_62 ?_
        exact h4 (Nat.not_le.mp fun e => c1 ((zle_iff nb_n nb_p).mpr e)) (fun e => c3 ((zeq nb_x (by decide)).mpr e)) (Nat.not_le.mp fun e => c4 ((zle_iff nb_n nb_p).mpr e))
    · refine Ew.ld f180_25 rfl rfl rfl rfl ?_
      refine Ew.op (st' := zr (some (1, 0, 0)) :: zr (some (1, 0, 0)) :: _) f180_26 rfl rfl ?_
      refine Ew.getiV (v := nI p) f180_27 rfl (so_v e1) rfl ?_
      refine Ew.op (st' := zi (nI 1) :: _) f180_30 rfl rfl ?_
      refine Ew.addn f180_31 rfl ?_
      refine Ew.putiO f180_32 rfl rfl ?_
      refine Ew.goto f180_35 rfl ?_
      exact h5 (Nat.not_le.mp fun e => c1 ((zle_iff nb_n nb_p).mpr e)) ((zeq nb_x (by decide)).mp (Classical.not_not.mp c3))
theorem sp_here {d c s : Nat} {T O D : List Nat} {X : zM} {ρ0 : Nat → Nat → Int32} {l : Nat → Nat → Int64} {Q : Option zV → zM → Prop} (h60 : T.length ≤ 60) (h127 : ∀ x, x ∈ T → x < 127) (hT : rTape ρ0 T) : ∀ (j p : Nat) (ρ : Nat → Nat → Int32), p + j = T.length → kR ρ0 ρ p O D → (∀ ρ' p', kR ρ0 ρ' p' O D → p' ≤ T.length → kN T p' → (∀ q, kP T p q O D → kP T p' q O D) → (kN T p → p' = p) → Q (some (zi (nI (T.getD p' 0)))) (OM X 1 0 ρ' l)) → Ev d c s 180 0 [some (zr (some (1, 0, 0)))] [] (OM X 1 0 ρ l) Q := by
  intro j
  induction j with
  | zero =>
    intro p ρ hj h k
    have hp : p = T.length := by omega
    subst hp
    obtain ⟨t1, t2⟩ := h.tape hT
    have e0 : T.getD T.length 0 = 0 := by
      rw [List.getD_eq_getElem?_getD, List.getElem?_eq_none (Nat.le_refl _)]
      rfl
    have kk := k ρ T.length h (Nat.le_refl _) (fun g => absurd g (Nat.lt_irrefl _)) (fun _ h => h) (fun _ => rfl)
    rw [e0] at kk
    exact g180_0 (x := 0) h.1 t1 (fun g => absurd g (Nat.lt_irrefl _)) (by omega) (by omega) (by omega) (fun _ _ => kk) (fun _ g => absurd g (Nat.lt_irrefl _)) (fun _ g => absurd g (Nat.lt_irrefl _)) (fun g => absurd g (Nat.lt_irrefl _)) (fun g => absurd g (Nat.lt_irrefl _)) (fun g => absurd g (Nat.lt_irrefl _)) (fun g => absurd g (Nat.lt_irrefl _)) (fun g => absurd g (Nat.lt_irrefl _))
  | succ j ih =>
    intro p ρ hj h k
    have hp : p < T.length := by omega
    obtain ⟨t1, t2⟩ := h.tape hT
    have hx := L127 h127 p
    refine g180_0 (x := T.getD p 0) h.1 t1 (fun _ => t2 p hp) (by omega) (by omega) (by omega) (fun g => by omega) (fun g => by omega) (fun g => by omega) (fun _ => by omega) (fun _ _ g => by omega) (fun _ _ _ => by omega) (fun _ h32 _ => ?_) (fun _ h32 => ?_)
    · exact k ρ p h (by omega) (fun _ => h32) (fun _ h => h) (fun _ => rfl)
    · refine ih (p + 1) _ (by omega) (h.at (p + 1)) (fun ρ' p' a1 a2 a3 a4 a5 => k ρ' p' a1 a2 a3 (fun q hq => a4 q (hq.skip hp h32)) (fun hn => absurd h32 (hn hp)))
theorem g181_0 {d c s : Nat} {p n : Nat} {X : zM} {ρ : Nat → Nat → Int32} {l : Nat → Nat → Int64} {Q : Option zV → zM → Prop} (e1 : ρ 0 34 = nI p) (e2 : ρ 0 36 = nI n)
    (h1 : Ev d 0 0 180 0 [some (zr (some (1, 0, 0)))] [] (OM X 1 0 ρ l) (fun r M' => Ev (d + 1) c s 181 12 [some (zr (some (1, 0, 0)))] (zpush r [zi (nI n), zr (some (1, 0, 27))]) M' Q)) : Ev (d + 1) c s 181 0 [some (zr (some (1, 0, 0)))] [] (OM X 1 0 ρ l) Q := by
  refine Ew.ld f181_0 rfl rfl rfl rfl ?_
  refine Ew.getp (v := some (1, 0, 27)) f181_1 rfl rfl rfl ?_
  refine Ew.ld f181_4 rfl rfl rfl rfl ?_
  refine Ew.getiV (v := nI n) f181_5 rfl (so_v e2) rfl ?_
  refine Ew.ld f181_8 rfl rfl rfl rfl ?_
  refine Ew.call0 (ls0 := [some (zr (some (1, 0, 0)))]) f181_9 rfl (Nat.le_of_ble_eq_true rfl) rfl rfl (Nat.le_of_ble_eq_true rfl) rfl (Nat.le_of_ble_eq_true rfl) rfl rfl ?_
  exact h1
theorem g181_12 {d c s : Nat} {p n x : Nat} {X : zM} {ρ : Nat → Nat → Int32} {l : Nat → Nat → Int64} {Q : Option zV → zM → Prop} (e1 : ρ 0 34 = nI p) (e2 : ρ 0 36 = nI n)
    (b1 : n < 60)
    (h1 : Q none (OM X 1 0 (zu (zu (zu ρ 27 n (nI x)) 0 36 (nI (n + 1))) 0 34 (((zu (zu ρ 27 n (nI x)) 0 36 (nI (n + 1))) 0 34) + (nI 1))) l)) : Ev d c s 181 12 [some (zr (some (1, 0, 0)))] [zi (nI x), zi (nI n), zr (some (1, 0, 27))] (OM X 1 0 ρ l) Q := by
  refine Ew.iastnO f181_12 (by decide) rfl b1 (Nat.le_of_ble_eq_true rfl) rfl ?_
  refine Ew.ld f181_13 rfl rfl rfl rfl ?_
  refine Ew.op (st' := zr (some (1, 0, 0)) :: zr (some (1, 0, 0)) :: _) f181_14 rfl rfl ?_
  refine Ew.getiV (v := nI n) f181_15 rfl (so_v e2) rfl ?_
  refine Ew.op (st' := zi (nI 1) :: _) f181_18 rfl rfl ?_
  refine Ew.addn f181_19 rfl ?_
  refine Ew.putiO f181_20 rfl rfl ?_
  refine Ew.ld f181_23 rfl rfl rfl rfl ?_
  refine Ew.op (st' := zr (some (1, 0, 0)) :: zr (some (1, 0, 0)) :: _) f181_24 rfl rfl ?_
  refine Ew.getiO f181_25 rfl rfl ?_
  refine Ew.op (st' := zi (nI 1) :: _) f181_28 rfl rfl ?_
  refine Ew.op (st' := zi (((zu (zu ρ 27 n (nI x)) 0 36 (nI (n + 1))) 0 34) + (nI 1)) :: _) f181_29 rfl rfl ?_
  refine Ew.putiO f181_30 rfl rfl ?_
  refine Ew.vret f181_33 ?_
  exact h1
theorem sp_takes {d c s p : Nat} {T O D : List Nat} {X : zM} {ρ0 ρ : Nat → Nat → Int32} {l : Nat → Nat → Int64} {Q : Option zV → zM → Prop} (h60 : T.length ≤ 60) (h127 : ∀ x, x ∈ T → x < 127) (hT : rTape ρ0 T) (h : kR ρ0 ρ p O D) (hp : p < T.length) (hN : kN T p) (hD : D.length ≤ p) (k : ∀ ρ', kR ρ0 ρ' (p + 1) O (D ++ [T.getD p 0]) → Q none (OM X 1 0 ρ' l)) : Ev (d + 1) c s 181 0 [some (zr (some (1, 0, 0)))] [] (OM X 1 0 ρ l) Q := by
  refine g181_0 (n := D.length) h.1 h.2.1.1 (sp_here h60 h127 hT (T.length - p) p ρ (by omega) h (fun ρ1 p' a1 a2 a3 a4 a5 => ?_))
  have e := a5 hN
  subst e
  refine g181_12 (p := p') (n := D.length) (x := T.getD p' 0) a1.1 a1.2.1.1 (by omega) ?_
  have e2 : zu (zu ρ1 27 D.length (nI (T.getD p' 0))) 0 36 (nI (D.length + 1)) 0 34 = nI p' := by
    rw [zu_i_ne (by omega), zu_i_ne (by omega)]
    exact a1.1
  rw [e2, nI_add]
  exact k _ (a1.say _ _)
theorem g182_0 {d c s : Nat} {X : zM} {ρ : Nat → Nat → Int32} {l : Nat → Nat → Int64} {Q : Option zV → zM → Prop}
    (h1 : Ev d 0 0 181 0 [some (zr (some (1, 0, 0)))] [] (OM X 1 0 ρ l) (fun r M' => Ev (d + 1) c s 182 8 [some (zr (some (1, 0, 0))), some (zi (nI 1))] (zpush r []) M' Q)) : Ev (d + 1) c s 182 0 [some (zr (some (1, 0, 0))), some (zi (nI 1))] [] (OM X 1 0 ρ l) Q := by
  refine Ew.ld f182_0 rfl rfl rfl rfl ?_
  refine Ew.ifc f182_1 rfl rfl (fun h => absurd h (show ¬ (((nI 1) : Int32) = 0) by decide)) (fun _ => ?_)
  refine Ew.ld f182_4 rfl rfl rfl rfl ?_
  refine Ew.call0 (ls0 := [some (zr (some (1, 0, 0)))]) f182_5 rfl (Nat.le_of_ble_eq_true rfl) rfl rfl (Nat.le_of_ble_eq_true rfl) rfl (Nat.le_of_ble_eq_true rfl) rfl rfl ?_
  exact h1
theorem g182_8 {d c s : Nat} {X : zM} {ρ : Nat → Nat → Int32} {l : Nat → Nat → Int64} {Q : Option zV → zM → Prop}
    (h1 : Q (some (zi (nI 1))) (OM X 1 0 ρ l)) : Ev d c s 182 8 [some (zr (some (1, 0, 0))), some (zi (nI 1))] [] (OM X 1 0 ρ l) Q := by
  refine Ew.ld f182_8 rfl rfl rfl rfl ?_
  refine Ew.iretb f182_9 (Or.inr rfl) ?_
  exact h1
theorem g182_0z {d c s : Nat} {X : zM} {ρ : Nat → Nat → Int32} {l : Nat → Nat → Int64} {Q : Option zV → zM → Prop}
    (h1 : Q (some (zi (nI 0))) (OM X 1 0 ρ l)) : Ev d c s 182 0 [some (zr (some (1, 0, 0))), some (zi (nI 0))] [] (OM X 1 0 ρ l) Q := by
  refine Ew.ld f182_0 rfl rfl rfl rfl ?_
  refine Ew.ifc f182_1 rfl rfl (fun _ => ?_) (fun h => absurd (show ((nI 0) : Int32) = 0 by decide) h)
  refine Ew.ld f182_8 rfl rfl rfl rfl ?_
  refine Ew.iretb f182_9 (Or.inl rfl) ?_
  exact h1
theorem g183_0 {d c s : Nat} {o : Nat} {X : zM} {ρ : Nat → Nat → Int32} {l : Nat → Nat → Int64} {Q : Option zV → zM → Prop} (e1 : ρ 0 26 = nI o) (nb_o : o < 5000)
    (h1 : (¬ o = 6) → Ev d 0 0 180 0 [some (zr (some (1, 0, 0)))] [] (OM X 1 0 ρ l) (fun r M' => Ev (d + 1) c s 183 23 [some (zr (some (1, 0, 0)))] (zpush r [zi (nI o), zr (some (1, 0, 19))]) M' Q))
    (h2 : (o = 6) → Q (some (zi (nI 0))) (OM X 1 0 ρ l)) : Ev (d + 1) c s 183 0 [some (zr (some (1, 0, 0)))] [] (OM X 1 0 ρ l) Q := by
  refine Ew.ld f183_0 rfl rfl rfl rfl ?_
  refine Ew.getiV (v := nI o) f183_1 rfl (so_v e1) rfl ?_
  refine Ew.op (st' := zi (nI 6) :: _) f183_4 rfl rfl ?_
  refine Ew.icmp f183_6 rfl rfl (fun c1 => ?_) (fun c1 => ?_)
  · refine Ew.ld f183_11 rfl rfl rfl rfl ?_
    refine Ew.getp (v := some (1, 0, 19)) f183_12 rfl rfl rfl ?_
    refine Ew.ld f183_15 rfl rfl rfl rfl ?_
    refine Ew.getiV (v := nI o) f183_16 rfl (so_v e1) rfl ?_
    refine Ew.ld f183_19 rfl rfl rfl rfl ?_
    refine Ew.call0 (ls0 := [some (zr (some (1, 0, 0)))]) f183_20 rfl (Nat.le_of_ble_eq_true rfl) rfl rfl (Nat.le_of_ble_eq_true rfl) rfl (Nat.le_of_ble_eq_true rfl) rfl rfl ?_
    exact h1 (fun e => c1 ((zeq nb_o (by decide)).mpr e))
  · refine Ew.op (st' := zi (nI 0) :: _) f183_9 rfl rfl ?_
    refine Ew.iretb f183_10 (Or.inl rfl) ?_
    exact h2 ((zeq nb_o (by decide)).mp (Classical.not_not.mp c1))
theorem g183_23 {d c s : Nat} {o x : Nat} {X : zM} {ρ : Nat → Nat → Int32} {l : Nat → Nat → Int64} {Q : Option zV → zM → Prop} (e1 : ρ 0 26 = nI o)
    (b1 : o < 6)
    (h1 : Ev d 0 0 181 0 [some (zr (some (1, 0, 0)))] [] (OM X 1 0 (zu (zu ρ 19 o (nI x)) 0 26 (nI (o + 1))) l) (fun r M' => Ev (d + 1) c s 183 38 [some (zr (some (1, 0, 0)))] (zpush r []) M' Q)) : Ev (d + 1) c s 183 23 [some (zr (some (1, 0, 0)))] [zi (nI x), zi (nI o), zr (some (1, 0, 19))] (OM X 1 0 ρ l) Q := by
  refine Ew.iastnO f183_23 (by decide) rfl b1 (Nat.le_of_ble_eq_true rfl) rfl ?_
  refine Ew.ld f183_24 rfl rfl rfl rfl ?_
  refine Ew.op (st' := zr (some (1, 0, 0)) :: zr (some (1, 0, 0)) :: _) f183_25 rfl rfl ?_
  refine Ew.getiV (v := nI o) f183_26 rfl (so_v e1) rfl ?_
  refine Ew.op (st' := zi (nI 1) :: _) f183_29 rfl rfl ?_
  refine Ew.addn f183_30 rfl ?_
  refine Ew.putiO f183_31 rfl rfl ?_
  refine Ew.ld f183_34 rfl rfl rfl rfl ?_
  refine Ew.call0 (ls0 := [some (zr (some (1, 0, 0)))]) f183_35 rfl (Nat.le_of_ble_eq_true rfl) rfl rfl (Nat.le_of_ble_eq_true rfl) rfl (Nat.le_of_ble_eq_true rfl) rfl rfl ?_
  exact h1
theorem g183_38 {d c s : Nat} {X : zM} {ρ : Nat → Nat → Int32} {l : Nat → Nat → Int64} {Q : Option zV → zM → Prop}
    (h1 : Q (some (zi (nI 1))) (OM X 1 0 ρ l)) : Ev d c s 183 38 [some (zr (some (1, 0, 0)))] [] (OM X 1 0 ρ l) Q := by
  refine Ew.op (st' := zi (nI 1) :: _) f183_38 rfl rfl ?_
  refine Ew.iretb f183_39 (Or.inr rfl) ?_
  exact h1
def kCl (c : Nat) : Nat := if c = 40 then 41 else if c = 91 then 93 else 125
theorem kOpCl {c : Nat} (h : c = 40 ∨ c = 91 ∨ c = 123) : kOp (kCl c) = c := by
  rcases h with rfl | rfl | rfl <;> rfl
theorem sp_isOpened {d c s p : Nat} {T O D : List Nat} {X : zM} {ρ0 ρ : Nat → Nat → Int32} {l : Nat → Nat → Int64} {Q : Option zV → zM → Prop} (h60 : T.length ≤ 60) (h127 : ∀ x, x ∈ T → x < 127) (hT : rTape ρ0 T) (h : kR ρ0 ρ p O D) (hp : p < T.length) (hN : kN T p) (hD : D.length ≤ p) (h6 : O.length ≤ 6) (hc : T.getD p 0 = 40 ∨ T.getD p 0 = 91 ∨ T.getD p 0 = 123) (k1 : O.length < 6 → ∀ ρ', kR ρ0 ρ' (p + 1) (kCl (T.getD p 0) :: O) (D ++ [T.getD p 0]) → Q (some (zi (nI 1))) (OM X 1 0 ρ' l)) (k0 : ¬ O.length < 6 → Q (some (zi (nI 0))) (OM X 1 0 ρ l)) : Ev (d + 2) c s 183 0 [some (zr (some (1, 0, 0)))] [] (OM X 1 0 ρ l) Q := by
  refine g183_0 h.2.2.1.1 (by omega) (fun g => ?_) (fun g => k0 (by omega))
  refine sp_here h60 h127 hT (T.length - p) p ρ (by omega) h (fun ρ1 p' a1 a2 a3 a4 a5 => ?_)
  have e := a5 hN
  subst e
  refine g183_23 (o := O.length) (x := T.getD p' 0) a1.2.2.1.1 (by omega) ?_
  have h2 := a1.opn (kCl (T.getD p' 0))
  rw [kOpCl hc] at h2
  exact sp_takes h60 h127 hT h2 hp hN hD (fun ρ3 h3 => g183_38 (k1 (by omega) ρ3 h3))
