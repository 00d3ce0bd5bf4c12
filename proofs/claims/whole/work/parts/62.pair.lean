/-! all ways of two tasks: a pure telling, in one row -/
/-- ways and weights by how many steps the second has done; ways done, ways stuck, weight stuck, the nearest -/
abbrev gS : Type := (Nat → Nat) × (Nat → Nat) × Nat × Nat × Nat × Int32
def gNr (x : Int32) (n : Nat) : Int32 := if x < 0 then nI n else if nI n < x then nI n else x
/-- one place: who can go on -/
def gPl (c1 c2 : Bool) (n m p q : Nat) (s : gS) : gS := if s.1 q = 0 then s else match c1, c2 with
  | true, true => (zup s.1 (q + 1) (s.1 (q + 1) + s.1 q), zup (zup s.2.1 q (s.2.1 q / 2)) (q + 1) (s.2.1 (q + 1) + s.2.1 q / 2), s.2.2)
  | true, false => s
  | false, true => (zup (zup s.1 q 0) (q + 1) (s.1 (q + 1) + s.1 q), zup (zup s.2.1 q 0) (q + 1) (s.2.1 (q + 1) + s.2.1 q), s.2.2)
  | false, false => (zup s.1 q 0, zup s.2.1 q 0, if p = n ∧ q = m then (s.2.2.1 + s.1 q, s.2.2.2.1, s.2.2.2.2.1, s.2.2.2.2.2) else (s.2.2.1, s.2.2.2.1 + s.1 q, s.2.2.2.2.1 + s.2.1 q, gNr s.2.2.2.2.2 (p + q)))
section
variable (C1 C2 : Nat → Nat → Bool) (n m : Nat)
def gRow (p : Nat) : Nat → gS → gS
  | 0, s => s
  | q + 1, s => gPl (C1 p q) (C2 p q) n m p q (gRow p q s)
def gAll : Nat → gS → gS
  | 0, s => s
  | p + 1, s => gRow C1 C2 n m p (m + 1) (gAll p s)
def gS0 : gS := (zup (fun _ => 0) 0 1, zup (fun _ => 0) 0 (2 ^ 60), 0, 0, 0, -4)
def gFin : gS := gAll C1 C2 n m (n + 1) gS0
end
/-- sums -/
def sm (f : Nat → Nat) : Nat → Nat
  | 0 => 0
  | n + 1 => sm f n + f n
theorem sm_up {f : Nat → Nat} {k v : Nat} : ∀ {n}, k < n → sm (zup f k v) n + f k = sm f n + v := by
  intro n
  induction n with
  | zero => intro h; omega
  | succ n ih =>
    intro h
    unfold sm
    by_cases e : k = n
    · subst e
      rw [zup_s]
      have : ∀ j, j ≤ k → sm (zup f k v) j = sm f j := by
        intro j
        induction j with
        | zero => intro _; rfl
        | succ j ihj =>
          intro hj
          unfold sm
          rw [ihj (by omega), zup_nn (by omega)]
      rw [this k (Nat.le_refl k)]
      omega
    · rw [zup_nn (fun g => e g.symm)]
      have := ih (by omega)
      omega
theorem sm_ge {f : Nat → Nat} {k : Nat} : ∀ {n}, k < n → f k ≤ sm f n := by
  intro n
  induction n with
  | zero => intro h; omega
  | succ n ih =>
    intro h
    unfold sm
    by_cases e : k = n
    · subst e; omega
    · have := ih (by omega)
      omega
theorem sm_eq {f g : Nat → Nat} : ∀ {n}, (∀ k, k < n → f k = g k) → sm f n = sm g n := by
  intro n
  induction n with
  | zero => intro _; rfl
  | succ n ih =>
    intro h
    unfold sm
    rw [ih (fun k hk => h k (by omega)), h n (by omega)]
/-- ways counted as if each place had two -/
def gF (p q : Nat) (a : Nat → Nat) : Nat → Nat := fun c => a c * 2 ^ (60 - ((if c < q then p + 1 else p) + c))
def gInv (m p q : Nat) (s : gS) : Prop := sm (gF p q s.1) 31 + s.2.2.1 + s.2.2.2.1 ≤ 2 ^ 60 ∧ sm s.2.1 31 + s.2.2.2.2.1 ≤ 2 ^ 60 ∧ (∀ c, s.1 c = 0 → s.2.1 c = 0) ∧ (∀ c, m < c → s.1 c = 0)
theorem gF_up (p q : Nat) (a : Nat → Nat) (k v : Nat) : gF p q (zup a k v) = zup (gF p q a) k (v * 2 ^ (60 - ((if k < q then p + 1 else p) + k))) := by
  funext c
  unfold gF
  by_cases e : c = k
  · subst e
    rw [zup_s, zup_s]
  · rw [zup_nn e, zup_nn e]
theorem gF_next (p q : Nat) (a : Nat → Nat) : gF p (q + 1) a = zup (gF p q a) q (a q * 2 ^ (60 - (p + 1 + q))) := by
  funext c
  unfold gF
  by_cases e : c = q
  · subst e
    rw [zup_s, if_pos (Nat.lt_succ_self c)]
  · rw [zup_nn e]
    by_cases h : c < q
    · rw [if_pos h, if_pos (by omega)]
    · rw [if_neg h, if_neg (by omega)]
theorem gF_q (p q : Nat) (a : Nat → Nat) : gF p q a q = a q * 2 ^ (60 - (p + q)) := by
  unfold gF
  rw [if_neg (Nat.lt_irrefl q)]
theorem pow_half {e : Nat} (h : e < 60) : 2 ^ (60 - e) = 2 ^ (60 - (e + 1)) + 2 ^ (60 - (e + 1)) := by
  rw [show 60 - e = (60 - (e + 1)) + 1 by omega, Nat.pow_succ]
  omega
theorem gPl_inv {c1 c2 : Bool} {n m p q : Nat} {s : gS} (hp : p ≤ 30) (hq : q ≤ m) (hm : m ≤ 30) (h1 : c1 = true → p + 1 ≤ 30) (h2 : c2 = true → q + 1 ≤ m) (h : gInv m p q s) : gInv m p (q + 1) (gPl c1 c2 n m p q s) := by
  obtain ⟨i1, i2, i3, i4⟩ := h
  unfold gPl
  by_cases h0 : s.1 q = 0
  · rw [if_pos h0]
    refine ⟨?_, i2, i3, i4⟩
    have e := sm_up (f := gF p q s.1) (k := q) (v := s.1 q * 2 ^ (60 - (p + 1 + q))) (n := 31) (by omega)
    rw [gF_next]
    rw [gF_q, h0, Nat.zero_mul, Nat.zero_mul] at e
    rw [h0, Nat.zero_mul]
    omega
  · rw [if_neg h0]
    have hpow : 1 ≤ 2 ^ (60 - (p + q)) := Nat.one_le_two_pow
    cases c1 with
    | true =>
      have hh := pow_half (e := p + q) (by have := h1 rfl; omega)
      rw [show p + q + 1 = p + 1 + q by omega] at hh
      cases c2 with
      | true =>
        have hq1 := h2 rfl
        simp only []
        refine ⟨?_, ?_, fun c hc => ?_, fun c hc => ?_⟩
        · show sm (gF p (q + 1) (zup s.1 (q + 1) (s.1 (q + 1) + s.1 q))) 31 + s.2.2.1 + s.2.2.2.1 ≤ 2 ^ 60
          rw [gF_up, gF_next, if_neg (Nat.lt_irrefl _)]
          have e1 := sm_up (f := gF p q s.1) (k := q) (v := s.1 q * 2 ^ (60 - (p + 1 + q))) (n := 31) (by omega)
          have e2 := sm_up (f := zup (gF p q s.1) q (s.1 q * 2 ^ (60 - (p + 1 + q)))) (k := q + 1) (v := (s.1 (q + 1) + s.1 q) * 2 ^ (60 - (p + (q + 1)))) (n := 31) (by omega)
          rw [zup_nn (show ¬ q + 1 = q by omega)] at e2
          have e3 : gF p q s.1 (q + 1) = s.1 (q + 1) * 2 ^ (60 - (p + (q + 1))) := by
            unfold gF
            rw [if_neg (by omega)]
          rw [gF_q, hh, Nat.mul_add] at e1
          rw [e3, Nat.add_mul, show p + (q + 1) = p + 1 + q by omega] at e2
          rw [show p + (q + 1) = p + 1 + q by omega, Nat.add_mul]
          omega
        · show sm (zup (zup s.2.1 q (s.2.1 q / 2)) (q + 1) (s.2.1 (q + 1) + s.2.1 q / 2)) 31 + s.2.2.2.2.1 ≤ 2 ^ 60
          have e1 := sm_up (f := s.2.1) (k := q) (v := s.2.1 q / 2) (n := 31) (by omega)
          have e2 := sm_up (f := zup s.2.1 q (s.2.1 q / 2)) (k := q + 1) (v := s.2.1 (q + 1) + s.2.1 q / 2) (n := 31) (by omega)
          rw [zup_nn (show ¬ q + 1 = q by omega)] at e2
          omega
        · have hc : zup s.1 (q + 1) (s.1 (q + 1) + s.1 q) c = 0 := hc
          show zup (zup s.2.1 q (s.2.1 q / 2)) (q + 1) (s.2.1 (q + 1) + s.2.1 q / 2) c = 0
          by_cases e : c = q + 1
          · subst e
            rw [zup_s] at hc
            omega
          · rw [zup_nn e] at hc ⊢
            by_cases e2 : c = q
            · rw [e2] at hc; exact absurd hc h0
            · rw [zup_nn e2]; exact i3 c hc
        · show zup s.1 (q + 1) (s.1 (q + 1) + s.1 q) c = 0
          rw [zup_nn (by omega)]
          exact i4 c hc
      | false =>
        simp only []
        refine ⟨?_, i2, i3, i4⟩
        have e1 := sm_up (f := gF p q s.1) (k := q) (v := s.1 q * 2 ^ (60 - (p + 1 + q))) (n := 31) (by omega)
        rw [gF_q, hh, Nat.mul_add] at e1
        rw [gF_next]
        omega
    | false =>
      cases c2 with
      | true =>
        have hq1 := h2 rfl
        have hh := pow_half (e := p + q) (by omega)
        simp only []
        refine ⟨?_, ?_, fun c hc => ?_, fun c hc => ?_⟩
        · show sm (gF p (q + 1) (zup (zup s.1 q 0) (q + 1) (s.1 (q + 1) + s.1 q))) 31 + s.2.2.1 + s.2.2.2.1 ≤ 2 ^ 60
          rw [gF_up, gF_up, gF_next, if_neg (Nat.lt_irrefl _), if_pos (Nat.lt_succ_self q), zup_zup]
          have e1 := sm_up (f := gF p q s.1) (k := q) (v := 0 * 2 ^ (60 - (p + 1 + q))) (n := 31) (by omega)
          have e2 := sm_up (f := zup (gF p q s.1) q (0 * 2 ^ (60 - (p + 1 + q)))) (k := q + 1) (v := (s.1 (q + 1) + s.1 q) * 2 ^ (60 - (p + (q + 1)))) (n := 31) (by omega)
          rw [zup_nn (show ¬ q + 1 = q by omega)] at e2
          have e3 : gF p q s.1 (q + 1) = s.1 (q + 1) * 2 ^ (60 - (p + (q + 1))) := by
            unfold gF
            rw [if_neg (by omega)]
          rw [gF_q, hh, Nat.mul_add] at e1
          rw [e3, Nat.add_mul, show p + (q + 1) = p + q + 1 by omega] at e2
          rw [show p + (q + 1) = p + q + 1 by omega, Nat.add_mul]
          omega
        · show sm (zup (zup s.2.1 q 0) (q + 1) (s.2.1 (q + 1) + s.2.1 q)) 31 + s.2.2.2.2.1 ≤ 2 ^ 60
          have e1 := sm_up (f := s.2.1) (k := q) (v := 0) (n := 31) (by omega)
          have e2 := sm_up (f := zup s.2.1 q 0) (k := q + 1) (v := s.2.1 (q + 1) + s.2.1 q) (n := 31) (by omega)
          rw [zup_nn (show ¬ q + 1 = q by omega)] at e2
          omega
        · have hc : zup (zup s.1 q 0) (q + 1) (s.1 (q + 1) + s.1 q) c = 0 := hc
          show zup (zup s.2.1 q 0) (q + 1) (s.2.1 (q + 1) + s.2.1 q) c = 0
          by_cases e : c = q + 1
          · subst e
            rw [zup_s] at hc
            omega
          · rw [zup_nn e] at hc ⊢
            by_cases e2 : c = q
            · subst e2; rw [zup_s]
            · rw [zup_nn e2] at hc ⊢; exact i3 c hc
        · show zup (zup s.1 q 0) (q + 1) (s.1 (q + 1) + s.1 q) c = 0
          rw [zup_nn (by omega), zup_nn (by omega)]
          exact i4 c hc
      | false =>
        simp only []
        have e1 := sm_up (f := gF p q s.1) (k := q) (v := 0 * 2 ^ (60 - (p + 1 + q))) (n := 31) (by omega)
        rw [gF_q, Nat.zero_mul] at e1
        have e2 := sm_up (f := s.2.1) (k := q) (v := 0) (n := 31) (by omega)
        have hmul : s.1 q ≤ s.1 q * 2 ^ (60 - (p + q)) := Nat.le_mul_of_pos_right _ (by omega)
        have eF : gF p (q + 1) (zup s.1 q 0) = zup (gF p q s.1) q 0 := by
          rw [gF_up, gF_next, zup_zup, Nat.zero_mul]
        have z3 : ∀ c, zup s.1 q 0 c = 0 → zup s.2.1 q 0 c = 0 := by
          intro c hc
          by_cases e : c = q
          · subst e; rw [zup_s]
          · rw [zup_nn e] at hc ⊢; exact i3 c hc
        have z4 : ∀ c, m < c → zup s.1 q 0 c = 0 := by
          intro c hc
          rw [zup_nn (by omega)]
          exact i4 c hc
        by_cases hf : p = n ∧ q = m
        · rw [if_pos hf]
          refine ⟨?_, ?_, z3, z4⟩
          · show sm (gF p (q + 1) (zup s.1 q 0)) 31 + (s.2.2.1 + s.1 q) + s.2.2.2.1 ≤ 2 ^ 60
            rw [eF]
            omega
          · show sm (zup s.2.1 q 0) 31 + s.2.2.2.2.1 ≤ 2 ^ 60
            omega
        · rw [if_neg hf]
          refine ⟨?_, ?_, z3, z4⟩
          · show sm (gF p (q + 1) (zup s.1 q 0)) 31 + s.2.2.1 + (s.2.2.2.1 + s.1 q) ≤ 2 ^ 60
            rw [eF]
            omega
          · show sm (zup s.2.1 q 0) 31 + (s.2.2.2.2.1 + s.2.1 q) ≤ 2 ^ 60
            omega
theorem gInv_next {m p : Nat} {s : gS} (h : gInv m p (m + 1) s) : gInv m (p + 1) 0 s := by
  obtain ⟨i1, i2, i3, i4⟩ := h
  refine ⟨?_, i2, i3, i4⟩
  have e : sm (gF (p + 1) 0 s.1) 31 = sm (gF p (m + 1) s.1) 31 := by
    apply sm_eq
    intro c _
    unfold gF
    rw [if_neg (Nat.not_lt_zero c)]
    by_cases hc : c < m + 1
    · rw [if_pos hc]
    · rw [i4 c (by omega), Nat.zero_mul, Nat.zero_mul]
  rw [e]
  exact i1
theorem gInv0 (m : Nat) : gInv m 0 0 gS0 := by
  refine ⟨?_, ?_, fun c hc => ?_, fun c hc => ?_⟩
  · decide
  · decide
  · have hc : zup (fun _ => 0) 0 1 c = 0 := hc
    show zup (fun _ => 0) 0 (2 ^ 60) c = 0
    by_cases e : c = 0
    · subst e; rw [zup_s] at hc; omega
    · rw [zup_nn e]
  · show zup (fun _ => 0) 0 1 c = 0
    rw [zup_nn (by omega)]
theorem gInv.le {m p q : Nat} {s : gS} (h : gInv m p q s) {c : Nat} (hc : c < 31) : s.1 c ≤ 2 ^ 60 ∧ s.2.1 c ≤ 2 ^ 60 ∧ s.2.2.1 ≤ 2 ^ 60 ∧ s.2.2.2.1 ≤ 2 ^ 60 ∧ s.2.2.2.2.1 ≤ 2 ^ 60 := by
  obtain ⟨i1, i2, _, _⟩ := h
  have e1 := sm_ge (f := gF p q s.1) hc
  have e2 := sm_ge (f := s.2.1) hc
  have e3 : s.1 c ≤ gF p q s.1 c := Nat.le_mul_of_pos_right _ (Nat.two_pow_pos _)
  omega
/-- halved together as long as it goes -/
def gRd : Nat → Nat → Nat × Nat
  | 0, x => (x, 1)
  | k + 1, x => if x % 2 = 0 then gRd k (x / 2) else (x, 2 ^ (k + 1))
