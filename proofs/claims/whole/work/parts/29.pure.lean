/-! what a program does alone: a pure telling -/
/-- steps so far; counters (0-5 stays a gate, 6 stays now, 7 most, 8 again, 9 mended, 10 too long); what is not sealed, the latest first -/
abbrev pS : Type := (Nat × (Nat → Nat → Int32)) × (Nat → Nat) × List (Nat × Int32)
def pS.n (s : pS) : Nat := s.1.1
def pS.c (s : pS) : Nat → Nat := s.2.1
def pS.un (s : pS) : List (Nat × Int32) := s.2.2
def pPut (s : pS) (k g : Nat) (b : Int32) : pS := if 30 ≤ s.1.1 then (s.1, zup s.2.1 10 1, s.2.2) else ((s.1.1 + 1, zu (zu (zu s.1.2 0 s.1.1 (nI k)) 1 s.1.1 (nI g)) 2 s.1.1 b), s.2)
def pEc (c : Nat → Nat) (g : Nat) : Nat → Nat := zup (zup (zup (zup c 8 (c 8 + if 0 < c g then 1 else 0)) g (c g + 1)) 6 (c 6 + 1)) 7 (max (c 7) (c 6 + 1))
def pEnter (s : pS) (g : Nat) : pS := pPut (s.1, pEc s.2.1 g, s.2.2) 0 g 0
def pLc (c : Nat → Nat) (g : Nat) : Nat → Nat := zup (zup c g (c g - 1)) 6 (c 6 - 1)
def pLeave (s : pS) (g : Nat) : pS := pPut (s.1, pLc s.2.1 g, s.2.2) 1 g 0
/-- what is not sealed is taken back, down to a mark -/
def pTakeL : List (Nat × Int32) → Nat → pS → pS
  | [], _, s => s
  | (g, b) :: u, m, s => if m < ((g, b) :: u).length then pTakeL u m (let s1 := pPut s 2 g (-b); (s1.1, s1.2.1, u)) else s
def pTake (m : Nat) (s : pS) : pS := pTakeL s.2.2 m s
abbrev pO : Type := pS × (Nat ⊕ (Nat × Int32))
def pIsO (c : Nat) : Prop := c = 40 ∨ c = 91 ∨ c = 123
def pIsC (c : Nat) : Prop := c = 41 ∨ c = 93 ∨ c = 125
/-- where what is opened from a place on is shut -/
def pShut (f : Nat → Nat) : Nat → Nat → Nat → Nat
  | 0, k, _ => k
  | m + 1, k, d => if f k = 40 ∨ f k = 91 ∨ f k = 123 then pShut f m (k + 1) (d + 1) else if f k = 41 ∨ f k = 93 ∨ f k = 125 then (if d ≤ 1 then k else pShut f m (k + 1) (d - 1)) else if d = 0 then k else pShut f m (k + 1) d
def pStay (R : Nat → pS → pO) (gone : Nat) (a g : Nat) (s : pS) : pO := if gone.testBit g then (s, Sum.inr (3, nI g)) else match R (a + 2) (pEnter s g) with
  | (s2, Sum.inl e) => let s3 := pLeave s2 g; ((s3.1, s3.2.1, s3.2.2.drop (s3.2.2.length - s.2.2.length)), if s3.2.1 10 = 0 then Sum.inl (e + 1) else Sum.inr (0, 0))
  | (s2, Sum.inr b) => (pLeave (pTake s.2.2.length s2) g, Sum.inr b)
def pBy (f : Nat → Nat) (a : Nat) : Int32 := if f (a + 1) = 45 then -(nI (f (a + 2) - 48)) else nI (f (a + 2) - 48)
def pAdd (f : Nat → Nat) (a g : Nat) (s : pS) : pO := if s.2.1 g = 0 then (s, Sum.inr (1, nI g)) else let s1 := pPut s 2 g (pBy f a); if s1.2.1 10 = 0 then ((s1.1, s1.2.1, (g, pBy f a) :: s1.2.2), Sum.inl (a + 3)) else (s1, Sum.inr (0, 0))
def pTry (R : Nat → pS → pO) (f : Nat → Nat) (a : Nat) (s : pS) : pO := match R (a + 1) s with
  | (s2, Sum.inl e) => (s2, Sum.inl (e + 1))
  | (s2, Sum.inr b) => let s3 := pTake s.2.2.length s2; ((s3.1, zup s3.2.1 9 (s3.2.1 9 + 1), s3.2.2), if s3.2.1 10 = 0 then Sum.inl (pShut f 61 a 0 + 1) else Sum.inr b)
def pOft (R : Nat → pS → pO) (a : Nat) : Nat → pS → Nat → pO
  | 0, s, e => (s, Sum.inl (e + 1))
  | j + 1, s, _ => match R (a + 2) s with
    | (s2, Sum.inr b) => (s2, Sum.inr b)
    | (s2, Sum.inl e) => if s2.1.1 = s.1.1 then ((s2.1, zup s2.2.1 9 (s2.2.1 9 + (s2.2.1 9 - s.2.1 9) * j), s2.2.2), Sum.inl (e + 1)) else pOft R a j s2 e
def pI (R : Nat → pS → pO) (f : Nat → Nat) (gone a : Nat) (s : pS) : pO := if f a = 33 then (s, Sum.inr (2, -4)) else if f a = 91 then pTry R f a s else if 50 ≤ f a ∧ f a ≤ 53 then pOft R a (f a - 48) s 0 else if 97 ≤ f a ∧ f a ≤ 102 then (if f (a + 1) = 40 then pStay R gone a (f a - 97) s else pAdd f a (f a - 97) s) else (s, Sum.inr (0, 0))
def pB (f : Nat → Nat) (gone : Nat) : Nat → Nat → pS → pO
  | 0, a, s => (s, Sum.inl a)
  | m + 1, a, s => if f a = 41 ∨ f a = 93 ∨ f a = 125 then (s, Sum.inl a) else match pI (pB f gone m) f gone a s with
    | (s', Sum.inl b) => pB f gone m b s'
    | (s', Sum.inr b) => (s', Sum.inr b)
def pS0 : pS := ((0, fun _ _ => 0), fun _ => 0, [])
def pRun (f : Nat → Nat) (gone : Nat) : pO := pB f gone 62 0 pS0
/-- the letters of a list; behind it a bracket -/
def pF (L : List Nat) : Nat → Nat := fun k => L.getD k 41
def pTrace (L : List Nat) (gone : Nat) : tT :=
  let r := pRun (pF L) gone
  (r.1.1.1, fun q k => if q = 3 then (if k = 0 then (match r.2 with | Sum.inl _ => 0 | Sum.inr (y, _) => nI y) else if k = 1 then (match r.2 with | Sum.inl _ => -4 | Sum.inr (_, g) => g) else if k = 2 then nI (r.1.2.1 9) else if k = 3 then nI (r.1.2.1 8) else nI (r.1.2.1 7)) else r.1.1.2 q k)
def pOver (L : List Nat) (gone : Nat) : Prop := ¬ (pRun (pF L) gone).1.2.1 10 = 0
/-- bodies: so much to come, so many brackets more; from a place to a place -/
def isI (B : Nat → Nat → Nat → Prop) (k : Nat) (f : Nat → Nat) (a b : Nat) : Prop :=
  (f a = 33 ∧ b = a + 1) ∨
  (97 ≤ f a ∧ f a ≤ 102 ∧ (f (a + 1) = 43 ∨ f (a + 1) = 45) ∧ 49 ≤ f (a + 2) ∧ f (a + 2) ≤ 57 ∧ b = a + 3) ∨
  (∃ j e, k = j + 1 ∧ 97 ≤ f a ∧ f a ≤ 102 ∧ f (a + 1) = 40 ∧ B j (a + 2) e ∧ f e = 41 ∧ b = e + 1) ∨
  (∃ j e, k = j + 1 ∧ f a = 91 ∧ B j (a + 1) e ∧ f e = 93 ∧ b = e + 1) ∨
  (∃ j e, k = j + 1 ∧ 50 ≤ f a ∧ f a ≤ 53 ∧ f (a + 1) = 123 ∧ B j (a + 2) e ∧ f e = 125 ∧ b = e + 1)
def isB (f : Nat → Nat) : Nat → Nat → Nat → Nat → Prop
  | 0, _, a, e => a = e
  | m + 1, k, a, e => a = e ∨ ∃ b, isI (isB f m) k f a b ∧ isB f m k b e
/-- a list of letters is a body -/
def isBody (L : List Nat) : Prop := L.length ≤ 60 ∧ (∀ x, x ∈ L → 32 < x ∧ x < 127) ∧ isB (pF L) 61 6 0 L.length
