/-! an interpreter for the bytecode, over its own memory: what a run answers is said by a predicate transformer -/
abbrev zR : Type := Nat × Nat × Nat
abbrev zV : Type := Int32 ⊕ (Int64 ⊕ Option zR)
abbrev zi (x : Int32) : zV := .inl x
abbrev zl (x : Int64) : zV := .inr (.inl x)
abbrev zr (r : Option zR) : zV := .inr (.inr r)
abbrev zI : Type := Nat → Nat → Nat → Nat → Int32
abbrev zL : Type := Nat → Nat → Nat → Nat → Int64
abbrev zP : Type := Nat → Nat → Nat → Nat → Option zR
abbrev zS : Type := Nat → Nat → Nat → Nat × Nat
abbrev zM : Type := zI × zL × zP × zS × Nat
abbrev zE : Type := Instr × Nat × List Nat × Int
def zup {α : Type} (f : Nat → α) (k : Nat) (v : α) : Nat → α := fun j => if j = k then v else f j
def zup3 {α : Type} (f : Nat → Nat → Nat → α) (r j q : Nat) (v : α) : Nat → Nat → Nat → α := zup f r (zup (f r) j (zup (f r j) q v))
def zup4 {α : Type} (f : Nat → Nat → Nat → Nat → α) (r j q i : Nat) (v : α) : Nat → Nat → Nat → Nat → α := zup3 f r j q (zup (f r j q) i v)
def zfd : List (Nat × zE) → Nat → Option zE
  | [], _ => none
  | (q, e) :: t, pc => cond (Nat.beq q pc) (some e) (zfd t pc)
def zkd : zV → Nat
  | .inl _ => 0
  | .inr (.inl _) => 1
  | .inr (.inr _) => 2
def zcat (v : zV) : Nat := match v with
  | .inr (.inl _) => 2
  | _ => 1
def zcats (st : List zV) : Nat := (st.map zcat).sum
def zop2 (f : Int32 → Int32 → Int32) (st : List zV) : Option (List zV) := match st with
  | .inl y :: .inl x :: r => some (zi (f x y) :: r)
  | _ => none
def zop2l (f : Int64 → Int64 → Int64) (st : List zV) : Option (List zV) := match st with
  | .inr (.inl y) :: .inr (.inl x) :: r => some (zl (f x y) :: r)
  | _ => none
def zopsl (f : Int64 → Int32 → Int64) (st : List zV) : Option (List zV) := match st with
  | .inl y :: .inr (.inl x) :: r => some (zl (f x y) :: r)
  | _ => none
def zop1 (f : Int32 → zV) (st : List zV) : Option (List zV) := match st with
  | .inl x :: r => some (f x :: r)
  | _ => none
def zop (i : Instr) (z : Int) (st : List zV) : Option (List zV) := match i with
  | .iconst k => some (zi (Int32.ofInt k) :: st)
  | .bipush k => some (zi (Int8.ofInt k).toInt32 :: st)
  | .sipush k => some (zi (Int16.ofInt k).toInt32 :: st)
  | .lconst k => some (zl (Int64.ofNat k) :: st)
  | .ldc _ => some (zi (Int32.ofInt z) :: st)
  | .ldc_w _ => some (zi (Int32.ofInt z) :: st)
  | .ldc2_w _ => some (zl (Int64.ofInt z) :: st)
  | .iadd => zop2 (fun x y => x + y) st
  | .isub => zop2 (fun x y => x - y) st
  | .imul => zop2 (fun x y => x * y) st
  | .iand => zop2 (fun x y => x &&& y) st
  | .ior => zop2 (fun x y => x ||| y) st
  | .ixor => zop2 (fun x y => x ^^^ y) st
  | .ishl => zop2 (fun x y => x <<< (y &&& 31)) st
  | .ishr => zop2 (fun x y => x >>> (y &&& 31)) st
  | .iushr => zop2 (fun x y => (x.toUInt32 >>> (y.toUInt32 &&& Int32.toUInt32 31)).toInt32) st
  | .ineg => zop1 (fun x => zi (-x)) st
  | .i2l => zop1 (fun x => zl x.toInt64) st
  | .i2b => zop1 (fun x => zi x.toInt8.toInt32) st
  | .i2s => zop1 (fun x => zi x.toInt16.toInt32) st
  | .i2c => zop1 (fun x => zi (x.toUInt32 % 65536).toInt32) st
  | .l2i => match st with
    | .inr (.inl x) :: r => some (zi x.toInt32 :: r)
    | _ => none
  | .ladd => zop2l (fun x y => x + y) st
  | .lmul => zop2l (fun x y => x * y) st
  | .land => zop2l (fun x y => x &&& y) st
  | .lor => zop2l (fun x y => x ||| y) st
  | .lshl => zopsl (fun x y => x <<< (y.toInt64 &&& 63)) st
  | .lshr => zopsl (fun x y => x >>> (y.toInt64 &&& 63)) st
  | .lcmp => match st with
    | .inr (.inl y) :: .inr (.inl x) :: r => some (zi (lg_cmp x y) :: r)
    | _ => none
  | .dup => match st with
    | .inl x :: r => some (zi x :: zi x :: r)
    | .inr (.inr x) :: r => some (zr x :: zr x :: r)
    | _ => none
  | .pop => match st with
    | .inl _ :: r => some r
    | .inr (.inr _) :: r => some r
    | _ => none
  | .dup2 => match st with
    | .inl y :: .inr (.inr x) :: r => some (zi y :: zr x :: zi y :: zr x :: r)
    | .inl y :: .inl x :: r => some (zi y :: zi x :: zi y :: zi x :: r)
    | .inr (.inl x) :: r => some (zl x :: zl x :: r)
    | _ => none
  | _ => none
def zld (i : Instr) : Option (Nat × Nat) := match i with
  | .iload k => some (k, 0)
  | .iload_n k => some (k, 0)
  | .lload k => some (k, 1)
  | .lload_n k => some (k, 1)
  | .aload k => some (k, 2)
  | .aload_n k => some (k, 2)
  | _ => none
def zsr (i : Instr) : Option (Nat × Nat) := match i with
  | .istore k => some (k, 0)
  | .istore_n k => some (k, 0)
  | .lstore k => some (k, 1)
  | .lstore_n k => some (k, 1)
  | .astore k => some (k, 2)
  | .astore_n k => some (k, 2)
  | _ => none
/-- a long that ends at place k goes -/
def zkill (ls : List (Option zV)) (k : Nat) : List (Option zV) := match k with
  | 0 => ls
  | k' + 1 => match ls[k']? with
    | some (some (.inr (.inl _))) => ls.set k' none
    | _ => ls
def zsto (ls : List (Option zV)) (k : Nat) (v : zV) : List (Option zV) := match v with
  | .inr (.inl x) => ((zkill ls k).set k (some (zl x))).set (k + 1) none
  | .inl x => (zkill ls k).set k (some (zi x))
  | .inr (.inr x) => (zkill ls k).set k (some (zr x))
def zj (pc : Nat) (off : Int) : Nat := ((pc : Int) + off).toNat
def zcz (c : ClassFile.Cond) (x : Int32) : Prop := match c with
  | .eq => x = 0
  | .ne => ¬ x = 0
  | .lt => x < 0
  | .ge => 0 ≤ x
  | .gt => 0 < x
  | .le => x ≤ 0
def zcc (c : ClassFile.Cond) (x y : Int32) : Prop := match c with
  | .eq => x = y
  | .ne => ¬ x = y
  | .lt => x < y
  | .ge => y ≤ x
  | .gt => y < x
  | .le => x ≤ y
def ztw (pc : Nat) (dflt lo hi : Int) (offs : Array Int) (x : Int32) : Nat := zj pc (if x.toInt < lo ∨ hi < x.toInt then dflt else (offs[(x.toInt - lo).toNat]?).getD dflt)
def zget (M : zM) (kd r j q k : Nat) : zV := match kd with
  | 1 => zl (M.2.1 r j q k)
  | 2 => zr (M.2.2.1 r j q k)
  | _ => zi (M.1 r j q k)
def zent (args : List zV) : List (Option zV) := match args with
  | [] => []
  | .inl x :: t => some (zi x) :: zent t
  | .inr (.inl x) :: t => some (zl x) :: none :: zent t
  | .inr (.inr x) :: t => some (zr x) :: zent t
def zpad (l : List (Option zV)) (n : Nat) : List (Option zV) := l ++ List.replicate (n - l.length) none
def zpush (r : Option zV) (st : List zV) : List zV := match r with
  | none => st
  | some v => v :: st
def znew (al : Nat → zR) (M : zM) (tag len : Nat) : zM := match al M.2.2.2.2 with
  | (r, j, q) => (zup3 M.1 r j q (fun _ => 0), zup3 M.2.1 r j q (fun _ => 0), zup3 M.2.2.1 r j q (fun _ => none), zup3 M.2.2.2.1 r j q (tag, len), M.2.2.2.2 + 1)
/-- which class's objects an array of references holds -/
def zel (tag : Nat) : Nat := match tag with
  | 23 => 5
  | 24 => 9
  | 25 => 7
  | 26 => 6
  | _ => 0
def zaty (t : ArrayType) : Nat := match t with
  | .int => 20
  | .long => 21
  | .char => 22
  | _ => 0
/-- memory instructions: what must hold, and stack and memory behind them -/
def zmem (i : Instr) (a : List Nat) (st : List zV) (M : zM) (k : List zV → zM → Prop) : Prop := match i with
  | .getfield _ => match a, st with
    | [ci, f, kd], .inr (.inr (some (r, j, q))) :: t => (M.2.2.2.1 r j q).1 = ci + 1 ∧ k (zget M kd r j q f :: t) M
    | _, _ => False
  | .putfield _ => match a, st with
    | [ci, f, 0], .inl x :: .inr (.inr (some (r, j, q))) :: t => (M.2.2.2.1 r j q).1 = ci + 1 ∧ k t (zup4 M.1 r j q f x, M.2)
    | [ci, f, 3], .inl x :: .inr (.inr (some (r, j, q))) :: t => (M.2.2.2.1 r j q).1 = ci + 1 ∧ (x = 0 ∨ x = 1) ∧ k t (zup4 M.1 r j q f x, M.2)
    | [ci, f, 1], .inr (.inl x) :: .inr (.inr (some (r, j, q))) :: t => (M.2.2.2.1 r j q).1 = ci + 1 ∧ k t (M.1, zup4 M.2.1 r j q f x, M.2.2)
    | [ci, f, 2], .inr (.inr x) :: .inr (.inr (some (r, j, q))) :: t => (M.2.2.2.1 r j q).1 = ci + 1 ∧ k t (M.1, M.2.1, zup4 M.2.2.1 r j q f x, M.2.2.2)
    | _, _ => False
  | .iaload => match st with
    | .inl x :: .inr (.inr (some (r, j, q))) :: t => (M.2.2.2.1 r j q).1 = 20 ∧ vp_in x (M.2.2.2.1 r j q).2 ∧ k (zi (M.1 r j q x.toNatClampNeg) :: t) M
    | _ => False
  | .caload => match st with
    | .inl x :: .inr (.inr (some (r, j, q))) :: t => (M.2.2.2.1 r j q).1 = 22 ∧ vp_in x (M.2.2.2.1 r j q).2 ∧ k (zi (M.1 r j q x.toNatClampNeg) :: t) M
    | _ => False
  | .laload => match st with
    | .inl x :: .inr (.inr (some (r, j, q))) :: t => (M.2.2.2.1 r j q).1 = 21 ∧ vp_in x (M.2.2.2.1 r j q).2 ∧ k (zl (M.2.1 r j q x.toNatClampNeg) :: t) M
    | _ => False
  | .aaload => match st with
    | .inl x :: .inr (.inr (some (r, j, q))) :: t => 0 < zel (M.2.2.2.1 r j q).1 ∧ vp_in x (M.2.2.2.1 r j q).2 ∧ k (zr (M.2.2.1 r j q x.toNatClampNeg) :: t) M
    | _ => False
  | .iastore => match st with
    | .inl v :: .inl x :: .inr (.inr (some (r, j, q))) :: t => ¬ r = 9 ∧ (M.2.2.2.1 r j q).1 = 20 ∧ vp_in x (M.2.2.2.1 r j q).2 ∧ k t (zup4 M.1 r j q x.toNatClampNeg v, M.2)
    | _ => False
  | .castore => match st with
    | .inl v :: .inl x :: .inr (.inr (some (r, j, q))) :: t => (M.2.2.2.1 r j q).1 = 22 ∧ vp_in x (M.2.2.2.1 r j q).2 ∧ k t (zup4 M.1 r j q x.toNatClampNeg (vp_nar .char v), M.2)
    | _ => False
  | .lastore => match st with
    | .inr (.inl v) :: .inl x :: .inr (.inr (some (r, j, q))) :: t => (M.2.2.2.1 r j q).1 = 21 ∧ vp_in x (M.2.2.2.1 r j q).2 ∧ k t (M.1, zup4 M.2.1 r j q x.toNatClampNeg v, M.2.2)
    | _ => False
  | .aastore => match st with
    | .inr (.inr (some (r', j', q'))) :: .inl x :: .inr (.inr (some (r, j, q))) :: t => 0 < zel (M.2.2.2.1 r j q).1 ∧ (M.2.2.2.1 r' j' q').1 = zel (M.2.2.2.1 r j q).1 ∧ vp_in x (M.2.2.2.1 r j q).2 ∧ k t (M.1, M.2.1, zup4 M.2.2.1 r j q x.toNatClampNeg (some (r', j', q')), M.2.2.2)
    | _ => False
  | .arraylength => match st with
    | .inr (.inr (some (r, j, q))) :: t => 19 < (M.2.2.2.1 r j q).1 ∧ k (zi (Int32.ofNat (M.2.2.2.1 r j q).2) :: t) M
    | _ => False
  | .checkcast _ => match a, st with
    | [tag], .inr (.inr (some (r, j, q))) :: t => ¬ r = 9 ∧ (M.2.2.2.1 r j q).1 = tag ∧ k (zr (some (r, j, q)) :: t) M
    | _, _ => False
  | .idiv => match st with
    | .inl y :: .inl x :: t => ¬ y = 0 ∧ k (zi (x / y) :: t) M
    | _ => False
  | .irem => match st with
    | .inl y :: .inl x :: t => ¬ y = 0 ∧ k (zi (x - x / y * y) :: t) M
    | _ => False
  | .ldiv => match st with
    | .inr (.inl y) :: .inr (.inl x) :: t => ¬ y = 0 ∧ k (zl (x / y) :: t) M
    | _ => False
  | .lrem => match st with
    | .inr (.inl y) :: .inr (.inl x) :: t => ¬ y = 0 ∧ k (zl (x - x / y * y) :: t) M
    | _ => False
  | _ => False
/-- instructions that make a cell: budget of cells and slots -/
def zmk (al : Nat → zR) (i : Instr) (a : List Nat) (st : List zV) (M : zM) (c s : Nat) (k : Nat → Nat → List zV → zM → Prop) : Prop := match i with
  | .new _ => match a with
    | [ci, nf] => 1 ≤ c ∧ nf ≤ s ∧ k (c - 1) (s - nf) (zr (some (al M.2.2.2.2)) :: st) (znew al M (ci + 1) 0)
    | _ => False
  | .newarray ty => match st with
    | .inl x :: t => ¬ x < 0 ∧ x.toNatClampNeg ≤ 5000 ∧ 1 ≤ c ∧ x.toNatClampNeg ≤ s ∧ k (c - 1) (s - x.toNatClampNeg) (zr (some (al M.2.2.2.2)) :: t) (znew al M (zaty ty) x.toNatClampNeg)
    | _ => False
  | .anewarray _ => match a, st with
    | [tag], .inl x :: t => ¬ x < 0 ∧ x.toNatClampNeg ≤ 5000 ∧ 1 ≤ c ∧ x.toNatClampNeg ≤ s ∧ k (c - 1) (s - x.toNatClampNeg) (zr (some (al M.2.2.2.2)) :: t) (znew al M tag x.toNatClampNeg)
    | _, _ => False
  | _ => False
def zcln (al : Nat → zR) (t0 : Nat) (st : List zV) (M : zM) (c s : Nat) (k : Nat → Nat → List zV → zM → Prop) : Prop := match st with
  | .inr (.inr (some (r, j, q))) :: t => zcats t ≤ 8 ∧ ¬ r = 9 ∧ (M.2.2.2.1 r j q).1 = t0 ∧ 1 ≤ c ∧ (M.2.2.2.1 r j q).2 ≤ s ∧
      k (c - 1) (s - (M.2.2.2.1 r j q).2) (zr (some (al M.2.2.2.2)) :: t) (match al M.2.2.2.2 with
        | (r1, j1, q1) => (zup3 M.1 r1 j1 q1 (M.1 r j q), zup3 M.2.1 r1 j1 q1 (fun _ => 0), zup3 M.2.2.1 r1 j1 q1 (fun _ => none), zup3 M.2.2.2.1 r1 j1 q1 (t0, (M.2.2.2.1 r j q).2), M.2.2.2.2 + 1))
  | _ => False
/-- the machine's own methods: 5 arraycopy, 6 and 7 clone, 8 Object's constructor, 9 and 10 Math.max and min -/
def znat (al : Nat → zR) (mode : Nat) (st : List zV) (M : zM) (c s : Nat) (k : Nat → Nat → List zV → zM → Prop) : Prop := match mode with
  | 5 => match st with
    | .inl n :: .inl dp :: .inr (.inr (some (r, j, q))) :: .inl sp :: .inr (.inr (some (r', j', q'))) :: t => zcats t ≤ 8 ∧ ¬ r = 9 ∧ ¬ r' = 9 ∧ (M.2.2.2.1 r' j' q').1 = (M.2.2.2.1 r j q).1 ∧ ¬ sp < 0 ∧ ¬ dp < 0 ∧ ¬ n < 0 ∧ sp.toNatClampNeg + n.toNatClampNeg ≤ (M.2.2.2.1 r' j' q').2 ∧ dp.toNatClampNeg + n.toNatClampNeg ≤ (M.2.2.2.1 r j q).2 ∧
        (((M.2.2.2.1 r j q).1 = 20 ∨ (M.2.2.2.1 r j q).1 = 22) ∧ k c s t (zup3 M.1 r j q (va_cpy (M.1 r' j' q') (M.1 r j q) sp.toNatClampNeg dp.toNatClampNeg n.toNatClampNeg), M.2) ∨
         (M.2.2.2.1 r j q).1 = 21 ∧ k c s t (M.1, zup3 M.2.1 r j q (va_cpy (M.2.1 r' j' q') (M.2.1 r j q) sp.toNatClampNeg dp.toNatClampNeg n.toNatClampNeg), M.2.2))
    | _ => False
  | 6 => zcln al 20 st M c s k
  | 7 => zcln al 22 st M c s k
  | 8 => match st with
    | .inr (.inr (some _)) :: t => zcats t ≤ 8 ∧ k c s t M
    | _ => False
  | 9 => match st with
    | .inl y :: .inl x :: t => zcats t ≤ 8 ∧ k c s (zi (if x < y then y else x) :: t) M
    | _ => False
  | 10 => match st with
    | .inl y :: .inl x :: t => zcats t ≤ 8 ∧ k c s (zi (if y < x then y else x) :: t) M
    | _ => False
  | _ => False
/-- is the receiver there, and of that class? (a static method, a constructor: nothing is asked) -/
def zrec (mode cl : Nat) (args : List zV) (M : zM) : Prop := match mode with
  | 0 => match args with
    | .inr (.inr (some (r, j, q))) :: _ => (M.2.2.2.1 r j q).1 = cl + 1
    | _ => False
  | 1 => True
  | 3 => True
  | _ => match args with
    | .inr (.inr (some _)) :: _ => True
    | _ => False
def zcall (i : Instr) : Bool := match i with
  | .invokevirtual _ => true
  | .invokestatic _ => true
  | .invokespecial _ => true
  | _ => false
def zret (i : Instr) (a : List Nat) (st : List zV) (k : Option zV → Prop) : Prop := match i with
  | .ireturn => match a, st with
    | [0], [.inl x] => k (some (zi x))
    | [1], [.inl x] => (x = 0 ∨ x = 1) ∧ k (some (zi x))
    | [2], [.inl x] => vp_nar .char x = x ∧ k (some (zi x))
    | _, _ => False
  | .lreturn => match st with
    | [.inr (.inl x)] => k (some (zl x))
    | _ => False
  | .areturn => match st with
    | [.inr (.inr x)] => k (some (zr x))
    | _ => False
  | .return_ => match st with
    | [] => k none
    | _ => False
  | _ => False
def zbr (i : Instr) (pc len : Nat) (st : List zV) (k : Nat → List zV → Prop) : Prop := match i with
  | .goto off => k (zj pc off) st
  | .ifCond cd off => match st with
    | .inl x :: t => (zcz cd x → k (zj pc off) t) ∧ (¬ zcz cd x → k (pc + len) t)
    | _ => False
  | .if_icmp cd off => match st with
    | .inl y :: .inl x :: t => (zcc cd x y → k (zj pc off) t) ∧ (¬ zcc cd x y → k (pc + len) t)
    | _ => False
  | .tableswitch dflt lo hi offs => match st with
    | .inl x :: t => k (ztw pc dflt lo hi offs x) t
    | _ => False
  | _ => False
section
variable (F : Nat → Nat → Option zE) (al : Nat → zR)
def ev : Nat → Nat → Nat → Nat → Nat → Nat → List (Option zV) → List zV → zM → (Option zV → zM → Prop) → Prop
  | 0, _, _, _, _, _, _, _, _, _ => False
  | n + 1, d, c, s, mid, pc, ls, st, M, Q =>
    match F mid pc with
    | none => False
    | some (i, len, a, z) =>
      match zop i z st with
      | some st' => ev n d c s mid (pc + len) ls st' M Q
      | none =>
        match zld i with
        | some (k, kd) => match ls[k]? with
          | some (some v) => zkd v = kd ∧ ev n d c s mid (pc + len) ls (v :: st) M Q
          | _ => False
        | none =>
          match zsr i with
          | some (k, kd) => match st with
            | v :: t => zkd v = kd ∧ k + zcat v ≤ ls.length ∧ ev n d c s mid (pc + len) (zsto ls k v) t M Q
            | [] => False
          | none =>
            match i with
            | .iinc k y => match ls[k]? with
              | some (some (.inl x)) => ev n d c s mid (pc + len) (zsto ls k (zi (x + Int32.ofInt y))) st M Q
              | _ => False
            | i => match zcall i with
              | true => match d with
                | 0 => False
                | d + 1 => match a with
                  | [mode] => znat al mode st M c s (fun c s st M => ev n (d + 1) c s mid (pc + len) ls st M Q)
                  | [mode, mid', cl, na, nl, bc, bs] => bc ≤ c ∧ bs ≤ s ∧ na ≤ st.length ∧ zcats (st.drop na) ≤ 8 ∧ zrec mode cl (st.take na).reverse M ∧ (zent (st.take na).reverse).length ≤ nl ∧
                      ev n d bc bs mid' 0 (zpad (zent (st.take na).reverse) nl) [] M (fun r M' => ev n (d + 1) (c - bc) (s - bs) mid (pc + len) ls (zpush r (st.drop na)) M' Q)
                  | _ => False
              | false =>
                zmem i a st M (fun st M => ev n d c s mid (pc + len) ls st M Q) ∨ zmk al i a st M c s (fun c s st M => ev n d c s mid (pc + len) ls st M Q) ∨
                zbr i pc len st (fun pc st => ev n d c s mid pc ls st M Q) ∨ zret i a st (fun r => Q r M)
end
