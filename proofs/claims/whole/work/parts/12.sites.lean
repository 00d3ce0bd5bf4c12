/-! the sites -/
set_option maxRecDepth 1000000 in
theorem zms_c1 : (zms.take 125).all zmf = true := by decide +kernel
set_option maxRecDepth 1000000 in
theorem zms_c2 : (zms.drop 125).all zmf = true := by decide +kernel
theorem zms_c : ∀ y ∈ zms, zmf y = true := by
  intro y hy
  rw [← List.take_append_drop 125 zms] at hy
  rcases List.mem_append.mp hy with h | h
  · exact List.all_eq_true.mp zms_c1 y h
  · exact List.all_eq_true.mp zms_c2 y h
theorem zmf_code {m : Nat} (h : (match lw_tbl[zpl m]? with | some (.code y _ n t) => decide (y = zY m) && decide (n = zX m) && decide (t = zT m) | _ => false) = true) : Jvm.Cond.code (zY m) (zB m) (zX m) (zT m) ∈ zTs := by
  split at h
  · rename_i y b n t hl
    simp only [Bool.and_eq_true, decide_eq_true_eq] at h
    obtain ⟨⟨rfl, rfl⟩, rfl⟩ := h
    refine zIn _ (hl.trans ?_) rfl
    unfold zB
    rw [hl]
  · cases h
theorem zmf_spec {y : Nat × Nat × Nat × Nat × Nat × Nat × Nat} (h : zmf y = true) : Jvm.Cond.code (zY y.1) (zB y.1) (zX y.1) (zT y.1) ∈ zTs ∧ Jvm.Cond.initialized (zY y.1).cls ∈ zTs ∧ (if y.2.1 = 1 then Jvm.Cond.static (zY y.1) else Jvm.Cond.instanceMethod (zY y.1)) ∈ zTs ∧ (y.2.2.2.2.2.1 = 99999 ∨ Jvm.Cond.selects (zY y.1).cls (zY y.1) (zY y.1) ∈ zTs) ∧ ((zY y.1).cls ≠ "java/lang/invoke/MethodHandle" ∧ (zY y.1).cls ≠ "java/lang/invoke/VarHandle") ∧ (∀ sig, parseMethodDescriptor (zY y.1).desc = some sig → y.2.2.2.2.2.2 = sig.parameters.length) ∧ plainName (zY y.1).cls = true ∧ zX y.1 ≤ 40 := by
  unfold zmf at h
  simp only [Bool.and_eq_true, Bool.or_eq_true, decide_eq_true_eq] at h
  obtain ⟨⟨⟨⟨⟨⟨⟨⟨-, h1⟩, h2⟩, h3⟩, h4⟩, h5⟩, h6⟩, h7⟩, h8⟩ := h
  refine ⟨zmf_code h1, zIn _ h2 rfl, zIn _ h3 (by split <;> rfl), ?_, h5, fun sig hs => ?_, h7, h8⟩
  · rcases h4 with h4 | h4
    · exact Or.inl h4
    · exact Or.inr (zIn _ h4 rfl)
  · rw [hs] at h6
    exact (Option.some.inj h6).symm
def zis (o idx : Nat) (y : Nat × Nat × Nat × Nat) (v : Nat) : Bool := Nat.beq y.1 o && Nat.beq y.2.1 idx && Nat.beq y.2.2.1 v
def zifL (o idx ci f : Nat) : Bool := zfL.any (fun y => Nat.beq y.1 o && Nat.beq y.2.1 idx && Nat.beq y.2.2.1 ci && Nat.beq y.2.2.2.1 f)
def zifN (o idx ci f : Nat) : Bool := zfN.any (fun y => Nat.beq y.1 o && Nat.beq y.2.1 idx && Nat.beq y.2.2.1 ci && Nat.beq y.2.2.2.1 f)
def zimN (o idx mid : Nat) : Bool := zmN.any (fun y => Nat.beq y.1 o && Nat.beq y.2.1 idx && Nat.beq y.2.2.1 mid)
def zmfact (mid st np : Nat) (sel : Bool) : Bool := zms.any (fun y => Nat.beq y.1 mid && Nat.beq y.2.1 st && Nat.beq y.2.2.2.2.2.2 np && (!sel || Nat.blt y.2.2.2.2.2.1 99999))
def zckf (mid idx ci f kd : Nat) : Bool := Nat.blt ci 11 && Nat.blt f (zcl ci).2.2 && Nat.beq (zkf (zty ci f)) kd && (zifL (zo mid) idx ci f || zifN (zo mid) idx ci f)
def zckq (mid idx ci f kd : Nat) : Bool := Nat.blt ci 11 && Nat.blt f (zcl ci).2.2 && Nat.beq (zkf (zty ci f)) kd && zifL (zo mid) idx ci f && (!((zcl ci).2.1 f).2.2.2 || (decide ((zY mid).name = "<init>") && decide (((zcl ci).2.1 f).1 = (zY mid).cls)))
def zckm (mid : Nat) (i : Instr) (a : List Nat) : Bool := match a with
  | [mode] => znt.any (fun y => Nat.beq y.1 mode && Nat.beq y.2.1 (zo mid) && (match i with | .invokestatic idx => Nat.beq y.2.2.1 idx && (Nat.beq mode 5 || Nat.beq mode 9 || Nat.beq mode 10) | .invokevirtual idx => Nat.beq y.2.2.1 idx && (Nat.beq mode 6 || Nat.beq mode 7) | .invokespecial idx => Nat.beq y.2.2.1 idx && Nat.beq mode 8 | _ => false))
  | [mode, mid', cl, na, nl, _, _] => Nat.beq nl (zX mid') && (match i with
    | .invokevirtual idx => Nat.beq mode 0 && Nat.blt cl 11 && decide ((zcl cl).1 = (zY mid').cls) && Nat.blt 0 na && zmfact mid' 0 (na - 1) true && zmL.any (fun y => zis (zo mid) idx y mid')
    | .invokestatic idx => zmfact mid' 1 na false && ((Nat.beq mode 1 && zmL.any (fun y => zis (zo mid) idx y mid')) || (Nat.beq mode 3 && zimN (zo mid) idx mid'))
    | .invokespecial idx => Nat.blt 0 na && decide ((zY mid').name = "<init>") && decide (zT mid' = none) && zmfact mid' 0 (na - 1) false && ((Nat.beq mode 2 && zmL.any (fun y => zis (zo mid) idx y mid')) || (Nat.beq mode 4 && zimN (zo mid) idx mid'))
    | _ => false)
  | _ => false
def zckp (mid pc : Nat) (i : Instr) (a : List Nat) (z : Int) : Bool := match i with
  | .ldc idx => zkI.any (fun y => Nat.beq y.1 (zo mid) && Nat.beq y.2.1 idx && decide (y.2.2.1 = z))
  | .ldc_w idx => zkI.any (fun y => Nat.beq y.1 (zo mid) && Nat.beq y.2.1 idx && decide (y.2.2.1 = z))
  | .ldc2_w idx => zkL.any (fun y => Nat.beq y.1 (zo mid) && Nat.beq y.2.1 idx && decide (y.2.2.1 = z))
  | .goto off => decide (0 ≤ (pc : Int) + off)
  | .ifCond _ off => decide (0 ≤ (pc : Int) + off)
  | .if_icmp _ off => decide (0 ≤ (pc : Int) + off)
  | .tableswitch dflt lo hi offs => decide (0 ≤ (pc : Int) + dflt) && decide ((offs.size : Int) = hi - lo + 1) && offs.toList.all (fun o => decide (0 ≤ (pc : Int) + o))
  | .getfield idx => match a with
    | [ci, f, kd] => zckf mid idx ci f kd
    | _ => false
  | .putfield idx => match a with
    | [ci, f, kd] => zckq mid idx ci f kd
    | _ => false
  | .checkcast idx => match a with
    | [tag] => zcA.any (fun y => zis (zo mid) idx y tag)
    | _ => false
  | .new idx => match a with
    | [ci, nf] => Nat.blt ci 11 && Nat.beq nf (zcl ci).2.2 && zcC.any (fun y => zis (zo mid) idx y ci)
    | _ => false
  | .newarray ty => decide (ty = .int) || decide (ty = .long) || decide (ty = .char)
  | .anewarray idx => match a with
    | [tag] => zcR.any (fun y => zis (zo mid) idx y tag)
    | _ => false
  | .invokevirtual _ => zckm mid i a
  | .invokestatic _ => zckm mid i a
  | .invokespecial _ => zckm mid i a
  | .ireturn => (decide (a = [0]) && decide (zT mid = some .int)) || (decide (a = [1]) && decide (zT mid = some .boolean)) || (decide (a = [2]) && decide (zT mid = some .char))
  | .lreturn => decide (zT mid = some .long)
  | .areturn => match zT mid with
    | some (.object _) => true
    | some (.array _) => true
    | _ => false
  | .return_ => decide (zT mid = none)
  | _ => true
def zckd (mid pc : Nat) (i : Instr) (len : Nat) : Bool := match decode (zB mid) pc with
  | .ok (i', n) => decide (i' = i) && Nat.beq n len
  | _ => false
def zckl (i : Instr) (len : Nat) : Bool := match i with
  | .tableswitch _ _ _ _ => true
  | i => Nat.beq len (zlen i)
def zck (mid : Nat) (x : Nat × zE) : Bool := zckd mid x.1 x.2.1 x.2.2.1 && zckl x.2.1 x.2.2.1 && zckp mid x.1 x.2.1 x.2.2.2.1 x.2.2.2.2
section
variable {mid pc len : Nat} {i : Instr} {a : List Nat} {z : Int}
theorem zckd_ok (h : zckd mid pc i len = true) : decode (zB mid) pc = .ok (i, len) := by
  unfold zckd at h
  split at h
  · rename_i i' n hd
    simp only [Bool.and_eq_true, decide_eq_true_eq, Nat.beq_eq] at h
    rw [hd, h.1, h.2]
  · cases h
theorem zckl_ok (h : zckl i len = true) : (∀ a b d f, i ≠ .tableswitch a b d f) → len = zlen i := by
  intro hn
  unfold zckl at h
  split at h
  · exact absurd rfl (hn _ _ _ _)
  · exact Nat.eq_of_beq_eq_true h
theorem zmL_in {o idx m : Nat} (h : zmL.any (fun y => zis o idx y m) = true) : Jvm.Cond.methodLink (zcn o) idx (zY m) ∈ zTs := by
  obtain ⟨y, hy, h1⟩ := List.any_eq_true.mp h
  simp only [zis, Bool.and_eq_true, Nat.beq_eq] at h1
  obtain ⟨⟨rfl, rfl⟩, rfl⟩ := h1
  exact zIn _ (of_decide_eq_true (List.all_eq_true.mp zmL_c y hy)) rfl
theorem zmN_in {o idx m : Nat} (h : zimN o idx m = true) : ∃ host, Jvm.Cond.methodLinkNest (zcn o) idx (zY m) host ∈ zNw := by
  obtain ⟨y, hy, h1⟩ := List.any_eq_true.mp h
  simp only [Bool.and_eq_true, Nat.beq_eq] at h1
  obtain ⟨⟨rfl, rfl⟩, rfl⟩ := h1
  exact ⟨y.2.2.2.2, List.mem_append_left _ (List.mem_append_right _ (List.mem_map.mpr ⟨y, hy, rfl⟩))⟩
theorem zfL_in {o idx ci f : Nat} (h : zifL o idx ci f = true) : Jvm.Cond.fieldLink (zcn o) idx ((zcl ci).2.1 f).1 ((zcl ci).2.1 f).2.1 ((zcl ci).2.1 f).2.2.1 ∈ zTs := by
  obtain ⟨y, hy, h1⟩ := List.any_eq_true.mp h
  simp only [Bool.and_eq_true, Nat.beq_eq] at h1
  obtain ⟨⟨⟨rfl, rfl⟩, rfl⟩, rfl⟩ := h1
  exact zIn _ (of_decide_eq_true (List.all_eq_true.mp zfL_c y hy)) rfl
theorem zfN_in {o idx ci f : Nat} (h : zifN o idx ci f = true) : ∃ host, Jvm.Cond.fieldLinkNest (zcn o) idx ((zcl ci).2.1 f).1 ((zcl ci).2.1 f).2.1 ((zcl ci).2.1 f).2.2.1 host ∈ zNw := by
  obtain ⟨y, hy, h1⟩ := List.any_eq_true.mp h
  simp only [Bool.and_eq_true, Nat.beq_eq] at h1
  obtain ⟨⟨⟨rfl, rfl⟩, rfl⟩, rfl⟩ := h1
  exact ⟨y.2.2.2.2.2, List.mem_append_left _ (List.mem_append_left _ (List.mem_map.mpr ⟨y, hy, rfl⟩))⟩
theorem zmfact_in {m st np : Nat} {sel : Bool} (h : zmfact m st np sel = true) : Jvm.Cond.code (zY m) (zB m) (zX m) (zT m) ∈ zTs ∧ Jvm.Cond.initialized (zY m).cls ∈ zTs ∧ (if st = 1 then Jvm.Cond.static (zY m) else Jvm.Cond.instanceMethod (zY m)) ∈ zTs ∧ (sel = true → Jvm.Cond.selects (zY m).cls (zY m) (zY m) ∈ zTs) ∧ ((zY m).cls ≠ "java/lang/invoke/MethodHandle" ∧ (zY m).cls ≠ "java/lang/invoke/VarHandle") ∧ (∀ sig, parseMethodDescriptor (zY m).desc = some sig → np = sig.parameters.length) ∧ plainName (zY m).cls = true ∧ zX m ≤ 40 := by
  obtain ⟨y, hy, h1⟩ := List.any_eq_true.mp h
  simp only [Bool.and_eq_true, Nat.beq_eq] at h1
  obtain ⟨⟨⟨rfl, rfl⟩, rfl⟩, h2⟩ := h1
  obtain ⟨g1, g2, g3, g4, g5, g6, g7, g8⟩ := zmf_spec (zms_c y hy)
  refine ⟨g1, g2, g3, fun hs => ?_, g5, g6, g7, g8⟩
  subst hs
  rcases g4 with g4 | g4
  · simp [g4] at h2
  · exact g4
theorem znt_c1 : znt.all (fun y => decide (y.1 = 8 → lw_tbl[y.2.2.2]? = some (Jvm.Cond.methodLink (zcn y.2.1) y.2.2.1 objectInit)) && decide (y.1 = 5 → lw_tbl[y.2.2.2]? = some (Jvm.Cond.methodLink (zcn y.2.1) y.2.2.1 arraycopyName)) && decide (y.1 = 6 → lw_tbl[y.2.2.2]? = some (Jvm.Cond.methodLink (zcn y.2.1) y.2.2.1 ⟨"[" ++ (zaf 20).toString, "clone", "()Ljava/lang/Object;"⟩)) && decide (y.1 = 7 → lw_tbl[y.2.2.2]? = some (Jvm.Cond.methodLink (zcn y.2.1) y.2.2.1 ⟨"[" ++ (zaf 22).toString, "clone", "()Ljava/lang/Object;"⟩)) && decide (y.1 = 9 → lw_tbl[y.2.2.2]? = some (Jvm.Cond.methodLink (zcn y.2.1) y.2.2.1 Lib.Math.max.name)) && decide (y.1 = 10 → lw_tbl[y.2.2.2]? = some (Jvm.Cond.methodLink (zcn y.2.1) y.2.2.1 Lib.Math.min.name))) = true := by decide +kernel
theorem zck_const (hcn : (zY mid).cls = zcn (zo mid)) (h : zckp mid pc i a z = true) : zconst (zY mid).cls i z zTs := by
  rw [hcn]
  cases i <;> first | exact trivial | skip
  case ldc idx =>
    obtain ⟨y, hy, h1⟩ := List.any_eq_true.mp h
    simp only [Bool.and_eq_true, Nat.beq_eq, decide_eq_true_eq] at h1
    obtain ⟨⟨h2, rfl⟩, rfl⟩ := h1
    rw [← h2]
    exact zIn _ (of_decide_eq_true (List.all_eq_true.mp zkI_c y hy)) rfl
  case ldc_w idx =>
    obtain ⟨y, hy, h1⟩ := List.any_eq_true.mp h
    simp only [Bool.and_eq_true, Nat.beq_eq, decide_eq_true_eq] at h1
    obtain ⟨⟨h2, rfl⟩, rfl⟩ := h1
    rw [← h2]
    exact zIn _ (of_decide_eq_true (List.all_eq_true.mp zkI_c y hy)) rfl
  case ldc2_w idx =>
    obtain ⟨y, hy, h1⟩ := List.any_eq_true.mp h
    simp only [Bool.and_eq_true, Nat.beq_eq, decide_eq_true_eq] at h1
    obtain ⟨⟨h2, rfl⟩, rfl⟩ := h1
    rw [← h2]
    exact zIn _ (of_decide_eq_true (List.all_eq_true.mp zkL_c y hy)) rfl
theorem zck_j (h : zckp mid pc i a z = true) : zjok i pc := by
  cases i <;> first | exact trivial | skip
  case goto off =>
    simp only [zckp, decide_eq_true_eq] at h
    exact h
  case ifCond _ off =>
    simp only [zckp, decide_eq_true_eq] at h
    exact h
  case if_icmp _ off =>
    simp only [zckp, decide_eq_true_eq] at h
    exact h
  case tableswitch dflt lo hi offs =>
    simp only [zckp, Bool.and_eq_true, decide_eq_true_eq, List.all_eq_true] at h
    exact ⟨h.1.1, h.1.2, h.2⟩
theorem zck_m (hcn : (zY mid).cls = zcn (zo mid)) (h : zckp mid pc i a z = true) : zmok zTs zNw (zY mid).cls (zY mid).name i a := by
  cases i <;> first | exact trivial | skip
  case getfield idx =>
    simp only [zckp] at h
    split at h
    · rename_i ci f kd
      simp only [zckf, Bool.and_eq_true, Bool.or_eq_true, Nat.beq_eq, Nat.blt_eq] at h
      obtain ⟨⟨⟨h1, h2⟩, h3⟩, h4⟩ := h
      refine ⟨ci, f, kd, rfl, h1, h2, h3, ?_⟩
      rw [hcn]
      rcases h4 with h4 | h4
      · exact Or.inl (zfL_in h4)
      · exact Or.inr (zfN_in h4)
    · cases h
  case putfield idx =>
    simp only [zckp] at h
    split at h
    · rename_i ci f kd
      simp only [zckq, Bool.and_eq_true, Bool.or_eq_true, Nat.beq_eq, Nat.blt_eq, decide_eq_true_eq, Bool.not_eq_true'] at h
      obtain ⟨⟨⟨⟨h1, h2⟩, h3⟩, h4⟩, h5⟩ := h
      refine ⟨ci, f, kd, rfl, h1, h2, h3, by rw [hcn]; exact zfL_in h4, ?_⟩
      rcases h5 with h5 | h5
      · exact Or.inl h5
      · by_cases h6 : ((zcl ci).2.1 f).2.2.2 = true
        · exact Or.inr ⟨h6, h5.1, h5.2⟩
        · exact Or.inl (by simpa using h6)
    · cases h
  case checkcast idx =>
    simp only [zckp] at h
    split at h
    · rename_i tag
      obtain ⟨y, hy, h1⟩ := List.any_eq_true.mp h
      simp only [zis, Bool.and_eq_true, Nat.beq_eq] at h1
      obtain ⟨⟨h2, rfl⟩, rfl⟩ := h1
      have := List.all_eq_true.mp zcA_c y hy
      simp only [Bool.and_eq_true, decide_eq_true_eq] at this
      exact ⟨_, rfl, this.2, by rw [hcn, ← h2]; exact zIn _ this.1 rfl⟩
    · cases h
theorem zck_k (hcn : (zY mid).cls = zcn (zo mid)) (h : zckp mid pc i a z = true) : zkok zTs zAO (zY mid).cls i a := by
  cases i <;> first | exact trivial | skip
  case new idx =>
    simp only [zckp] at h
    split at h
    · rename_i ci nf
      simp only [Bool.and_eq_true, Nat.beq_eq, Nat.blt_eq] at h
      obtain ⟨⟨h1, rfl⟩, h3⟩ := h
      obtain ⟨y, hy, h4⟩ := List.any_eq_true.mp h3
      simp only [zis, Bool.and_eq_true, Nat.beq_eq] at h4
      obtain ⟨⟨h2, rfl⟩, rfl⟩ := h4
      exact ⟨_, rfl, h1, by rw [hcn, ← h2]; exact zIn _ (of_decide_eq_true (List.all_eq_true.mp zcC_c y hy)) rfl⟩
    · cases h
  case newarray ty =>
    simp only [zckp, Bool.or_eq_true, decide_eq_true_eq] at h
    rcases h with (rfl | rfl) | rfl
    · exact ⟨by decide, zIn 219 (by decide +kernel) rfl⟩
    · exact ⟨by decide, zIn 388 (by decide +kernel) rfl⟩
    · exact ⟨by decide, zIn 137 (by decide +kernel) rfl⟩
  case anewarray idx =>
    simp only [zckp] at h
    split at h
    · rename_i tag
      obtain ⟨y, hy, h1⟩ := List.any_eq_true.mp h
      simp only [zis, Bool.and_eq_true, Nat.beq_eq] at h1
      obtain ⟨⟨h2, rfl⟩, rfl⟩ := h1
      have := List.all_eq_true.mp zcR_c y hy
      simp only [Bool.and_eq_true, decide_eq_true_eq] at this
      exact ⟨_, _, rfl, this.1.2, (zel_cl this.1.2).2, by rw [hcn, ← h2]; exact zIn _ this.1.1 rfl, this.2⟩
    · cases h
theorem zck_r (h : zckp mid pc i a z = true) : zrok zT mid i a := by
  cases i <;> first | exact trivial | skip
  case ireturn =>
    simp only [zckp, Bool.or_eq_true, Bool.and_eq_true, decide_eq_true_eq] at h
    rcases h with (h | h) | h
    · exact Or.inl h
    · exact Or.inr (Or.inl h)
    · exact Or.inr (Or.inr h)
  case lreturn =>
    simp only [zckp, decide_eq_true_eq] at h
    exact h
  case areturn =>
    simp only [zckp] at h
    split at h
    · rename_i n hT
      exact Or.inl ⟨_, hT⟩
    · rename_i n hT
      exact Or.inr ⟨_, hT⟩
    · cases h
  case return_ =>
    simp only [zckp, decide_eq_true_eq] at h
    exact h
theorem znt_n7 : znt.all (fun y => decide (y.1 ≠ 7)) = true := by decide +kernel
theorem zck_n {mode idx : Nat} (hcn : (zY mid).cls = zcn (zo mid)) {y : Nat × Nat × Nat × Nat} (hy : y ∈ znt) (h1 : y.1 = mode) (h2 : y.2.1 = zo mid) (h3 : y.2.2.1 = idx) (hi : ((mode = 5 ∨ mode = 9 ∨ mode = 10) ∧ i = .invokestatic idx) ∨ ((mode = 6 ∨ mode = 7) ∧ i = .invokevirtual idx) ∨ (mode = 8 ∧ i = .invokespecial idx)) : znok zTs zNw (zY mid).cls i mode := by
  have hc := List.all_eq_true.mp znt_c1 y hy
  simp only [Bool.and_eq_true, decide_eq_true_eq] at hc
  obtain ⟨⟨⟨⟨⟨c8, c5⟩, c6⟩, c7⟩, c9⟩, c10⟩ := hc
  rw [h1, h2, h3, ← hcn] at c5 c6 c7 c8 c9 c10
  rcases hi with ⟨rfl | rfl | rfl, rfl⟩ | ⟨rfl | rfl, rfl⟩ | ⟨rfl, rfl⟩
  · exact ⟨idx, rfl, zIn _ (c5 rfl) rfl, zIn 243 (by decide +kernel) rfl, zIn 242 (by decide +kernel) rfl, zIn 99 (by decide +kernel) rfl⟩
  · exact ⟨idx, rfl, zIn _ (c9 rfl) rfl, zIn 576 (by decide +kernel) rfl, zIn 98 (by decide +kernel) rfl, zIn 577 (by decide +kernel) rfl⟩
  · exact ⟨idx, rfl, zIn _ (c10 rfl) rfl, zIn 239 (by decide +kernel) rfl, zIn 98 (by decide +kernel) rfl, zIn 240 (by decide +kernel) rfl⟩
  · exact ⟨idx, rfl, zIn _ (c6 rfl) rfl, zIn 232 (by decide +kernel) rfl, zIn 233 (by decide +kernel) rfl, zIn 234 (by decide +kernel) rfl, zIn 235 (by decide +kernel) rfl, List.mem_append_right _ List.mem_cons_self⟩
  · exact absurd h1 (of_decide_eq_true (List.all_eq_true.mp znt_n7 y hy))
  · exact ⟨idx, rfl, zIn _ (c8 rfl) rfl, zIn 113 (by decide +kernel) rfl, zIn 114 (by decide +kernel) rfl⟩
theorem zck_c (hcn : (zY mid).cls = zcn (zo mid)) (h : zckm mid i a = true) : zcok zY zB zX zT zTs zNw (zY mid).cls i a := by
  unfold zckm at h
  split at h
  · rename_i mode
    refine Or.inl ⟨mode, rfl, ?_⟩
    obtain ⟨y, hy, h1⟩ := List.any_eq_true.mp h
    simp only [Bool.and_eq_true, Nat.beq_eq] at h1
    obtain ⟨⟨h2, h3⟩, h4⟩ := h1
    split at h4
    · simp only [Bool.and_eq_true, Bool.or_eq_true, Nat.beq_eq] at h4
      exact zck_n hcn hy h2 h3 h4.1 (Or.inl ⟨or_assoc.mp h4.2, rfl⟩)
    · simp only [Bool.and_eq_true, Bool.or_eq_true, Nat.beq_eq] at h4
      exact zck_n hcn hy h2 h3 h4.1 (Or.inr (Or.inl ⟨h4.2, rfl⟩))
    · simp only [Bool.and_eq_true, Nat.beq_eq] at h4
      exact zck_n hcn hy h2 h3 h4.1 (Or.inr (Or.inr ⟨h4.2, rfl⟩))
    · cases h4
  · rename_i mode mid' cl na nl bc bs
    simp only [Bool.and_eq_true, Nat.beq_eq] at h
    obtain ⟨rfl, h⟩ := h
    refine Or.inr ?_
    rw [hcn]
    split at h
    · rename_i idx
      simp only [Bool.and_eq_true, Nat.beq_eq, Nat.blt_eq, decide_eq_true_eq] at h
      obtain ⟨⟨⟨⟨⟨rfl, h1⟩, h2⟩, h3⟩, h4⟩, h5⟩ := h
      obtain ⟨g1, g2, g3, g4, g5, g6, g7, g8⟩ := zmfact_in h4
      exact ⟨0, mid', cl, na, bc, bs, na - 1, rfl, g1, g2, g5, g6, g7, g8, Or.inl ⟨rfl, by omega, h1, idx, rfl, zmL_in h5, g3, by rw [h2]; exact g4 rfl⟩⟩
    · rename_i idx
      simp only [Bool.and_eq_true, Bool.or_eq_true, Nat.beq_eq] at h
      obtain ⟨h4, h5⟩ := h
      obtain ⟨g1, g2, g3, g4, g5, g6, g7, g8⟩ := zmfact_in h4
      rcases h5 with ⟨rfl, h5⟩ | ⟨rfl, h5⟩
      · exact ⟨1, mid', cl, na, bc, bs, na, rfl, g1, g2, g5, g6, g7, g8, Or.inr (Or.inl ⟨rfl, rfl, idx, rfl, zmL_in h5, g3⟩)⟩
      · obtain ⟨host, h6⟩ := zmN_in h5
        exact ⟨3, mid', cl, na, bc, bs, na, rfl, g1, g2, g5, g6, g7, g8, Or.inr (Or.inr (Or.inr (Or.inl ⟨rfl, rfl, idx, host, rfl, h6, g3⟩)))⟩
    · rename_i idx
      simp only [Bool.and_eq_true, Bool.or_eq_true, Nat.beq_eq, Nat.blt_eq, decide_eq_true_eq] at h
      obtain ⟨⟨⟨⟨h1, h2⟩, h3⟩, h4⟩, h5⟩ := h
      obtain ⟨g1, g2, g3, g4, g5, g6, g7, g8⟩ := zmfact_in h4
      rcases h5 with ⟨rfl, h5⟩ | ⟨rfl, h5⟩
      · exact ⟨2, mid', cl, na, bc, bs, na - 1, rfl, g1, g2, g5, g6, g7, g8, Or.inr (Or.inr (Or.inl ⟨rfl, by omega, h3, h2, idx, rfl, zmL_in h5, g3⟩))⟩
      · obtain ⟨host, h6⟩ := zmN_in h5
        exact ⟨4, mid', cl, na, bc, bs, na - 1, rfl, g1, g2, g5, g6, g7, g8, Or.inr (Or.inr (Or.inr (Or.inr ⟨rfl, by omega, h3, h2, idx, host, rfl, h6, g3⟩)))⟩
    · cases h
  · cases h
theorem zck_ok {x : Nat × zE} (hcn : (zY mid).cls = zcn (zo mid)) (h : zck mid x = true) : zsite zY zB zX zT zTs zNw zAO mid x.1 x.2 := by
  obtain ⟨pc, i, len, a, z⟩ := x
  unfold zck at h
  simp only [Bool.and_eq_true] at h
  obtain ⟨⟨h1, h2⟩, h3⟩ := h
  refine ⟨zckd_ok h1, zckl_ok h2, zck_const hcn h3, zck_j h3, zck_m hcn h3, zck_k hcn h3, fun hc => zck_c hcn ?_, zck_r h3⟩
  cases i <;> first | exact h3 | (simp [zcall] at hc)
end
theorem zfd_in {l : List (Nat × zE)} {pc : Nat} {x : zE} (h : zfd l pc = some x) : (pc, x) ∈ l := by
  induction l with
  | nil => cases h
  | cons a t ih =>
    obtain ⟨q, y⟩ := a
    unfold zfd at h
    cases hb : Nat.beq q pc with
    | true =>
      rw [hb] at h
      have e := Nat.eq_of_beq_eq_true hb
      subst e
      cases h
      exact List.mem_cons_self
    | false =>
      rw [hb] at h
      exact List.mem_cons_of_mem _ (ih h)
