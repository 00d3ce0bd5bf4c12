/-! one row a group of instructions: from the interpreter's step to the machine's -/
def zlen (i : Instr) : Nat := match i with
  | .aload _ => 2
  | .astore _ => 2
  | .bipush _ => 2
  | .iload _ => 2
  | .istore _ => 2
  | .lload _ => 2
  | .lstore _ => 2
  | .ldc _ => 2
  | .newarray _ => 2
  | .sipush _ => 3
  | .iinc _ _ => 3
  | .ldc_w _ => 3
  | .ldc2_w _ => 3
  | .getfield _ => 3
  | .putfield _ => 3
  | .goto _ => 3
  | .ifCond _ _ => 3
  | .if_icmp _ _ => 3
  | .invokevirtual _ => 3
  | .invokestatic _ => 3
  | .invokespecial _ => 3
  | .new _ => 3
  | .anewarray _ => 3
  | .checkcast _ => 3
  | _ => 1
def zconst (own : String) (i : Instr) (z : Int) (Ts : List Jvm.Cond) : Prop := match i with
  | .ldc idx => Jvm.Cond.constant own idx (Int32.ofInt z) ∈ Ts
  | .ldc_w idx => Jvm.Cond.constant own idx (Int32.ofInt z) ∈ Ts
  | .ldc2_w idx => Jvm.Cond.constantLong own idx (Int64.ofInt z) ∈ Ts
  | _ => True
theorem zop2_some {f : Int32 → Int32 → Int32} {st st' : List zV} (h : zop2 f st = some st') : ∃ y x r, st = zi y :: zi x :: r ∧ st' = zi (f x y) :: r := by
  unfold zop2 at h
  split at h
  · exact ⟨_, _, _, rfl, (Option.some.inj h).symm⟩
  · cases h
theorem zop2l_some {f : Int64 → Int64 → Int64} {st st' : List zV} (h : zop2l f st = some st') : ∃ y x r, st = zl y :: zl x :: r ∧ st' = zl (f x y) :: r := by
  unfold zop2l at h
  split at h
  · exact ⟨_, _, _, rfl, (Option.some.inj h).symm⟩
  · cases h
theorem zopsl_some {f : Int64 → Int32 → Int64} {st st' : List zV} (h : zopsl f st = some st') : ∃ y x r, st = zi y :: zl x :: r ∧ st' = zl (f x y) :: r := by
  unfold zopsl at h
  split at h
  · exact ⟨_, _, _, rfl, (Option.some.inj h).symm⟩
  · cases h
theorem zop1_some {f : Int32 → zV} {st st' : List zV} (h : zop1 f st = some st') : ∃ x r, st = zi x :: r ∧ st' = f x :: r := by
  unfold zop1 at h
  split at h
  · exact ⟨_, _, rfl, (Option.some.inj h).symm⟩
  · cases h
def zlr (ρ : zR → Nat) (ls : List (Option zV)) (rls : Array Slot) (nL : Nat) : Prop := ls.length = nL ∧ ∃ l, lv_has rls nL l ∧ ∀ k v, ls[k]? = some (some v) → (k, zcv ρ v) ∈ l
theorem zlr.get {ρ : zR → Nat} {ls : List (Option zV)} {rls : Array Slot} {nL k : Nat} {v : zV} (h : zlr ρ ls rls nL) (hk : ls[k]? = some (some v)) : rls[k]? = some (.val (zcv ρ v)) := by
  obtain ⟨-, l, h1, h2⟩ := h
  exact h1.2.2 _ (h2 k v hk)
theorem zlr.sz {ρ : zR → Nat} {ls : List (Option zV)} {rls : Array Slot} {nL : Nat} (h : zlr ρ ls rls nL) : rls.size = nL := by
  obtain ⟨-, l, h1, h2⟩ := h
  exact h1.1
theorem zkill_get {ls : List (Option zV)} {k k' : Nat} {v' : zV} (h : (zkill ls k)[k']? = some (some v')) : ls[k']? = some (some v') ∧ ¬ (k' + 1 = k ∧ zcat v' = 2) := by
  unfold zkill at h
  split at h
  · exact ⟨h, fun g => by omega⟩
  · rename_i k0
    split at h
    · rename_i x hx
      rw [List.getElem?_set] at h
      split at h
      · split at h <;> simp at h
      · exact ⟨h, fun g => by omega⟩
    · rename_i hx
      refine ⟨h, fun g => ?_⟩
      obtain ⟨g1, g2⟩ := g
      have e : k' = k0 := by omega
      subst e
      rcases v' with x | x | x <;> simp [zcat] at g2
      exact hx _ h
theorem zkill_len (ls : List (Option zV)) (k : Nat) : (zkill ls k).length = ls.length := by
  unfold zkill
  split
  · rfl
  · split
    · simp
    · rfl
theorem zsto_len (ls : List (Option zV)) (k : Nat) (v : zV) : (zsto ls k v).length = ls.length := by
  rcases v with x | x | x <;> simp [zsto, zkill_len]
theorem zset_get {ls : List (Option zV)} {k k' : Nat} {v v' : zV} (h : ((zkill ls k).set k (some v))[k']? = some (some v')) : (k' = k ∧ v' = v) ∨ (k' ≠ k ∧ ls[k']? = some (some v') ∧ ¬ (k' + 1 = k ∧ zcat v' = 2)) := by
  rw [List.getElem?_set] at h
  split at h
  · rename_i hk
    split at h
    · simp at h
      exact Or.inl ⟨hk.symm, h.symm⟩
    · simp at h
  · rename_i hk
    exact Or.inr ⟨fun e => hk e.symm, zkill_get h⟩
theorem zsto1_get {ls : List (Option zV)} {k k' : Nat} {v v' : zV} (hv : zcat v = 1) (h : (zsto ls k v)[k']? = some (some v')) : (k' = k ∧ v' = v) ∨ (k' ≠ k ∧ ls[k']? = some (some v') ∧ ¬ (k' + 1 = k ∧ zcat v' = 2)) := by
  rcases v with x | x | x
  · exact zset_get h
  · simp [zcat] at hv
  · exact zset_get h
theorem zsto2_get {ls : List (Option zV)} {k k' : Nat} {x : Int64} {v' : zV} (h : (zsto ls k (zl x))[k']? = some (some v')) : (k' = k ∧ v' = zl x) ∨ (k' ≠ k ∧ k' ≠ k + 1 ∧ ls[k']? = some (some v') ∧ ¬ (k' + 1 = k ∧ zcat v' = 2)) := by
  simp only [zsto] at h
  rw [List.getElem?_set] at h
  split at h
  · split at h <;> simp at h
  · rename_i hk
    rcases zset_get h with h | h
    · exact Or.inl h
    · exact Or.inr ⟨h.1, fun e => hk e.symm, h.2⟩
theorem zlr.sto1 {ρ : zR → Nat} {ls : List (Option zV)} {rls' : Array Slot} {nL k : Nat} {v : zV} {l : List (Nat × Value)} (h : ls.length = nL ∧ ∀ k v, ls[k]? = some (some v) → (k, zcv ρ v) ∈ l) (hv : zcat v = 1)
    (hs : lv_has rls' nL ((k, zcv ρ v) :: l.filter (fun q => !(q.1 == k) && !(q.1 + 1 == k && q.2.category == 2)))) : zlr ρ (zsto ls k v) rls' nL := by
  refine ⟨by rw [zsto_len]; exact h.1, _, hs, fun k' v' h' => ?_⟩
  rcases zsto1_get hv h' with ⟨e1, e2⟩ | ⟨g1, g2, g3⟩
  · rw [e1, e2]; exact List.mem_cons_self
  · refine List.mem_cons_of_mem _ (List.mem_filter.mpr ⟨h.2 k' v' g2, ?_⟩)
    have e : (zcv ρ v').category = zcat v' := zcv_cat ρ v'
    by_cases h1 : k' + 1 = k
    · have h2 : ¬ zcat v' = 2 := fun q => g3 ⟨h1, q⟩
      simp [g1, h1, e, h2]
    · simp [g1, h1]
theorem zlr.sto2 {ρ : zR → Nat} {ls : List (Option zV)} {rls' : Array Slot} {nL k : Nat} {x : Int64} {l : List (Nat × Value)} (h : ls.length = nL ∧ ∀ k v, ls[k]? = some (some v) → (k, zcv ρ v) ∈ l)
    (hs : lv_has rls' nL ((k, Value.long x) :: l.filter (fun q => !(q.1 == k) && (!(q.1 == k + 1) && !(q.1 + 1 == k && q.2.category == 2))))) : zlr ρ (zsto ls k (zl x)) rls' nL := by
  refine ⟨by rw [zsto_len]; exact h.1, _, hs, fun k' v' h' => ?_⟩
  rcases zsto2_get h' with ⟨e1, e2⟩ | ⟨g1, g0, g2, g3⟩
  · rw [e1, e2]; exact List.mem_cons_self
  · refine List.mem_cons_of_mem _ (List.mem_filter.mpr ⟨h.2 k' v' g2, ?_⟩)
    have e : (zcv ρ v').category = zcat v' := zcv_cat ρ v'
    by_cases h1 : k' + 1 = k
    · have h2 : ¬ zcat v' = 2 := fun q => g3 ⟨h1, q⟩
      simp [g0, g1, h1, e, h2]
    · simp [g0, g1, h1]
section
variable {p : Program} {l : Launch} {e : Env} {R : Room} {s : State} {m : MethodId} {args : Array Value} {below : List Frame} {meth : Method} {c : Code} {H : Heap} {locs : List Loc} {cells slots : Nat} {Q : State → Prop}
variable {cc : ByteArray} {pc len : Nat} {rls : Array Slot} {st st' : List zV} {ρ : zR → Nat} {i : Instr} {z : Int} {own : String} {Ts : List Jvm.Cond}
theorem zW_op (hx : p.tables.exec = Jvm.exec) (hb : c.code = cc) (hown : s.vm.findClass own = some m.cls) (hts : ∀ w ∈ Ts, w.before args s = true) (hd : decode cc pc = .ok (i, len)) (hlen : len = zlen i) (hc : zconst own i z Ts) (hop : zop i z st = some st')
    (k : W p l e R s m args below meth c H locs cells slots Q (F0 m (pc + len) rls (st'.map (zcv ρ)))) : W p l e R s m args below meth c H locs cells slots Q (F0 m pc rls (st.map (zcv ρ))) := by
  subst hlen
  cases i <;> first
    | (simp [zop] at hop; done)
    | skip
  case iconst k0 => simp only [zop, Option.some.injEq] at hop; subst hop; exact lv_iconst hx hb hd rfl k
  case bipush k0 => simp only [zop, Option.some.injEq] at hop; subst hop; exact lv_bipush hx hb hd rfl k
  case sipush k0 => simp only [zop, Option.some.injEq] at hop; subst hop; exact lv_sipush hx hb hd rfl k
  case lconst k0 => simp only [zop, Option.some.injEq] at hop; subst hop; exact lv_lconst hx hb hd rfl k
  case ldc k0 => simp only [zop, Option.some.injEq] at hop; subst hop; exact lv_ldc hx hb hown (hts _ hc) hd k
  case ldc_w k0 => simp only [zop, Option.some.injEq] at hop; subst hop; exact lv_ldcw hx hb hown (hts _ hc) hd k
  case ldc2_w k0 => simp only [zop, Option.some.injEq] at hop; subst hop; exact lv_ldc2 hx hb hown (hts _ hc) hd k
  case iadd => obtain ⟨y, x, r, rfl, rfl⟩ := zop2_some hop; exact lv_iadd hx hb hd k
  case isub => obtain ⟨y, x, r, rfl, rfl⟩ := zop2_some hop; exact lv_isub hx hb hd k
  case imul => obtain ⟨y, x, r, rfl, rfl⟩ := zop2_some hop; exact lv_imul hx hb hd k
  case iand => obtain ⟨y, x, r, rfl, rfl⟩ := zop2_some hop; exact lv_iand hx hb hd k
  case ior => obtain ⟨y, x, r, rfl, rfl⟩ := zop2_some hop; exact lv_ior hx hb hd k
  case ixor => obtain ⟨y, x, r, rfl, rfl⟩ := zop2_some hop; exact lv_ixor hx hb hd k
  case ishl => obtain ⟨y, x, r, rfl, rfl⟩ := zop2_some hop; exact lv_ishl hx hb hd k
  case ishr => obtain ⟨y, x, r, rfl, rfl⟩ := zop2_some hop; exact lv_ishr hx hb hd k
  case iushr => obtain ⟨y, x, r, rfl, rfl⟩ := zop2_some hop; exact lv_iushr hx hb hd rfl k
  case ineg => obtain ⟨x, r, rfl, rfl⟩ := zop1_some hop; exact lv_ineg hx hb hd k
  case i2l => obtain ⟨x, r, rfl, rfl⟩ := zop1_some hop; exact lv_i2l hx hb hd rfl k
  case i2b => obtain ⟨x, r, rfl, rfl⟩ := zop1_some hop; exact lv_i2b hx hb hd rfl k
  case i2s => obtain ⟨x, r, rfl, rfl⟩ := zop1_some hop; exact lv_i2s hx hb hd rfl k
  case i2c => obtain ⟨x, r, rfl, rfl⟩ := zop1_some hop; exact lv_i2c hx hb hd rfl k
  case l2i =>
    simp only [zop] at hop
    split at hop
    · simp only [Option.some.injEq] at hop; subst hop; exact lv_l2i hx hb hd rfl k
    · cases hop
  case ladd => obtain ⟨y, x, r, rfl, rfl⟩ := zop2l_some hop; exact lv_ladd hx hb hd k
  case lmul => obtain ⟨y, x, r, rfl, rfl⟩ := zop2l_some hop; exact lv_lmul hx hb hd k
  case land => obtain ⟨y, x, r, rfl, rfl⟩ := zop2l_some hop; exact lv_land hx hb hd k
  case lor => obtain ⟨y, x, r, rfl, rfl⟩ := zop2l_some hop; exact lv_lor hx hb hd k
  case lshl => obtain ⟨y, x, r, rfl, rfl⟩ := zopsl_some hop; exact lv_lshl hx hb hd rfl k
  case lshr => obtain ⟨y, x, r, rfl, rfl⟩ := zopsl_some hop; exact lv_lshr hx hb hd rfl k
  case lcmp =>
    simp only [zop] at hop
    split at hop
    · simp only [Option.some.injEq] at hop; subst hop; exact W.lcmp hx hb hd k
    · cases hop
  case dup =>
    simp only [zop] at hop
    split at hop
    · simp only [Option.some.injEq] at hop; subst hop; exact lv_dup hx hb hd rfl k
    · rename_i x r
      simp only [Option.some.injEq] at hop; subst hop; exact lv_dup hx hb hd (by rw [zcv_cat]; rfl) k
    · cases hop
  case pop =>
    simp only [zop] at hop
    split at hop
    · simp only [Option.some.injEq] at hop; subst hop; exact lv_pop hx hb hd rfl k
    · simp only [Option.some.injEq] at hop; subst hop; exact lv_pop hx hb hd (by rw [zcv_cat]; rfl) k
    · cases hop
  case dup2 =>
    simp only [zop] at hop
    split at hop
    · simp only [Option.some.injEq] at hop; subst hop; exact lv_dup2_11 hx hb hd rfl (by rw [zcv_cat]; rfl) k
    · simp only [Option.some.injEq] at hop; subst hop; exact lv_dup2_11 hx hb hd rfl rfl k
    · simp only [Option.some.injEq] at hop; subst hop; exact lv_dup2_2 hx hb hd rfl k
    · cases hop
theorem zW_ld {ls : List (Option zV)} {nL k kd : Nat} {v : zV} (hx : p.tables.exec = Jvm.exec) (hb : c.code = cc) (hd : decode cc pc = .ok (i, len)) (hlen : len = zlen i) (hop : zld i = some (k, kd)) (hl : zlr ρ ls rls nL) (hk : ls[k]? = some (some v)) (hkd : zkd v = kd)
    (kk : W p l e R s m args below meth c H locs cells slots Q (F0 m (pc + len) rls (zcv ρ v :: st.map (zcv ρ)))) : W p l e R s m args below meth c H locs cells slots Q (F0 m pc rls (st.map (zcv ρ))) := by
  subst hlen
  have hg := hl.get hk
  cases i <;> first
    | (simp [zld] at hop; done)
    | skip
  case iload k0 =>
    simp only [zld, Option.some.injEq, Prod.mk.injEq] at hop
    obtain ⟨rfl, rfl⟩ := hop
    rcases v with x | x | x <;> simp [zkd] at hkd
    exact lv_iload hx hb hd hg kk
  case iload_n k0 =>
    simp only [zld, Option.some.injEq, Prod.mk.injEq] at hop
    obtain ⟨rfl, rfl⟩ := hop
    rcases v with x | x | x <;> simp [zkd] at hkd
    exact lv_iload_n hx hb hd rfl hg kk
  case lload k0 =>
    simp only [zld, Option.some.injEq, Prod.mk.injEq] at hop
    obtain ⟨rfl, rfl⟩ := hop
    rcases v with x | x | x <;> simp [zkd] at hkd
    exact lv_lload hx hb hd hg kk
  case lload_n k0 =>
    simp only [zld, Option.some.injEq, Prod.mk.injEq] at hop
    obtain ⟨rfl, rfl⟩ := hop
    rcases v with x | x | x <;> simp [zkd] at hkd
    exact lv_lload_n hx hb hd rfl hg kk
  case aload k0 =>
    simp only [zld, Option.some.injEq, Prod.mk.injEq] at hop
    obtain ⟨rfl, rfl⟩ := hop
    rcases v with x | x | _ | x <;> simp [zkd] at hkd
    · exact lv_aloadN hx hb hd hg kk
    · exact lv_aload hx hb hd hg kk
  case aload_n k0 =>
    simp only [zld, Option.some.injEq, Prod.mk.injEq] at hop
    obtain ⟨rfl, rfl⟩ := hop
    rcases v with x | x | _ | x <;> simp [zkd] at hkd
    · exact lv_aload_nN hx hb hd rfl hg kk
    · exact lv_aload_n hx hb hd rfl hg kk
theorem zW_sr {ls : List (Option zV)} {nL k kd : Nat} {v : zV} (hx : p.tables.exec = Jvm.exec) (hb : c.code = cc) (hd : decode cc pc = .ok (i, len)) (hlen : len = zlen i) (hop : zsr i = some (k, kd)) (hl : zlr ρ ls rls nL) (hkd : zkd v = kd) (hk : k + zcat v ≤ nL)
    (kk : ∀ rls' : Array Slot, zlr ρ (zsto ls k v) rls' nL → W p l e R s m args below meth c H locs cells slots Q (F0 m (pc + len) rls' (st.map (zcv ρ)))) : W p l e R s m args below meth c H locs cells slots Q (F0 m pc rls (zcv ρ v :: st.map (zcv ρ))) := by
  subst hlen
  obtain ⟨h0, lv, h1, h2⟩ := hl
  cases i <;> first
    | (simp [zsr] at hop; done)
    | skip
  case istore k0 =>
    simp only [zsr, Option.some.injEq, Prod.mk.injEq] at hop
    obtain ⟨rfl, rfl⟩ := hop
    rcases v with x | x | x <;> simp [zkd] at hkd
    exact lv_istore hx hb hd h1 hk rfl (fun rls' hr => kk rls' (zlr.sto1 (v := zi x) ⟨h0, h2⟩ rfl hr))
  case istore_n k0 =>
    simp only [zsr, Option.some.injEq, Prod.mk.injEq] at hop
    obtain ⟨rfl, rfl⟩ := hop
    rcases v with x | x | x <;> simp [zkd] at hkd
    exact lv_istore_n hx hb hd rfl h1 hk rfl (fun rls' hr => kk rls' (zlr.sto1 (v := zi x) ⟨h0, h2⟩ rfl hr))
  case lstore k0 =>
    simp only [zsr, Option.some.injEq, Prod.mk.injEq] at hop
    obtain ⟨rfl, rfl⟩ := hop
    rcases v with x | x | x <;> simp [zkd] at hkd
    exact lv_lstore hx hb hd h1 hk rfl (fun rls' hr => kk rls' (zlr.sto2 ⟨h0, h2⟩ hr))
  case lstore_n k0 =>
    simp only [zsr, Option.some.injEq, Prod.mk.injEq] at hop
    obtain ⟨rfl, rfl⟩ := hop
    rcases v with x | x | x <;> simp [zkd] at hkd
    exact lv_lstore_n hx hb hd rfl h1 hk rfl (fun rls' hr => kk rls' (zlr.sto2 ⟨h0, h2⟩ hr))
  case astore k0 =>
    simp only [zsr, Option.some.injEq, Prod.mk.injEq] at hop
    obtain ⟨rfl, rfl⟩ := hop
    rcases v with x | x | _ | x <;> simp [zkd] at hkd
    · exact lv_astoreN hx hb hd h1 hk rfl (fun rls' hr => kk rls' (zlr.sto1 (v := zr none) ⟨h0, h2⟩ rfl hr))
    · exact lv_astore hx hb hd h1 hk rfl (fun rls' hr => kk rls' (zlr.sto1 (v := zr (some x)) ⟨h0, h2⟩ rfl hr))
  case astore_n k0 =>
    simp only [zsr, Option.some.injEq, Prod.mk.injEq] at hop
    obtain ⟨rfl, rfl⟩ := hop
    rcases v with x | x | _ | x <;> simp [zkd] at hkd
    · exact lv_astore_nN hx hb hd rfl h1 hk rfl (fun rls' hr => kk rls' (zlr.sto1 (v := zr none) ⟨h0, h2⟩ rfl hr))
    · exact lv_astore_n hx hb hd rfl h1 hk rfl (fun rls' hr => kk rls' (zlr.sto1 (v := zr (some x)) ⟨h0, h2⟩ rfl hr))
theorem zW_iinc {ls : List (Option zV)} {nL k : Nat} {y : Int} {x : Int32} (hx : p.tables.exec = Jvm.exec) (hb : c.code = cc) (hd : decode cc pc = .ok (.iinc k y, 3)) (hl : zlr ρ ls rls nL) (hk : ls[k]? = some (some (zi x)))
    (kk : ∀ rls' : Array Slot, zlr ρ (zsto ls k (zi (x + Int32.ofInt y))) rls' nL → W p l e R s m args below meth c H locs cells slots Q (F0 m (pc + 3) rls' (st.map (zcv ρ)))) : W p l e R s m args below meth c H locs cells slots Q (F0 m pc rls (st.map (zcv ρ))) := by
  obtain ⟨h0, lv, h1, h2⟩ := hl
  obtain ⟨k1, hk1⟩ := List.getElem?_of_mem (h2 k _ hk)
  have hlt : k < nL := by
    rw [← h0]
    exact (List.getElem?_eq_some_iff.mp hk).1
  exact lv_iinc hx hb hd h1 hk1 rfl hlt rfl (fun rls' hr => kk rls' (zlr.sto1 (v := zi (x + Int32.ofInt y)) ⟨h0, h2⟩ rfl hr))
/-- jumps have a place -/
def zjok (i : Instr) (pc : Nat) : Prop := match i with
  | .goto off => 0 ≤ (pc : Int) + off
  | .ifCond _ off => 0 ≤ (pc : Int) + off
  | .if_icmp _ off => 0 ≤ (pc : Int) + off
  | .tableswitch dflt lo hi offs => 0 ≤ (pc : Int) + dflt ∧ (offs.size : Int) = hi - lo + 1 ∧ ∀ o ∈ offs.toList, 0 ≤ (pc : Int) + o
  | _ => True
theorem zj_eq {pc : Nat} {off : Int} (h : 0 ≤ (pc : Int) + off) : (pc : Int) + off = (zj pc off : Int) := by
  unfold zj
  omega
theorem zW_br (hx : p.tables.exec = Jvm.exec) (hb : c.code = cc) (hd : decode cc pc = .ok (i, len)) (hlen : (∀ a b d f, i ≠ .tableswitch a b d f) → len = zlen i) (hj : zjok i pc) {K : Nat → List zV → Prop} (hop : zbr i pc len st K)
    (kk : ∀ pc' st', K pc' st' → W p l e R s m args below meth c H locs cells slots Q (F0 m pc' rls (st'.map (zcv ρ)))) : W p l e R s m args below meth c H locs cells slots Q (F0 m pc rls (st.map (zcv ρ))) := by
  unfold zbr at hop
  split at hop
  · rename_i off
    cases hlen (fun _ _ _ _ h => by cases h)
    exact lv_goto hx hb hd (zj_eq hj) (kk _ _ hop)
  · rename_i cd off
    cases hlen (fun _ _ _ _ h => by cases h)
    split at hop
    · rename_i x t
      cases cd
      · exact lv_if_eq hx hb hd (zj_eq hj) (fun h => kk _ _ (hop.1 h)) (fun h => kk _ _ (hop.2 h))
      · exact lv_if_ne hx hb hd (zj_eq hj) (fun h => kk _ _ (hop.1 h)) (fun h => kk _ _ (hop.2 (fun g => g h)))
      · exact lv_if_lt hx hb hd (zj_eq hj) (fun h => kk _ _ (hop.1 h)) (fun h => kk _ _ (hop.2 h))
      · exact lv_if_ge hx hb hd (zj_eq hj) (fun h => kk _ _ (hop.1 h)) (fun h => kk _ _ (hop.2 h))
      · exact lv_if_gt hx hb hd (zj_eq hj) (fun h => kk _ _ (hop.1 h)) (fun h => kk _ _ (hop.2 h))
      · exact lv_if_le hx hb hd (zj_eq hj) (fun h => kk _ _ (hop.1 h)) (fun h => kk _ _ (hop.2 h))
    · exact hop.elim
  · rename_i cd off
    cases hlen (fun _ _ _ _ h => by cases h)
    split at hop
    · rename_i y x t
      cases cd
      · exact lv_icmp_eq hx hb hd (zj_eq hj) (fun h => kk _ _ (hop.1 h)) (fun h => kk _ _ (hop.2 h))
      · exact lv_icmp_ne hx hb hd (zj_eq hj) (fun h => kk _ _ (hop.1 h)) (fun h => kk _ _ (hop.2 (fun g => g h)))
      · exact lv_icmp_lt hx hb hd (zj_eq hj) (fun h => kk _ _ (hop.1 h)) (fun h => kk _ _ (hop.2 h))
      · exact lv_icmp_ge hx hb hd (zj_eq hj) (fun h => kk _ _ (hop.1 h)) (fun h => kk _ _ (hop.2 h))
      · exact lv_icmp_gt hx hb hd (zj_eq hj) (fun h => kk _ _ (hop.1 h)) (fun h => kk _ _ (hop.2 h))
      · exact lv_icmp_le hx hb hd (zj_eq hj) (fun h => kk _ _ (hop.1 h)) (fun h => kk _ _ (hop.2 h))
    · exact hop.elim
  · rename_i dflt lo hi offs
    split at hop
    · rename_i x t
      obtain ⟨j1, j2, j3⟩ := hj
      by_cases hc : x.toInt < lo ∨ hi < x.toInt
      · rw [show ztw pc dflt lo hi offs x = zj pc dflt by unfold ztw; rw [if_pos hc]] at hop
        exact lv_tableOut hx hb hd hc (zj_eq j1) (kk _ _ hop)
      · have c1 : ¬ x.toInt < lo := fun h => hc (Or.inl h)
        have c2 : ¬ hi < x.toInt := fun h => hc (Or.inr h)
        have hlt : (x.toInt - lo).toNat < offs.size := by omega
        have ho : offs[(x.toInt - lo).toNat]? = some offs[(x.toInt - lo).toNat] := Array.getElem?_eq_getElem hlt
        rw [show ztw pc dflt lo hi offs x = zj pc offs[(x.toInt - lo).toNat] by unfold ztw; rw [if_neg hc, ho]; rfl] at hop
        exact lv_tableIn hx hb hd c1 c2 ho (zj_eq (j3 _ (by simp))) (kk _ _ hop)
    · exact hop.elim
  · exact hop.elim
end
