/-! memory instructions, cells that are made, the machine's own methods -/
def zcls (Ts : List Jvm.Cond) : Prop := ∀ ci, ci < 11 → (∀ w ∈ u_ws (zcl ci).1 (zcl ci).2.1 (zcl ci).2.2, w ∈ Ts) ∧ (∀ k, k < (zcl ci).2.2 → parseFieldDescriptor ((zcl ci).2.1 k).2.2.1 = some (zty ci k)) ∧ (∀ a, a < (zcl ci).2.2 → ∀ b, b < (zcl ci).2.2 → a ≠ b → ((zcl ci).2.1 a).2.1 ≠ ((zcl ci).2.1 b).2.1) ∧ Jvm.Cond.instantiable (zcl ci).1 (zcl ci).2.2 ∈ Ts ∧ Jvm.Cond.initialized (zcl ci).1 ∈ Ts ∧ ∀ k, k < (zcl ci).2.2 → zkf (zty ci k) ≠ 9
theorem zcl_at {ci : Nat} (h : ci < 11) : vwCl[ci]? = some (zcl ci) := by
  unfold zcl
  rw [List.getD_eq_getElem?_getD, List.getElem?_eq_getElem (show ci < vwCl.length from h)]
  rfl
/-- what holds of the machine's classes at every state of the run -/
def zK (Nw : List Jvm.Cond) (AO : List String) (D : va_G) (U : State) : Prop := va_K D vwCl [] U ∧ (∀ w ∈ Nw, va_Nw w U) ∧ ∀ C ∈ AO, va_AO C U
/-- a word that stays when the machine has warmed -/
def znw (w : Jvm.Cond) : Prop := (∃ a i b n d h, w = .fieldLinkNest a i b n d h) ∨ (∃ a i x h, w = .methodLinkNest a i x h) ∨ ∃ C T, w = .castable C T
theorem zK.warm {Nw : List Jvm.Cond} {AO : List String} {D : va_G} {s U : State} (hN : ∀ w ∈ Nw, znw w) (hW : s.WarmedH U.vm) (h : zK Nw AO D s) : zK Nw AO D U := by
  obtain ⟨h1, h2, h3⟩ := h
  refine ⟨va_K.moved hW.alike h1, fun w hw => ?_, fun C hC => (h3 C hC).moved hW.alike⟩
  have h4 := h2 w hw
  rcases hN w hw with ⟨a, i, b, n, d, h, rfl⟩ | ⟨a, i, x, h, rfl⟩ | ⟨C, T, rfl⟩
  · exact va_Nw.warmF hW h4
  · exact va_Nw.warmM hW h4
  · exact va_Nw.warmC hW h4
theorem zK.same {Nw : List Jvm.Cond} {AO : List String} {D : va_G} {s U : State} (hN : ∀ w ∈ Nw, znw w) (hW : s.vm = U.vm) (h : zK Nw AO D s) : zK Nw AO D U := by
  obtain ⟨h1, h2, h3⟩ := h
  have ha : s.vm.Alike U.vm := by rw [hW]; exact Vm.Alike.refl U.vm
  refine ⟨va_K.moved ha h1, fun w hw => ?_, fun C hC => (h3 C hC).moved ha⟩
  have h4 := h2 w hw
  rcases hN w hw with ⟨a, i, b, n, d, h, rfl⟩ | ⟨a, i, x, h, rfl⟩ | ⟨C, T, rfl⟩
  · exact va_Nw.same rfl hW h4
  · exact va_Nw.same rfl hW h4
  · exact va_Nw.same rfl hW h4
/-- a field's link -/
def zfok (Ts Nw : List Jvm.Cond) (own : String) (idx ci f kd : Nat) : Prop := ci < 11 ∧ f < (zcl ci).2.2 ∧ zkf (zty ci f) = kd ∧ (Jvm.Cond.fieldLink own idx ((zcl ci).2.1 f).1 ((zcl ci).2.1 f).2.1 ((zcl ci).2.1 f).2.2.1 ∈ Ts ∨ ∃ host, Jvm.Cond.fieldLinkNest own idx ((zcl ci).2.1 f).1 ((zcl ci).2.1 f).2.1 ((zcl ci).2.1 f).2.2.1 host ∈ Nw)
/-- a field that is written -/
def zpok (Ts : List Jvm.Cond) (own mn : String) (idx ci f kd : Nat) : Prop := ci < 11 ∧ f < (zcl ci).2.2 ∧ zkf (zty ci f) = kd ∧ Jvm.Cond.fieldLink own idx ((zcl ci).2.1 f).1 ((zcl ci).2.1 f).2.1 ((zcl ci).2.1 f).2.2.1 ∈ Ts ∧ (((zcl ci).2.1 f).2.2.2 = false ∨ (((zcl ci).2.1 f).2.2.2 = true ∧ mn = "<init>" ∧ ((zcl ci).2.1 f).1 = own))
/-- what the tables say of a memory instruction -/
def zmok (Ts Nw : List Jvm.Cond) (own mn : String) (i : Instr) (a : List Nat) : Prop := match i with
  | .getfield idx => ∃ ci f kd, a = [ci, f, kd] ∧ zfok Ts Nw own idx ci f kd
  | .putfield idx => ∃ ci f kd, a = [ci, f, kd] ∧ zpok Ts own mn idx ci f kd
  | .checkcast idx => ∃ tag, a = [tag] ∧ (tag = 20 ∨ tag = 22) ∧ Jvm.Cond.classLink own idx ("[" ++ (zaf tag).toString) ∈ Ts
  | _ => True
theorem zch_fits (x : Int32) : fits .char (.int (vp_nar .char x)) = true := by
  rw [vp_nar_char]
  have h : 0 ≤ x.toUInt32.toUInt16.toUInt32.toInt32 ∧ x.toUInt32.toUInt16.toUInt32.toInt32 ≤ 65535 := by
    have e : x.toUInt32.toUInt16.toUInt32.toInt32.toInt = (x.toUInt32.toNat % 65536 : Nat) := by
      have h1 : x.toUInt32.toUInt16.toUInt32.toNat = x.toUInt32.toNat % 65536 := by simp
      have h2 : x.toUInt32.toUInt16.toUInt32.toInt32.toInt = (x.toUInt32.toUInt16.toUInt32.toNat : Int).bmod (2 ^ 32) := by
        show (Int32.toBitVec _).toInt = _
        rw [BitVec.toInt_eq_toNat_bmod]
        rfl
      rw [h2, h1]
      have h3 : x.toUInt32.toNat % 65536 < 65536 := Nat.mod_lt _ (by decide)
      rw [Int.bmod_def]
      omega
    have h3 : x.toUInt32.toNat % 65536 < 65536 := Nat.mod_lt _ (by decide)
    rw [Int32.le_iff_toInt_le, Int32.le_iff_toInt_le, e]
    have e0 : (0 : Int32).toInt = 0 := rfl
    have e1 : (65535 : Int32).toInt = 65535 := rfl
    rw [e0, e1]
    omega
  simp only [fits, Bool.and_eq_true, decide_eq_true_eq]
  exact h
theorem zkf_narrow {ty : FieldType} {kd : Nat} (h : zkf ty = kd) (ρ : zR → Nat) (v : zV) (hv : (kd = 0 ∧ ∃ x, v = zi x) ∨ (kd = 3 ∧ ∃ x, v = zi x ∧ (x = 0 ∨ x = 1)) ∨ (kd = 1 ∧ ∃ x, v = zl x) ∨ (kd = 2 ∧ ∃ x, v = zr x)) : narrow ty (zcv ρ v) = zcv ρ v ∧ fits ty (zcv ρ v) = true := by
  subst h
  rcases hv with ⟨h, x, rfl⟩ | ⟨h, x, rfl, hx⟩ | ⟨h, x, rfl⟩ | ⟨h, x, rfl⟩
  · cases ty <;> simp [zkf] at h
    exact ⟨rfl, rfl⟩
  · cases ty <;> simp [zkf] at h
    rcases hx with rfl | rfl <;> exact ⟨rfl, rfl⟩
  · cases ty <;> simp [zkf] at h
    exact ⟨rfl, rfl⟩
  · cases ty <;> simp [zkf] at h
    · cases x <;> exact ⟨rfl, rfl⟩
    · cases x <;> exact ⟨rfl, rfl⟩
section
variable {p : Program} {l : Launch} {e : Env} {R : Room} {s : State} {m : MethodId} {args : Array Value} {below : List Frame} {meth : Method} {c : Code} {H : Heap} {locs : List Loc} {cells slots : Nat} {Q : State → Prop}
variable {cc : ByteArray} {pc len : Nat} {rls : Array Slot} {st : List zV} {i : Instr} {own : String} {Ts Nw : List Jvm.Cond} {AO : List String} {D : va_G} {b base : Nat} {ix : zR → Nat} {al : Nat → zR} {M : zM}
theorem zW_get (hx : p.tables.exec = Jvm.exec) (hb : c.code = cc) (hown : s.vm.findClass own = some m.cls) (hts : ∀ w ∈ Ts, w.before args s = true) (hcls : zcls Ts) (hK : zK Nw AO D s) (hR : zRel b base ix al D s M H) {idx ci f kd r j q : Nat} (hf : zfok Ts Nw own idx ci f kd) (hS : (M.2.2.2.1 r j q).1 = ci + 1) {v : Value} (hv : v = zcv (zrho b base ix) (zget M kd r j q f)) (hd : decode cc pc = .ok (.getfield idx, 3)) {rest : List Value}
    (k : W p l e R s m args below meth c H locs cells slots Q (F0 m (pc + 3) rls (v :: rest))) : W p l e R s m args below meth c H locs cells slots Q (F0 m pc rls (.ref (zrho b base ix (r, j, q)) :: rest)) := by
  obtain ⟨hci, hfN, hkd, hl⟩ := hf
  obtain ⟨-, cell, q1, q2, q3, q4⟩ := hR.2.2.1 r j q ci hS hci
  obtain ⟨hSl, hfc, kC, hkC, hkind⟩ := hK.1.1 ci _ (zcl_at hci)
  obtain ⟨cf, kf, fi, fd, hi, hsl⟩ := hSl f hfN
  have hst := (u_facts hfc hkC (u_lays hts (hcls ci hci).1 hfN) hi).1
  subst hv
  rcases hl with hl | ⟨host, hl⟩
  · refine W.getf hx hb hown (hts _ hl) hi hst q1 (by rw [q3]; exact fun h => by cases h) ?_ rfl rfl hd k
    rw [hsl, q4 f hfN]
    show some (zcv _ (zget M (zkf (zty ci f)) r j q f)) = _
    rw [hkd]
  · refine va_Wgetf hx hb hown (va_Nw.use rfl (hK.2.1 _ hl)) hi hst q1 (by rw [q3]; exact fun h => by cases h) ?_ rfl rfl hd k
    rw [hsl, q4 f hfN]
    show some (zcv _ (zget M (zkf (zty ci f)) r j q f)) = _
    rw [hkd]
/-- a store into a field: the machine's side and the memory's -/
theorem zW_put (hx : p.tables.exec = Jvm.exec) (hb : c.code = cc) (hown : s.vm.findClass own = some m.cls) (hts : ∀ w ∈ Ts, w.before args s = true) (hcls : zcls Ts) (hK : zK Nw AO D s) (hR : zRel b base ix al D s M H) {idx ci f kd r j q : Nat} (hf : zpok Ts own meth.name idx ci f kd) (hS : (M.2.2.2.1 r j q).1 = ci + 1) {M' : zM} {v : zV}
    (hn : narrow (zty ci f) (zcv (zrho b base ix) v) = zcv (zrho b base ix) v ∧ fits (zty ci f) (zcv (zrho b base ix) v) = true) (hM : zsame M M' r j q) (hself : ∀ k, k < (zcl ci).2.2 → zget M' (zkf (zty ci k)) r j q k = if k = f then v else zget M (zkf (zty ci k)) r j q k)
    (hd : decode cc pc = .ok (.putfield idx, 3)) {rest : List Value}
    (k : ∀ (H' : Heap) (slot : Nat), zRel b base ix al D s M' H' → W p l e R s m args below meth c H' (locs ++ [⟨zrho b base ix (r, j, q), slot⟩]) cells slots Q (F0 m (pc + 3) rls rest)) : W p l e R s m args below meth c H locs cells slots Q (F0 m pc rls (zcv (zrho b base ix) v :: .ref (zrho b base ix (r, j, q)) :: rest)) := by
  obtain ⟨hci, hfN, hkd, hl, hfin⟩ := hf
  obtain ⟨h9, cell, q1, q2, q3, q4⟩ := hR.2.2.1 r j q ci hS hci
  obtain ⟨w1, w2, w3, -, -, -⟩ := hcls ci hci
  have hap := va_apart (own := own) hts w1 (zty ci) w2 w3 hK.1 (zcl_at hci)
  obtain ⟨hSl, hfc, kC, hkC, hkind⟩ := hK.1.1 ci _ (zcl_at hci)
  obtain ⟨cf, kf, fi, fd, hi, hsl⟩ := hSl f hfN
  have hst := (u_facts hfc hkC (u_lays hts w1 hfN) hi).1
  have hlay := hts _ (w1 _ (u_in_lay hfN))
  unfold u_lay at hlay
  have fin : ∀ H' : Heap, H'[zrho b base ix (r, j, q)]? = some (cell.setSlot fd.slot (zcv (zrho b base ix) v)) → H'.size = H.size → (∀ a, a ≠ zrho b base ix (r, j, q) → H'[a]? = H[a]?) → zRel b base ix al D s M' H' := by
    intro H' e1 e2 e3
    rw [hsl] at e1
    refine hR.set h9 (by rw [hS]; omega) e2 e3 hM (fun ci' hc' _ => ?_) (fun ha => by omega)
    have : ci' = ci := by omega
    subst this
    refine t_OB.to (V := updV (fun k => zcv (zrho b base ix) (zget M (zkf (zty ci' k)) r j q k)) f (zcv (zrho b base ix) v)) ⟨_, e1, q2, q3, t_set q4 hap hfN _⟩ (fun k hk => ?_)
    rw [hself k hk]
    unfold updV
    split <;> rfl
  rcases hfin with hfin | ⟨hfin, hmn, hdecl⟩
  · rw [if_neg (by rw [hfin]; decide)] at hlay
    have h6 := u_store hfc hkC hkind hlay hi (w2 f hfN) hn.1 hn.2
    exact W.putK hx hb (f := fd) ⟨hown, hts _ hl, ⟨_, _, _, hi⟩, hst⟩ (by rw [q2]; exact h6) q1 q3 (by rw [hsl]; exact k2_hasslot (q4 f hfN)) rfl rfl hd fun H' e1 e2 e3 => k H' fd.slot (fin H' e1 e2 e3)
  · rw [if_pos hfin] at hlay
    have hcf : m.cls = cf := by
      obtain ⟨_, _, c', _, _, _, -, -, hf', -, -, -, hown2, -⟩ := Cond.laysFinal_spec hlay
      have e1 : c' = cf := by have := hi.symm.trans hf'; simp at this; exact this.1.symm
      rw [hdecl] at hown2
      rw [← e1]; exact Option.some.inj (hown.symm.trans hown2)
    have h6 := u_fits hfc hkC hkind (Or.inr hlay) hi (w2 f hfN) hn.1 hn.2
    exact W.putFinK hx hb hown (hts _ hl) hi hst hcf hmn (by rw [q2]; exact h6) q1 q3 (by rw [hsl]; exact k2_hasslot (q4 f hfN)) rfl rfl hd fun H' e1 e2 e3 => k H' fd.slot (fin H' e1 e2 e3)
theorem zin_lt {x : Int32} {n : Nat} (h : vp_in x n) : x.toNatClampNeg < n := Nat.not_le.mp fun q => h (Or.inr q)
theorem zarr_in {cA : ClassId} {n : Nat} {f : Nat → Value} {x : Int32} (h : vp_in x n) : ¬ (x < 0 ∨ (arrV cA n f).slots.size ≤ x.toNatClampNeg) := by
  rw [arrV_size]; exact h
/-- a store into an array's place -/
theorem zRel.put {H' : Heap} (hR : zRel b base ix al D s M H) {r j q n : Nat} (h9 : r ≠ 9) (ht : 19 < (M.2.2.2.1 r j q).1) {cA : ClassId} (hA : ArrOfT s cA (zaf (M.2.2.2.1 r j q).1)) (hRA : va_RA s cA (zaf (M.2.2.2.1 r j q).1)) {v : zV} {M' : zM} (hM : zsame M M' r j q)
    (hself : ∀ i, zget M' (zak (M.2.2.2.1 r j q).1) r j q i = if i = n then v else zget M (zak (M.2.2.2.1 r j q).1) r j q i) (hch : (M.2.2.2.1 r j q).1 = 22 → ∀ i, fits .char (.int (M'.1 r j q i)) = true)
    (e1 : H'[zrho b base ix (r, j, q)]? = some ((arrV cA (M.2.2.2.1 r j q).2 (fun i => zcv (zrho b base ix) (zget M (zak (M.2.2.2.1 r j q).1) r j q i))).setSlot n (zcv (zrho b base ix) v))) (e2 : H'.size = H.size) (e3 : ∀ a, a ≠ zrho b base ix (r, j, q) → H'[a]? = H[a]?) : zRel b base ix al D s M' H' := by
  refine hR.set h9 (by omega) e2 e3 hM (fun ci hc h11 => by omega) (fun _ => ?_)
  have hS : M'.2.2.2 = M.2.2.2 := hM.1
  refine ⟨cA, ?_, by rw [hS]; exact hA, by rw [hS]; exact hRA, by rw [hS]; exact hch⟩
  rw [e1, arrV_store, hS]
  congr 2
  funext i
  rw [hself i]
  unfold updV
  split <;> rfl
theorem zel_tag {t : Nat} (h : 0 < zel t) : t ≠ 20 ∧ 22 < t ∧ zak t = 2 ∧ t < 27 ∧ ∃ C, zaf t = .object C := by
  unfold zel at h
  split at h <;> first
    | exact ⟨by decide, by decide, rfl, by decide, _, rfl⟩
    | exact absurd h (Nat.lt_irrefl 0)
theorem zel_cl {t : Nat} (h : 0 < zel t) : zel t - 1 < 11 ∧ zaf t = .object (zcl (zel t - 1)).1 := by
  unfold zel at h
  split at h <;> first
    | exact ⟨by decide, rfl⟩
    | exact absurd h (Nat.lt_irrefl 0)
theorem zW_mem (hx : p.tables.exec = Jvm.exec) (hb : c.code = cc) (hown : s.vm.findClass own = some m.cls) (hts : ∀ w ∈ Ts, w.before args s = true) (hcls : zcls Ts) (hK : zK Nw AO D s) (hR : zRel b base ix al D s M H) (hd : decode cc pc = .ok (i, len)) (hlen : len = zlen i) {a : List Nat} (hok : zmok Ts Nw own meth.name i a) (hloc : ∀ l ∈ locs, base ≤ l.base)
    {K : List zV → zM → Prop} (hop : zmem i a st M K) (kk : ∀ st' M' H' locs', K st' M' → zRel b base ix al D s M' H' → (∀ l ∈ locs', base ≤ l.base) → W p l e R s m args below meth c H' locs' cells slots Q (F0 m (pc + len) rls (st'.map (zcv (zrho b base ix))))) :
    W p l e R s m args below meth c H locs cells slots Q (F0 m pc rls (st.map (zcv (zrho b base ix)))) := by
  subst hlen
  have hl1 : ∀ (r j q n : Nat), r ≠ 9 → ∀ l ∈ locs ++ [⟨zrho b base ix (r, j, q), n⟩], base ≤ l.base := by
    intro r j q n h9 l hl
    rcases List.mem_append.mp hl with h | h
    · exact hloc l h
    · rw [List.mem_singleton.mp h]
      show base ≤ zrho b base ix (r, j, q)
      rw [zrho_ne9 h9]; omega
  have h9c : ∀ {r j q ci : Nat}, (M.2.2.2.1 r j q).1 = ci + 1 → ci < 11 → r ≠ 9 := fun h h2 => (hR.2.2.1 _ _ _ _ h h2).1
  have h9t : ∀ {r j q : Nat}, (M.2.2.2.1 r j q).1 ≠ 20 → (M.2.2.2.1 r j q).1 ≠ 0 → r ≠ 9 := fun h1 h2 h3 => by
    subst h3
    exact h1 (hR.2.2.2.2 _ _ h2).1
  cases i <;> first
    | (simp [zmem] at hop; done)
    | skip
  case getfield idx =>
    obtain ⟨ci, f, kd, rfl, hf⟩ := hok
    simp only [zmem] at hop
    split at hop
    · have h1 := ‹[ci, f, kd] = _›
      simp only [List.cons.injEq, and_true] at h1
      obtain ⟨rfl, rfl, rfl⟩ := h1
      exact zW_get hx hb hown hts hcls hK hR hf hop.1 rfl hd (kk _ _ _ _ hop.2 hR hloc)
    · exact hop.elim
  case putfield idx =>
    obtain ⟨ci, f, kd, rfl, hf⟩ := hok
    simp only [zmem] at hop
    split at hop
    · have h1 := ‹[ci, f, kd] = _›
      simp only [List.cons.injEq, and_true] at h1
      obtain ⟨rfl, rfl, rfl⟩ := h1
      refine zW_put (M' := (zup4 M.1 _ _ _ _ _, M.2)) (v := zi _) hx hb hown hts hcls hK hR hf hop.1 (zkf_narrow hf.2.2.1 _ _ (Or.inl ⟨rfl, _, rfl⟩)) (zsame_I fun r' j' q' h => zup4_n _ _ h) (fun k hk => ?_) hd (fun H' sl hR' => kk _ _ _ _ hop.2 hR' (hl1 _ _ _ _ (h9c hop.1 hf.1)))
      split
      · rename_i e; subst e; rw [hf.2.2.1]; simp only [zget, zup4_s]; simp
      · rename_i e
        generalize zkf (zty _ k) = kq
        unfold zget
        split <;> first | rfl | (simp only [zup4_s, if_neg e])
    · have h1 := ‹[ci, f, kd] = _›
      simp only [List.cons.injEq, and_true] at h1
      obtain ⟨rfl, rfl, rfl⟩ := h1
      refine zW_put (M' := (zup4 M.1 _ _ _ _ _, M.2)) (v := zi _) hx hb hown hts hcls hK hR hf hop.1 (zkf_narrow hf.2.2.1 _ _ (Or.inr (Or.inl ⟨rfl, _, rfl, hop.2.1⟩))) (zsame_I fun r' j' q' h => zup4_n _ _ h) (fun k hk => ?_) hd (fun H' sl hR' => kk _ _ _ _ hop.2.2 hR' (hl1 _ _ _ _ (h9c hop.1 hf.1)))
      split
      · rename_i e; subst e; rw [hf.2.2.1]; simp only [zget, zup4_s]; simp
      · rename_i e
        generalize zkf (zty _ k) = kq
        unfold zget
        split <;> first | rfl | (simp only [zup4_s, if_neg e])
    · have h1 := ‹[ci, f, kd] = _›
      simp only [List.cons.injEq, and_true] at h1
      obtain ⟨rfl, rfl, rfl⟩ := h1
      refine zW_put (M' := (M.1, zup4 M.2.1 _ _ _ _ _, M.2.2)) (v := zl _) hx hb hown hts hcls hK hR hf hop.1 (zkf_narrow hf.2.2.1 _ _ (Or.inr (Or.inr (Or.inl ⟨rfl, _, rfl⟩)))) (zsame_L fun r' j' q' h => zup4_n _ _ h) (fun k hk => ?_) hd (fun H' sl hR' => kk _ _ _ _ hop.2 hR' (hl1 _ _ _ _ (h9c hop.1 hf.1)))
      split
      · rename_i e; subst e; rw [hf.2.2.1]; simp only [zget, zup4_s]; simp
      · rename_i e
        generalize zkf (zty _ k) = kq
        unfold zget
        split <;> first | rfl | (simp only [zup4_s, if_neg e])
    · have h1 := ‹[ci, f, kd] = _›
      simp only [List.cons.injEq, and_true] at h1
      obtain ⟨rfl, rfl, rfl⟩ := h1
      refine zW_put (M' := (M.1, M.2.1, zup4 M.2.2.1 _ _ _ _ _, M.2.2.2)) (v := zr _) hx hb hown hts hcls hK hR hf hop.1 (zkf_narrow hf.2.2.1 _ _ (Or.inr (Or.inr (Or.inr ⟨rfl, _, rfl⟩)))) (zsame_P fun r' j' q' h => zup4_n _ _ h) (fun k hk => ?_) hd (fun H' sl hR' => kk _ _ _ _ hop.2 hR' (hl1 _ _ _ _ (h9c hop.1 hf.1)))
      split
      · rename_i e; subst e; rw [hf.2.2.1]; simp only [zget, zup4_s]; simp
      · rename_i e
        generalize zkf (zty _ k) = kq
        unfold zget
        split <;> first | rfl | (simp only [zup4_s, if_neg e])
    · exact hop.elim
  case iaload =>
    simp only [zmem] at hop
    split at hop
    · rename_i x r j q t
      obtain ⟨h1, h2, h3⟩ := hop
      by_cases h9 : r = 9
      · subst h9
        obtain ⟨-, scr, e1, e2, e3, e4, e5⟩ := hR.2.2.2.2 j q (by rw [h1]; omega)
        exact W.iald (a := b) hx hb e1 e2 e3 (by rw [e4]; exact h2) (e5 _ (zin_lt h2)) rfl rfl hd (kk _ _ _ _ h3 hR hloc)
      · obtain ⟨cA, g1, g2, g3, -⟩ := hR.2.2.2.1 r j q (by rw [h1]; omega) h9
        rw [h1] at g1 g2
        exact W.iald hx hb g1 (g2 _ _) (fun h => by cases h) (zarr_in h2) (by rw [arrV_read _ _ (zin_lt h2)]; rfl) rfl rfl hd (kk _ _ _ _ h3 hR hloc)
    · exact hop.elim
  case caload =>
    simp only [zmem] at hop
    split at hop
    · rename_i x r j q t
      obtain ⟨h1, h2, h3⟩ := hop
      obtain ⟨cA, g1, g2, g3, -⟩ := hR.2.2.2.1 r j q (by rw [h1]; omega) (h9t (by rw [h1]; decide) (by rw [h1]; decide))
      rw [h1] at g1 g2
      exact W.cald hx hb g1 (g2 _ _) (fun h => by cases h) (zarr_in h2) (by rw [arrV_read _ _ (zin_lt h2)]; rfl) rfl rfl hd (kk _ _ _ _ h3 hR hloc)
    · exact hop.elim
  case laload =>
    simp only [zmem] at hop
    split at hop
    · rename_i x r j q t
      obtain ⟨h1, h2, h3⟩ := hop
      obtain ⟨cA, g1, g2, g3, -⟩ := hR.2.2.2.1 r j q (by rw [h1]; omega) (h9t (by rw [h1]; decide) (by rw [h1]; decide))
      rw [h1] at g1 g2
      exact W.lald hx hb g1 (g2 _ _) (fun h => by cases h) (zarr_in h2) (by rw [arrV_read _ _ (zin_lt h2)]; rfl) rfl rfl hd (kk _ _ _ _ h3 hR hloc)
    · exact hop.elim
  case arraylength =>
    simp only [zmem] at hop
    split at hop
    · rename_i r j q t
      obtain ⟨h1, h3⟩ := hop
      by_cases h9 : r = 9
      · subst h9
        obtain ⟨-, scr, e1, e2, e3, e4, e5⟩ := hR.2.2.2.2 j q (by omega)
        exact W.alen (a := b) hx hb e1 e2 (by rw [e4]) rfl rfl hd (kk _ _ _ _ h3 hR hloc)
      · obtain ⟨cA, g1, g2, g3, -⟩ := hR.2.2.2.1 r j q h1 h9
        exact W.alen hx hb g1 (g2 _ _) (by rw [arrV_size]) rfl rfl hd (kk _ _ _ _ h3 hR hloc)
    · exact hop.elim
  case iastore =>
    simp only [zmem] at hop
    split at hop
    · rename_i v x r j q t
      obtain ⟨h9, h1, h2, h3⟩ := hop
      obtain ⟨cA, g1, g2, g3, -⟩ := hR.2.2.2.1 r j q (by rw [h1]; omega) h9
      have g1' := g1
      have g2' := g2
      rw [h1] at g1' g2'
      refine W.iast hx hb g1' (g2' _ _) (fun h => by cases h) (zarr_in h2) rfl rfl hd (fun H' e1 e2 e3 => kk _ _ _ _ h3 ?_ (hl1 _ _ _ _ h9))
      refine zRel.put (v := zi v) (n := x.toNatClampNeg) hR h9 (by rw [h1]; omega) g2 g3 (zsame_I fun r' j' q' h => zup4_n _ _ h) (fun i => ?_) (fun h => by omega) (by rw [h1]; exact e1) e2 e3
      rw [h1]
      show zi (zup4 M.1 r j q x.toNatClampNeg v r j q i) = _
      rw [zup4_s]
      split <;> rfl
    · exact hop.elim
  case castore =>
    simp only [zmem] at hop
    split at hop
    · rename_i v x r j q t
      obtain ⟨h1, h2, h3⟩ := hop
      have h9 : r ≠ 9 := h9t (by rw [h1]; decide) (by rw [h1]; decide)
      obtain ⟨cA, g1, g2, g3, g4⟩ := hR.2.2.2.1 r j q (by rw [h1]; omega) h9
      have g1' := g1
      have g2' := g2
      rw [h1] at g1' g2'
      refine W.cast hx hb g1' (g2' _ _) (fun h => by cases h) (zarr_in h2) rfl rfl hd (fun H' e1 e2 e3 => kk _ _ _ _ h3 ?_ (hl1 _ _ _ _ h9))
      refine zRel.put (v := zi (vp_nar .char v)) (n := x.toNatClampNeg) hR h9 (by rw [h1]; omega) g2 g3 (zsame_I fun r' j' q' h => zup4_n _ _ h) (fun i => ?_) (fun h i => ?_) (by rw [h1]; exact e1) e2 e3
      · rw [h1]
        show zi (zup4 M.1 r j q x.toNatClampNeg (vp_nar .char v) r j q i) = _
        rw [zup4_s]
        split <;> rfl
      · show fits .char (.int (zup4 M.1 r j q x.toNatClampNeg (vp_nar .char v) r j q i)) = true
        rw [zup4_s]
        split
        · exact zch_fits v
        · exact g4 h i
    · exact hop.elim
  case lastore =>
    simp only [zmem] at hop
    split at hop
    · rename_i v x r j q t
      obtain ⟨h1, h2, h3⟩ := hop
      have h9 : r ≠ 9 := h9t (by rw [h1]; decide) (by rw [h1]; decide)
      obtain ⟨cA, g1, g2, g3, g4⟩ := hR.2.2.2.1 r j q (by rw [h1]; omega) h9
      have g1' := g1
      have g2' := g2
      rw [h1] at g1' g2'
      refine W.last hx hb g1' (g2' _ _) (fun h => by cases h) (zarr_in h2) rfl rfl hd (fun H' e1 e2 e3 => kk _ _ _ _ h3 ?_ (hl1 _ _ _ _ h9))
      refine zRel.put (v := zl v) (n := x.toNatClampNeg) hR h9 (by rw [h1]; omega) g2 g3 (zsame_L fun r' j' q' h => zup4_n _ _ h) (fun i => ?_) (fun h => by omega) (by rw [h1]; exact e1) e2 e3
      rw [h1]
      show zl (zup4 M.2.1 r j q x.toNatClampNeg v r j q i) = _
      rw [zup4_s]
      split <;> rfl
    · exact hop.elim
  case idiv =>
    simp only [zmem] at hop
    split at hop
    · exact lv_idiv hx hb hd hop.1 (kk _ _ _ _ hop.2 hR hloc)
    · exact hop.elim
  case irem =>
    simp only [zmem] at hop
    split at hop
    · exact lv_irem hx hb hd hop.1 (kk _ _ _ _ hop.2 hR hloc)
    · exact hop.elim
  case ldiv =>
    simp only [zmem] at hop
    split at hop
    · exact lv_ldiv hx hb hd hop.1 (kk _ _ _ _ hop.2 hR hloc)
    · exact hop.elim
  case lrem =>
    simp only [zmem] at hop
    split at hop
    · exact lv_lrem hx hb hd hop.1 (kk _ _ _ _ hop.2 hR hloc)
    · exact hop.elim
  case aaload =>
    simp only [zmem] at hop
    split at hop
    · rename_i x r j q t
      obtain ⟨h1, h2, h3⟩ := hop
      obtain ⟨t1, t2, t3, t4, C, t5⟩ := zel_tag h1
      have h9 : r ≠ 9 := h9t (by omega) (by omega)
      obtain ⟨cA, g1, g2, g3, -⟩ := hR.2.2.2.1 r j q (by omega) h9
      exact W.aald hx hb g1 (g2 _ _) (by rw [t5]; rfl) (fun h => by cases h) (zarr_in h2) (by rw [arrV_read _ _ (zin_lt h2), t3]; rfl) rfl rfl hd (kk _ _ _ _ h3 hR hloc)
    · exact hop.elim
  case aastore =>
    simp only [zmem] at hop
    split at hop
    · rename_i r' j' q' x r j q t
      obtain ⟨h1, h0, h2, h3⟩ := hop
      obtain ⟨t1, t2, t3, t4, C, t5⟩ := zel_tag h1
      obtain ⟨u1, u2⟩ := zel_cl h1
      have h9 : r ≠ 9 := h9t (by omega) (by omega)
      obtain ⟨cA, g1, g2, g3, -⟩ := hR.2.2.2.1 r j q (by omega) h9
      obtain ⟨-, cellV, v1, v2, v3, -⟩ := hR.2.2.1 r' j' q' (zel (M.2.2.2.1 r j q).1 - 1) (by omega) u1
      have hcls := (hK.1.1 _ _ (zcl_at u1)).2
      have g3' := g3
      rw [u2] at g3'
      obtain ⟨kA, comp, k1, k2, k3, -⟩ := g3'
      have hcomp : comp = D.1 (zel (M.2.2.2.1 r j q).1 - 1) := Option.some.inj (k3.symm.trans hcls.1)
      subst hcomp
      obtain ⟨kC, hkC, -⟩ := hcls.2
      have h0' : ¬ x < 0 := fun g => h2 (Or.inl g)
      refine W.aast hx hb g1 (fun g h => by cases h) (fun h => by cases h) k1 k2 rfl hkC ⟨h0', by rw [arrV_size]; exact zin_lt h2⟩ v1 (fun g h => by rw [v3] at h; cases h) (by rw [v2]; exact hkC) (by rw [v2]; exact va_assign hcls) rfl rfl hd (fun H' e1 e2 e3 => kk _ _ _ _ h3 ?_ (hl1 _ _ _ _ h9))
      refine zRel.put (v := zr (some (r', j', q'))) (n := x.toNatClampNeg) hR h9 (by omega) g2 g3 (zsame_P fun r' j' q' h => zup4_n _ _ h) (fun i => ?_) (fun h => by omega) e1 e2 e3
      rw [t3]
      show zr (zup4 M.2.2.1 r j q x.toNatClampNeg (some (r', j', q')) r j q i) = _
      rw [zup4_s]
      split <;> rfl
    · exact hop.elim
  case checkcast idx =>
    obtain ⟨tag, rfl, ht, hlk⟩ := hok
    simp only [zmem] at hop
    split at hop
    · have h1 := ‹[tag] = _›
      simp only [List.cons.injEq, and_true] at h1
      subst h1
      rename_i r j q t _
      obtain ⟨h9, h1, h3⟩ := hop
      · obtain ⟨cA, g1, g2, g3, -⟩ := hR.2.2.2.1 r j q (by omega) h9
        have hz : zak (M.2.2.2.1 r j q).1 = 0 := by rw [h1]; rcases ht with rfl | rfl <;> rfl
        rw [hz] at g1
        refine va_castA (D := D) (cl := vwCl) (x := ((M.2.2.2.1 r j q).2, .inl (fun i => M.1 r j q i))) (ws := [(zrho b base ix (r, j, q), .inl (cA, ((M.2.2.2.1 r j q).2, .inl (fun i => M.1 r j q i))))]) hx hb hown (hts _ hlk) (fun k y hk => ?_) 0 rfl ?_ hd (kk _ _ _ _ h3 hR hloc)
        · have hk0 : k = 0 := by
            have := (List.getElem?_eq_some_iff.mp hk).1
            simp at this; omega
          subst hk0
          cases hk
          exact g1
        · rw [h1] at g3
          rcases ht with rfl | rfl <;> exact g3
    · exact hop.elim
end
