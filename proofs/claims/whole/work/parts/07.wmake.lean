/-! cells that are made, arraycopy, clone, Object's constructor -/
def zkok (Ts : List Jvm.Cond) (AO : List String) (own : String) (i : Instr) (a : List Nat) : Prop := match i with
  | .new idx => ∃ ci, a = [ci, (zcl ci).2.2] ∧ ci < 11 ∧ Jvm.Cond.classLink own idx (zcl ci).1 ∈ Ts
  | .newarray ty => zaty ty ≠ 0 ∧ Jvm.Cond.arrayClass (newarray.typeOf ty) ∈ Ts
  | .anewarray idx => ∃ tag C, a = [tag] ∧ 0 < zel tag ∧ zaf tag = .object C ∧ Jvm.Cond.classLink own idx C ∈ Ts ∧ C ∈ AO
  | _ => True
theorem znew_S (al : Nat → zR) (M : zM) (tag len : Nat) : (znew al M tag len).2.2.2 = (zup3 M.2.2.2.1 (al M.2.2.2.2).1 (al M.2.2.2.2).2.1 (al M.2.2.2.2).2.2 (tag, len), M.2.2.2.2 + 1) := rfl
theorem znew_ne {al : Nat → zR} {M : zM} {tag len r j q : Nat} (h : (r, j, q) ≠ al M.2.2.2.2) (kd i : Nat) : zget (znew al M tag len) kd r j q i = zget M kd r j q i := by
  have h1 : (znew al M tag len).1 r j q = M.1 r j q := zup3_n _ _ h
  have h2 : (znew al M tag len).2.1 r j q = M.2.1 r j q := zup3_n _ _ h
  have h3 : (znew al M tag len).2.2.1 r j q = M.2.2.1 r j q := zup3_n _ _ h
  unfold zget
  rw [h1, h2, h3]
theorem znew_at (al : Nat → zR) (M : zM) (tag len kd i : Nat) : zget (znew al M tag len) kd (al M.2.2.2.2).1 (al M.2.2.2.2).2.1 (al M.2.2.2.2).2.2 i = (match kd with | 1 => zl 0 | 2 => zr none | _ => zi 0) := by
  have h1 : (znew al M tag len).1 (al M.2.2.2.2).1 (al M.2.2.2.2).2.1 (al M.2.2.2.2).2.2 = fun _ => 0 := zup3_s _ _ _ _ _
  have h2 : (znew al M tag len).2.1 (al M.2.2.2.2).1 (al M.2.2.2.2).2.1 (al M.2.2.2.2).2.2 = fun _ => 0 := zup3_s _ _ _ _ _
  have h3 : (znew al M tag len).2.2.1 (al M.2.2.2.2).1 (al M.2.2.2.2).2.1 (al M.2.2.2.2).2.2 = fun _ => none := zup3_s _ _ _ _ _
  unfold zget
  rw [h1, h2, h3]
  rcases kd with _ | _ | _ | kd <;> rfl
section
variable {p : Program} {l : Launch} {e : Env} {R : Room} {s : State} {m : MethodId} {args : Array Value} {below : List Frame} {meth : Method} {c : Code} {H : Heap} {locs : List Loc} {cells slots : Nat} {Q : State → Prop}
variable {cc : ByteArray} {pc len : Nat} {rls : Array Slot} {st : List zV} {i : Instr} {own : String} {Ts Nw : List Jvm.Cond} {AO : List String} {D : va_G} {b base : Nat} {ix : zR → Nat} {al : Nat → zR} {M : zM}
theorem zW_mk (hx : p.tables.exec = Jvm.exec) (hb : c.code = cc) (hown : s.vm.findClass own = some m.cls) (hts : ∀ w ∈ Ts, w.before args s = true) (hcls : zcls Ts) (hK : zK Nw AO D s) (hR : zRel b base ix al D s M H) (hd : decode cc pc = .ok (i, len)) (hlen : len = zlen i) {a : List Nat} (hok : zkok Ts AO own i a) {bc bs : Nat} (hbc : cells + bc ≤ R.cells) (hbs : slots + bs ≤ R.slots)
    {K : Nat → Nat → List zV → zM → Prop} (hop : zmk al i a st M bc bs K) (kk : ∀ dc ds st' M' H', K (bc - dc) (bs - ds) st' M' → dc ≤ bc → ds ≤ bs → zRel b base ix al D s M' H' → W p l e R s m args below meth c H' locs (cells + dc) (slots + ds) Q (F0 m (pc + len) rls (st'.map (zcv (zrho b base ix))))) :
    W p l e R s m args below meth c H locs cells slots Q (F0 m pc rls (st.map (zcv (zrho b base ix)))) := by
  subst hlen
  cases i <;> first
    | (simp [zmk] at hop; done)
    | skip
  case new idx =>
    obtain ⟨ci, rfl, hci, hlk⟩ := hok
    simp only [zmk] at hop
    obtain ⟨h1, h2, h3⟩ := hop
    obtain ⟨w1, w2, w3, w4, w5, w6⟩ := hcls ci hci
    have hKn := hK.1.1 ci _ (zcl_at hci)
    refine W.newcK hx hb hown (hts _ hlk) (hts _ w4) (hts _ w5) rfl hd (by omega) (by omega) hKn.2.1 rfl fun H' kC hkC e1 z1 o1 => ?_
    have hob := (u_born (zty ci) hts w1 hKn hkC e1 w2)
    have hpush := zRel.push (M' := znew al M (ci + 1) 0) (len := 0) hR z1 o1 (by omega) (znew_S al M (ci + 1) 0) (fun r' j' q' h kd i => znew_ne h kd i) (fun ci' hc' h11 => ?_) (fun h => by omega)
    · have := kk 1 (zcl ci).2.2 _ _ _ h3 h1 h2 hpush.1
      rw [List.map_cons, show zcv (zrho b base ix) (zr (some (al M.2.2.2.2))) = .ref H.size by rw [← hpush.2]; rfl] at this
      exact this
    · have e : ci' = ci := by omega
      subst e
      unfold zobj
      rw [show zrho b base ix ((al M.2.2.2.2).1, (al M.2.2.2.2).2.1, (al M.2.2.2.2).2.2) = H.size by
        show zrho b base ix (al M.2.2.2.2) = H.size
        rw [zrho_ne9 (hR.1.2.2.2 _), hR.1.2.2.1, hR.1.1]]
      refine hob.to fun k hk => ?_
      rw [znew_at]
      have h9 := w6 k hk
      generalize zty ci' k = ty at h9 ⊢
      cases ty <;> first | rfl | (exact absurd rfl h9)
  case newarray ty =>
    obtain ⟨hz, hac⟩ := hok
    simp only [zmk] at hop
    split at hop
    · rename_i x t
      obtain ⟨h0, h1, h2, h3, h4⟩ := hop
      refine va_newaK hx hb (hts _ hac) rfl hd rfl h0 rfl ?_ (by omega) (by omega) rfl fun H' cA e1 z1 o1 hAr hNm => ?_
      · have : componentBytes (newarray.typeOf ty) ≤ 8 := by cases ty <;> decide
        calc x.toNatClampNeg * componentBytes (newarray.typeOf ty) ≤ 5000 * 8 := Nat.mul_le_mul h1 this
          _ ≤ 536870912 := by decide
      · have hrho : zrho b base ix (al M.2.2.2.2) = H.size := by rw [zrho_ne9 (hR.1.2.2.2 _), hR.1.2.2.1, hR.1.1]
        have hSe : (znew al M (zaty ty) x.toNatClampNeg).2.2.2.1 (al M.2.2.2.2).1 (al M.2.2.2.2).2.1 (al M.2.2.2.2).2.2 = (zaty ty, x.toNatClampNeg) := zup3_s _ _ _ _ _
        have hpush := zRel.push (M' := znew al M (zaty ty) x.toNatClampNeg) (len := x.toNatClampNeg) hR z1 o1 hz (znew_S al M _ _) (fun r' j' q' h kd i => znew_ne h kd i) (fun ci' hc' h11 => by cases ty <;> simp [zaty] at hc' hz <;> omega) (fun h => ?_)
        · have := kk 1 x.toNatClampNeg _ _ _ h4 h2 h3 hpush.1
          rw [List.map_cons, show zcv (zrho b base ix) (zr (some (al M.2.2.2.2))) = .ref H.size by rw [← hrho]; rfl] at this
          exact this
        · refine ⟨cA, ?_, ?_, ?_, fun _ i => ?_⟩
          · rw [hSe]
            show H'[zrho b base ix (al M.2.2.2.2)]? = _
            rw [hrho, e1]
            congr 2
            funext i
            rw [znew_at]
            cases ty <;> first | rfl | (exact absurd rfl hz)
          · rw [hSe]
            cases ty <;> first | exact hAr | (exact absurd rfl hz)
          · rw [hSe]
            cases ty <;> first | exact hNm | (exact absurd rfl hz)
          · have h1 : (znew al M (zaty ty) x.toNatClampNeg).1 (al M.2.2.2.2).1 (al M.2.2.2.2).2.1 (al M.2.2.2.2).2.2 = fun _ => 0 := zup3_s _ _ _ _ _
            rw [h1]
            rfl
    · exact hop.elim
  case anewarray idx =>
    obtain ⟨tag, C, rfl, hz, hC, hlk, hAO⟩ := hok
    simp only [zmk] at hop
    split at hop
    · have h1 := ‹[tag] = _›
      simp only [List.cons.injEq, and_true] at h1
      subst h1
      rename_i x t _
      obtain ⟨h0, h1, h2, h3, h4⟩ := hop
      obtain ⟨t1, t2, t3, t4, -⟩ := zel_tag hz
      refine W.anew hx hb hown (hts _ hlk) (hK.2.2 C hAO).use rfl hd rfl h0 (by omega) (by omega) (by omega) fun cA kA comp e1 e2 e3 e4 => ?_
      have hrho : zrho b base ix (al M.2.2.2.2) = H.size := by rw [zrho_ne9 (hR.1.2.2.2 _), hR.1.2.2.1, hR.1.1]
      have hSe : (znew al M tag x.toNatClampNeg).2.2.2.1 (al M.2.2.2.2).1 (al M.2.2.2.2).2.1 (al M.2.2.2.2).2.2 = (tag, x.toNatClampNeg) := zup3_s _ _ _ _ _
      have hpush := zRel.push (H' := H.push { cls := cA, slots := Array.replicate x.toNatClampNeg .null, vm := .none }) (M' := znew al M tag x.toNatClampNeg) (len := x.toNatClampNeg) hR (by simp) (fun a ha => by rw [Array.getElem?_push, if_neg (Nat.ne_of_lt ha)]) (by omega) (znew_S al M _ _) (fun r' j' q' h kd i => znew_ne h kd i) (fun ci' hc' h11 => by omega) (fun h => ?_)
      · have := kk 1 x.toNatClampNeg _ _ _ h4 h2 h3 hpush.1
        rw [List.map_cons, show zcv (zrho b base ix) (zr (some (al M.2.2.2.2))) = .ref H.size by rw [← hrho]; rfl] at this
        exact this
      · refine ⟨cA, ?_, ?_, ?_, fun g => by rw [hSe] at g; omega⟩
        · rw [hSe]
          show (H.push _)[zrho b base ix (al M.2.2.2.2)]? = _
          rw [hrho, Array.getElem?_push_size, arrV_new]
          congr 2
          funext i
          rw [znew_at, t3]
          rfl
        · rw [hSe, hC]
          exact fun n z => ⟨fun k h => (by cases h), kA, e2, comp, e3⟩
        · rw [hSe, hC]
          exact ⟨kA, comp, e2, e3, e4, e1⟩
    · exact hop.elim
/-- arraycopy between two arrays of one kind of number -/
theorem zW_cpy {α : Type} (mk : α → Value) (hx : p.tables.exec = Jvm.exec) (hb : c.code = cc) (hml : c.maxLocals = rls.size) (hown : s.vm.findClass own = some m.cls) {idx : Nat} (hlink : (Jvm.Cond.methodLink own idx arraycopyName).before args s = true) (hnat : (Jvm.Cond.native arraycopyName).before args s = true) (hstat : (Jvm.Cond.static arraycopyName).before args s = true) (hini : (Jvm.Cond.initialized "java/lang/System").before args s = true)
    {a0 a : Nat} {c0 c1 : ClassId} {n0 n1 : Nat} {f g : Nat → α} {ty : FieldType} (hc0 : H[a0]? = some (arrV c0 n0 (fun j => mk (f j)))) (hc1 : H[a]? = some (arrV c1 n1 (fun j => mk (g j)))) (ht0 : ArrOfT s c0 ty) (ht1 : ArrOfT s c1 ty) (hprim : refKind ty = false) (hfit : ∀ i, fits ty (mk (f i)) = true) (hnr : ∀ x a, mk x ≠ .ref a)
    {sp dp n : Int32} (h1 : ¬ sp < 0) (h2 : ¬ dp < 0) (h3 : ¬ n < 0) (h4 : sp.toNatClampNeg + n.toNatClampNeg ≤ n0) (h5 : dp.toNatClampNeg + n.toNatClampNeg ≤ n1) {rest : List Value}
    (hframes : 1 ≤ R.frames) (hlocals : (rest.map fun v => v.category).sum + 18 ≤ R.locals) (hdg : decode cc pc = .ok (.invokestatic idx, 3))
    (kk : ∀ (H1 : Heap) (locs1 : List Loc), H1[a]? = some (arrV c1 n1 (fun j => mk (va_cpy f g sp.toNatClampNeg dp.toNatClampNeg n.toNatClampNeg j))) → H1.size = H.size → (∀ q, q ≠ a → H1[q]? = H[q]?) → (∀ l ∈ locs1, l ∈ locs ∨ l.base = a) → W p l e R s m args below meth c H1 locs1 cells slots Q (F0 m (pc + 3) rls rest)) :
    W p l e R s m args below meth c H locs cells slots Q (F0 m pc rls (.int n :: .int dp :: .ref a :: .int sp :: .ref a0 :: rest)) := by
  have nn : ∀ z : Int32, ¬ z < 0 → z.toInt = (z.toNatClampNeg : Int) := by
    intro z hz
    have hz0 : (0 : Int) ≤ z.toInt := by
      have := Int32.not_lt.mp hz
      simpa using Int32.le_iff_toInt_le.mp this
    show z.toInt = ((z.toInt.toNat : Nat) : Int)
    omega
  intro T hT X
  obtain ⟨-, k0, hk0, cm0, hkk0⟩ := ht0 n0 (fun j => mk (f j))
  obtain ⟨-, k1, hk1, cm1, hkk1⟩ := ht1 n1 (fun j => mk (g j))
  obtain ⟨vm', X', step⟩ := X.arraycopy hx hown hlink hnat hstat hini (src := a0) (dst := a) (cs := arrV c0 n0 (fun j => mk (f j))) (cd := arrV c1 n1 (fun j => mk (g j))) (srcPos := sp) (destPos := dp) (n := n) (by rw [hT]; exact hc0) (by rw [hT]; exact hc1)
    (fun _ h => by cases h) (fun _ h => by cases h) (fun h => by cases h) (fun h => by cases h) hk0 hk1 hkk0 hkk1 (by simp [hprim]) h1 h2 h3
    (by rw [nn sp h1, nn n h3, arrV_size]; omega)
    (by rw [nn dp h2, nn n h3, arrV_size]; omega)
    (fun vm₁ _ i hi => by
      have e : (arrV c0 n0 (fun j => mk (f j))).slots.getD (sp.toNatClampNeg + i) .null = mk (f (sp.toNatClampNeg + i)) := by
        rw [Array.getD_eq_getD_getElem?, arrV_read _ _ (by omega)]
        rfl
      refine ⟨?_, ?_⟩
      · rw [e]
        exact hfit _
      · rw [e]
        generalize hz : mk (f (sp.toNatClampNeg + i)) = z
        cases z <;> first | exact trivial | exact absurd hz (hnr _ _))
    (g := F0 m pc rls (.int n :: .int dp :: .ref a :: .int sp :: .ref a0 :: rest)) rfl (by rw [hml]) (rest := rest) rfl (by rw [hb]; exact hdg) hframes (by
      have e : nativeFrameWords "java/lang/System" "arraycopy" 5 = 7 := by decide
      show 2 * 0 + _ + _ ≤ _
      first | (rw [e]; omega) | omega)
  have e1 : copied (arrV c0 n0 (fun j => mk (f j))) (arrV c1 n1 (fun j => mk (g j))) sp dp n = arrV c1 n1 (fun j => mk (va_cpy f g sp.toNatClampNeg dp.toNatClampNeg n.toNatClampNeg j)) := va_copied mk c0 c1 f g h4
  rw [e1] at X' step
  have hl : a < H.size := (Array.getElem?_eq_some_iff.mp hc1).1
  have hheap : ((T.setVm vm').setCell a (arrV c1 n1 (fun j => mk (va_cpy f g sp.toNatClampNeg dp.toNatClampNeg n.toNatClampNeg j)))).heap = H.setIfInBounds a (arrV c1 n1 (fun j => mk (va_cpy f g sp.toNatClampNeg dp.toNatClampNeg n.toNatClampNeg j))) := by rw [← hT]; rfl
  obtain ⟨t, a1, b1⟩ := kk _ _ (by simp [Array.getElem?_setIfInBounds, hl]) (by simp) (fun q hq => by simp [Array.getElem?_setIfInBounds, Ne.symm hq]) (fun q hq => by
      rcases List.mem_append.mp hq with h | h
      · exact Or.inl h
      · obtain ⟨z, -, hz⟩ := List.mem_map.mp h
        rw [← hz]
        exact Or.inr rfl) _ hheap X'
  exact ⟨t, step t a1, b1⟩
/-- clone of an array of numbers -/
theorem zW_cln (hx : p.tables.exec = Jvm.exec) (hb : c.code = cc) (hml : c.maxLocals = rls.size) (hown : s.vm.findClass own = some m.cls) {ad : String} {idx : Nat}
    (hlink : (Jvm.Cond.methodLink own idx ⟨ad, "clone", "()Ljava/lang/Object;"⟩).before args s = true) (hsame : (Jvm.Cond.sameMethod ad "java/lang/Object" "clone" "()Ljava/lang/Object;").before args s = true)
    (hnat : (Jvm.Cond.native ⟨"java/lang/Object", "clone", "()Ljava/lang/Object;"⟩).before args s = true) (hinst : (Jvm.Cond.instanceMethod ⟨"java/lang/Object", "clone", "()Ljava/lang/Object;"⟩).before args s = true)
    (hsel : (Jvm.Cond.selects ad ⟨ad, "clone", "()Ljava/lang/Object;"⟩ ⟨"java/lang/Object", "clone", "()Ljava/lang/Object;"⟩).before args s = true) (hcl : va_Nw (.castable ad "java/lang/Cloneable") s)
    {a : Nat} {cA : ClassId} {n : Nat} {f : Nat → Int32} {ty : FieldType} (hcell : H[a]? = some (arrV cA n (fun j => .int (f j)))) (ht0 : ArrOfT s cA ty) (hnm : s.vm.findClass ad = some cA) (hfit : ∀ i, fits ty (.int (f i)) = true) {rest : List Value}
    (hframes : 1 ≤ R.frames) (hlocals : (rest.map fun v => v.category).sum + 14 ≤ R.locals) (hcells : cells + 1 ≤ R.cells) (hslots : slots + n ≤ R.slots) (hdg : decode cc pc = .ok (.invokevirtual idx, 3))
    (kk : W p l e R s m args below meth c (H.push (arrV cA n (fun j => .int (f j)))) locs (cells + 1) (slots + n) Q (F0 m (pc + 3) rls (.ref H.size :: rest))) : W p l e R s m args below meth c H locs cells slots Q (F0 m pc rls (.ref a :: rest)) := by
  have hsz : (arrV cA n (fun j => Value.int (f j))).slots.size = n := arrV_size _ _ _
  obtain ⟨c0, t0', f1, f2, f3⟩ := Cond.castable_spec (va_Nw.use (A := args) rfl hcl)
  cases hnm.symm.trans f1
  intro T hT X
  have hcellT : T.heap[a]? = some (arrV cA n (fun j => .int (f j))) := by rw [hT]; exact hcell
  obtain ⟨-, kA, hkA, comp, hkind⟩ := State.isArrayOf_alike X.warmed.alike (ht0 0 (fun _ => .null))
  obtain ⟨-, kS, hkS, compS, hkindS⟩ := ht0 0 (fun _ => .null)
  obtain ⟨vm', X', st⟩ := X.cloneArray hx hown hlink hsame hnat hinst hsel (a := a) (cell := arrV cA n (fun j => .int (f j))) hcellT (fun k h => by cases h) (fun h => by cases h) hnm f2 f3
    (fun i v hv => by
      have hk' : T.vm.classes[cA]? = some kA := hkA
      have hi : i < n := by
        have := (Array.getElem?_eq_some_iff.mp hv).1
        rw [hsz] at this; exact this
      rw [arrV_read _ _ hi] at hv
      cases hv
      show T.fitsSlot cA .none i (.int (f i)) = true
      simpa [State.fitsSlot, State.slotType?, hk', hkind] using hfit i)
    (g := F0 m pc rls (.ref a :: rest)) rfl (by rw [hml]) rfl (by rw [hb]; exact hdg) hframes (by show 2 * 0 + _ + 14 ≤ _; omega) hcells (by rw [hsz]; exact hslots) (hloader := Vm.clonesLoader_of_array hkS hkindS)
  have hcellE : ({ cls := (arrV cA n (fun j => Value.int (f j))).cls, slots := (arrV cA n (fun j => Value.int (f j))).slots } : Cell) = arrV cA n (fun j => .int (f j)) := rfl
  rw [hcellE, hsz] at X'
  obtain ⟨t, b1, b2⟩ := kk ((T.setVm vm').pushCell (arrV cA n (fun j => .int (f j)))) (by rw [← hT]; rfl) X'
  refine ⟨t, st t ?_, b2⟩
  rw [hcellE, hT]
  exact b1
/-- what the tables say of the machine's own methods -/
def zclok (Ts Nw : List Jvm.Cond) (own : String) (i : Instr) (t0 : Nat) : Prop := ∃ idx, i = .invokevirtual idx ∧ Jvm.Cond.methodLink own idx ⟨"[" ++ (zaf t0).toString, "clone", "()Ljava/lang/Object;"⟩ ∈ Ts ∧ Jvm.Cond.sameMethod ("[" ++ (zaf t0).toString) "java/lang/Object" "clone" "()Ljava/lang/Object;" ∈ Ts ∧ Jvm.Cond.native ⟨"java/lang/Object", "clone", "()Ljava/lang/Object;"⟩ ∈ Ts ∧ Jvm.Cond.instanceMethod ⟨"java/lang/Object", "clone", "()Ljava/lang/Object;"⟩ ∈ Ts ∧ Jvm.Cond.selects ("[" ++ (zaf t0).toString) ⟨"[" ++ (zaf t0).toString, "clone", "()Ljava/lang/Object;"⟩ ⟨"java/lang/Object", "clone", "()Ljava/lang/Object;"⟩ ∈ Ts ∧ Jvm.Cond.castable ("[" ++ (zaf t0).toString) "java/lang/Cloneable" ∈ Nw
def znok (Ts Nw : List Jvm.Cond) (own : String) (i : Instr) (mode : Nat) : Prop := match mode with
  | 5 => ∃ idx, i = .invokestatic idx ∧ Jvm.Cond.methodLink own idx arraycopyName ∈ Ts ∧ Jvm.Cond.native arraycopyName ∈ Ts ∧ Jvm.Cond.static arraycopyName ∈ Ts ∧ Jvm.Cond.initialized "java/lang/System" ∈ Ts
  | 6 => zclok Ts Nw own i 20
  | 7 => zclok Ts Nw own i 22
  | 8 => ∃ idx, i = .invokespecial idx ∧ Jvm.Cond.methodLink own idx objectInit ∈ Ts ∧ Jvm.Cond.instanceMethod objectInit ∈ Ts ∧ Jvm.Cond.code objectInit ⟨#[0xb1]⟩ 1 none ∈ Ts
  | 9 => ∃ idx, i = .invokestatic idx ∧ Jvm.Cond.methodLink own idx Lib.Math.max.name ∈ Ts ∧ Jvm.Cond.static Lib.Math.max.name ∈ Ts ∧ Jvm.Cond.initialized "java/lang/Math" ∈ Ts ∧ Jvm.Cond.code Lib.Math.max.name Lib.Math.max.code 2 (some .int) ∈ Ts
  | 10 => ∃ idx, i = .invokestatic idx ∧ Jvm.Cond.methodLink own idx Lib.Math.min.name ∈ Ts ∧ Jvm.Cond.static Lib.Math.min.name ∈ Ts ∧ Jvm.Cond.initialized "java/lang/Math" ∈ Ts ∧ Jvm.Cond.code Lib.Math.min.name Lib.Math.min.code 2 (some .int) ∈ Ts
  | _ => False
theorem zW_cl2 (hx : p.tables.exec = Jvm.exec) (hb : c.code = cc) (hml : c.maxLocals = rls.size) (hown : s.vm.findClass own = some m.cls) (hts : ∀ w ∈ Ts, w.before args s = true) (hK : zK Nw AO D s) (hR : zRel b base ix al D s M H) (hd : decode cc pc = .ok (i, 3)) {t0 : Nat} (ht0 : t0 = 20 ∨ t0 = 22) (hok : zclok Ts Nw own i t0) {bc bs : Nat} (hbc : cells + bc ≤ R.cells) (hbs : slots + bs ≤ R.slots) (hfr : 1 ≤ R.frames) (hlo : 64 ≤ R.locals)
    {K : Nat → Nat → List zV → zM → Prop} (hop : zcln al t0 st M bc bs K) (kk : ∀ dc ds st' M' H', K (bc - dc) (bs - ds) st' M' → dc ≤ bc → ds ≤ bs → zRel b base ix al D s M' H' → W p l e R s m args below meth c H' locs (cells + dc) (slots + ds) Q (F0 m (pc + 3) rls (st'.map (zcv (zrho b base ix))))) :
    W p l e R s m args below meth c H locs cells slots Q (F0 m pc rls (st.map (zcv (zrho b base ix)))) := by
  obtain ⟨idx, rfl, o1, o2, o3, o4, o5, o6⟩ := hok
  unfold zcln at hop
  split at hop
  · rename_i r j q t
    obtain ⟨h1, h9, h2, h3, h4, h5⟩ := hop
    obtain ⟨cA, g1, g2, g3, g4⟩ := hR.2.2.2.1 r j q (by omega) h9
    have hz : zak (M.2.2.2.1 r j q).1 = 0 := by rw [h2]; rcases ht0 with rfl | rfl <;> rfl
    rw [hz] at g1
    rw [h2] at g2 g3 g4
    have hnm : s.vm.findClass ("[" ++ (zaf t0).toString) = some cA := by rcases ht0 with rfl | rfl <;> exact g3
    have hfit : ∀ i, fits (zaf t0) (.int (M.1 r j q i)) = true := by
      intro i
      rcases ht0 with rfl | rfl
      · rfl
      · exact g4 rfl i
    refine zW_cln (f := M.1 r j q) hx hb hml hown (hts _ o1) (hts _ o2) (hts _ o3) (hts _ o4) (hts _ o5) (hK.2.1 _ o6) g1 g2 hnm hfit hfr (by rw [zcv_cats]; omega) (by omega) (by omega) hd ?_
    have hrho : zrho b base ix (al M.2.2.2.2) = H.size := by rw [zrho_ne9 (hR.1.2.2.2 _), hR.1.2.2.1, hR.1.1]
    have hsz : (M.2.2.2.1 r j q).2 = (M.2.2.2.1 r j q).2 := rfl
    have hpush := zRel.push (H' := H.push (arrV cA (M.2.2.2.1 r j q).2 (fun i => .int (M.1 r j q i)))) (M' := (zup3 M.1 (al M.2.2.2.2).1 (al M.2.2.2.2).2.1 (al M.2.2.2.2).2.2 (M.1 r j q), zup3 M.2.1 (al M.2.2.2.2).1 (al M.2.2.2.2).2.1 (al M.2.2.2.2).2.2 (fun _ => 0), zup3 M.2.2.1 (al M.2.2.2.2).1 (al M.2.2.2.2).2.1 (al M.2.2.2.2).2.2 (fun _ => none), zup3 M.2.2.2.1 (al M.2.2.2.2).1 (al M.2.2.2.2).2.1 (al M.2.2.2.2).2.2 (t0, (M.2.2.2.1 r j q).2), M.2.2.2.2 + 1)) (tag := t0) (len := (M.2.2.2.1 r j q).2) hR (by simp) (fun a ha => by rw [Array.getElem?_push, if_neg (Nat.ne_of_lt ha)]) (by omega) rfl (fun r' j' q' h kd i => ?_) (fun ci' hc' h11 => by omega) (fun h => ?_)
    · have := kk 1 (M.2.2.2.1 r j q).2 _ _ _ h5 h3 h4 hpush.1
      rw [List.map_cons, show zcv (zrho b base ix) (zr (some (al M.2.2.2.2))) = .ref H.size by rw [← hrho]; rfl] at this
      exact this
    · unfold zget
      simp only [zup3_n _ _ h]
    · have e1 : zup3 M.1 (al M.2.2.2.2).1 (al M.2.2.2.2).2.1 (al M.2.2.2.2).2.2 (M.1 r j q) (al M.2.2.2.2).1 (al M.2.2.2.2).2.1 (al M.2.2.2.2).2.2 = M.1 r j q := zup3_s _ _ _ _ _
      have e2 : zup3 M.2.2.2.1 (al M.2.2.2.2).1 (al M.2.2.2.2).2.1 (al M.2.2.2.2).2.2 (t0, (M.2.2.2.1 r j q).2) (al M.2.2.2.2).1 (al M.2.2.2.2).2.1 (al M.2.2.2.2).2.2 = (t0, (M.2.2.2.1 r j q).2) := zup3_s _ _ _ _ _
      have hz0 : zak t0 = 0 := by rw [h2] at hz; exact hz
      refine ⟨cA, ?_, ?_, ?_, fun ht i => ?_⟩
      · simp only [e2, hz0]
        show (H.push _)[zrho b base ix (al M.2.2.2.2)]? = _
        rw [hrho, Array.getElem?_push_size]
        congr 2
        funext i
        show _ = zcv _ (zi (zup3 M.1 (al M.2.2.2.2).1 (al M.2.2.2.2).2.1 (al M.2.2.2.2).2.2 (M.1 r j q) (al M.2.2.2.2).1 (al M.2.2.2.2).2.1 (al M.2.2.2.2).2.2 i))
        rw [e1]
        rfl
      · simp only [e2]; exact g2
      · simp only [e2]; exact g3
      · simp only [e2] at ht
        show fits .char (.int (zup3 M.1 (al M.2.2.2.2).1 (al M.2.2.2.2).2.1 (al M.2.2.2.2).2.2 (M.1 r j q) (al M.2.2.2.2).1 (al M.2.2.2.2).2.1 (al M.2.2.2.2).2.2 i)) = true
        rw [e1]
        exact g4 ht i
  · exact hop.elim
theorem zW_nat (hx : p.tables.exec = Jvm.exec) (hb : c.code = cc) (hml : c.maxLocals = rls.size) (hown : s.vm.findClass own = some m.cls) (hts : ∀ w ∈ Ts, w.before args s = true) (hK : zK Nw AO D s) (hR : zRel b base ix al D s M H) (hd : decode cc pc = .ok (i, 3)) {mode : Nat} (hok : znok Ts Nw own i mode) {bc bs : Nat} (hbc : cells + bc ≤ R.cells) (hbs : slots + bs ≤ R.slots) (hfr : 1 ≤ R.frames) (hlo : 64 ≤ R.locals) (hloc : ∀ l ∈ locs, base ≤ l.base)
    {K : Nat → Nat → List zV → zM → Prop} (hop : znat al mode st M bc bs K) (kk : ∀ dc ds st' M' H' locs', K (bc - dc) (bs - ds) st' M' → dc ≤ bc → ds ≤ bs → zRel b base ix al D s M' H' → (∀ l ∈ locs', base ≤ l.base) → W p l e R s m args below meth c H' locs' (cells + dc) (slots + ds) Q (F0 m (pc + 3) rls (st'.map (zcv (zrho b base ix))))) :
    W p l e R s m args below meth c H locs cells slots Q (F0 m pc rls (st.map (zcv (zrho b base ix)))) := by
  unfold znat at hop
  split at hop
  · obtain ⟨idx, rfl, o1, o2, o3, o4⟩ := hok
    split at hop
    · rename_i n dp r j q sp r' j' q' t
      obtain ⟨h1, h9, h9', h2, h3, h4, h5, h6, h7, h8⟩ := hop
      have hlocs : ∀ locs1 : List Loc, (∀ l ∈ locs1, l ∈ locs ∨ l.base = zrho b base ix (r, j, q)) → ∀ l ∈ locs1, base ≤ l.base := by
        intro locs1 g l hl
        rcases g l hl with g | g
        · exact hloc l g
        · rw [g, zrho_ne9 h9]; omega
      rcases h8 with ⟨ht, hk⟩ | ⟨ht, hk⟩
      · have htag : 19 < (M.2.2.2.1 r j q).1 := by omega
        obtain ⟨cA, g1, g2, g3, g4⟩ := hR.2.2.2.1 r j q htag h9
        obtain ⟨cA', g1', g2', g3', g4'⟩ := hR.2.2.2.1 r' j' q' (by omega) h9'
        have hz : zak (M.2.2.2.1 r j q).1 = 0 := by rcases ht with ht | ht <;> rw [ht] <;> rfl
        rw [h2] at g1' g2' g4'
        rw [hz] at g1 g1'
        have hfit : ∀ i, fits (zaf (M.2.2.2.1 r j q).1) (.int (M.1 r' j' q' i)) = true := by
          intro i
          rcases ht with ht | ht
          · rw [ht]; rfl
          · rw [ht]; exact g4' ht i
        refine zW_cpy (fun x => .int x) (f := M.1 r' j' q') (g := M.1 r j q) hx hb hml hown (hts _ o1) (hts _ o2) (hts _ o3) (hts _ o4) g1' g1 g2' g2 (by rcases ht with ht | ht <;> rw [ht] <;> rfl) hfit (fun x a h => by cases h) h3 h4 h5 h6 h7 hfr (by rw [zcv_cats]; omega) hd (fun H1 locs1 e1 e2 e3 e4 => ?_)
        refine kk 0 0 _ _ H1 locs1 hk (Nat.zero_le _) (Nat.zero_le _) ?_ (hlocs locs1 e4)
        refine hR.set h9 (by omega) e2 e3 (zsame_I fun r1 j1 q1 h => zup3_n _ _ h) (fun ci hc h11 => by omega) (fun _ => ⟨cA, ?_, g2, g3, ?_⟩)
        · rw [e1]
          show _ = some (arrV cA (M.2.2.2.1 r j q).2 (fun i => zcv (zrho b base ix) (zget _ (zak (M.2.2.2.1 r j q).1) r j q i)))
          rw [hz]
          congr 2
          funext i
          show _ = zcv _ (zi (zup3 M.1 r j q _ r j q i))
          rw [zup3_s]
          rfl
        · intro h22 i
          show fits .char (.int (zup3 M.1 r j q _ r j q i)) = true
          rw [zup3_s]
          unfold va_cpy
          split
          · exact g4' h22 _
          · exact g4 h22 _
      · obtain ⟨cA, g1, g2, g3, g4⟩ := hR.2.2.2.1 r j q (by omega) h9
        obtain ⟨cA', g1', g2', g3', g4'⟩ := hR.2.2.2.1 r' j' q' (by omega) h9'
        have hz : zak (M.2.2.2.1 r j q).1 = 1 := by rw [ht]; rfl
        rw [h2] at g1' g2'
        rw [hz] at g1 g1'
        refine zW_cpy (fun x => .long x) (f := M.2.1 r' j' q') (g := M.2.1 r j q) hx hb hml hown (hts _ o1) (hts _ o2) (hts _ o3) (hts _ o4) g1' g1 g2' g2 (by rw [ht]; rfl) (fun i => by rw [ht]; rfl) (fun x a h => by cases h) h3 h4 h5 h6 h7 hfr (by rw [zcv_cats]; omega) hd (fun H1 locs1 e1 e2 e3 e4 => ?_)
        refine kk 0 0 _ _ H1 locs1 hk (Nat.zero_le _) (Nat.zero_le _) ?_ (hlocs locs1 e4)
        refine hR.set h9 (by omega) e2 e3 (zsame_L fun r1 j1 q1 h => zup3_n _ _ h) (fun ci hc h11 => by omega) (fun _ => ⟨cA, ?_, g2, g3, fun h => absurd (ht.symm.trans h) (by decide)⟩)
        rw [e1]
        show _ = some (arrV cA (M.2.2.2.1 r j q).2 (fun i => zcv (zrho b base ix) (zget _ (zak (M.2.2.2.1 r j q).1) r j q i)))
        rw [hz]
        congr 2
        funext i
        show _ = zcv _ (zl (zup3 M.2.1 r j q _ r j q i))
        rw [zup3_s]
        rfl
    · exact hop.elim
  · exact zW_cl2 hx hb hml hown hts hK hR hd (Or.inl rfl) hok hbc hbs hfr hlo hop (fun dc ds st' M' H' h1 h2 h3 h4 => kk dc ds st' M' H' locs h1 h2 h3 h4 hloc)
  · exact zW_cl2 hx hb hml hown hts hK hR hd (Or.inr rfl) hok hbc hbs hfr hlo hop (fun dc ds st' M' H' h1 h2 h3 h4 => kk dc ds st' M' H' locs h1 h2 h3 h4 hloc)
  · obtain ⟨idx, rfl, o1, o2, o3⟩ := hok
    split at hop
    · rename_i r t
      exact W.objInit hx hb hown (hts _ o1) (hts _ o2) (hts _ o3) rfl hml.symm rfl hd hfr (by show 2 * 0 + _ + 12 ≤ _; rw [zcv_cats]; omega) (kk 0 0 _ _ _ _ hop.2 (Nat.zero_le _) (Nat.zero_le _) hR hloc)
    · exact hop.elim
  · obtain ⟨idx, rfl, o1, o2, o3, o4⟩ := hok
    split at hop
    · exact va_mmax hx hb hml hown (hts _ o1) (hts _ o2) (hts _ o3) (hts _ o4) hfr (by rw [zcv_cats]; omega) (by omega) (by omega) hd (kk 0 0 _ _ _ _ hop.2 (Nat.zero_le _) (Nat.zero_le _) hR hloc)
    · exact hop.elim
  · obtain ⟨idx, rfl, o1, o2, o3, o4⟩ := hok
    split at hop
    · exact va_mmin hx hb hml hown (hts _ o1) (hts _ o2) (hts _ o3) (hts _ o4) hfr (by rw [zcv_cats]; omega) (by omega) (by omega) hd (kk 0 0 _ _ _ _ hop.2 (Nat.zero_le _) (Nat.zero_le _) hR hloc)
    · exact hop.elim
  · exact hop.elim
end
