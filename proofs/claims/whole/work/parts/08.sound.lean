/-! calls, returns, and the whole: what the interpreter comes to, the machine comes to -/
def zPc (Nw : List Jvm.Cond) (AO : List String) (D : va_G) (b base : Nat) (ix : zR → Nat) (al : Nat → zR) (as : List zV) (M : zM) : Array Value → State → Prop := fun v U => v = (as.map (zcv (zrho b base ix))).toArray ∧ zK Nw AO D U ∧ zRel b base ix al D U M U.heap
def zQc (D : va_G) (b base : Nat) (ix : zR → Nat) (al : Nat → zR) (Q : Option zV → zM → Prop) : Array Value → State → Outcome → State → Prop := fun _ _ o t => ∃ r M', o = .returned (r.map (zcv (zrho b base ix))) ∧ zRel b base ix al D t M' t.heap ∧ Q r M'
theorem zPc_blind {Nw : List Jvm.Cond} {AO : List String} {D : va_G} {b base : Nat} {ix : zR → Nat} {al : Nat → zR} {as : List zV} {M : zM} (hN : ∀ w ∈ Nw, znw w) : FrameBlind (zPc Nw AO D b base ix al as M) := fun a U g mk h => ⟨h.1, zK.same (s := U) (U := U.calling g mk a) hN rfl h.2.1, zRel.moved (U := U) (U' := U.calling g mk a) h.2.2 (Vm.Alike.refl U.vm)⟩
section
variable (Y : Nat → MethodName) (B : Nat → ByteArray) (X : Nat → Nat) (T : Nat → Option FieldType) (Ts Nw : List Jvm.Cond)
def zws (mid : Nat) : List Jvm.Cond := Jvm.Cond.code (Y mid) (B mid) (X mid) (T mid) :: Ts
/-- what the tables say of a call -/
def zcok (own : String) (i : Instr) (a : List Nat) : Prop := (∃ mode, a = [mode] ∧ znok Ts Nw own i mode) ∨ ∃ mode mid cl na bc bs np, a = [mode, mid, cl, na, X mid, bc, bs] ∧ Jvm.Cond.code (Y mid) (B mid) (X mid) (T mid) ∈ Ts ∧ Jvm.Cond.initialized (Y mid).cls ∈ Ts ∧ ((Y mid).cls ≠ "java/lang/invoke/MethodHandle" ∧ (Y mid).cls ≠ "java/lang/invoke/VarHandle") ∧ (∀ sig, parseMethodDescriptor (Y mid).desc = some sig → np = sig.parameters.length) ∧ plainName (Y mid).cls = true ∧ X mid ≤ 40 ∧
  ((mode = 0 ∧ na = np + 1 ∧ cl < 11 ∧ ∃ idx, i = .invokevirtual idx ∧ Jvm.Cond.methodLink own idx (Y mid) ∈ Ts ∧ Jvm.Cond.instanceMethod (Y mid) ∈ Ts ∧ Jvm.Cond.selects (zcl cl).1 (Y mid) (Y mid) ∈ Ts) ∨
   (mode = 1 ∧ na = np ∧ ∃ idx, i = .invokestatic idx ∧ Jvm.Cond.methodLink own idx (Y mid) ∈ Ts ∧ Jvm.Cond.static (Y mid) ∈ Ts) ∨
   (mode = 2 ∧ na = np + 1 ∧ T mid = none ∧ (Y mid).name = "<init>" ∧ ∃ idx, i = .invokespecial idx ∧ Jvm.Cond.methodLink own idx (Y mid) ∈ Ts ∧ Jvm.Cond.instanceMethod (Y mid) ∈ Ts) ∨
   (mode = 3 ∧ na = np ∧ ∃ idx host, i = .invokestatic idx ∧ Jvm.Cond.methodLinkNest own idx (Y mid) host ∈ Nw ∧ Jvm.Cond.static (Y mid) ∈ Ts) ∨
   (mode = 4 ∧ na = np + 1 ∧ T mid = none ∧ (Y mid).name = "<init>" ∧ ∃ idx host, i = .invokespecial idx ∧ Jvm.Cond.methodLinkNest own idx (Y mid) host ∈ Nw ∧ Jvm.Cond.instanceMethod (Y mid) ∈ Ts))
def zrok (mid : Nat) (i : Instr) (a : List Nat) : Prop := match i with
  | .ireturn => (a = [0] ∧ T mid = some .int) ∨ (a = [1] ∧ T mid = some .boolean) ∨ (a = [2] ∧ T mid = some .char)
  | .lreturn => T mid = some .long
  | .areturn => (∃ n, T mid = some (.object n)) ∨ ∃ t, T mid = some (.array t)
  | .return_ => T mid = none
  | _ => True
/-- what the tables say of an instruction -/
def zsite (AO : List String) (mid pc : Nat) (e : zE) : Prop := decode (B mid) pc = .ok (e.1, e.2.1) ∧ ((∀ a b d f, e.1 ≠ .tableswitch a b d f) → e.2.1 = zlen e.1) ∧ zconst (Y mid).cls e.1 e.2.2.2 Ts ∧ zjok e.1 pc ∧ zmok Ts Nw (Y mid).cls (Y mid).name e.1 e.2.2.1 ∧ zkok Ts AO (Y mid).cls e.1 e.2.2.1 ∧ (zcall e.1 = true → zcok Y B X T Ts Nw (Y mid).cls e.1 e.2.2.1) ∧ zrok T mid e.1 e.2.2.1
end
section
variable {Y : Nat → MethodName} {B : Nat → ByteArray} {X : Nat → Nat} {T : Nat → Option FieldType} {Ts Nw : List Jvm.Cond} {AO : List String}
variable {p : Program} {l : Launch} {e : Env} {R : Room} {s : State} {m : MethodId} {args : Array Value} {below : List Frame} {meth : Method} {c : Code} {H : Heap} {locs : List Loc} {cells slots : Nat} {Q : State → Prop}
variable {cc : ByteArray} {pc len : Nat} {rls : Array Slot} {st : List zV} {i : Instr} {own : String} {D : va_G} {b base : Nat} {ix : zR → Nat} {al : Nat → zR} {M : zM}
theorem zpush_map (ρ : zR → Nat) (r : Option zV) (t : List zV) : (r.map (zcv ρ)).toList ++ t.map (zcv ρ) = (zpush r t).map (zcv ρ) := by
  cases r <;> rfl
theorem zW_run {mc ms : Nat} {Q' : Option zV → zM → Prop} {rest : List zV} {g : JFrame} {Qa : Array Value} (hg : g = F0 m pc rls (st.map (zcv (zrho b base ix))))
    (hrun : va_Run p l e R s m args below meth c H locs cells slots mc ms g (rest.map (zcv (zrho b base ix))) (zQc D b base ix al Q' Qa) (fun q => base ≤ q)) (hloc : ∀ l ∈ locs, base ≤ l.base)
    (kk : ∀ r M' H' locs', Q' r M' → zRel b base ix al D s M' H' → (∀ l ∈ locs', base ≤ l.base) → W p l e R s m args below meth c H' locs' (cells + mc) (slots + ms) Q (F0 m (pc + 3) rls ((zpush r rest).map (zcv (zrho b base ix))))) :
    W p l e R s m args below meth c H locs cells slots Q (F0 m pc rls (st.map (zcv (zrho b base ix)))) := by
  subst hg
  intro T0 hT Xs
  obtain ⟨v, st0, t, T', L, e0, X', hL, e1, e2, ⟨r, M', hv, hRel, hQ⟩, hgo⟩ := hrun T0 hT Xs
  cases hv
  have hal : t.vm.Alike s.vm := by rw [← e2]; exact X'.warmed.alike.symm
  obtain ⟨t2, s1, q1⟩ := kk r M' T'.heap (locs ++ L) hQ (by rw [e1]; exact hRel.moved hal) (fun q hq => by
    rcases List.mem_append.mp hq with h | h
    · exact hloc q h
    · exact hL q h) T' rfl X'
  refine ⟨t2, hgo t2 ?_, q1⟩
  rw [zpush_map]
  exact s1
theorem zW_call (hx : p.tables.exec = Jvm.exec) (hb : c.code = cc) (hml : c.maxLocals = rls.size) (hown : s.vm.findClass own = some m.cls) (hts : ∀ w ∈ Ts, w.before args s = true) (hgood : ∀ w ∈ Ts, (w.onTables && w.keeps) = true ∨ ∃ ty, w = .arrayClass ty) (hN : ∀ w ∈ Nw, znw w) (hK : zK Nw AO D s) (hR : zRel b base ix al D s M H) (hd : decode cc pc = .ok (i, 3)) (hloc : ∀ l ∈ locs, base ≤ l.base)
    {mode mid cl na bc bs : Nat} (hok : zcok Y B X T Ts Nw own i [mode, mid, cl, na, X mid, bc, bs]) (hna : na ≤ st.length) (hcat : zcats (st.drop na) ≤ 8) (hrec : zrec mode cl (st.take na).reverse M) {d : Nat} {Q' : Option zV → zM → Prop} (hfr : d + 1 ≤ R.frames) (hlo : 64 * (d + 1) ≤ R.locals) (hbc : cells + bc ≤ R.cells) (hbs : slots + bs ≤ R.slots)
    (hM : Met l (Y mid) (zws Y B X T Ts mid) { frames := d, cells := bc, slots := bs, locals := 64 * d } (zPc Nw AO D b base ix al (st.take na).reverse M) (zQc D b base ix al Q') bc bs (fun q => base ≤ q))
    (kk : ∀ r M' H' locs', Q' r M' → zRel b base ix al D s M' H' → (∀ l ∈ locs', base ≤ l.base) → W p l e R s m args below meth c H' locs' (cells + bc) (slots + bs) Q (F0 m (pc + 3) rls ((zpush r (st.drop na)).map (zcv (zrho b base ix))))) :
    W p l e R s m args below meth c H locs cells slots Q (F0 m pc rls (st.map (zcv (zrho b base ix)))) := by
  rcases hok with ⟨mode', h, -⟩ | ⟨mode', mid', cl', na', bc', bs', np, ha, hcode, hini, hmh, hpar, hpl, hX, hmode⟩
  · simp at h
  simp only [List.cons.injEq, and_true] at ha
  obtain ⟨rfl, rfl, rfl, rfl, -, rfl, rfl⟩ := ha
  have hS : CallFix p m c cc rls.size s args Ts own := ⟨hx, hb, hml, hown, hts⟩
  have hws : ∀ w ∈ zws Y B X T Ts mid, ∀ (a' : Array Value) (U : State), s.WarmedH U.vm → w.before a' U = true := by
    intro w hw a' U hW
    rcases List.mem_cons.mp hw with rfl | hw
    · exact word_at hW (hgood _ hcode) (hts _ hcode)
    · exact word_at hW (hgood _ hw) (hts _ hw)
  have hcw : Jvm.Cond.code (Y mid) (B mid) (X mid) (T mid) ∈ zws Y B X T Ts mid := List.mem_cons_self
  have hpre : ∀ U : State, U.heap = H → s.WarmedH U.vm → zPc Nw AO D b base ix al (st.take na).reverse M (((st.take na).reverse).map (zcv (zrho b base ix))).toArray U := fun U hU hW => ⟨rfl, hK.warm hN hW, by rw [hU]; exact hR.moved hW.alike⟩
  have hst : st.map (zcv (zrho b base ix)) = (((st.take na).reverse).map (zcv (zrho b base ix))).reverse ++ (st.drop na).map (zcv (zrho b base ix)) := by
    rw [← List.map_reverse, List.reverse_reverse, ← List.map_append, List.take_append_drop]
  have hlen : ((st.take na).reverse).length = na := by simp; omega
  have hcats : 2 * (F0 m pc rls (st.map (zcv (zrho b base ix)))).monitorRoom + (((st.drop na).map (zcv (zrho b base ix))).map fun v => v.category).sum ≤ 8 := by
    rw [zcv_cats]
    show 2 * 0 + _ ≤ 8
    omega
  have hlo2 : 8 + (X mid + 11) + 64 * d ≤ R.locals := by omega
  rcases hmode with ⟨rfl, hnp, hcl, idx, rfl, o1, o2, o3⟩ | ⟨rfl, hnp, idx, rfl, o1, o2⟩ | ⟨rfl, hnp, hT, hnm, idx, rfl, o1, o2⟩ | ⟨rfl, hnp, idx, host, rfl, o1, o2⟩ | ⟨rfl, hnp, hT, hnm, idx, host, rfl, o1, o2⟩
  · -- a method of an object
    generalize has : (st.take na).reverse = as at hst hlen hpre hM hrec
    simp only [zrec] at hrec
    split at hrec
    · rename_i r j q as'
      obtain ⟨h9, cell, q1, q2, q3, -⟩ := hR.2.2.1 r j q cl hrec hcl
      have hcB : ∃ cellB : Cell, H[zrho b base ix (r, j, q)]? = some cellB ∧ cellB.vm.isStatics = false ∧ s.vm.findClass (zcl cl).1 = some cellB.cls := ⟨cell, q1, by rw [q3]; rfl, by rw [q2]; exact (hK.1.1 cl _ (zcl_at hcl)).2.1⟩
      refine zW_run rfl (va_runV (C := (zcl cl).1) (b := zrho b base ix (r, j, q)) (As := as'.map (zcv (zrho b base ix))) hS hM ⟨⟨rfl, rfl, hfr, hlo2, hws, hcw, hts _ hcode, hts _ hini, hmh, hpar, hts _ o1⟩, hts _ o2, hts _ o3⟩ ⟨zPc_blind hN, hcB, fun U hU hW => hpre U hU hW⟩ rfl (by simp at hlen ⊢; omega) rfl ?_ hcats hd ⟨hbc, hbs⟩) hloc kk
      show st.map (zcv (zrho b base ix)) = _
      rw [hst]
      simp [zcv]
    · exact hrec.elim
  · exact zW_run rfl (va_runS (As := ((st.take na).reverse).map (zcv (zrho b base ix))) hS hM ⟨⟨rfl, rfl, hfr, hlo2, hws, hcw, hts _ hcode, hts _ hini, hmh, hpar, hts _ o1⟩, hts _ o2⟩ ⟨zPc_blind hN, hpre⟩ rfl (by rw [List.length_map, hlen]; omega) rfl hst hcats hd ⟨hbc, hbs⟩) hloc kk
  · generalize has : (st.take na).reverse = as at hst hlen hpre hM hrec
    simp only [zrec] at hrec
    split at hrec
    · rename_i r as'
      have hM' := hM
      refine zW_run rfl (va_runI (b := zrho b base ix r) (As := as'.map (zcv (zrho b base ix))) hS hM ⟨⟨rfl, rfl, hfr, hlo2, hws, by rw [← hT]; exact hcw, by rw [← hT]; exact hts _ hcode, hts _ hini, hmh, hpar, hts _ o1⟩, hnm, hts _ o2⟩ ⟨zPc_blind hN, fun U hU hW => hpre U hU hW⟩ rfl (by simp at hlen ⊢; omega) rfl ?_ hcats hd ⟨hbc, hbs⟩) hloc kk
      show st.map (zcv (zrho b base ix)) = _
      rw [hst]
      simp [zcv]
    · exact hrec.elim
  · exact zW_run rfl (va_runSN (As := ((st.take na).reverse).map (zcv (zrho b base ix))) (host := host) hS hM ⟨⟨⟨rfl, rfl, hfr, hlo2, hws, hcw⟩, hts _ hcode, hts _ hini, hmh, hpar, va_Nw.use rfl (hK.2.1 _ o1)⟩, hts _ o2, trivial⟩ ⟨zPc_blind hN, hpre⟩ rfl (by rw [List.length_map, hlen]; omega) rfl hst hcats hd ⟨hbc, hbs⟩) hloc kk
  · generalize has : (st.take na).reverse = as at hst hlen hpre hM hrec
    simp only [zrec] at hrec
    split at hrec
    · rename_i r as'
      have hM' := hM
      refine zW_run rfl (va_runIN (host := host) (b := zrho b base ix r) (As := as'.map (zcv (zrho b base ix))) hS hM ⟨⟨⟨rfl, rfl, hfr, hlo2, hws, by rw [← hT]; exact hcw⟩, by rw [← hT]; exact hts _ hcode, hts _ hini, hmh, hpar, va_Nw.use rfl (hK.2.1 _ o1)⟩, hnm, hts _ o2⟩ ⟨zPc_blind hN, fun U hU hW => hpre U hU hW⟩ rfl (by simp at hlen ⊢; omega) rfl ?_ hcats hd ⟨hbc, hbs⟩) hloc kk
      show st.map (zcv (zrho b base ix)) = _
      rw [hst]
      simp [zcv]
    · exact hrec.elim
end
