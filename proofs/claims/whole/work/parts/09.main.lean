/-! the interpreter's runs are the machine's -/
theorem zent_args (ρ : zR → Nat) : ∀ (as : List zV) (i k : Nat) (v : zV), (zent as)[k]? = some (some v) → (i + k, zcv ρ v) ∈ lv_args i (as.map (zcv ρ)) := by
  intro as
  induction as with
  | nil => intro i k v h; simp [zent] at h
  | cons a t ih =>
    intro i k v h
    rcases a with x | x | x
    · rcases k with _ | k
      · simp [zent] at h
        subst h
        exact List.mem_cons_self
      · have := ih (i + 1) k v (by simpa [zent] using h)
        rw [show i + (k + 1) = i + 1 + k by omega]
        exact List.mem_cons_of_mem _ this
    · rcases k with _ | _ | k
      · simp [zent] at h
        subst h
        exact List.mem_cons_self
      · simp [zent] at h
      · have := ih (i + 2) k v (by simpa [zent] using h)
        rw [show i + (k + 1 + 1) = i + 2 + k by omega]
        exact List.mem_cons_of_mem _ this
    · rcases k with _ | k
      · simp [zent] at h
        subst h
        exact List.mem_cons_self
      · have := ih (i + 1) k v (by simpa [zent] using h)
        rw [show i + (k + 1) = i + 1 + k by omega]
        refine List.mem_cons_of_mem _ ?_
        have e : (zcv ρ (zr x)).category = 1 := zcv_cat ρ (zr x)
        rw [show (Sum.inr (Sum.inr x) : zV) = zr x from rfl, e]
        exact this
theorem zent_len (ρ : zR → Nat) (as : List zV) : (lg_sl (as.map (zcv ρ))).length = (zent as).length := by
  induction as with
  | nil => rfl
  | cons a t ih =>
    unfold lg_sl at ih ⊢
    rw [List.map_cons, List.flatMap_cons, List.length_append, ih, zcv_cat]
    rcases a with x | x | x <;> simp [zcat, zent] <;> omega
theorem zlr_entry (ρ : zR → Nat) (as : List zV) {n : Nat} (h : (zent as).length ≤ n) : zlr ρ (zpad (zent as) n) ((lg_sl (as.map (zcv ρ)) ++ List.replicate (n - (lg_sl (as.map (zcv ρ))).length) Slot.unset).toArray) n := by
  have h2 := zent_len ρ as
  refine ⟨by unfold zpad; simp; omega, _, lv_entry (as.map (zcv ρ)) (by rw [h2]; exact h), fun k v hk => ?_⟩
  have := zent_args ρ as 0 k v (by
    unfold zpad at hk
    by_cases hl : k < (zent as).length
    · rw [List.getElem?_append_left hl] at hk; exact hk
    · rw [List.getElem?_append_right (by omega), List.getElem?_replicate] at hk
      split at hk <;> simp at hk)
  rw [Nat.zero_add] at this
  exact this
section
variable {Y : Nat → MethodName} {B : Nat → ByteArray} {X : Nat → Nat} {T : Nat → Option FieldType} {Ts Nw : List Jvm.Cond} {AO : List String}
variable {p : Program} {l : Launch} {e : Env} {R : Room} {s : State} {m : MethodId} {args : Array Value} {below : List Frame} {meth : Method} {c : Code} {H : Heap} {locs : List Loc} {cells slots : Nat}
variable {pc len : Nat} {rls : Array Slot} {st : List zV} {i : Instr} {D : va_G} {b base : Nat} {ix : zR → Nat} {al : Nat → zR} {M : zM} {mid : Nat} {a : List Nat}
theorem znar_c {x : Int32} (h : vp_nar .char x = x) : narrow .char (.int x) = .int x := by
  have : narrow .char (.int x) = .int (vp_nar .char x) := rfl
  rw [this, h]
theorem zW_ret {cc : ByteArray} (hx : p.tables.exec = Jvm.exec) (hb : c.code = cc) (hr : meth.sig.returnType = T mid) (hlocks : meth.locks = false) (hd : decode cc pc = .ok (i, len)) (hlen : len = zlen i) (hok : zrok T mid i a) (hR : zRel b base ix al D s M H) (hloc : ∀ l ∈ locs, base ≤ l.base) {bc bs : Nat} (hbc : cells ≤ bc) (hbs : slots ≤ bs) {Q : Option zV → zM → Prop} (hop : zret i a st (fun r => Q r M)) :
    W p l e R s m args below meth c H locs cells slots (MQ below (zQc D b base ix al Q) args s bc bs (fun q => base ≤ q)) (F0 m pc rls (st.map (zcv (zrho b base ix)))) := by
  subst hlen
  refine W.widen (k := bc) (n := bs) hbc hbs ?_
  have hq : ∀ r, Q r M → ∀ t : State, t.heap = H → s.WarmedH t.vm → zQc D b base ix al Q args s (.returned (r.map (zcv (zrho b base ix)))) t := fun r h t ht hW => ⟨r, M, rfl, by rw [ht]; exact hR.moved hW.alike, h⟩
  cases i <;> first
    | (simp [zret] at hop; done)
    | skip
  case ireturn =>
    simp only [zret] at hop
    rcases hok with ⟨rfl, hT⟩ | ⟨rfl, hT⟩ | ⟨rfl, hT⟩
    · split at hop <;> first | (exact hop.elim) | skip
      all_goals (have h1 := ‹[0] = _›; simp at h1)
      exact W.iret hx hb (hr.trans hT) (hq _ hop) hloc hd hlocks
    · split at hop <;> first | (exact hop.elim) | skip
      all_goals (have h1 := ‹[1] = _›; simp at h1)
      exact W.zret hx hb (hr.trans hT) (by rcases hop.1 with h | h <;> rw [h] <;> rfl) (hq _ hop.2) hloc hd hlocks
    · split at hop <;> first | (exact hop.elim) | skip
      all_goals (have h1 := ‹[2] = _›; simp at h1)
      exact W.zret hx hb (hr.trans hT) (znar_c hop.1) (hq _ hop.2) hloc hd hlocks
  case lreturn =>
    simp only [zret] at hop
    split at hop
    · exact W.lret hx hb (hr.trans hok) (hq _ hop) hloc hd hlocks
    · exact hop.elim
  case areturn =>
    simp only [zret] at hop
    split at hop
    · rename_i x
      rcases hok with ⟨n, hT⟩ | ⟨t, hT⟩
      · exact W.aret hx hb (hr.trans hT) (Or.inl ⟨n, rfl⟩) (by cases x <;> first | exact Or.inl rfl | exact Or.inr ⟨_, rfl⟩) (hq _ hop) hloc hd hlocks
      · exact W.aret hx hb (hr.trans hT) (Or.inr ⟨t, rfl⟩) (by cases x <;> first | exact Or.inl rfl | exact Or.inr ⟨_, rfl⟩) (hq _ hop) hloc hd hlocks
    · exact hop.elim
  case return_ =>
    simp only [zret] at hop
    split at hop
    · exact W.vret hx hb (hr.trans hok) (hq _ hop) hloc hd hlocks
    · exact hop.elim
end
/-- the tables' words and sites, all at once -/
def zall (F : Nat → Nat → Option zE) (Y : Nat → MethodName) (B : Nat → ByteArray) (X : Nat → Nat) (T : Nat → Option FieldType) (Ts Nw : List Jvm.Cond) (AO : List String) : Prop := (∀ mid pc x, F mid pc = some x → zsite Y B X T Ts Nw AO mid pc x) ∧ zcls Ts ∧ (∀ w ∈ Ts, (w.onTables && w.keeps) = true ∨ ∃ ty, w = .arrayClass ty) ∧ ∀ w ∈ Nw, znw w
/-- what a frame stands on -/
def zfr (Y : Nat → MethodName) (B : Nat → ByteArray) (Ts : List Jvm.Cond) (p : Program) (s : State) (m : MethodId) (args : Array Value) (meth : Method) (c : Code) (mid : Nat) : Prop := p.tables.exec = Jvm.exec ∧ c.code = B mid ∧ s.vm.findClass (Y mid).cls = some m.cls ∧ (∀ w ∈ Ts, w.before args s = true) ∧ meth.name = (Y mid).name
set_option maxHeartbeats 4000000 in
theorem ev_sound {F : Nat → Nat → Option zE} {al : Nat → zR} {Y : Nat → MethodName} {B : Nat → ByteArray} {X : Nat → Nat} {T : Nat → Option FieldType} {Ts Nw : List Jvm.Cond} {AO : List String} (hall : zall F Y B X T Ts Nw AO) {l : Launch} {D : va_G} {b base : Nat} {ix : zR → Nat} :
    ∀ (n d bc bs mid pc : Nat) (ls : List (Option zV)) (st : List zV) (M : zM) (Q : Option zV → zM → Prop), ev F al n d bc bs mid pc ls st M Q →
    ∀ {p : Program} {e : Env} {R : Room} {s : State} {m : MethodId} {args : Array Value} {below : List Frame} {meth : Method} {c : Code} {H : Heap} {locs : List Loc} {cells slots : Nat} {Qf : State → Prop} {rls : Array Slot},
    zfr Y B Ts p s m args meth c mid → c.maxLocals = rls.size → zK Nw AO D s → zRel b base ix al D s M H → zlr (zrho b base ix) ls rls rls.size → d ≤ R.frames → 64 * d ≤ R.locals → cells + bc ≤ R.cells → slots + bs ≤ R.slots → (∀ l ∈ locs, base ≤ l.base) →
    (∀ (i : Instr) (len : Nat) (a : List Nat) (z : Int) (pc' : Nat) (st' : List zV) (rls' : Array Slot) (M' : zM) (H' : Heap) (locs' : List Loc) (cells' slots' : Nat), F mid pc' = some (i, len, a, z) → zret i a st' (fun r => Q r M') → zRel b base ix al D s M' H' → (∀ l ∈ locs', base ≤ l.base) → cells' ≤ cells + bc → slots' ≤ slots + bs → W p l e R s m args below meth c H' locs' cells' slots' Qf (F0 m pc' rls' (st'.map (zcv (zrho b base ix))))) →
    W p l e R s m args below meth c H locs cells slots Qf (F0 m pc rls (st.map (zcv (zrho b base ix)))) := by
  intro n
  induction n with
  | zero => intro d bc bs mid pc ls st M Q h; exact h.elim
  | succ n ih =>
    intro d bc bs mid pc ls st M Q h p e R s m args below meth c H locs cells slots Qf rls hf hml hK hR hl hfr hlo hbc hbs hloc HR
    obtain ⟨hsite, hcls, hgood, hN⟩ := id hall
    obtain ⟨hx, hb, hown, hts, hmn⟩ := id hf
    rw [ev] at h
    split at h
    · exact h.elim
    · rename_i i len a z hF
      obtain ⟨hd, hlen, hco, hjo, hmo, hko, hca, hro⟩ := hsite mid pc _ hF
      split at h
      · rename_i st' hop
        have hl3 : len = zlen i := hlen (fun _ _ _ _ he => by rw [show i = _ from he] at hop; simp [zop] at hop)
        exact zW_op hx hb hown hts hd hl3 hco hop (ih _ _ _ _ _ _ _ _ _ h hf hml hK hR hl hfr hlo hbc hbs hloc HR)
      · split at h
        · rename_i k kd hop
          have hl3 : len = zlen i := hlen (fun _ _ _ _ he => by rw [show i = _ from he] at hop; simp [zld] at hop)
          split at h
          · rename_i v hk
            exact zW_ld hx hb hd hl3 hop hl hk h.1 (ih _ _ _ _ _ _ _ _ _ h.2 hf hml hK hR hl hfr hlo hbc hbs hloc HR)
          · exact h.elim
        · split at h
          · rename_i k kd hop
            have hl3 : len = zlen i := hlen (fun _ _ _ _ he => by rw [show i = _ from he] at hop; simp [zsr] at hop)
            split at h
            · rename_i v t
              obtain ⟨h1, h2, h3⟩ := h
              refine zW_sr hx hb hd hl3 hop hl h1 (by rw [← hl.1]; exact h2) (fun rls' hl' => ?_)
              have hsz : rls'.size = rls.size := hl'.sz
              exact ih _ _ _ _ _ _ _ _ _ h3 hf (hml.trans hsz.symm) hK hR (by rw [hsz]; exact hl') hfr hlo hbc hbs hloc HR
            · exact h.elim
          · split at h
            · rename_i k y
              have hl3 : len = 3 := hlen (fun _ _ _ _ he => by cases he)
              subst hl3
              split at h
              · rename_i x hk
                refine zW_iinc hx hb hd hl hk (fun rls' hl' => ?_)
                have hsz : rls'.size = rls.size := hl'.sz
                exact ih _ _ _ _ _ _ _ _ _ h hf (hml.trans hsz.symm) hK hR (by rw [hsz]; exact hl') hfr hlo hbc hbs hloc HR
              · exact h.elim
            · split at h
              · rename_i hcall
                have hl3 : len = 3 := by
                  have hh : len = zlen i := hlen (fun _ _ _ _ he => by rw [show i = _ from he] at hcall; simp [zcall] at hcall)
                  rw [hh]
                  cases i <;> first | rfl | (simp [zcall] at hcall)
                subst hl3
                split at h
                · exact h.elim
                · rename_i d
                  split at h
                  · rename_i mode
                    rcases hca hcall with ⟨mode', ha, hok⟩ | ⟨mode', mid', cl, na, bc', bs', np, ha, -⟩
                    · have hm : mode = mode' := by simpa using ha
                      subst hm
                      refine zW_nat hx hb hml hown hts hK hR hd hok hbc hbs (by omega) (by omega) hloc h (fun dc ds st' M' H' locs' g1 g2 g3 g4 g5 => ?_)
                      exact ih _ _ _ _ _ _ _ _ _ g1 hf hml hK g4 hl hfr hlo (by omega) (by omega) g5 (fun i len a z pc' st' rls' M' H' locs' cells' slots' q1 q2 q3 q4 q5 q6 => HR i len a z pc' st' rls' M' H' locs' cells' slots' q1 q2 q3 q4 (by omega) (by omega))
                    · simp at ha
                  · rename_i mode mid' cl na nl bc' bs'
                    obtain ⟨g1, g2, g3, g4, g5, g6, g7⟩ := h
                    have hok := hca hcall
                    have hnl : nl = X mid' := by
                      rcases hok with ⟨mode', ha, -⟩ | ⟨mode', mid'', cl', na', bc'', bs'', np, ha, -⟩
                      · simp at ha
                      · simp only [List.cons.injEq, and_true] at ha
                        obtain ⟨-, rfl, -, -, ha, -, -⟩ := ha
                        exact ha
                    subst hnl
                    have hok2 := hok
                    rcases hok2 with ⟨mode', ha, -⟩ | ⟨mode', mid'', cl', na', bc'', bs'', np, ha, hcode, hini, hmh, hpar, hpl, hX, -⟩
                    · simp at ha
                    simp only [List.cons.injEq, and_true] at ha
                    obtain ⟨-, rfl, -, -, -, -, -⟩ := ha
                    refine zW_call hx hb hml hown hts hgood hN hK hR hd hloc hok g3 g4 g5 hfr hlo (by omega) (by omega) ?_ (fun r M' H' locs' q1 q2 q3 => ?_) (Q' := fun r M' => ev F al n (d + 1) (bc - bc') (bs - bs') mid (pc + 3) ls (zpush r (st.drop na)) M' Q)
                    · refine Met.ofW (cc := B mid') (maxL := X mid') (ret := T mid') hpl rfl ?_
                      intro p2 e2 s2 m2 args2 below2 meth2 c2 s₁ Bd hml2 hv
                      obtain ⟨rfl, hK2, hR2⟩ := hv
                      rw [lg_entry_eq]
                      have hl2 := zlr_entry (zrho b base ix) (st.take na).reverse g6
                      have hsz2 := hl2.sz
                      refine ih d bc' bs' mid' 0 _ [] M _ g7 (cells := 0) (slots := 0) (locs := []) ⟨Bd.exec, Bd.bytes, findClass_of_methodNamed Bd.named, fun w hw => atoms_spec (ws := zws Y B X T Ts mid') Bd.pre w (List.mem_cons_of_mem _ hw), (name_of_methodNamed Bd.named Bd.method).1⟩ (hml2.trans hsz2.symm) hK2 hR2 (by rw [hsz2]; exact hl2) (Nat.le_refl _) (Nat.le_refl _) (by rw [Nat.zero_add]; exact Nat.le_refl _) (by rw [Nat.zero_add]; exact Nat.le_refl _) (fun _ hh => absurd hh List.not_mem_nil) (fun i len a z pc' st' rls' M' H' locs' cells' slots' q1 q2 q3 q4 q5 q6 => ?_)
                      obtain ⟨hd', hlen', -, -, -, -, -, hro'⟩ := hsite mid' pc' _ q1
                      exact zW_ret Bd.exec Bd.bytes Bd.returns Bd.notSynchronized hd' (hlen' (fun _ _ _ _ he => by rw [show i = _ from he] at q2; simp [zret] at q2)) hro' q3 q4 (by omega) (by omega) q2
                    · exact ih _ _ _ _ _ _ _ _ _ q1 hf hml hK q2 hl hfr hlo (by omega) (by omega) q3 (fun i len a z pc' st' rls' M' H' locs' cells' slots' w1 w2 w3 w4 w5 w6 => HR i len a z pc' st' rls' M' H' locs' cells' slots' w1 w2 w3 w4 (by omega) (by omega))
                  · exact h.elim
              · rcases h with h | h | h | h
                · have hl3 : len = zlen i := hlen (fun _ _ _ _ he => by rw [show i = _ from he] at h; simp [zmem] at h)
                  refine zW_mem hx hb hown hts hcls hK hR hd hl3 (by rw [hmn]; exact hmo) hloc h (fun st' M' H' locs' g1 g2 g3 => ?_)
                  exact ih _ _ _ _ _ _ _ _ _ g1 hf hml hK g2 hl hfr hlo hbc hbs g3 HR
                · have hl3 : len = zlen i := hlen (fun _ _ _ _ he => by rw [show i = _ from he] at h; simp [zmk] at h)
                  refine zW_mk hx hb hown hts hcls hK hR hd hl3 hko hbc hbs h (fun dc ds st' M' H' g1 g2 g3 g4 => ?_)
                  exact ih _ _ _ _ _ _ _ _ _ g1 hf hml hK g4 hl hfr hlo (by omega) (by omega) hloc (fun i len a z pc' st' rls' M' H' locs' cells' slots' q1 q2 q3 q4 q5 q6 => HR i len a z pc' st' rls' M' H' locs' cells' slots' q1 q2 q3 q4 (by omega) (by omega))
                · exact zW_br hx hb hd hlen hjo h (fun pc' st' g1 => ih _ _ _ _ _ _ _ _ _ g1 hf hml hK hR hl hfr hlo hbc hbs hloc HR)
                · exact HR i len a z pc st rls M H locs cells slots hF h hR hloc (by omega) (by omega)
