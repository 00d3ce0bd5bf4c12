/-! rows: one a kind of instruction, over the interpreter -/
section
variable (F : Nat → Nat → Option zE) (al : Nat → zR)
def Ew (d c s mid pc : Nat) (ls : List (Option zV)) (st : List zV) (M : zM) (Q : Option zV → zM → Prop) : Prop := ∃ n, ev F al n d c s mid pc ls st M Q
def evc (n d c s mid pc len : Nat) (ls : List (Option zV)) (st : List zV) (M : zM) (Q : Option zV → zM → Prop) (a : List Nat) : Prop := match d with
  | 0 => False
  | d + 1 => match a with
    | [mode] => znat al mode st M c s (fun c s st M => ev F al n (d + 1) c s mid (pc + len) ls st M Q)
    | [mode, mid', cl, na, nl, bc, bs] => bc ≤ c ∧ bs ≤ s ∧ na ≤ st.length ∧ zcats (st.drop na) ≤ 8 ∧ zrec mode cl (st.take na).reverse M ∧ (zent (st.take na).reverse).length ≤ nl ∧
        ev F al n d bc bs mid' 0 (zpad (zent (st.take na).reverse) nl) [] M (fun r M' => ev F al n (d + 1) (c - bc) (s - bs) mid (pc + len) ls (zpush r (st.drop na)) M' Q)
    | _ => False
end
section
variable {F : Nat → Nat → Option zE} {al : Nat → zR} {d c s mid pc pc' len : Nat} {ls ls' : List (Option zV)} {st st' : List zV} {M M' : zM} {Q Q' : Option zV → zM → Prop} {i : Instr} {a : List Nat} {z : Int} {I : zI} {L : zL} {P : zP} {S : zS} {top : Nat} {r j q : Nat}
theorem Ew.post (h : Ew F al d c s mid pc ls st M Q) (hQ : ∀ r M, Q r M → Q' r M) : Ew F al d c s mid pc ls st M Q' := by
  obtain ⟨n, h⟩ := h
  exact ⟨n, ev_q h hQ⟩
theorem Ew.op (hF : F mid pc = some (i, len, a, z)) (hop : zop i z st = some st') (hpc : pc + len = pc') (k : Ew F al d c s mid pc' ls st' M Q) : Ew F al d c s mid pc ls st M Q := by
  subst hpc
  obtain ⟨n, h⟩ := k
  refine ⟨n + 1, ?_⟩
  rw [ev, hF]
  simp only
  rw [hop]
  exact h
theorem zld_op {kk : Nat × Nat} (h : zld i = some kk) : zop i z st = none := by
  cases i <;> first | rfl | (simp [zld] at h)
theorem zsr_op {kk : Nat × Nat} (h : zsr i = some kk) : zop i z st = none ∧ zld i = none := by
  cases i <;> first | exact ⟨rfl, rfl⟩ | (simp [zsr] at h)
theorem Ew.ld {k kd : Nat} {v : zV} (hF : F mid pc = some (i, len, a, z)) (hop : zld i = some (k, kd)) (hk : ls[k]? = some (some v)) (hkd : zkd v = kd) (hpc : pc + len = pc') (kk : Ew F al d c s mid pc' ls (v :: st) M Q) : Ew F al d c s mid pc ls st M Q := by
  subst hpc
  obtain ⟨n, h⟩ := kk
  refine ⟨n + 1, ?_⟩
  rw [ev, hF]
  simp only
  rw [zld_op hop]
  simp only
  rw [hop]
  simp only
  rw [hk]
  exact ⟨hkd, h⟩
theorem Ew.sr {k kd : Nat} {v : zV} (hF : F mid pc = some (i, len, a, z)) (hop : zsr i = some (k, kd)) (hkd : zkd v = kd) (hk : k + zcat v ≤ ls.length) (hs : zsto ls k v = ls') (hpc : pc + len = pc') (kk : Ew F al d c s mid pc' ls' st M Q) : Ew F al d c s mid pc ls (v :: st) M Q := by
  subst hpc
  subst hs
  obtain ⟨n, h⟩ := kk
  refine ⟨n + 1, ?_⟩
  rw [ev, hF]
  simp only
  rw [(zsr_op (z := z) (st := v :: st) hop).1]
  simp only
  rw [(zsr_op (z := z) (st := st) hop).2]
  simp only
  rw [hop]
  exact ⟨hkd, hk, h⟩
theorem Ew.iinc {k : Nat} {y : Int} {x v : Int32} (hF : F mid pc = some (.iinc k y, len, a, z)) (hk : ls[k]? = some (some (zi x))) (hv : x + Int32.ofInt y = v) (hs : zsto ls k (zi v) = ls') (hpc : pc + len = pc') (kk : Ew F al d c s mid pc' ls' st M Q) : Ew F al d c s mid pc ls st M Q := by
  subst hpc
  subst hs
  subst hv
  obtain ⟨n, h⟩ := kk
  refine ⟨n + 1, ?_⟩
  rw [ev, hF]
  simp only [zop, zld, zsr]
  rw [hk]
  exact h
/-- instructions of the last kinds -/
def zlast (i : Instr) : Bool := match i with
  | .aaload => true
  | .aastore => true
  | .anewarray _ => true
  | .areturn => true
  | .arraylength => true
  | .caload => true
  | .castore => true
  | .checkcast _ => true
  | .getfield _ => true
  | .goto _ => true
  | .iaload => true
  | .iastore => true
  | .idiv => true
  | .if_icmp _ _ => true
  | .ifCond _ _ => true
  | .irem => true
  | .ireturn => true
  | .laload => true
  | .lastore => true
  | .ldiv => true
  | .lrem => true
  | .lreturn => true
  | .new _ => true
  | .newarray _ => true
  | .putfield _ => true
  | .return_ => true
  | .tableswitch _ _ _ _ => true
  | _ => false
theorem ev_last {n : Nat} (hF : F mid pc = some (i, len, a, z)) (hi : zlast i = true) (h : zmem i a st M (fun st M => ev F al n d c s mid (pc + len) ls st M Q) ∨ zmk al i a st M c s (fun c s st M => ev F al n d c s mid (pc + len) ls st M Q) ∨ zbr i pc len st (fun pc st => ev F al n d c s mid pc ls st M Q) ∨ zret i a st (fun r => Q r M)) : ev F al (n + 1) d c s mid pc ls st M Q := by
  rw [ev, hF]
  cases i <;> first | exact h | (simp [zlast] at hi)
theorem Ew.mem (hF : F mid pc = some (i, len, a, z)) (hi : zlast i = true) (hop : ∀ k : List zV → zM → Prop, k st' M' → zmem i a st M k) (hpc : pc + len = pc') (kk : Ew F al d c s mid pc' ls st' M' Q) : Ew F al d c s mid pc ls st M Q := by
  subst hpc
  obtain ⟨n, h⟩ := kk
  exact ⟨n + 1, ev_last hF hi (Or.inl (hop _ h))⟩
theorem Ew.mk {c' s' : Nat} (hF : F mid pc = some (i, len, a, z)) (hi : zlast i = true) (hop : ∀ k : Nat → Nat → List zV → zM → Prop, k c' s' st' M' → zmk al i a st M c s k) (hpc : pc + len = pc') (kk : Ew F al d c' s' mid pc' ls st' M' Q) : Ew F al d c s mid pc ls st M Q := by
  subst hpc
  obtain ⟨n, h⟩ := kk
  exact ⟨n + 1, ev_last hF hi (Or.inr (Or.inl (hop _ h)))⟩
theorem Ew.ret (hF : F mid pc = some (i, len, a, z)) (hi : zlast i = true) (hop : zret i a st (fun r => Q r M)) : Ew F al d c s mid pc ls st M Q := ⟨1, ev_last hF hi (Or.inr (Or.inr (Or.inr hop)))⟩
theorem Ew.goto {off : Int} (hF : F mid pc = some (.goto off, len, a, z)) (hpc : zj pc off = pc') (kk : Ew F al d c s mid pc' ls st M Q) : Ew F al d c s mid pc ls st M Q := by
  subst hpc
  obtain ⟨n, h⟩ := kk
  exact ⟨n + 1, ev_last hF rfl (Or.inr (Or.inr (Or.inl h)))⟩
theorem Ew.tsw {dflt lo hi : Int} {offs : Array Int} {x : Int32} (hF : F mid pc = some (.tableswitch dflt lo hi offs, len, a, z)) (hpc : ztw pc dflt lo hi offs x = pc') (kk : Ew F al d c s mid pc' ls st M Q) : Ew F al d c s mid pc ls (zi x :: st) M Q := by
  subst hpc
  obtain ⟨n, h⟩ := kk
  exact ⟨n + 1, ev_last hF rfl (Or.inr (Or.inr (Or.inl h)))⟩
theorem Ew.ifc {cd : ClassFile.Cond} {off : Int} {x : Int32} {t1 t2 : Nat} (hF : F mid pc = some (.ifCond cd off, len, a, z)) (h1 : zj pc off = t1) (h2 : pc + len = t2) (kt : zcz cd x → Ew F al d c s mid t1 ls st M Q) (kf : ¬ zcz cd x → Ew F al d c s mid t2 ls st M Q) : Ew F al d c s mid pc ls (zi x :: st) M Q := by
  subst h1
  subst h2
  by_cases hc : zcz cd x
  · obtain ⟨n, h⟩ := kt hc
    exact ⟨n + 1, ev_last hF rfl (Or.inr (Or.inr (Or.inl ⟨fun _ => h, fun g => absurd hc g⟩)))⟩
  · obtain ⟨n, h⟩ := kf hc
    exact ⟨n + 1, ev_last hF rfl (Or.inr (Or.inr (Or.inl ⟨fun g => absurd g hc, fun _ => h⟩)))⟩
theorem Ew.icmp {cd : ClassFile.Cond} {off : Int} {x y : Int32} {t1 t2 : Nat} (hF : F mid pc = some (.if_icmp cd off, len, a, z)) (h1 : zj pc off = t1) (h2 : pc + len = t2) (kt : zcc cd x y → Ew F al d c s mid t1 ls st M Q) (kf : ¬ zcc cd x y → Ew F al d c s mid t2 ls st M Q) : Ew F al d c s mid pc ls (zi y :: zi x :: st) M Q := by
  subst h1
  subst h2
  by_cases hc : zcc cd x y
  · obtain ⟨n, h⟩ := kt hc
    exact ⟨n + 1, ev_last hF rfl (Or.inr (Or.inr (Or.inl ⟨fun _ => h, fun g => absurd hc g⟩)))⟩
  · obtain ⟨n, h⟩ := kf hc
    exact ⟨n + 1, ev_last hF rfl (Or.inr (Or.inr (Or.inl ⟨fun g => absurd g hc, fun _ => h⟩)))⟩
theorem ev_call {n : Nat} (hF : F mid pc = some (i, len, a, z)) (hi : zcall i = true) (h : evc F al n d c s mid pc len ls st M Q a) : ev F al (n + 1) d c s mid pc ls st M Q := by
  unfold evc at h
  rw [ev, hF]
  cases i <;> first | exact h | (simp [zcall] at hi)
theorem Ew.nat {mode c' s' : Nat} (hF : F mid pc = some (i, len, [mode], z)) (hi : zcall i = true) (hop : ∀ k : Nat → Nat → List zV → zM → Prop, k c' s' st' M' → znat al mode st M c s k) (hpc : pc + len = pc') (kk : Ew F al (d + 1) c' s' mid pc' ls st' M' Q) : Ew F al (d + 1) c s mid pc ls st M Q := by
  subst hpc
  obtain ⟨n, h⟩ := kk
  exact ⟨n + 1, ev_call hF hi (show evc F al n (d + 1) c s mid pc len ls st M Q [mode] from hop (fun c s st M => ev F al n (d + 1) c s mid (pc + len) ls st M Q) h)⟩
/-- a call: its arguments, the frame that it begins, what comes behind it -/
theorem Ew.call {mode mid' cl na nl bc bs : Nat} {as rest : List zV} {ls0 : List (Option zV)} (hF : F mid pc = some (i, len, [mode, mid', cl, na, nl, bc, bs], z)) (hi : zcall i = true) (hb : bc ≤ c ∧ bs ≤ s) (hna : na ≤ st.length) (hrest : st.drop na = rest) (has : (st.take na).reverse = as) (hcat : zcats rest ≤ 8) (hrec : zrec mode cl as M) (hlen : (zent as).length ≤ nl) (hls : zpad (zent as) nl = ls0) (hpc : pc + len = pc')
    (kk : Ew F al d bc bs mid' 0 ls0 [] M (fun r M' => Ew F al (d + 1) (c - bc) (s - bs) mid pc' ls (zpush r rest) M' Q)) : Ew F al (d + 1) c s mid pc ls st M Q := by
  subst hpc
  subst hls
  subst hrest
  subst has
  obtain ⟨n, h⟩ := kk
  obtain ⟨r, M', ⟨m, h1⟩, h2⟩ := ev_pt h
  refine ⟨max n m + 1, ev_call hF hi ⟨hb.1, hb.2, hna, hcat, hrec, hlen, ?_⟩⟩
  exact ev_le (h2 _ (ev_le h1 (Nat.le_max_right n m))) (Nat.le_max_left n m)
/-- a deeper stack is no harm -/
theorem ev_d : ∀ {n d d' c s mid pc : Nat} {ls : List (Option zV)} {st : List zV} {M : zM} {Q : Option zV → zM → Prop}, ev F al n d c s mid pc ls st M Q → d ≤ d' → ev F al n d' c s mid pc ls st M Q := by
  intro n
  induction n with
  | zero => intro d d' c s mid pc ls st M Q h _; exact h.elim
  | succ n ih =>
    intro d d' c s mid pc ls st M Q h hd
    rw [ev] at h ⊢
    split at h
    · exact h.elim
    · rename_i i len a z hF
      split at h
      · exact ih h hd
      · split at h
        · split at h
          · exact ⟨h.1, ih h.2 hd⟩
          · exact h.elim
        · split at h
          · split at h
            · exact ⟨h.1, h.2.1, ih h.2.2 hd⟩
            · exact h.elim
          · split at h
            · split at h
              · exact ih h hd
              · exact h.elim
            · split at h
              · cases d with
                | zero => exact h.elim
                | succ d =>
                  cases d' with
                  | zero => omega
                  | succ d' =>
                    simp only at h ⊢
                    split at h
                    · obtain ⟨c', s', st', M', h1, h2⟩ := znat_pt h
                      exact h2 (fun c s st M => ev F al n (d' + 1) c s mid (pc + len) ls st M Q) (ih h1 hd)
                    · obtain ⟨g1, g2, g3, g4, g5, g7, g6⟩ := h
                      exact ⟨g1, g2, g3, g4, g5, g7, ev_q (ih g6 (by omega)) (fun r M' h => ih h hd)⟩
                    · exact h.elim
              · rcases h with h | h | h | h
                · obtain ⟨st', M', h1, h2⟩ := zmem_pt h
                  exact Or.inl (h2 (fun st M => ev F al n d' c s mid (pc + len) ls st M Q) (ih h1 hd))
                · obtain ⟨c', s', st', M', h1, h2⟩ := zmk_pt h
                  exact Or.inr (Or.inl (h2 (fun c s st M => ev F al n d' c s mid (pc + len) ls st M Q) (ih h1 hd)))
                · obtain ⟨pc', st', h1, h2⟩ := zbr_pt h
                  exact Or.inr (Or.inr (Or.inl (h2 (fun pc st => ev F al n d' c s mid pc ls st M Q) (ih h1 hd))))
                · exact Or.inr (Or.inr (Or.inr h))
theorem Ew.deep {d' : Nat} (h : Ew F al d c s mid pc ls st M Q) (hd : d ≤ d') : Ew F al d' c s mid pc ls st M Q := by
  obtain ⟨n, h⟩ := h
  exact ⟨n, ev_d h hd⟩
end
