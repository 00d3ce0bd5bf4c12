/-! the reference: who is ahead, loops -/
theorem zorN (u v : Nat) : nI u ||| nI v = nI (u ||| v) := by
  apply Int32.toBitVec_inj.mp
  rw [Int32.toBitVec_or]
  show BitVec.ofNat 32 u ||| BitVec.ofNat 32 v = BitVec.ofNat 32 (u ||| v)
  rw [BitVec.ofNat_or]
/-- rows that a state stands on -/
def zKeep (ρ ρ' : Nat → Nat → Int32) : Prop := ∀ q i, (q ≤ 7 ∨ (10 ≤ q ∧ q ≤ 18)) → (q = 0 → i = 2 ∨ i = 5 ∨ i = 7) → ρ' q i = ρ q i
theorem zKeep.rfl {ρ : Nat → Nat → Int32} : zKeep ρ ρ := fun _ _ _ _ => Eq.refl _
theorem zKeep.trans {ρ ρ' ρ'' : Nat → Nat → Int32} (h : zKeep ρ ρ') (h' : zKeep ρ' ρ'') : zKeep ρ ρ'' := fun q i a b => (h' q i a b).trans (h q i a b)
theorem zKeep.row {ρ ρ' : Nat → Nat → Int32} (h : zKeep ρ ρ') {q : Nat} (h0 : ¬ q = 0) (h1 : q ≤ 7 ∨ (10 ≤ q ∧ q ≤ 18)) : ρ' q = ρ q := funext fun i => h q i h1 (fun e => absurd e h0)
theorem zRef.keep {ρ ρ' : Nat → Nat → Int32} {l l' : Nat → Nat → Int64} {σ : zSt} (h : zRef ρ l σ) (hf : zKeep ρ ρ') (hl : ∀ i, l' 8 i = l 8 i) : zRef ρ' l' σ := by
  obtain ⟨a1, a2, a3, a4, a5, a6⟩ := h
  refine ⟨(hf.row (by decide) (by decide)).trans a1, ?_, ?_, ?_, ?_, ?_⟩
  · unfold rHs at a2 ⊢
    rw [hf 0 2 (by decide) (by decide), hf.row (q := 2) (by decide) (by decide)]
    exact a2
  · unfold rImg at a3 ⊢
    rw [hf 0 5 (by decide) (by decide), hf.row (q := 3) (by decide) (by decide), hf.row (q := 4) (by decide) (by decide)]
    exact a3
  · unfold rTape at a4 ⊢
    rw [hf 0 7 (by decide) (by decide), hf.row (q := 5) (by decide) (by decide)]
    exact a4
  · unfold rShe at a5 ⊢
    have e8 : l' 8 = l 8 := funext hl
    rw [hf.row (q := 6) (by decide) (by decide), hf.row (q := 7) (by decide) (by decide), e8]
    exact a5
  · intro t ht
    have := a6 t ht
    unfold zTrR at this ⊢
    rw [hf.row (q := 10) (by decide) (by decide), hf.row (q := 11) (by decide) (by decide), hf.row (q := 12) (by decide) (by decide), hf.row (q := 13) (by decide) (by decide), hf.row (q := 14) (by decide) (by decide), hf.row (q := 15) (by decide) (by decide), hf.row (q := 16) (by decide) (by decide), hf.row (q := 17) (by decide) (by decide), hf.row (q := 18) (by decide) (by decide)]
    exact this
def rAhC (ρ : Nat → Nat → Int32) (a b t k : Nat) : Prop := ρ 10 (30 * t + k) = 0 ∧ ρ 11 (30 * t + k) = nI b ∧ 0 < rIns ρ t k (nI a) ∧ rIns ρ t k (nI b) = 0
def rAh (ρ : Nat → Nat → Int32) (a b : Nat) : Prop := ¬ a = b ∧ ∃ t, t < 4 ∧ ∃ k, k < rM ρ t ∧ rAhC ρ a b t k
theorem rAhC_ag {ρ ρ' : Nat → Nat → Int32} (h : rAg ρ ρ') {a b t k : Nat} (ht : t < 4) (hk : k < rM ρ t) : rAhC ρ' a b t k ↔ rAhC ρ a b t k := by
  unfold rAhC
  obtain ⟨e1, e2, _⟩ := (h t ht).2.2.1 k hk
  rw [e1, e2, rIns_ag h ht _ k (by omega), rIns_ag h ht _ k (by omega)]
theorem rAh_ag {ρ ρ' : Nat → Nat → Int32} (h : rAg ρ ρ') (a b : Nat) : rAh ρ' a b ↔ rAh ρ a b := by
  unfold rAh
  constructor
  · rintro ⟨n, t, ht, k, hk, g⟩
    rw [(h t ht).2.1] at hk
    exact ⟨n, t, ht, k, hk, (rAhC_ag h ht hk).mp g⟩
  · rintro ⟨n, t, ht, k, hk, g⟩
    exact ⟨n, t, ht, k, by rw [(h t ht).2.1]; exact hk, (rAhC_ag h ht hk).mpr g⟩
theorem g219_0 {d c s : Nat} {a b : Nat} {X : zM} {ρ : Nat → Nat → Int32} {l : Nat → Nat → Int64} {Q : Option zV → zM → Prop}
    (h1 : Ev d c s 219 5 [some (zr (some (1, 0, 0))), some (zi (nI a)), some (zi (nI b)), some (zi (nI 0)), some (zi (nI 0)), none] [] (OM X 1 0 ρ l) Q) : Ev d c s 219 0 [some (zr (some (1, 0, 0))), some (zi (nI a)), some (zi (nI b)), none, none, none] [] (OM X 1 0 ρ l) Q := by
  refine Ew.op (st' := zi (nI 0) :: _) f219_0 rfl rfl ?_
  refine Ew.sr (ls' := [some (zr (some (1, 0, 0))), some (zi (nI a)), some (zi (nI b)), some (zi (nI 0)), none, none]) f219_1 rfl rfl (Nat.le_of_ble_eq_true rfl) rfl rfl ?_
  refine Ew.op (st' := zi (nI 0) :: _) f219_2 rfl rfl ?_
  refine Ew.sr (ls' := [some (zr (some (1, 0, 0))), some (zi (nI a)), some (zi (nI b)), some (zi (nI 0)), some (zi (nI 0)), none]) f219_3 rfl rfl (Nat.le_of_ble_eq_true rfl) rfl rfl ?_
  exact h1
theorem g219_5 {d c s : Nat} {a b t : Nat} {z : Int32} {o5 : Option zV} {X : zM} {ρ : Nat → Nat → Int32} {l : Nat → Nat → Int64} {Q : Option zV → zM → Prop} (nb_t : t < 5000) (nb_a : a < 5000) (nb_b : b < 5000)
    (b1 : (4 ≤ t) → z = 0 ∨ z = 1)
    (h1 : (4 ≤ t) → Q (some (zi z)) (OM X 1 0 ρ l))
    (b2 : (t < 4) → (a = b) → z = 0 ∨ z = 1)
    (h2 : (t < 4) → (a = b) → Q (some (zi z)) (OM X 1 0 ρ l))
    (h3 : (t < 4) → (¬ a = b) → Ev d c s 219 19 [some (zr (some (1, 0, 0))), some (zi (nI a)), some (zi (nI b)), some (zi z), some (zi (nI t)), some (zi (nI 0))] [] (OM X 1 0 ρ l) Q) : Ev d c s 219 5 [some (zr (some (1, 0, 0))), some (zi (nI a)), some (zi (nI b)), some (zi z), some (zi (nI t)), o5] [] (OM X 1 0 ρ l) Q := by
  refine Ew.ld f219_5 rfl rfl rfl rfl ?_
  refine Ew.op (st' := zi (nI 4) :: _) f219_7 rfl rfl ?_
  refine Ew.icmp f219_8 rfl rfl (fun c1 => ?_) (fun c1 => ?_)
  · refine Ew.ld f219_100 rfl rfl rfl rfl ?_
    refine Ew.iretb f219_101 (b1 ((zle_iff (by decide) nb_t).mp c1)) ?_
    exact h1 ((zle_iff (by decide) nb_t).mp c1)
  · refine Ew.ld f219_11 rfl rfl rfl rfl ?_
    refine Ew.ld f219_12 rfl rfl rfl rfl ?_
    refine Ew.icmp f219_13 rfl rfl (fun c2 => ?_) (fun c2 => ?_)
    · refine Ew.ld f219_100 rfl rfl rfl rfl ?_
      refine Ew.iretb f219_101 (b2 (Nat.not_le.mp fun e => c1 ((zle_iff (by decide) nb_t).mpr e)) ((zeq nb_a nb_b).mp c2)) ?_
      exact h2 (Nat.not_le.mp fun e => c1 ((zle_iff (by decide) nb_t).mpr e)) ((zeq nb_a nb_b).mp c2)
    · refine Ew.op (st' := zi (nI 0) :: _) f219_16 rfl rfl ?_
      refine Ew.sr (ls' := [some (zr (some (1, 0, 0))), some (zi (nI a)), some (zi (nI b)), some (zi z), some (zi (nI t)), some (zi (nI 0))]) f219_17 rfl rfl (Nat.le_of_ble_eq_true rfl) rfl rfl ?_
      exact h3 (Nat.not_le.mp fun e => c1 ((zle_iff (by decide) nb_t).mpr e)) (fun e => c2 ((zeq nb_a nb_b).mpr e))
theorem g219_19 {d c s : Nat} {a b t k m : Nat} {z : Int32} {X : zM} {ρ : Nat → Nat → Int32} {l : Nat → Nat → Int64} {Q : Option zV → zM → Prop} (e1 : ρ 13 t = nI m) (nb_k : k < 5000) (nb_m : m < 5000)
    (b1 : t < 4)
    (h1 : (m ≤ k) → Ev (d + 2) c s 219 5 [some (zr (some (1, 0, 0))), some (zi (nI a)), some (zi (nI b)), some (zi z), some (zi (nI (t + 1))), some (zi (nI k))] [] (OM X 1 0 ρ l) Q)
    (h2 : (k < m) → (¬ z = 0) → Ev (d + 2) c s 219 5 [some (zr (some (1, 0, 0))), some (zi (nI a)), some (zi (nI b)), some (zi z), some (zi (nI (t + 1))), some (zi (nI k))] [] (OM X 1 0 ρ l) Q)
    (b2 : (k < m) → (z = 0) → 30 * t + k < 120)
    (h3 : (k < m) → (z = 0) → (¬ (ρ 10 (30 * t + k)) = 0) → Ev (d + 2) c s 219 19 [some (zr (some (1, 0, 0))), some (zi (nI a)), some (zi (nI b)), some (zi (nI 0)), some (zi (nI t)), some (zi (nI (k + 1)))] [] (OM X 1 0 ρ l) Q)
    (b3 : (k < m) → (z = 0) → ((ρ 10 (30 * t + k)) = 0) → 30 * t + k < 120)
    (h4 : (k < m) → (z = 0) → ((ρ 10 (30 * t + k)) = 0) → (¬ (ρ 11 (30 * t + k)) = (nI b)) → Ev (d + 2) c s 219 19 [some (zr (some (1, 0, 0))), some (zi (nI a)), some (zi (nI b)), some (zi (nI 0)), some (zi (nI t)), some (zi (nI (k + 1)))] [] (OM X 1 0 ρ l) Q)
    (b4 : (k < m) → (z = 0) → ((ρ 10 (30 * t + k)) = 0) → ((ρ 11 (30 * t + k)) = (nI b)) → t < 4)
    (b5 : (k < m) → (z = 0) → ((ρ 10 (30 * t + k)) = 0) → ((ρ 11 (30 * t + k)) = (nI b)) → k ≤ 30)
    (h5 : (k < m) → (z = 0) → ((ρ 10 (30 * t + k)) = 0) → ((ρ 11 (30 * t + k)) = (nI b)) → ((rIns ρ t k (nI a)) ≤ 0) → Ev (d + 2) c s 219 19 [some (zr (some (1, 0, 0))), some (zi (nI a)), some (zi (nI b)), some (zi (nI 0)), some (zi (nI t)), some (zi (nI (k + 1)))] [] (OM X 1 0 ρ l) Q)
    (b6 : (k < m) → (z = 0) → ((ρ 10 (30 * t + k)) = 0) → ((ρ 11 (30 * t + k)) = (nI b)) → (0 < (rIns ρ t k (nI a))) → t < 4)
    (b7 : (k < m) → (z = 0) → ((ρ 10 (30 * t + k)) = 0) → ((ρ 11 (30 * t + k)) = (nI b)) → (0 < (rIns ρ t k (nI a))) → k ≤ 30)
    (h6 : (k < m) → (z = 0) → ((ρ 10 (30 * t + k)) = 0) → ((ρ 11 (30 * t + k)) = (nI b)) → (0 < (rIns ρ t k (nI a))) → (¬ (rIns ρ t k (nI b)) = 0) → Ev (d + 2) c s 219 19 [some (zr (some (1, 0, 0))), some (zi (nI a)), some (zi (nI b)), some (zi (nI 0)), some (zi (nI t)), some (zi (nI (k + 1)))] [] (OM X 1 0 ρ l) Q)
    (h7 : (k < m) → (z = 0) → ((ρ 10 (30 * t + k)) = 0) → ((ρ 11 (30 * t + k)) = (nI b)) → (0 < (rIns ρ t k (nI a))) → ((rIns ρ t k (nI b)) = 0) → Ev (d + 2) c s 219 19 [some (zr (some (1, 0, 0))), some (zi (nI a)), some (zi (nI b)), some (zi (nI 1)), some (zi (nI t)), some (zi (nI (k + 1)))] [] (OM X 1 0 ρ l) Q) : Ev (d + 2) c s 219 19 [some (zr (some (1, 0, 0))), some (zi (nI a)), some (zi (nI b)), some (zi z), some (zi (nI t)), some (zi (nI k))] [] (OM X 1 0 ρ l) Q := by
  refine Ew.ld f219_19 rfl rfl rfl rfl ?_
  refine Ew.ld f219_21 rfl rfl rfl rfl ?_
  refine Ew.getp (v := some (1, 0, 13)) f219_22 rfl rfl rfl ?_
  refine Ew.ld f219_25 rfl rfl rfl rfl ?_
  refine Ew.ialdnV (v := nI m) f219_27 rfl b1 (Nat.le_of_ble_eq_true rfl) rfl (so_v e1) ?_
  refine Ew.icmp f219_28 rfl rfl (fun c1 => ?_) (fun c1 => ?_)
  · refine Ew.iinc (v := nI (t + 1)) (ls' := [some (zr (some (1, 0, 0))), some (zi (nI a)), some (zi (nI b)), some (zi z), some (zi (nI (t + 1))), some (zi (nI k))]) f219_94 rfl (nI_1 _) rfl rfl ?_
    refine Ew.goto f219_97 rfl ?_
    exact h1 ((zle_iff nb_m nb_k).mp c1)
  · refine Ew.ld f219_31 rfl rfl rfl rfl ?_
    refine Ew.ifc f219_32 rfl rfl (fun c2 => ?_) (fun c2 => ?_)
    · refine Ew.iinc (v := nI (t + 1)) (ls' := [some (zr (some (1, 0, 0))), some (zi (nI a)), some (zi (nI b)), some (zi z), some (zi (nI (t + 1))), some (zi (nI k))]) f219_94 rfl (nI_1 _) rfl rfl ?_
      refine Ew.goto f219_97 rfl ?_
      exact h2 (Nat.not_le.mp fun e => c1 ((zle_iff nb_m nb_k).mpr e)) c2
    · refine Ew.ld f219_35 rfl rfl rfl rfl ?_
      refine Ew.ld f219_36 rfl rfl rfl rfl ?_
      refine Ew.ld f219_38 rfl rfl rfl rfl ?_
      refine Ew.call0 (ls0 := [some (zr (some (1, 0, 0))), some (zi (nI t)), some (zi (nI k))]) f219_40 rfl (Nat.le_of_ble_eq_true rfl) rfl rfl (Nat.le_of_ble_eq_true rfl) rfl (Nat.le_of_ble_eq_true rfl) rfl rfl ?_
      refine Ew.ld f170_0 rfl rfl rfl rfl ?_
      refine Ew.getp (v := some (1, 0, 10)) f170_1 rfl rfl rfl ?_
      refine Ew.op (st' := zi (nI 30) :: _) f170_4 rfl rfl ?_
      refine Ew.ld f170_6 rfl rfl rfl rfl ?_
      refine Ew.muln f170_7 rfl ?_
      refine Ew.ld f170_8 rfl rfl rfl rfl ?_
      refine Ew.addn f170_9 rfl ?_
      refine Ew.ialdnO f170_10 rfl (b2 (Nat.not_le.mp fun e => c1 ((zle_iff nb_m nb_k).mpr e)) (Classical.not_not.mp c2)) (Nat.le_of_ble_eq_true rfl) rfl ?_
      refine Ew.ireti f170_11 ?_
      show Ev (d + 2) c s 219 43 [some (zr (some (1, 0, 0))), some (zi (nI a)), some (zi (nI b)), some (zi z), some (zi (nI t)), some (zi (nI k))] [zi (ρ 10 (30 * t + k))] (OM X 1 0 ρ l) Q
      refine Ew.ifc f219_43 rfl rfl (fun c3 => ?_) (fun c3 => ?_)
      · refine Ew.op (st' := zi (nI 0) :: _) f219_86 rfl rfl ?_
        refine Ew.sr (ls' := [some (zr (some (1, 0, 0))), some (zi (nI a)), some (zi (nI b)), some (zi (nI 0)), some (zi (nI t)), some (zi (nI k))]) f219_87 rfl rfl (Nat.le_of_ble_eq_true rfl) rfl rfl ?_
        refine Ew.iinc (v := nI (k + 1)) (ls' := [some (zr (some (1, 0, 0))), some (zi (nI a)), some (zi (nI b)), some (zi (nI 0)), some (zi (nI t)), some (zi (nI (k + 1)))]) f219_88 rfl (nI_1 _) rfl rfl ?_
        refine Ew.goto f219_91 rfl ?_
        exact h3 (Nat.not_le.mp fun e => c1 ((zle_iff nb_m nb_k).mpr e)) (Classical.not_not.mp c2) c3
      · refine Ew.ld f219_46 rfl rfl rfl rfl ?_
        refine Ew.ld f219_47 rfl rfl rfl rfl ?_
        refine Ew.ld f219_49 rfl rfl rfl rfl ?_
        refine Ew.call0 (ls0 := [some (zr (some (1, 0, 0))), some (zi (nI t)), some (zi (nI k))]) f219_51 rfl (Nat.le_of_ble_eq_true rfl) rfl rfl (Nat.le_of_ble_eq_true rfl) rfl (Nat.le_of_ble_eq_true rfl) rfl rfl ?_
        refine Ew.ld f171_0 rfl rfl rfl rfl ?_
        refine Ew.getp (v := some (1, 0, 11)) f171_1 rfl rfl rfl ?_
        refine Ew.op (st' := zi (nI 30) :: _) f171_4 rfl rfl ?_
        refine Ew.ld f171_6 rfl rfl rfl rfl ?_
        refine Ew.muln f171_7 rfl ?_
        refine Ew.ld f171_8 rfl rfl rfl rfl ?_
        refine Ew.addn f171_9 rfl ?_
        refine Ew.ialdnO f171_10 rfl (b3 (Nat.not_le.mp fun e => c1 ((zle_iff nb_m nb_k).mpr e)) (Classical.not_not.mp c2) (Classical.not_not.mp c3)) (Nat.le_of_ble_eq_true rfl) rfl ?_
        refine Ew.ireti f171_11 ?_
        show Ev (d + 2) c s 219 54 [some (zr (some (1, 0, 0))), some (zi (nI a)), some (zi (nI b)), some (zi z), some (zi (nI t)), some (zi (nI k))] [zi (ρ 11 (30 * t + k))] (OM X 1 0 ρ l) Q
        refine Ew.ld f219_54 rfl rfl rfl rfl ?_
        refine Ew.icmp f219_55 rfl rfl (fun c4 => ?_) (fun c4 => ?_)
        · refine Ew.op (st' := zi (nI 0) :: _) f219_86 rfl rfl ?_
          refine Ew.sr (ls' := [some (zr (some (1, 0, 0))), some (zi (nI a)), some (zi (nI b)), some (zi (nI 0)), some (zi (nI t)), some (zi (nI k))]) f219_87 rfl rfl (Nat.le_of_ble_eq_true rfl) rfl rfl ?_
          refine Ew.iinc (v := nI (k + 1)) (ls' := [some (zr (some (1, 0, 0))), some (zi (nI a)), some (zi (nI b)), some (zi (nI 0)), some (zi (nI t)), some (zi (nI (k + 1)))]) f219_88 rfl (nI_1 _) rfl rfl ?_
          refine Ew.goto f219_91 rfl ?_
          exact h4 (Nat.not_le.mp fun e => c1 ((zle_iff nb_m nb_k).mpr e)) (Classical.not_not.mp c2) (Classical.not_not.mp c3) c4
        · refine Ew.ld f219_58 rfl rfl rfl rfl ?_
          refine Ew.ld f219_59 rfl rfl rfl rfl ?_
          refine Ew.ld f219_61 rfl rfl rfl rfl ?_
          refine Ew.ld f219_63 rfl rfl rfl rfl ?_
          refine Ew.call0 (ls0 := [some (zr (some (1, 0, 0))), some (zi (nI t)), some (zi (nI k)), some (zi (nI a)), none, none]) f219_64 rfl (Nat.le_of_ble_eq_true rfl) rfl rfl (Nat.le_of_ble_eq_true rfl) rfl (Nat.le_of_ble_eq_true rfl) rfl rfl ?_
          refine sp_insides (b4 (Nat.not_le.mp fun e => c1 ((zle_iff nb_m nb_k).mpr e)) (Classical.not_not.mp c2) (Classical.not_not.mp c3) (Classical.not_not.mp c4)) (b5 (Nat.not_le.mp fun e => c1 ((zle_iff nb_m nb_k).mpr e)) (Classical.not_not.mp c2) (Classical.not_not.mp c3) (Classical.not_not.mp c4)) ?_
          show Ev (d + 2) c s 219 67 [some (zr (some (1, 0, 0))), some (zi (nI a)), some (zi (nI b)), some (zi z), some (zi (nI t)), some (zi (nI k))] [zi (rIns ρ t k (nI a))] (OM X 1 0 ρ l) Q
          refine Ew.ifc f219_67 rfl rfl (fun c5 => ?_) (fun c5 => ?_)
          · refine Ew.op (st' := zi (nI 0) :: _) f219_86 rfl rfl ?_
            refine Ew.sr (ls' := [some (zr (some (1, 0, 0))), some (zi (nI a)), some (zi (nI b)), some (zi (nI 0)), some (zi (nI t)), some (zi (nI k))]) f219_87 rfl rfl (Nat.le_of_ble_eq_true rfl) rfl rfl ?_
            refine Ew.iinc (v := nI (k + 1)) (ls' := [some (zr (some (1, 0, 0))), some (zi (nI a)), some (zi (nI b)), some (zi (nI 0)), some (zi (nI t)), some (zi (nI (k + 1)))]) f219_88 rfl (nI_1 _) rfl rfl ?_
            refine Ew.goto f219_91 rfl ?_
            exact h5 (Nat.not_le.mp fun e => c1 ((zle_iff nb_m nb_k).mpr e)) (Classical.not_not.mp c2) (Classical.not_not.mp c3) (Classical.not_not.mp c4) c5
          · refine Ew.ld f219_70 rfl rfl rfl rfl ?_
            refine Ew.ld f219_71 rfl rfl rfl rfl ?_
            refine Ew.ld f219_73 rfl rfl rfl rfl ?_
            refine Ew.ld f219_75 rfl rfl rfl rfl ?_
            refine Ew.call0 (ls0 := [some (zr (some (1, 0, 0))), some (zi (nI t)), some (zi (nI k)), some (zi (nI b)), none, none]) f219_76 rfl (Nat.le_of_ble_eq_true rfl) rfl rfl (Nat.le_of_ble_eq_true rfl) rfl (Nat.le_of_ble_eq_true rfl) rfl rfl ?_
            refine sp_insides (b6 (Nat.not_le.mp fun e => c1 ((zle_iff nb_m nb_k).mpr e)) (Classical.not_not.mp c2) (Classical.not_not.mp c3) (Classical.not_not.mp c4) (Int32.not_le.mp c5)) (b7 (Nat.not_le.mp fun e => c1 ((zle_iff nb_m nb_k).mpr e)) (Classical.not_not.mp c2) (Classical.not_not.mp c3) (Classical.not_not.mp c4) (Int32.not_le.mp c5)) ?_
            show Ev (d + 2) c s 219 79 [some (zr (some (1, 0, 0))), some (zi (nI a)), some (zi (nI b)), some (zi z), some (zi (nI t)), some (zi (nI k))] [zi (rIns ρ t k (nI b))] (OM X 1 0 ρ l) Q
            refine Ew.ifc f219_79 rfl rfl (fun c6 => ?_) (fun c6 => ?_)
            · refine Ew.op (st' := zi (nI 0) :: _) f219_86 rfl rfl ?_
              refine Ew.sr (ls' := [some (zr (some (1, 0, 0))), some (zi (nI a)), some (zi (nI b)), some (zi (nI 0)), some (zi (nI t)), some (zi (nI k))]) f219_87 rfl rfl (Nat.le_of_ble_eq_true rfl) rfl rfl ?_
              refine Ew.iinc (v := nI (k + 1)) (ls' := [some (zr (some (1, 0, 0))), some (zi (nI a)), some (zi (nI b)), some (zi (nI 0)), some (zi (nI t)), some (zi (nI (k + 1)))]) f219_88 rfl (nI_1 _) rfl rfl ?_
              refine Ew.goto f219_91 rfl ?_
              exact h6 (Nat.not_le.mp fun e => c1 ((zle_iff nb_m nb_k).mpr e)) (Classical.not_not.mp c2) (Classical.not_not.mp c3) (Classical.not_not.mp c4) (Int32.not_le.mp c5) c6
            · refine Ew.op (st' := zi (nI 1) :: _) f219_82 rfl rfl ?_
              refine Ew.goto f219_83 rfl ?_
              refine Ew.sr (ls' := [some (zr (some (1, 0, 0))), some (zi (nI a)), some (zi (nI b)), some (zi (nI 1)), some (zi (nI t)), some (zi (nI k))]) f219_87 rfl rfl (Nat.le_of_ble_eq_true rfl) rfl rfl ?_
              refine Ew.iinc (v := nI (k + 1)) (ls' := [some (zr (some (1, 0, 0))), some (zi (nI a)), some (zi (nI b)), some (zi (nI 1)), some (zi (nI t)), some (zi (nI (k + 1)))]) f219_88 rfl (nI_1 _) rfl rfl ?_
              refine Ew.goto f219_91 rfl ?_
              exact h7 (Nat.not_le.mp fun e => c1 ((zle_iff nb_m nb_k).mpr e)) (Classical.not_not.mp c2) (Classical.not_not.mp c3) (Classical.not_not.mp c4) (Int32.not_le.mp c5) (Classical.not_not.mp c6)
theorem sp_isAhead {d c s a b : Nat} {X : zM} {ρ : Nat → Nat → Int32} {l : Nat → Nat → Int64} {Q : Option zV → zM → Prop} (ha : a < 6) (hb : b < 6) (hT : rTr ρ) (k1 : rAh ρ a b → Q (some (zi (nI 1))) (OM X 1 0 ρ l)) (k0 : ¬ rAh ρ a b → Q (some (zi (nI 0))) (OM X 1 0 ρ l)) : Ev (d + 2) c s 219 0 [some (zr (some (1, 0, 0))), some (zi (nI a)), some (zi (nI b)), none, none, none] [] (OM X 1 0 ρ l) Q := by
  refine g219_0 ?_
  by_cases hab : a = b
  · have k0 := k0 (fun g => g.1 hab)
    exact g219_5 (by decide) (by omega) (by omega) (fun _ => Or.inl rfl) (fun _ => k0) (fun _ _ => Or.inl rfl) (fun _ _ => k0) (fun _ g => absurd hab g)
  · -- one is found
    have yes : rAh ρ a b → ∀ j t (o5 : Option zV), t + j = 4 → Ev (d + 2) c s 219 5 [some (zr (some (1, 0, 0))), some (zi (nI a)), some (zi (nI b)), some (zi (nI 1)), some (zi (nI t)), o5] [] (OM X 1 0 ρ l) Q := by
      intro h j
      induction j with
      | zero => intro t o5 ht; exact g219_5 (by omega) (by omega) (by omega) (fun _ => Or.inr rfl) (fun _ => k1 h) (fun _ _ => Or.inr rfl) (fun _ _ => k1 h) (fun g => by omega)
      | succ j ih =>
        intro t o5 ht
        have hm := hT t (by omega)
        refine g219_5 (by omega) (by omega) (by omega) (fun _ => Or.inr rfl) (fun _ => k1 h) (fun _ _ => Or.inr rfl) (fun _ _ => k1 h) (fun _ _ => ?_)
        exact g219_19 hm.1 (by decide) (by omega) (by omega) (fun _ => ih _ _ (by omega)) (fun _ _ => ih _ _ (by omega)) (fun _ g => absurd g (by decide)) (fun _ g => absurd g (by decide)) (fun _ g => absurd g (by decide)) (fun _ g => absurd g (by decide)) (fun _ g => absurd g (by decide)) (fun _ g => absurd g (by decide)) (fun _ g => absurd g (by decide)) (fun _ g => absurd g (by decide)) (fun _ g => absurd g (by decide)) (fun _ g => absurd g (by decide)) (fun _ g => absurd g (by decide))
    have no : ∀ j t (o5 : Option zV), t + j = 4 → (∀ u, u < t → ∀ k, k < rM ρ u → ¬ rAhC ρ a b u k) → Ev (d + 2) c s 219 5 [some (zr (some (1, 0, 0))), some (zi (nI a)), some (zi (nI b)), some (zi (nI 0)), some (zi (nI t)), o5] [] (OM X 1 0 ρ l) Q := by
      intro j
      induction j with
      | zero =>
        intro t o5 ht hu
        have k0 := k0 (fun ⟨_, u, hu4, k, hk, g⟩ => hu u (by omega) k hk g)
        exact g219_5 (by omega) (by omega) (by omega) (fun _ => Or.inl rfl) (fun _ => k0) (fun _ _ => Or.inl rfl) (fun _ _ => k0) (fun g => by omega)
      | succ j ih =>
        intro t o5 ht hu
        obtain ⟨m1, m2, m3⟩ := hT t (by omega)
        refine g219_5 (by omega) (by omega) (by omega) (fun g => by omega) (fun g => by omega) (fun _ g => absurd g hab) (fun _ g => absurd g hab) (fun _ _ => ?_)
        have inner : ∀ r k, k + r = rM ρ t → (∀ v, v < k → ¬ rAhC ρ a b t v) → Ev (d + 2) c s 219 19 [some (zr (some (1, 0, 0))), some (zi (nI a)), some (zi (nI b)), some (zi (nI 0)), some (zi (nI t)), some (zi (nI k))] [] (OM X 1 0 ρ l) Q := by
          intro r
          induction r with
          | zero =>
            intro k hk hv
            refine g219_19 m1 (by omega) (by omega) (by omega) (fun _ => ih (t + 1) _ (by omega) (fun u hu' v hv' => ?_)) (fun g => by omega) (fun g => by omega) (fun g => by omega) (fun g => by omega) (fun g => by omega) (fun g => by omega) (fun g => by omega) (fun g => by omega) (fun g => by omega) (fun g => by omega) (fun g => by omega) (fun g => by omega)
            by_cases e : u = t
            · subst e
              exact hv v (by omega)
            · exact hu u (by omega) v hv'
          | succ r ihr =>
            intro k hk hv
            have nxt : ¬ rAhC ρ a b t k → Ev (d + 2) c s 219 19 [some (zr (some (1, 0, 0))), some (zi (nI a)), some (zi (nI b)), some (zi (nI 0)), some (zi (nI t)), some (zi (nI (k + 1)))] [] (OM X 1 0 ρ l) Q := by
              intro hn
              refine ihr (k + 1) (by omega) (fun v hv' => ?_)
              by_cases e : v = k
              · subst e; exact hn
              · exact hv v (by omega)
            refine g219_19 m1 (by omega) (by omega) (by omega) (fun g => by omega) (fun _ g => absurd rfl g) (fun _ _ => by omega) (fun _ _ g1 => nxt (fun g => g1 g.1)) (fun _ _ _ => by omega) (fun _ _ _ g2 => nxt (fun g => g2 g.2.1)) (fun _ _ _ _ => by omega) (fun _ _ _ _ => by omega) (fun _ _ _ _ g3 => nxt (fun g => absurd g.2.2.1 (Int32.not_lt.mpr g3))) (fun _ _ _ _ _ => by omega) (fun _ _ _ _ _ => by omega) (fun _ _ _ _ _ g4 => nxt (fun g => g4 g.2.2.2)) (fun _ _ g1 g2 g3 g4 => ?_)
            have hA : rAh ρ a b := ⟨hab, t, by omega, k, by omega, g1, g2, g3, g4⟩
            -- found: this row ends
            by_cases hlast : k + 1 < rM ρ t
            · exact g219_19 m1 (by omega) (by omega) (by omega) (fun g => by omega) (fun _ _ => yes hA j (t + 1) _ (by omega)) (fun _ g => absurd g (by decide)) (fun _ g => absurd g (by decide)) (fun _ g => absurd g (by decide)) (fun _ g => absurd g (by decide)) (fun _ g => absurd g (by decide)) (fun _ g => absurd g (by decide)) (fun _ g => absurd g (by decide)) (fun _ g => absurd g (by decide)) (fun _ g => absurd g (by decide)) (fun _ g => absurd g (by decide)) (fun _ g => absurd g (by decide))
            · exact g219_19 m1 (by omega) (by omega) (by omega) (fun _ => yes hA j (t + 1) _ (by omega)) (fun g => by omega) (fun g => by omega) (fun g => by omega) (fun g => by omega) (fun g => by omega) (fun g => by omega) (fun g => by omega) (fun g => by omega) (fun g => by omega) (fun g => by omega) (fun g => by omega) (fun g => by omega)
        exact inner (rM ρ t) 0 (by omega) (fun v hv => absurd hv (Nat.not_lt_zero v))
    exact no 4 0 _ (by omega) (fun u hu => absurd hu (Nat.not_lt_zero u))
theorem g220_0 {d c s : Nat} {x y : Int32} {X : zM} {ρ : Nat → Nat → Int32} {l : Nat → Nat → Int64} {Q : Option zV → zM → Prop}
    (h1 : (lN 0 ≤ x.toInt64 ∧ x.toInt64 ≤ lN 5) → (lN 0 ≤ y.toInt64 ∧ y.toInt64 ≤ lN 5) → Ev (d + 2) c s 220 14 [some (zr (some (1, 0, 0))), some (zi x), some (zi y)] [] (OM X 1 0 ρ l) Q)
    (h2 : (lN 0 ≤ x.toInt64 ∧ x.toInt64 ≤ lN 5) → (¬ (lN 0 ≤ y.toInt64 ∧ y.toInt64 ≤ lN 5)) → Q (some (zi ((-1)))) (OM X 1 0 ρ l))
    (h3 : (¬ (lN 0 ≤ x.toInt64 ∧ x.toInt64 ≤ lN 5)) → Q (some (zi ((-1)))) (OM X 1 0 ρ l)) : Ev (d + 2) c s 220 0 [some (zr (some (1, 0, 0))), some (zi x), some (zi y)] [] (OM X 1 0 ρ l) Q := by
  refine Ew.ld f220_0 rfl rfl rfl rfl ?_
  refine Ew.call0 (ls0 := [some (zi x)]) f220_1 rfl (Nat.le_of_ble_eq_true rfl) rfl rfl (Nat.le_of_ble_eq_true rfl) trivial (Nat.le_of_ble_eq_true rfl) rfl rfl ?_
  refine sp_isGate (fun c1 => ?_) (fun c1 => ?_)
  · refine Ew.ifc f220_4 rfl rfl (fun h => absurd h (show ¬ (((nI 1) : Int32) = 0) by decide)) (fun _ => ?_)
    refine Ew.ld f220_7 rfl rfl rfl rfl ?_
    refine Ew.call0 (ls0 := [some (zi y)]) f220_8 rfl (Nat.le_of_ble_eq_true rfl) rfl rfl (Nat.le_of_ble_eq_true rfl) trivial (Nat.le_of_ble_eq_true rfl) rfl rfl ?_
    refine sp_isGate (fun c2 => ?_) (fun c2 => ?_)
    · refine Ew.ifc f220_11 rfl rfl (fun h => absurd h (show ¬ (((nI 1) : Int32) = 0) by decide)) (fun _ => ?_)
      exact h1 c1 c2
    · refine Ew.ifc f220_11 rfl rfl (fun _ => ?_) (fun h => absurd (show ((nI 0) : Int32) = 0 by decide) h)
      refine Ew.op (st' := zi ((-1)) :: _) f220_19 rfl rfl ?_
      refine Ew.ireti f220_20 ?_
      exact h2 c1 c2
  · refine Ew.ifc f220_4 rfl rfl (fun _ => ?_) (fun h => absurd (show ((nI 0) : Int32) = 0 by decide) h)
    refine Ew.op (st' := zi ((-1)) :: _) f220_19 rfl rfl ?_
    refine Ew.ireti f220_20 ?_
    exact h3 c1
theorem g220_14 {d c s : Nat} {a b : Nat} {X : zM} {ρ : Nat → Nat → Int32} {l : Nat → Nat → Int64} {Q : Option zV → zM → Prop} (nb_a : a < 5000) (nb_b : b < 5000)
    (h1 : (¬ a = b) → Ev d 0 0 219 0 [some (zr (some (1, 0, 0))), some (zi (nI a)), some (zi (nI b)), none, none, none] [] (OM X 1 0 ρ l) (fun r M' => Ev (d + 1) c s 220 27 [some (zr (some (1, 0, 0))), some (zi (nI a)), some (zi (nI b))] (zpush r []) M' Q))
    (h2 : (a = b) → Q (some (zi ((-1)))) (OM X 1 0 ρ l)) : Ev (d + 1) c s 220 14 [some (zr (some (1, 0, 0))), some (zi (nI a)), some (zi (nI b))] [] (OM X 1 0 ρ l) Q := by
  refine Ew.ld f220_14 rfl rfl rfl rfl ?_
  refine Ew.ld f220_15 rfl rfl rfl rfl ?_
  refine Ew.icmp f220_16 rfl rfl (fun c1 => ?_) (fun c1 => ?_)
  · refine Ew.ld f220_21 rfl rfl rfl rfl ?_
    refine Ew.ld f220_22 rfl rfl rfl rfl ?_
    refine Ew.ld f220_23 rfl rfl rfl rfl ?_
    refine Ew.call0 (ls0 := [some (zr (some (1, 0, 0))), some (zi (nI a)), some (zi (nI b)), none, none, none]) f220_24 rfl (Nat.le_of_ble_eq_true rfl) rfl rfl (Nat.le_of_ble_eq_true rfl) rfl (Nat.le_of_ble_eq_true rfl) rfl rfl ?_
    exact h1 (fun e => c1 ((zeq nb_a nb_b).mpr e))
  · refine Ew.op (st' := zi ((-1)) :: _) f220_19 rfl rfl ?_
    refine Ew.ireti f220_20 ?_
    exact h2 ((zeq nb_a nb_b).mp (Classical.not_not.mp c1))
theorem g220_27 {d c s : Nat} {a b : Nat} {X : zM} {ρ : Nat → Nat → Int32} {l : Nat → Nat → Int64} {Q : Option zV → zM → Prop}
    (h1 : Q (some (zi (nI 1))) (OM X 1 0 ρ l)) : Ev d c s 220 27 [some (zr (some (1, 0, 0))), some (zi (nI a)), some (zi (nI b))] [zi (nI 1)] (OM X 1 0 ρ l) Q := by
  refine Ew.ifc f220_27 rfl rfl (fun h => absurd h (show ¬ (((nI 1) : Int32) = 0) by decide)) (fun _ => ?_)
  refine Ew.op (st' := zi (nI 1) :: _) f220_30 rfl rfl ?_
  refine Ew.goto f220_31 rfl ?_
  refine Ew.ireti f220_35 ?_
  exact h1
theorem g220_27z {d c s : Nat} {a b : Nat} {X : zM} {ρ : Nat → Nat → Int32} {l : Nat → Nat → Int64} {Q : Option zV → zM → Prop}
    (h1 : Q (some (zi (nI 0))) (OM X 1 0 ρ l)) : Ev d c s 220 27 [some (zr (some (1, 0, 0))), some (zi (nI a)), some (zi (nI b))] [zi (nI 0)] (OM X 1 0 ρ l) Q := by
  refine Ew.ifc f220_27 rfl rfl (fun _ => ?_) (fun h => absurd (show ((nI 0) : Int32) = 0 by decide) h)
  refine Ew.op (st' := zi (nI 0) :: _) f220_34 rfl rfl ?_
  refine Ew.ireti f220_35 ?_
  exact h1
noncomputable def aAhead (σ : zSt) (x y : Int32) : Int32 := match aIx x 6, aIx y 6 with
  | some a, some b => if a = b then -1 else @ite Int32 (rAh (tτ σ.w) a b) (Classical.propDecidable _) (nI 1) (nI 0)
  | _, _ => -1
theorem rp_ahead {d c s B : Nat} {x y : Int32} {σ : zSt} {X : zM} {ρ : Nat → Nat → Int32} {l : Nat → Nat → Int64} {Q : Option zV → zM → Prop} (hG : zGood B σ) (hR : zRef ρ l σ) (k : Q (some (zi (aAhead σ x y))) (OM X 1 0 ρ l)) : Ev (d + 3) c s 220 0 [some (zr (some (1, 0, 0))), some (zi x), some (zi y)] [] (OM X 1 0 ρ l) Q := by
  have hTx := hG.1.2.1
  have hT := rTr_of hTx hR.2.2.2.2.2
  have hA := rAg_τ hTx hR.2.2.2.2.2
  unfold aAhead at k
  refine g220_0 (fun h hy => ?_) (fun h hy => ?_) (fun h => ?_)
  · obtain ⟨a, ha, rfl⟩ := zrangeL (by decide) h
    obtain ⟨b, hb, rfl⟩ := zrangeL (by decide) hy
    have ha : a < 6 := ha
    have hb : b < 6 := hb
    rw [aIx_some ha (by decide), aIx_some hb (by decide)] at k
    simp only [] at k
    refine g220_14 (by omega) (by omega) (fun g => ?_) (fun g => ?_)
    · rw [if_neg g] at k
      refine sp_isAhead ha hb hT (fun hh => g220_27 ?_) (fun hh => g220_27z ?_)
      · rw [if_pos ((rAh_ag hA a b).mpr hh)] at k
        exact k
      · rw [if_neg (fun e => hh ((rAh_ag hA a b).mp e))] at k
        exact k
    · rw [if_pos g] at k
      exact k
  · obtain ⟨a, ha, rfl⟩ := zrangeL (by decide) h
    rw [aIx_some (N := 6) ha (by decide), zrangeN (m := 5) (by decide) hy] at k
    exact k
  · rw [zrangeN (m := 5) (by decide) h] at k
    exact k
/-- gates that one is ahead of, of the first ones, as a number -/
noncomputable def rBeN (ρ : Nat → Nat → Int32) (a : Nat) : Nat → Nat
  | 0 => 0
  | b + 1 => rBeN ρ a b + @ite Nat (rAh ρ a b) (Classical.propDecidable _) (2 ^ b) 0
theorem rBeN_lt (ρ : Nat → Nat → Int32) (a : Nat) : ∀ n, rBeN ρ a n < 2 ^ n := by
  intro n
  induction n with
  | zero => exact Nat.lt_succ_self 0
  | succ n ih =>
    unfold rBeN
    have h2 : 2 ^ (n + 1) = 2 ^ n + 2 ^ n := by rw [Nat.pow_succ]; omega
    by_cases h : rAh ρ a n
    · rw [if_pos h]; omega
    · rw [if_neg h]; omega
theorem rBeN_ag {ρ ρ' : Nat → Nat → Int32} (h : rAg ρ ρ') (a n : Nat) : rBeN ρ' a n = rBeN ρ a n := by
  induction n with
  | zero => rfl
  | succ n ih =>
    unfold rBeN
    rw [ih]
    by_cases g : rAh ρ a n
    · rw [if_pos g, if_pos ((rAh_ag h a n).mpr g)]
    · rw [if_neg g, if_neg (fun e => g ((rAh_ag h a n).mp e))]
/-- sets of gates: what lies behind a set; by how many gates one comes back -/
def lNx (B : Nat → Nat) (z : Nat) : Nat → Nat
  | 0 => 0
  | h + 1 => lNx B z h ||| if z.testBit h = true then B h else 0
def lLoF (B : Nat → Nat) (g : Nat) : Nat → Nat → Nat → Nat
  | 0, _, _ => 0
  | f + 1, n, z => if (lNx B z 6).testBit g = true then n else lLoF B g f (n + 1) (lNx B z 6)
def lLo (B : Nat → Nat) (g : Nat) : Nat := lLoF B g 6 1 (2 ^ g)
def lLe (B : Nat → Nat) : Nat → Int32
  | 0 => -4
  | g + 1 => if lLo B g = 0 then lLe B g else if lLe B g < 0 then nI (lLo B g) else if nI (lLo B g) < lLe B g then nI (lLo B g) else lLe B g
def lSe (B : Nat → Nat) : Nat → Nat
  | 0 => 0
  | g + 1 => lSe B g + if lLo B g = 0 then 0 else 2 ^ g
theorem or_lt64 {u v : Nat} (hu : u < 64) (hv : v < 64) : u ||| v < 64 := Nat.or_lt_two_pow (n := 6) hu hv
theorem lNx_lt {B : Nat → Nat} (hB : ∀ h, h < 6 → B h < 64) (z : Nat) : ∀ n, n ≤ 6 → lNx B z n < 64 := by
  intro n
  induction n with
  | zero => intro _; exact (by decide : 0 < 64)
  | succ n ih =>
    intro hn
    unfold lNx
    refine or_lt64 (ih (by omega)) ?_
    split
    · exact hB n (by omega)
    · decide
theorem lLoF_le (B : Nat → Nat) (g : Nat) : ∀ f n z, lLoF B g f n z < n + f + 1 := by
  intro f
  induction f with
  | zero => intro n z; show 0 < _; omega
  | succ f ih =>
    intro n z
    unfold lLoF
    split
    · omega
    · have := ih (n + 1) (lNx B z 6)
      omega
theorem lSe_lt (B : Nat → Nat) : ∀ n, lSe B n < 2 ^ n := by
  intro n
  induction n with
  | zero => exact Nat.lt_succ_self 0
  | succ n ih =>
    unfold lSe
    have h2 : 2 ^ (n + 1) = 2 ^ n + 2 ^ n := by rw [Nat.pow_succ]; omega
    split <;> omega
theorem g221_0 {d c s : Nat} {g : Nat} {X : zM} {ρ : Nat → Nat → Int32} {l : Nat → Nat → Int64} {Q : Option zV → zM → Prop}
    (h1 : Ev d c s 221 6 [some (zr (some (1, 0, 0))), some (zi (nI g)), some (zi ((nI 1) <<< ((nI g) &&& 31))), some (zi (nI 1)), none, none] [] (OM X 1 0 ρ l) Q) : Ev d c s 221 0 [some (zr (some (1, 0, 0))), some (zi (nI g)), none, none, none, none] [] (OM X 1 0 ρ l) Q := by
  refine Ew.op (st' := zi (nI 1) :: _) f221_0 rfl rfl ?_
  refine Ew.ld f221_1 rfl rfl rfl rfl ?_
  refine Ew.op (st' := zi ((nI 1) <<< ((nI g) &&& 31)) :: _) f221_2 rfl rfl ?_
  refine Ew.sr (ls' := [some (zr (some (1, 0, 0))), some (zi (nI g)), some (zi ((nI 1) <<< ((nI g) &&& 31))), none, none, none]) f221_3 rfl rfl (Nat.le_of_ble_eq_true rfl) rfl rfl ?_
  refine Ew.op (st' := zi (nI 1) :: _) f221_4 rfl rfl ?_
  refine Ew.sr (ls' := [some (zr (some (1, 0, 0))), some (zi (nI g)), some (zi ((nI 1) <<< ((nI g) &&& 31))), some (zi (nI 1)), none, none]) f221_5 rfl rfl (Nat.le_of_ble_eq_true rfl) rfl rfl ?_
  exact h1
theorem g221_6 {d c s : Nat} {g n : Nat} {z : Int32} {o4 o5 : Option zV} {X : zM} {ρ : Nat → Nat → Int32} {l : Nat → Nat → Int64} {Q : Option zV → zM → Prop} (nb_n : n < 5000)
    (h1 : (6 < n) → Q (some (zi (nI 0))) (OM X 1 0 ρ l))
    (h2 : (n ≤ 6) → Ev d c s 221 18 [some (zr (some (1, 0, 0))), some (zi (nI g)), some (zi z), some (zi (nI n)), some (zi (nI 0)), some (zi (nI 0))] [] (OM X 1 0 ρ l) Q) : Ev d c s 221 6 [some (zr (some (1, 0, 0))), some (zi (nI g)), some (zi z), some (zi (nI n)), o4, o5] [] (OM X 1 0 ρ l) Q := by
  refine Ew.ld f221_6 rfl rfl rfl rfl ?_
  refine Ew.op (st' := zi (nI 6) :: _) f221_7 rfl rfl ?_
  refine Ew.icmp f221_9 rfl rfl (fun c1 => ?_) (fun c1 => ?_)
  · refine Ew.op (st' := zi (nI 0) :: _) f221_75 rfl rfl ?_
    refine Ew.ireti f221_76 ?_
    exact h1 ((zlt_iff (by decide) nb_n).mp c1)
  · refine Ew.op (st' := zi (nI 0) :: _) f221_12 rfl rfl ?_
    refine Ew.sr (ls' := [some (zr (some (1, 0, 0))), some (zi (nI g)), some (zi z), some (zi (nI n)), some (zi (nI 0)), o5]) f221_13 rfl rfl (Nat.le_of_ble_eq_true rfl) rfl rfl ?_
    refine Ew.op (st' := zi (nI 0) :: _) f221_15 rfl rfl ?_
    refine Ew.sr (ls' := [some (zr (some (1, 0, 0))), some (zi (nI g)), some (zi z), some (zi (nI n)), some (zi (nI 0)), some (zi (nI 0))]) f221_16 rfl rfl (Nat.le_of_ble_eq_true rfl) rfl rfl ?_
    exact h2 (Nat.not_lt.mp fun e => c1 ((zlt_iff (by decide) nb_n).mpr e))
theorem g221_18 {d c s : Nat} {g n h : Nat} {z y : Int32} {X : zM} {ρ : Nat → Nat → Int32} {l : Nat → Nat → Int64} {Q : Option zV → zM → Prop} (nb_h : h < 5000)
    (h1 : (6 ≤ h) → (¬ ((y >>> ((nI g) &&& 31)) &&& (nI 1)) = (nI 1)) → Ev (d + 1) c s 221 6 [some (zr (some (1, 0, 0))), some (zi (nI g)), some (zi y), some (zi (nI (n + 1))), some (zi y), some (zi (nI h))] [] (OM X 1 0 ρ l) Q)
    (h2 : (6 ≤ h) → (((y >>> ((nI g) &&& 31)) &&& (nI 1)) = (nI 1)) → Q (some (zi (nI n))) (OM X 1 0 ρ l))
    (h3 : (h < 6) → (¬ ((z >>> ((nI h) &&& 31)) &&& (nI 1)) = (nI 1)) → Ev (d + 1) c s 221 18 [some (zr (some (1, 0, 0))), some (zi (nI g)), some (zi z), some (zi (nI n)), some (zi (y ||| (nI 0))), some (zi (nI (h + 1)))] [] (OM X 1 0 ρ l) Q)
    (b1 : (h < 6) → (((z >>> ((nI h) &&& 31)) &&& (nI 1)) = (nI 1)) → h < 6)
    (h4 : (h < 6) → (((z >>> ((nI h) &&& 31)) &&& (nI 1)) = (nI 1)) → Ev (d + 1) c s 221 18 [some (zr (some (1, 0, 0))), some (zi (nI g)), some (zi z), some (zi (nI n)), some (zi (y ||| (ρ 28 h))), some (zi (nI (h + 1)))] [] (OM X 1 0 ρ l) Q) : Ev (d + 1) c s 221 18 [some (zr (some (1, 0, 0))), some (zi (nI g)), some (zi z), some (zi (nI n)), some (zi y), some (zi (nI h))] [] (OM X 1 0 ρ l) Q := by
  refine Ew.ld f221_18 rfl rfl rfl rfl ?_
  refine Ew.op (st' := zi (nI 6) :: _) f221_20 rfl rfl ?_
  refine Ew.icmp f221_22 rfl rfl (fun c1 => ?_) (fun c1 => ?_)
  · refine Ew.ld f221_56 rfl rfl rfl rfl ?_
    refine Ew.sr (ls' := [some (zr (some (1, 0, 0))), some (zi (nI g)), some (zi y), some (zi (nI n)), some (zi y), some (zi (nI h))]) f221_58 rfl rfl (Nat.le_of_ble_eq_true rfl) rfl rfl ?_
    refine Ew.ld f221_59 rfl rfl rfl rfl ?_
    refine Ew.ld f221_60 rfl rfl rfl rfl ?_
    refine Ew.call0 (ls0 := [some (zi y), some (zi (nI g))]) f221_61 rfl (Nat.le_of_ble_eq_true rfl) rfl rfl (Nat.le_of_ble_eq_true rfl) trivial (Nat.le_of_ble_eq_true rfl) rfl rfl ?_
    refine Ew.ld f152_0 rfl rfl rfl rfl ?_
    refine Ew.ld f152_1 rfl rfl rfl rfl ?_
    refine Ew.op (st' := zi (y >>> ((nI g) &&& 31)) :: _) f152_2 rfl rfl ?_
    refine Ew.op (st' := zi (nI 1) :: _) f152_3 rfl rfl ?_
    refine Ew.op (st' := zi ((y >>> ((nI g) &&& 31)) &&& (nI 1)) :: _) f152_4 rfl rfl ?_
    refine Ew.op (st' := zi (nI 1) :: _) f152_5 rfl rfl ?_
    refine Ew.icmp f152_6 rfl rfl (fun c2 => ?_) (fun c2 => ?_)
    · refine Ew.op (st' := zi (nI 0) :: _) f152_13 rfl rfl ?_
      refine Ew.iretb f152_14 (Or.inl rfl) ?_
      show Ev (d + 1) c s 221 64 [some (zr (some (1, 0, 0))), some (zi (nI g)), some (zi y), some (zi (nI n)), some (zi y), some (zi (nI h))] [zi (nI 0)] (OM X 1 0 ρ l) Q
      refine Ew.ifc f221_64 rfl rfl (fun _ => ?_) (fun h => absurd (show ((nI 0) : Int32) = 0 by decide) h)
      refine Ew.iinc (v := nI (n + 1)) (ls' := [some (zr (some (1, 0, 0))), some (zi (nI g)), some (zi y), some (zi (nI (n + 1))), some (zi y), some (zi (nI h))]) f221_69 rfl (nI_1 _) rfl rfl ?_
      refine Ew.goto f221_72 rfl ?_
      exact h1 ((zle_iff (by decide) nb_h).mp c1) c2
    · refine Ew.op (st' := zi (nI 1) :: _) f152_9 rfl rfl ?_
      refine Ew.goto f152_10 rfl ?_
      refine Ew.iretb f152_14 (Or.inr rfl) ?_
      show Ev (d + 1) c s 221 64 [some (zr (some (1, 0, 0))), some (zi (nI g)), some (zi y), some (zi (nI n)), some (zi y), some (zi (nI h))] [zi (nI 1)] (OM X 1 0 ρ l) Q
      refine Ew.ifc f221_64 rfl rfl (fun h => absurd h (show ¬ (((nI 1) : Int32) = 0) by decide)) (fun _ => ?_)
      refine Ew.ld f221_67 rfl rfl rfl rfl ?_
      refine Ew.ireti f221_68 ?_
      exact h2 ((zle_iff (by decide) nb_h).mp c1) (Classical.not_not.mp c2)
  · refine Ew.ld f221_25 rfl rfl rfl rfl ?_
    refine Ew.ld f221_27 rfl rfl rfl rfl ?_
    refine Ew.ld f221_28 rfl rfl rfl rfl ?_
    refine Ew.call0 (ls0 := [some (zi z), some (zi (nI h))]) f221_30 rfl (Nat.le_of_ble_eq_true rfl) rfl rfl (Nat.le_of_ble_eq_true rfl) trivial (Nat.le_of_ble_eq_true rfl) rfl rfl ?_
    refine Ew.ld f152_0 rfl rfl rfl rfl ?_
    refine Ew.ld f152_1 rfl rfl rfl rfl ?_
    refine Ew.op (st' := zi (z >>> ((nI h) &&& 31)) :: _) f152_2 rfl rfl ?_
    refine Ew.op (st' := zi (nI 1) :: _) f152_3 rfl rfl ?_
    refine Ew.op (st' := zi ((z >>> ((nI h) &&& 31)) &&& (nI 1)) :: _) f152_4 rfl rfl ?_
    refine Ew.op (st' := zi (nI 1) :: _) f152_5 rfl rfl ?_
    refine Ew.icmp f152_6 rfl rfl (fun c3 => ?_) (fun c3 => ?_)
    · refine Ew.op (st' := zi (nI 0) :: _) f152_13 rfl rfl ?_
      refine Ew.iretb f152_14 (Or.inl rfl) ?_
      show Ev (d + 1) c s 221 33 [some (zr (some (1, 0, 0))), some (zi (nI g)), some (zi z), some (zi (nI n)), some (zi y), some (zi (nI h))] [zi (nI 0), zi y] (OM X 1 0 ρ l) Q
      refine Ew.ifc f221_33 rfl rfl (fun _ => ?_) (fun h => absurd (show ((nI 0) : Int32) = 0 by decide) h)
      refine Ew.op (st' := zi (nI 0) :: _) f221_46 rfl rfl ?_
      refine Ew.op (st' := zi (y ||| (nI 0)) :: _) f221_47 rfl rfl ?_
      refine Ew.sr (ls' := [some (zr (some (1, 0, 0))), some (zi (nI g)), some (zi z), some (zi (nI n)), some (zi (y ||| (nI 0))), some (zi (nI h))]) f221_48 rfl rfl (Nat.le_of_ble_eq_true rfl) rfl rfl ?_
      refine Ew.iinc (v := nI (h + 1)) (ls' := [some (zr (some (1, 0, 0))), some (zi (nI g)), some (zi z), some (zi (nI n)), some (zi (y ||| (nI 0))), some (zi (nI (h + 1)))]) f221_50 rfl (nI_1 _) rfl rfl ?_
      refine Ew.goto f221_53 rfl ?_
      exact h3 (Nat.not_le.mp fun e => c1 ((zle_iff (by decide) nb_h).mpr e)) c3
    · refine Ew.op (st' := zi (nI 1) :: _) f152_9 rfl rfl ?_
      refine Ew.goto f152_10 rfl ?_
      refine Ew.iretb f152_14 (Or.inr rfl) ?_
      show Ev (d + 1) c s 221 33 [some (zr (some (1, 0, 0))), some (zi (nI g)), some (zi z), some (zi (nI n)), some (zi y), some (zi (nI h))] [zi (nI 1), zi y] (OM X 1 0 ρ l) Q
      refine Ew.ifc f221_33 rfl rfl (fun h => absurd h (show ¬ (((nI 1) : Int32) = 0) by decide)) (fun _ => ?_)
      refine Ew.ld f221_36 rfl rfl rfl rfl ?_
      refine Ew.getp (v := some (1, 0, 28)) f221_37 rfl rfl rfl ?_
      refine Ew.ld f221_40 rfl rfl rfl rfl ?_
      refine Ew.ialdnO f221_42 rfl (b1 (Nat.not_le.mp fun e => c1 ((zle_iff (by decide) nb_h).mpr e)) (Classical.not_not.mp c3)) (Nat.le_of_ble_eq_true rfl) rfl ?_
      refine Ew.goto f221_43 rfl ?_
      refine Ew.op (st' := zi (y ||| (ρ 28 h)) :: _) f221_47 rfl rfl ?_
      refine Ew.sr (ls' := [some (zr (some (1, 0, 0))), some (zi (nI g)), some (zi z), some (zi (nI n)), some (zi (y ||| (ρ 28 h))), some (zi (nI h))]) f221_48 rfl rfl (Nat.le_of_ble_eq_true rfl) rfl rfl ?_
      refine Ew.iinc (v := nI (h + 1)) (ls' := [some (zr (some (1, 0, 0))), some (zi (nI g)), some (zi z), some (zi (nI n)), some (zi (y ||| (ρ 28 h))), some (zi (nI (h + 1)))]) f221_50 rfl (nI_1 _) rfl rfl ?_
      refine Ew.goto f221_53 rfl ?_
      exact h4 (Nat.not_le.mp fun e => c1 ((zle_iff (by decide) nb_h).mpr e)) (Classical.not_not.mp c3)
theorem z1s {g : Nat} (hg : g < 6) : nI 1 <<< (nI g &&& 31) = nI (2 ^ g) := by
  have h : ∀ g, g < 6 → nI 1 <<< (nI g &&& 31) = nI (2 ^ g) := by decide
  exact h g hg
theorem sp_loopOf {d c s g : Nat} {B : Nat → Nat} {X : zM} {ρ : Nat → Nat → Int32} {l : Nat → Nat → Int64} {Q : Option zV → zM → Prop} (hg : g < 6) (hB : ∀ h, h < 6 → ρ 28 h = nI (B h) ∧ B h < 64) (k : Q (some (zi (nI (lLo B g)))) (OM X 1 0 ρ l)) : Ev (d + 1) c s 221 0 [some (zr (some (1, 0, 0))), some (zi (nI g)), none, none, none, none] [] (OM X 1 0 ρ l) Q := by
  refine g221_0 ?_
  rw [z1s hg]
  have key : ∀ f n z (o4 o5 : Option zV), n + f = 7 → z < 64 → Q (some (zi (nI (lLoF B g f n z)))) (OM X 1 0 ρ l) → Ev (d + 1) c s 221 6 [some (zr (some (1, 0, 0))), some (zi (nI g)), some (zi (nI z)), some (zi (nI n)), o4, o5] [] (OM X 1 0 ρ l) Q := by
    intro f
    induction f with
    | zero =>
      intro n z o4 o5 hn hz hk
      exact g221_6 (by omega) (fun _ => hk) (fun g => by omega)
    | succ f ih =>
      intro n z o4 o5 hn hz hk
      refine g221_6 (by omega) (fun g => by omega) (fun _ => ?_)
      refine loopN (fun h => Ev (d + 1) c s 221 18 [some (zr (some (1, 0, 0))), some (zi (nI g)), some (zi (nI z)), some (zi (nI n)), some (zi (nI (lNx B z h))), some (zi (nI h))] [] (OM X 1 0 ρ l) Q) 6 (fun h hh hE => ?_) ?_
      · unfold lNx at hE
        have ht := zhas6 (v := z) (k := h) hh hz
        refine g221_18 (by omega) (fun g => by omega) (fun g => by omega) (fun _ g => ?_) (fun _ _ => hh) (fun _ g => ?_)
        · rw [if_neg (fun e => g (ht.mpr e)), Nat.or_zero] at hE
          rw [zor0]
          exact hE
        · rw [if_pos (ht.mp g)] at hE
          rw [(hB h hh).1, zorN]
          exact hE
      · have hz' := lNx_lt (B := B) (fun h hh => (hB h hh).2) z 6 (Nat.le_refl 6)
        have ht := zhas6 (v := lNx B z 6) (k := g) hg hz'
        unfold lLoF at hk
        refine g221_18 (by omega) (fun _ g => ?_) (fun _ g => ?_) (fun g => by omega) (fun g => by omega) (fun g => by omega)
        · rw [if_neg (fun e => g (ht.mpr e))] at hk
          exact ih (n + 1) _ _ _ (by omega) hz' hk
        · rw [if_pos (ht.mp g)] at hk
          exact hk
  have hp : 2 ^ g < 64 := Nat.pow_lt_pow_right (by decide) hg
  exact key 6 1 _ _ _ (by decide) hp k
theorem g222_0 {d c s : Nat} {x : Int32} {X : zM} {ρ : Nat → Nat → Int32} {l : Nat → Nat → Int64} {Q : Option zV → zM → Prop}
    (h1 : ((lN 0) ≤ x.toInt64 ∧ x.toInt64 ≤ (lN 2)) → Ev (d + 1) c s 222 16 [some (zr (some (1, 0, 0))), some (zi x), some (zi (nI 0)), none, none, none] [] (OM X 1 0 ρ l) Q)
    (h2 : (¬ ((lN 0) ≤ x.toInt64 ∧ x.toInt64 ≤ (lN 2))) → Q (some (zi ((-1)))) (OM X 1 0 ρ l)) : Ev (d + 1) c s 222 0 [some (zr (some (1, 0, 0))), some (zi x), none, none, none, none] [] (OM X 1 0 ρ l) Q := by
  refine Ew.ld f222_0 rfl rfl rfl rfl ?_
  refine Ew.op (st' := zl x.toInt64 :: _) f222_1 rfl rfl ?_
  refine Ew.op (st' := zl (lN 0) :: _) f222_2 rfl rfl ?_
  refine Ew.op (st' := zl (lN 2) :: _) f222_3 rfl rfl ?_
  refine Ew.call0 (ls0 := [some (zl x.toInt64), none, some (zl (lN 0)), none, some (zl (lN 2)), none]) f222_6 rfl (Nat.le_of_ble_eq_true rfl) rfl rfl (Nat.le_of_ble_eq_true rfl) trivial (Nat.le_of_ble_eq_true rfl) rfl rfl ?_
  refine sp_in (fun c1 => ?_) (fun c1 => ?_)
  · refine Ew.ifc f222_9 rfl rfl (fun _ => ?_) (fun h => absurd (show ¬ ((nI 1) : Int32) = 0 by decide) h)
    refine Ew.op (st' := zi (nI 0) :: _) f222_14 rfl rfl ?_
    refine Ew.sr (ls' := [some (zr (some (1, 0, 0))), some (zi x), some (zi (nI 0)), none, none, none]) f222_15 rfl rfl (Nat.le_of_ble_eq_true rfl) rfl rfl ?_
    exact h1 c1
  · refine Ew.ifc f222_9 rfl rfl (fun h => absurd h (show ¬ (¬ ((nI 0) : Int32) = 0) by decide)) (fun _ => ?_)
    refine Ew.op (st' := zi ((-1)) :: _) f222_12 rfl rfl ?_
    refine Ew.ireti f222_13 ?_
    exact h2 c1
theorem g222_16 {d c s : Nat} {x a : Nat} {o3 : Option zV} {X : zM} {ρ : Nat → Nat → Int32} {l : Nat → Nat → Int64} {Q : Option zV → zM → Prop} (nb_a : a < 5000)
    (h1 : (6 ≤ a) → Ev d c s 222 82 [some (zr (some (1, 0, 0))), some (zi (nI x)), some (zi ((-4))), some (zi (nI 0)), some (zi (nI 0)), none] [] (OM X 1 0 ρ l) Q)
    (b1 : (a < 6) → a < 6)
    (h2 : (a < 6) → Ev d c s 222 31 [some (zr (some (1, 0, 0))), some (zi (nI x)), some (zi (nI a)), some (zi (nI 0)), none, none] [] (OM X 1 0 (zu ρ 28 a (nI 0)) l) Q) : Ev d c s 222 16 [some (zr (some (1, 0, 0))), some (zi (nI x)), some (zi (nI a)), o3, none, none] [] (OM X 1 0 ρ l) Q := by
  refine Ew.ld f222_16 rfl rfl rfl rfl ?_
  refine Ew.op (st' := zi (nI 6) :: _) f222_17 rfl rfl ?_
  refine Ew.icmp f222_19 rfl rfl (fun c1 => ?_) (fun c1 => ?_)
  · refine Ew.op (st' := zi ((-4)) :: _) f222_74 rfl rfl ?_
    refine Ew.sr (ls' := [some (zr (some (1, 0, 0))), some (zi (nI x)), some (zi ((-4))), o3, none, none]) f222_76 rfl rfl (Nat.le_of_ble_eq_true rfl) rfl rfl ?_
    refine Ew.op (st' := zi (nI 0) :: _) f222_77 rfl rfl ?_
    refine Ew.sr (ls' := [some (zr (some (1, 0, 0))), some (zi (nI x)), some (zi ((-4))), some (zi (nI 0)), none, none]) f222_78 rfl rfl (Nat.le_of_ble_eq_true rfl) rfl rfl ?_
    refine Ew.op (st' := zi (nI 0) :: _) f222_79 rfl rfl ?_
    refine Ew.sr (ls' := [some (zr (some (1, 0, 0))), some (zi (nI x)), some (zi ((-4))), some (zi (nI 0)), some (zi (nI 0)), none]) f222_80 rfl rfl (Nat.le_of_ble_eq_true rfl) rfl rfl ?_
    exact h1 ((zle_iff (by decide) nb_a).mp c1)
  · refine Ew.ld f222_22 rfl rfl rfl rfl ?_
    refine Ew.getp (v := some (1, 0, 28)) f222_23 rfl rfl rfl ?_
    refine Ew.ld f222_26 rfl rfl rfl rfl ?_
    refine Ew.op (st' := zi (nI 0) :: _) f222_27 rfl rfl ?_
    refine Ew.iastnO f222_28 (by decide) rfl (b1 (Nat.not_le.mp fun e => c1 ((zle_iff (by decide) nb_a).mpr e))) (Nat.le_of_ble_eq_true rfl) rfl ?_
    refine Ew.op (st' := zi (nI 0) :: _) f222_29 rfl rfl ?_
    refine Ew.sr (ls' := [some (zr (some (1, 0, 0))), some (zi (nI x)), some (zi (nI a)), some (zi (nI 0)), none, none]) f222_30 rfl rfl (Nat.le_of_ble_eq_true rfl) rfl rfl ?_
    exact h2 (Nat.not_le.mp fun e => c1 ((zle_iff (by decide) nb_a).mpr e))
theorem g222_31 {d c s : Nat} {x a b : Nat} {X : zM} {ρ : Nat → Nat → Int32} {l : Nat → Nat → Int64} {Q : Option zV → zM → Prop} (nb_b : b < 5000)
    (h1 : (6 ≤ b) → Ev (d + 1) c s 222 16 [some (zr (some (1, 0, 0))), some (zi (nI x)), some (zi (nI (a + 1))), some (zi (nI b)), none, none] [] (OM X 1 0 ρ l) Q)
    (b1 : (b < 6) → a < 6)
    (h2 : (b < 6) → Ev d 0 0 219 0 [some (zr (some (1, 0, 0))), some (zi (nI a)), some (zi (nI b)), none, none, none] [] (OM X 1 0 ρ l) (fun r M' => Ev (d + 1) c s 222 50 [some (zr (some (1, 0, 0))), some (zi (nI x)), some (zi (nI a)), some (zi (nI b)), none, none] (zpush r [zi (ρ 28 a), zi (nI a), zr (some (1, 0, 28))]) M' Q)) : Ev (d + 1) c s 222 31 [some (zr (some (1, 0, 0))), some (zi (nI x)), some (zi (nI a)), some (zi (nI b)), none, none] [] (OM X 1 0 ρ l) Q := by
  refine Ew.ld f222_31 rfl rfl rfl rfl ?_
  refine Ew.op (st' := zi (nI 6) :: _) f222_32 rfl rfl ?_
  refine Ew.icmp f222_34 rfl rfl (fun c1 => ?_) (fun c1 => ?_)
  · refine Ew.iinc (v := nI (a + 1)) (ls' := [some (zr (some (1, 0, 0))), some (zi (nI x)), some (zi (nI (a + 1))), some (zi (nI b)), none, none]) f222_68 rfl (nI_1 _) rfl rfl ?_
    refine Ew.goto f222_71 rfl ?_
    exact h1 ((zle_iff (by decide) nb_b).mp c1)
  · refine Ew.ld f222_37 rfl rfl rfl rfl ?_
    refine Ew.getp (v := some (1, 0, 28)) f222_38 rfl rfl rfl ?_
    refine Ew.ld f222_41 rfl rfl rfl rfl ?_
    refine Ew.op (st' := zi (nI a) :: zr (some (1, 0, 28)) :: zi (nI a) :: zr (some (1, 0, 28)) :: _) f222_42 rfl rfl ?_
    refine Ew.ialdnO f222_43 rfl (b1 (Nat.not_le.mp fun e => c1 ((zle_iff (by decide) nb_b).mpr e))) (Nat.le_of_ble_eq_true rfl) rfl ?_
    refine Ew.ld f222_44 rfl rfl rfl rfl ?_
    refine Ew.ld f222_45 rfl rfl rfl rfl ?_
    refine Ew.ld f222_46 rfl rfl rfl rfl ?_
    refine Ew.call0 (ls0 := [some (zr (some (1, 0, 0))), some (zi (nI a)), some (zi (nI b)), none, none, none]) f222_47 rfl (Nat.le_of_ble_eq_true rfl) rfl rfl (Nat.le_of_ble_eq_true rfl) rfl (Nat.le_of_ble_eq_true rfl) rfl rfl ?_
    exact h2 (Nat.not_le.mp fun e => c1 ((zle_iff (by decide) nb_b).mpr e))
theorem g222_50 {d c s : Nat} {x a b : Nat} {y : Int32} {X : zM} {ρ : Nat → Nat → Int32} {l : Nat → Nat → Int64} {Q : Option zV → zM → Prop}
    (b1 : a < 6)
    (h1 : Ev d c s 222 31 [some (zr (some (1, 0, 0))), some (zi (nI x)), some (zi (nI a)), some (zi (nI (b + 1))), none, none] [] (OM X 1 0 (zu ρ 28 a (y ||| ((nI 1) <<< ((nI b) &&& 31)))) l) Q) : Ev d c s 222 50 [some (zr (some (1, 0, 0))), some (zi (nI x)), some (zi (nI a)), some (zi (nI b)), none, none] [zi (nI 1), zi y, zi (nI a), zr (some (1, 0, 28))] (OM X 1 0 ρ l) Q := by
  refine Ew.ifc f222_50 rfl rfl (fun h => absurd h (show ¬ (((nI 1) : Int32) = 0) by decide)) (fun _ => ?_)
  refine Ew.op (st' := zi (nI 1) :: _) f222_53 rfl rfl ?_
  refine Ew.ld f222_54 rfl rfl rfl rfl ?_
  refine Ew.op (st' := zi ((nI 1) <<< ((nI b) &&& 31)) :: _) f222_55 rfl rfl ?_
  refine Ew.goto f222_56 rfl ?_
  refine Ew.op (st' := zi (y ||| ((nI 1) <<< ((nI b) &&& 31))) :: _) f222_60 rfl rfl ?_
  refine Ew.iastnO f222_61 (by decide) rfl b1 (Nat.le_of_ble_eq_true rfl) rfl ?_
  refine Ew.iinc (v := nI (b + 1)) (ls' := [some (zr (some (1, 0, 0))), some (zi (nI x)), some (zi (nI a)), some (zi (nI (b + 1))), none, none]) f222_62 rfl (nI_1 _) rfl rfl ?_
  refine Ew.goto f222_65 rfl ?_
  exact h1
theorem g222_50z {d c s : Nat} {x a b : Nat} {y : Int32} {X : zM} {ρ : Nat → Nat → Int32} {l : Nat → Nat → Int64} {Q : Option zV → zM → Prop}
    (b1 : a < 6)
    (h1 : Ev d c s 222 31 [some (zr (some (1, 0, 0))), some (zi (nI x)), some (zi (nI a)), some (zi (nI (b + 1))), none, none] [] (OM X 1 0 (zu ρ 28 a (y ||| (nI 0))) l) Q) : Ev d c s 222 50 [some (zr (some (1, 0, 0))), some (zi (nI x)), some (zi (nI a)), some (zi (nI b)), none, none] [zi (nI 0), zi y, zi (nI a), zr (some (1, 0, 28))] (OM X 1 0 ρ l) Q := by
  refine Ew.ifc f222_50 rfl rfl (fun _ => ?_) (fun h => absurd (show ((nI 0) : Int32) = 0 by decide) h)
  refine Ew.op (st' := zi (nI 0) :: _) f222_59 rfl rfl ?_
  refine Ew.op (st' := zi (y ||| (nI 0)) :: _) f222_60 rfl rfl ?_
  refine Ew.iastnO f222_61 (by decide) rfl b1 (Nat.le_of_ble_eq_true rfl) rfl ?_
  refine Ew.iinc (v := nI (b + 1)) (ls' := [some (zr (some (1, 0, 0))), some (zi (nI x)), some (zi (nI a)), some (zi (nI (b + 1))), none, none]) f222_62 rfl (nI_1 _) rfl rfl ?_
  refine Ew.goto f222_65 rfl ?_
  exact h1
theorem g222_82 {d c s : Nat} {x g : Nat} {y z : Int32} {o5 : Option zV} {X : zM} {ρ : Nat → Nat → Int32} {l : Nat → Nat → Int64} {Q : Option zV → zM → Prop} (nb_g : g < 5000) (nb_x : x < 5000)
    (h1 : (6 ≤ g) → (¬ x = 0) → (¬ x = 1) → Q (some (zi z)) (OM X 1 0 ρ l))
    (h2 : (6 ≤ g) → (¬ x = 0) → (x = 1) → Q (some (zi y)) (OM X 1 0 ρ l))
    (h3 : (6 ≤ g) → (x = 0) → (z = 0) → Q (some (zi (nI 0))) (OM X 1 0 ρ l))
    (h4 : (6 ≤ g) → (x = 0) → (¬ z = 0) → Q (some (zi (nI 1))) (OM X 1 0 ρ l))
    (h5 : (g < 6) → Ev d 0 0 221 0 [some (zr (some (1, 0, 0))), some (zi (nI g)), none, none, none, none] [] (OM X 1 0 ρ l) (fun r M' => Ev (d + 1) c s 222 95 [some (zr (some (1, 0, 0))), some (zi (nI x)), some (zi y), some (zi z), some (zi (nI g)), o5] (zpush r []) M' Q)) : Ev (d + 1) c s 222 82 [some (zr (some (1, 0, 0))), some (zi (nI x)), some (zi y), some (zi z), some (zi (nI g)), o5] [] (OM X 1 0 ρ l) Q := by
  refine Ew.ld f222_82 rfl rfl rfl rfl ?_
  refine Ew.op (st' := zi (nI 6) :: _) f222_84 rfl rfl ?_
  refine Ew.icmp f222_86 rfl rfl (fun c1 => ?_) (fun c1 => ?_)
  · refine Ew.ld f222_141 rfl rfl rfl rfl ?_
    refine Ew.ifc f222_142 rfl rfl (fun c2 => ?_) (fun c2 => ?_)
    · refine Ew.ld f222_157 rfl rfl rfl rfl ?_
      refine Ew.op (st' := zi (nI 1) :: _) f222_158 rfl rfl ?_
      refine Ew.icmp f222_159 rfl rfl (fun c3 => ?_) (fun c3 => ?_)
      · refine Ew.ld f222_166 rfl rfl rfl rfl ?_
        refine Ew.ireti f222_167 ?_
        exact h1 ((zle_iff (by decide) nb_g).mp c1) (fun e => c2 ((zeq nb_x (by decide)).mpr e)) (fun e => c3 ((zeq nb_x (by decide)).mpr e))
      · refine Ew.ld f222_162 rfl rfl rfl rfl ?_
        refine Ew.goto f222_163 rfl ?_
        refine Ew.ireti f222_167 ?_
        exact h2 ((zle_iff (by decide) nb_g).mp c1) (fun e => c2 ((zeq nb_x (by decide)).mpr e)) ((zeq nb_x (by decide)).mp (Classical.not_not.mp c3))
    · refine Ew.ld f222_145 rfl rfl rfl rfl ?_
      refine Ew.ifc f222_146 rfl rfl (fun c4 => ?_) (fun c4 => ?_)
      · refine Ew.op (st' := zi (nI 0) :: _) f222_153 rfl rfl ?_
        refine Ew.goto f222_154 rfl ?_
        refine Ew.ireti f222_167 ?_
        exact h3 ((zle_iff (by decide) nb_g).mp c1) ((zeq nb_x (by decide)).mp (Classical.not_not.mp c2)) c4
      · refine Ew.op (st' := zi (nI 1) :: _) f222_149 rfl rfl ?_
        refine Ew.goto f222_150 rfl ?_
        refine Ew.ireti f222_167 ?_
        exact h4 ((zle_iff (by decide) nb_g).mp c1) ((zeq nb_x (by decide)).mp (Classical.not_not.mp c2)) c4
  · refine Ew.ld f222_89 rfl rfl rfl rfl ?_
    refine Ew.ld f222_90 rfl rfl rfl rfl ?_
    refine Ew.call0 (ls0 := [some (zr (some (1, 0, 0))), some (zi (nI g)), none, none, none, none]) f222_92 rfl (Nat.le_of_ble_eq_true rfl) rfl rfl (Nat.le_of_ble_eq_true rfl) rfl (Nat.le_of_ble_eq_true rfl) rfl rfl ?_
    exact h5 (Nat.not_le.mp fun e => c1 ((zle_iff (by decide) nb_g).mpr e))
theorem g222_95 {d c s : Nat} {x g n : Nat} {y z : Int32} {o5 : Option zV} {X : zM} {ρ : Nat → Nat → Int32} {l : Nat → Nat → Int64} {Q : Option zV → zM → Prop} (nb_n : n < 5000)
    (h1 : (n ≤ 0) → (n ≤ 0) → Ev d c s 222 82 [some (zr (some (1, 0, 0))), some (zi (nI x)), some (zi y), some (zi (z ||| (nI 0))), some (zi (nI (g + 1))), some (zi (nI n))] [] (OM X 1 0 ρ l) Q)
    (h2 : (n ≤ 0) → (0 < n) → (y < 0) → Ev d c s 222 82 [some (zr (some (1, 0, 0))), some (zi (nI x)), some (zi (nI n)), some (zi (z ||| (nI 0))), some (zi (nI (g + 1))), some (zi (nI n))] [] (OM X 1 0 ρ l) Q)
    (h3 : (n ≤ 0) → (0 < n) → (0 ≤ y) → (y ≤ (nI n)) → Ev d c s 222 82 [some (zr (some (1, 0, 0))), some (zi (nI x)), some (zi y), some (zi (z ||| (nI 0))), some (zi (nI (g + 1))), some (zi (nI n))] [] (OM X 1 0 ρ l) Q)
    (h4 : (n ≤ 0) → (0 < n) → (0 ≤ y) → ((nI n) < y) → Ev d c s 222 82 [some (zr (some (1, 0, 0))), some (zi (nI x)), some (zi (nI n)), some (zi (z ||| (nI 0))), some (zi (nI (g + 1))), some (zi (nI n))] [] (OM X 1 0 ρ l) Q)
    (h5 : (0 < n) → (n ≤ 0) → Ev d c s 222 82 [some (zr (some (1, 0, 0))), some (zi (nI x)), some (zi y), some (zi (z ||| ((nI 1) <<< ((nI g) &&& 31)))), some (zi (nI (g + 1))), some (zi (nI n))] [] (OM X 1 0 ρ l) Q)
    (h6 : (0 < n) → (0 < n) → (y < 0) → Ev d c s 222 82 [some (zr (some (1, 0, 0))), some (zi (nI x)), some (zi (nI n)), some (zi (z ||| ((nI 1) <<< ((nI g) &&& 31)))), some (zi (nI (g + 1))), some (zi (nI n))] [] (OM X 1 0 ρ l) Q)
    (h7 : (0 < n) → (0 < n) → (0 ≤ y) → (y ≤ (nI n)) → Ev d c s 222 82 [some (zr (some (1, 0, 0))), some (zi (nI x)), some (zi y), some (zi (z ||| ((nI 1) <<< ((nI g) &&& 31)))), some (zi (nI (g + 1))), some (zi (nI n))] [] (OM X 1 0 ρ l) Q)
    (h8 : (0 < n) → (0 < n) → (0 ≤ y) → ((nI n) < y) → Ev d c s 222 82 [some (zr (some (1, 0, 0))), some (zi (nI x)), some (zi (nI n)), some (zi (z ||| ((nI 1) <<< ((nI g) &&& 31)))), some (zi (nI (g + 1))), some (zi (nI n))] [] (OM X 1 0 ρ l) Q) : Ev d c s 222 95 [some (zr (some (1, 0, 0))), some (zi (nI x)), some (zi y), some (zi z), some (zi (nI g)), o5] [zi (nI n)] (OM X 1 0 ρ l) Q := by
  refine Ew.sr (ls' := [some (zr (some (1, 0, 0))), some (zi (nI x)), some (zi y), some (zi z), some (zi (nI g)), some (zi (nI n))]) f222_95 rfl rfl (Nat.le_of_ble_eq_true rfl) rfl rfl ?_
  refine Ew.ld f222_97 rfl rfl rfl rfl ?_
  refine Ew.ld f222_98 rfl rfl rfl rfl ?_
  refine Ew.ifc f222_100 rfl rfl (fun c1 => ?_) (fun c1 => ?_)
  · refine Ew.op (st' := zi (nI 0) :: _) f222_110 rfl rfl ?_
    refine Ew.op (st' := zi (z ||| (nI 0)) :: _) f222_111 rfl rfl ?_
    refine Ew.sr (ls' := [some (zr (some (1, 0, 0))), some (zi (nI x)), some (zi y), some (zi (z ||| (nI 0))), some (zi (nI g)), some (zi (nI n))]) f222_112 rfl rfl (Nat.le_of_ble_eq_true rfl) rfl rfl ?_
    refine Ew.ld f222_113 rfl rfl rfl rfl ?_
    refine Ew.ifc f222_115 rfl rfl (fun c2 => ?_) (fun c2 => ?_)
    · refine Ew.ld f222_133 rfl rfl rfl rfl ?_
      refine Ew.sr (ls' := [some (zr (some (1, 0, 0))), some (zi (nI x)), some (zi y), some (zi (z ||| (nI 0))), some (zi (nI g)), some (zi (nI n))]) f222_134 rfl rfl (Nat.le_of_ble_eq_true rfl) rfl rfl ?_
      refine Ew.iinc (v := nI (g + 1)) (ls' := [some (zr (some (1, 0, 0))), some (zi (nI x)), some (zi y), some (zi (z ||| (nI 0))), some (zi (nI (g + 1))), some (zi (nI n))]) f222_135 rfl (nI_1 _) rfl rfl ?_
      refine Ew.goto f222_138 rfl ?_
      exact h1 ((zle_iff nb_n (by decide)).mp c1) ((zle_iff nb_n (by decide)).mp c2)
    · refine Ew.ld f222_118 rfl rfl rfl rfl ?_
      refine Ew.ifc f222_119 rfl rfl (fun c3 => ?_) (fun c3 => ?_)
      · refine Ew.ld f222_128 rfl rfl rfl rfl ?_
        refine Ew.goto f222_130 rfl ?_
        refine Ew.sr (ls' := [some (zr (some (1, 0, 0))), some (zi (nI x)), some (zi (nI n)), some (zi (z ||| (nI 0))), some (zi (nI g)), some (zi (nI n))]) f222_134 rfl rfl (Nat.le_of_ble_eq_true rfl) rfl rfl ?_
        refine Ew.iinc (v := nI (g + 1)) (ls' := [some (zr (some (1, 0, 0))), some (zi (nI x)), some (zi (nI n)), some (zi (z ||| (nI 0))), some (zi (nI (g + 1))), some (zi (nI n))]) f222_135 rfl (nI_1 _) rfl rfl ?_
        refine Ew.goto f222_138 rfl ?_
        exact h2 ((zle_iff nb_n (by decide)).mp c1) (Nat.not_le.mp fun e => c2 ((zle_iff nb_n (by decide)).mpr e)) c3
      · refine Ew.ld f222_122 rfl rfl rfl rfl ?_
        refine Ew.ld f222_124 rfl rfl rfl rfl ?_
        refine Ew.icmp f222_125 rfl rfl (fun c4 => ?_) (fun c4 => ?_)
        · refine Ew.ld f222_133 rfl rfl rfl rfl ?_
          refine Ew.sr (ls' := [some (zr (some (1, 0, 0))), some (zi (nI x)), some (zi y), some (zi (z ||| (nI 0))), some (zi (nI g)), some (zi (nI n))]) f222_134 rfl rfl (Nat.le_of_ble_eq_true rfl) rfl rfl ?_
          refine Ew.iinc (v := nI (g + 1)) (ls' := [some (zr (some (1, 0, 0))), some (zi (nI x)), some (zi y), some (zi (z ||| (nI 0))), some (zi (nI (g + 1))), some (zi (nI n))]) f222_135 rfl (nI_1 _) rfl rfl ?_
          refine Ew.goto f222_138 rfl ?_
          exact h3 ((zle_iff nb_n (by decide)).mp c1) (Nat.not_le.mp fun e => c2 ((zle_iff nb_n (by decide)).mpr e)) (Int32.not_lt.mp c3) c4
        · refine Ew.ld f222_128 rfl rfl rfl rfl ?_
          refine Ew.goto f222_130 rfl ?_
          refine Ew.sr (ls' := [some (zr (some (1, 0, 0))), some (zi (nI x)), some (zi (nI n)), some (zi (z ||| (nI 0))), some (zi (nI g)), some (zi (nI n))]) f222_134 rfl rfl (Nat.le_of_ble_eq_true rfl) rfl rfl ?_
          refine Ew.iinc (v := nI (g + 1)) (ls' := [some (zr (some (1, 0, 0))), some (zi (nI x)), some (zi (nI n)), some (zi (z ||| (nI 0))), some (zi (nI (g + 1))), some (zi (nI n))]) f222_135 rfl (nI_1 _) rfl rfl ?_
          refine Ew.goto f222_138 rfl ?_
          exact h4 ((zle_iff nb_n (by decide)).mp c1) (Nat.not_le.mp fun e => c2 ((zle_iff nb_n (by decide)).mpr e)) (Int32.not_lt.mp c3) (Int32.not_le.mp c4)
  · refine Ew.op (st' := zi (nI 1) :: _) f222_103 rfl rfl ?_
    refine Ew.ld f222_104 rfl rfl rfl rfl ?_
    refine Ew.op (st' := zi ((nI 1) <<< ((nI g) &&& 31)) :: _) f222_106 rfl rfl ?_
    refine Ew.goto f222_107 rfl ?_
    refine Ew.op (st' := zi (z ||| ((nI 1) <<< ((nI g) &&& 31))) :: _) f222_111 rfl rfl ?_
    refine Ew.sr (ls' := [some (zr (some (1, 0, 0))), some (zi (nI x)), some (zi y), some (zi (z ||| ((nI 1) <<< ((nI g) &&& 31)))), some (zi (nI g)), some (zi (nI n))]) f222_112 rfl rfl (Nat.le_of_ble_eq_true rfl) rfl rfl ?_
    refine Ew.ld f222_113 rfl rfl rfl rfl ?_
    refine Ew.ifc f222_115 rfl rfl (fun c5 => ?_) (fun c5 => ?_)
    · refine Ew.ld f222_133 rfl rfl rfl rfl ?_
      refine Ew.sr (ls' := [some (zr (some (1, 0, 0))), some (zi (nI x)), some (zi y), some (zi (z ||| ((nI 1) <<< ((nI g) &&& 31)))), some (zi (nI g)), some (zi (nI n))]) f222_134 rfl rfl (Nat.le_of_ble_eq_true rfl) rfl rfl ?_
      refine Ew.iinc (v := nI (g + 1)) (ls' := [some (zr (some (1, 0, 0))), some (zi (nI x)), some (zi y), some (zi (z ||| ((nI 1) <<< ((nI g) &&& 31)))), some (zi (nI (g + 1))), some (zi (nI n))]) f222_135 rfl (nI_1 _) rfl rfl ?_
      refine Ew.goto f222_138 rfl ?_
      exact h5 (Nat.not_le.mp fun e => c1 ((zle_iff nb_n (by decide)).mpr e)) ((zle_iff nb_n (by decide)).mp c5)
    · refine Ew.ld f222_118 rfl rfl rfl rfl ?_
      refine Ew.ifc f222_119 rfl rfl (fun c6 => ?_) (fun c6 => ?_)
      · refine Ew.ld f222_128 rfl rfl rfl rfl ?_
        refine Ew.goto f222_130 rfl ?_
        refine Ew.sr (ls' := [some (zr (some (1, 0, 0))), some (zi (nI x)), some (zi (nI n)), some (zi (z ||| ((nI 1) <<< ((nI g) &&& 31)))), some (zi (nI g)), some (zi (nI n))]) f222_134 rfl rfl (Nat.le_of_ble_eq_true rfl) rfl rfl ?_
        refine Ew.iinc (v := nI (g + 1)) (ls' := [some (zr (some (1, 0, 0))), some (zi (nI x)), some (zi (nI n)), some (zi (z ||| ((nI 1) <<< ((nI g) &&& 31)))), some (zi (nI (g + 1))), some (zi (nI n))]) f222_135 rfl (nI_1 _) rfl rfl ?_
        refine Ew.goto f222_138 rfl ?_
        exact h6 (Nat.not_le.mp fun e => c1 ((zle_iff nb_n (by decide)).mpr e)) (Nat.not_le.mp fun e => c5 ((zle_iff nb_n (by decide)).mpr e)) c6
      · refine Ew.ld f222_122 rfl rfl rfl rfl ?_
        refine Ew.ld f222_124 rfl rfl rfl rfl ?_
        refine Ew.icmp f222_125 rfl rfl (fun c7 => ?_) (fun c7 => ?_)
        · refine Ew.ld f222_133 rfl rfl rfl rfl ?_
          refine Ew.sr (ls' := [some (zr (some (1, 0, 0))), some (zi (nI x)), some (zi y), some (zi (z ||| ((nI 1) <<< ((nI g) &&& 31)))), some (zi (nI g)), some (zi (nI n))]) f222_134 rfl rfl (Nat.le_of_ble_eq_true rfl) rfl rfl ?_
          refine Ew.iinc (v := nI (g + 1)) (ls' := [some (zr (some (1, 0, 0))), some (zi (nI x)), some (zi y), some (zi (z ||| ((nI 1) <<< ((nI g) &&& 31)))), some (zi (nI (g + 1))), some (zi (nI n))]) f222_135 rfl (nI_1 _) rfl rfl ?_
          refine Ew.goto f222_138 rfl ?_
          exact h7 (Nat.not_le.mp fun e => c1 ((zle_iff nb_n (by decide)).mpr e)) (Nat.not_le.mp fun e => c5 ((zle_iff nb_n (by decide)).mpr e)) (Int32.not_lt.mp c6) c7
        · refine Ew.ld f222_128 rfl rfl rfl rfl ?_
          refine Ew.goto f222_130 rfl ?_
          refine Ew.sr (ls' := [some (zr (some (1, 0, 0))), some (zi (nI x)), some (zi (nI n)), some (zi (z ||| ((nI 1) <<< ((nI g) &&& 31)))), some (zi (nI g)), some (zi (nI n))]) f222_134 rfl rfl (Nat.le_of_ble_eq_true rfl) rfl rfl ?_
          refine Ew.iinc (v := nI (g + 1)) (ls' := [some (zr (some (1, 0, 0))), some (zi (nI x)), some (zi (nI n)), some (zi (z ||| ((nI 1) <<< ((nI g) &&& 31)))), some (zi (nI (g + 1))), some (zi (nI n))]) f222_135 rfl (nI_1 _) rfl rfl ?_
          refine Ew.goto f222_138 rfl ?_
          exact h8 (Nat.not_le.mp fun e => c1 ((zle_iff nb_n (by decide)).mpr e)) (Nat.not_le.mp fun e => c5 ((zle_iff nb_n (by decide)).mpr e)) (Int32.not_lt.mp c6) (Int32.not_le.mp c7)
noncomputable def aBe (w : Nat → Int32) (a : Nat) : Nat := rBeN (tτ w) a 6
noncomputable def aLoops (σ : zSt) (x : Int32) : Int32 := match aIx x 3 with
  | none => -1
  | some v => if v = 0 then (if lSe (aBe σ.w) 6 = 0 then nI 0 else nI 1) else if v = 1 then lLe (aBe σ.w) 6 else nI (lSe (aBe σ.w) 6)
theorem rAg_28 {ρ ρ' : Nat → Nat → Int32} (hT : rTr ρ) (h : ∀ q, ¬ q = 28 → ρ' q = ρ q) : rAg ρ ρ' := by
  intro t ht
  have e : rM ρ' t = rM ρ t := by unfold rM; rw [h 13 (by decide)]
  refine ⟨(hT t ht).2.1, e, fun k hk => ⟨by rw [h 10 (by decide)], by rw [h 11 (by decide)], by rw [h 12 (by decide)]⟩, by rw [h 14 (by decide)]⟩
theorem rTr_28 {ρ ρ' : Nat → Nat → Int32} (hT : rTr ρ) (h : ∀ q, ¬ q = 28 → ρ' q = ρ q) : rTr ρ' := by
  refine rTr_ag (rAg_28 hT h) hT (fun t ht => ?_)
  have := (hT t ht).1
  have e : rM ρ' t = rM ρ t := by unfold rM; rw [h 13 (by decide)]
  rw [h 13 (by decide), e]
  exact this
theorem rp_loops {d c s B : Nat} {x : Int32} {σ : zSt} {X : zM} {ρ : Nat → Nat → Int32} {l : Nat → Nat → Int64} {Q : Option zV → zM → Prop} (hG : zGood B σ) (hR : zRef ρ l σ) (k : ∀ ρ' l', zRef ρ' l' σ → Q (some (zi (aLoops σ x))) (OM X 1 0 ρ' l')) : Ev (d + 3) c s 222 0 [some (zr (some (1, 0, 0))), some (zi x), none, none, none, none] [] (OM X 1 0 ρ l) Q := by
  have hTx := hG.1.2.1
  have hT := rTr_of hTx hR.2.2.2.2.2
  have hA := rAg_τ hTx hR.2.2.2.2.2
  unfold aLoops at k
  refine g222_0 (fun h => ?_) (fun h => ?_)
  · obtain ⟨v, hv, rfl⟩ := zrangeL (by decide) h
    have hv : v < 3 := hv
    rw [aIx_some hv (by decide)] at k
    simp only [] at k
    -- the second loop
    have two : ∀ ρ1 : Nat → Nat → Int32, (∀ q, ¬ q = 28 → ρ1 q = ρ q) → (∀ h, h < 6 → ρ1 28 h = nI (aBe σ.w h)) → ∀ o5, Ev (d + 3) c s 222 82 [some (zr (some (1, 0, 0))), some (zi (nI v)), some (zi (-4)), some (zi (nI 0)), some (zi (nI 0)), o5] [] (OM X 1 0 ρ1 l) Q := by
      intro ρ1 hf hB o5
      have hz : zRef ρ1 l σ := hR.keep (fun q i a1 a2 => by rw [hf q (by omega)]) (fun _ => rfl)
      have k := k ρ1 l hz
      have key : ∀ j g (o5 : Option zV), g + j = 6 → Ev (d + 3) c s 222 82 [some (zr (some (1, 0, 0))), some (zi (nI v)), some (zi (lLe (aBe σ.w) g)), some (zi (nI (lSe (aBe σ.w) g))), some (zi (nI g)), o5] [] (OM X 1 0 ρ1 l) Q := by
        intro j
        induction j with
        | zero =>
          intro g o5 hg
          have hg : g = 6 := by omega
          subst hg
          have hs := lSe_lt (aBe σ.w) 6
          have e0 : nI (lSe (aBe σ.w) 6) = 0 ↔ lSe (aBe σ.w) 6 = 0 := zeq (b := 0) (by omega) (by decide)
          refine g222_82 (by omega) (by omega) (fun _ a b => ?_) (fun _ a b => ?_) (fun _ a b => ?_) (fun _ a b => ?_) (fun g => by omega)
          · rw [if_neg a, if_neg b] at k; exact k
          · rw [if_neg a, if_pos b] at k; exact k
          · rw [if_pos a, if_pos (e0.mp b)] at k; exact k
          · rw [if_pos a, if_neg (fun e => b (e0.mpr e))] at k; exact k
        | succ j ih =>
          intro g o5 hg
          refine g222_82 (by omega) (by omega) (fun g => by omega) (fun g => by omega) (fun g => by omega) (fun g => by omega) (fun _ => ?_)
          refine sp_loopOf (B := aBe σ.w) (by omega) (fun h hh => ⟨hB h hh, rBeN_lt _ _ 6⟩) ?_
          have ih := ih (g + 1) (some (zi (nI (lLo (aBe σ.w) g)))) (by omega)
          have hl := lLoF_le (aBe σ.w) g 6 1 (2 ^ g)
          have hl : lLo (aBe σ.w) g < 8 := hl
          have hs := lSe_lt (aBe σ.w) g
          unfold lLe lSe at ih
          have ez : 0 < lLo (aBe σ.w) g → nI (lSe (aBe σ.w) g) ||| (nI 1 <<< (nI g &&& 31)) = nI (lSe (aBe σ.w) g + 2 ^ g) := fun _ => zor (by omega) hs
          refine g222_95 (by omega) (fun a _ => ?_) (fun a b => by omega) (fun a b => by omega) (fun a b => by omega) (fun a b => by omega) (fun a _ b => ?_) (fun a _ b c' => ?_) (fun a _ b c' => ?_)
          · have e : lLo (aBe σ.w) g = 0 := by omega
            rw [if_pos e, if_pos e, Nat.add_zero] at ih
            rw [zor0]
            exact ih
          · rw [if_neg (by omega), if_pos b, if_neg (by omega)] at ih
            rw [ez a]
            exact ih
          · rw [if_neg (by omega), if_neg (Int32.not_lt.mpr b), if_neg (Int32.not_lt.mpr c'), if_neg (by omega)] at ih
            rw [ez a]
            exact ih
          · rw [if_neg (by omega), if_neg (Int32.not_lt.mpr b), if_pos c', if_neg (by omega)] at ih
            rw [ez a]
            exact ih
      exact key 6 0 o5 (by omega)
    -- the first loop
    have one : ∀ j a (ρ1 : Nat → Nat → Int32) (o3 : Option zV), a + j = 6 → (∀ q, ¬ q = 28 → ρ1 q = ρ q) → (∀ h, h < a → ρ1 28 h = nI (aBe σ.w h)) → Ev (d + 3) c s 222 16 [some (zr (some (1, 0, 0))), some (zi (nI v)), some (zi (nI a)), o3, none, none] [] (OM X 1 0 ρ1 l) Q := by
      intro j
      induction j with
      | zero =>
        intro a ρ1 o3 ha hf hB
        exact g222_16 (by omega) (fun _ => two ρ1 hf (fun h hh => hB h (by omega)) _) (fun g => by omega) (fun g => by omega)
      | succ j ih =>
        intro a ρ1 o3 ha hf hB
        refine g222_16 (by omega) (fun g => by omega) (fun _ => by omega) (fun _ => ?_)
        have inner : ∀ r b (ρ2 : Nat → Nat → Int32), b + r = 6 → (∀ q, ¬ q = 28 → ρ2 q = ρ q) → (∀ h, h < a → ρ2 28 h = nI (aBe σ.w h)) → ρ2 28 a = nI (rBeN (tτ σ.w) a b) → Ev (d + 3) c s 222 31 [some (zr (some (1, 0, 0))), some (zi (nI v)), some (zi (nI a)), some (zi (nI b)), none, none] [] (OM X 1 0 ρ2 l) Q := by
          intro r
          induction r with
          | zero =>
            intro b ρ2 hb hf2 hB2 hba
            have hb : b = 6 := by omega
            subst hb
            refine g222_31 (by omega) (fun _ => ih (a + 1) ρ2 _ (by omega) hf2 (fun h hh => ?_)) (fun g => by omega) (fun g => by omega)
            by_cases e : h = a
            · subst e; exact hba
            · exact hB2 h (by omega)
          | succ r ihr =>
            intro b ρ2 hb hf2 hB2 hba
            have hT2 := rTr_28 hT hf2
            have ag2 := rAg_28 hT hf2
            have hs := rBeN_lt (tτ σ.w) a b
            refine g222_31 (by omega) (fun g => by omega) (fun _ => by omega) (fun _ => ?_)
            rw [hba]
            refine sp_isAhead (by omega) (by omega) hT2 (fun hh => ?_) (fun hh => ?_)
            · refine g222_50 (by omega) (ihr (b + 1) _ (by omega) (fun q hq => ?_) (fun h hh' => ?_) ?_)
              · rw [zu_q _ _ _ _ hq]; exact hf2 q hq
              · rw [zu_i_ne (by omega)]; exact hB2 h hh'
              · rw [zu_s, zor (by omega) hs]
                show _ = nI (rBeN (tτ σ.w) a b + @ite Nat (rAh (tτ σ.w) a b) (Classical.propDecidable _) (2 ^ b) 0)
                rw [if_pos ((rAh_ag hA a b).mpr ((rAh_ag ag2 a b).mp hh))]
            · refine g222_50z (by omega) (ihr (b + 1) _ (by omega) (fun q hq => ?_) (fun h hh' => ?_) ?_)
              · rw [zu_q _ _ _ _ hq]; exact hf2 q hq
              · rw [zu_i_ne (by omega)]; exact hB2 h hh'
              · rw [zu_s, zor0]
                show _ = nI (rBeN (tτ σ.w) a b + @ite Nat (rAh (tτ σ.w) a b) (Classical.propDecidable _) (2 ^ b) 0)
                rw [if_neg (fun e => hh ((rAh_ag ag2 a b).mpr ((rAh_ag hA a b).mp e))), Nat.add_zero]
        refine inner 6 0 _ (by omega) (fun q hq => ?_) (fun h hh => ?_) (zu_s _ _ _ _)
        · rw [zu_q _ _ _ _ hq]; exact hf q hq
        · rw [zu_i_ne (by omega)]; exact hB h hh
    exact one 6 0 ρ _ (by omega) (fun _ _ => rfl) (fun h hh => absurd hh (Nat.not_lt_zero h))
  · rw [zrangeN (m := 2) (by decide) h] at k
    exact k _ _ hR
