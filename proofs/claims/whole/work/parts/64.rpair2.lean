/-! the reference: ways, odds, near -/
theorem rIns_rows {ρ ρ' : Nat → Nat → Int32} (h10 : ρ' 10 = ρ 10) (h11 : ρ' 11 = ρ 11) (t u : Nat) (g : Int32) : rIns ρ' t u g = rIns ρ t u g := by
  induction u with
  | zero => rfl
  | succ u ih => unfold rIns; rw [ih, h10, h11]
theorem rSet_rows {ρ ρ' : Nat → Nat → Int32} (h10 : ρ' 10 = ρ 10) (h11 : ρ' 11 = ρ 11) (t u g : Nat) : rSetL ρ' t u g = rSetL ρ t u g := by
  induction g with
  | zero => rfl
  | succ g ih => unfold rSetL; rw [ih, rIns_rows h10 h11]
theorem gC_rows {ρ ρ' : Nat → Nat → Int32} (h10 : ρ' 10 = ρ 10) (h11 : ρ' 11 = ρ 11) (h13 : ρ' 13 = ρ 13) (i j p q : Nat) : gC ρ' i j p q = gC ρ i j p q := by
  unfold gC rM rShut
  rw [show rSet ρ' j q = rSet ρ j q from rSet_rows h10 h11 j q 6, h10, h11, h13]
def gFr (ρ ρ' : Nat → Nat → Int32) : Prop := ∀ q i, ¬ q = 31 → ¬ q = 32 → ¬ (q = 0 ∧ i = 46) → ρ' q i = ρ q i
theorem gFr.row {ρ ρ' : Nat → Nat → Int32} (h : gFr ρ ρ') {q : Nat} (h0 : ¬ q = 0) (h31 : ¬ q = 31) (h32 : ¬ q = 32) : ρ' q = ρ q := funext fun i => h q i h31 h32 (fun e => h0 e.1)
theorem gFr.tr {ρ ρ' : Nat → Nat → Int32} (h : gFr ρ ρ') (hT : rTr ρ) : rTr ρ' ∧ ∀ t, rM ρ' t = rM ρ t := by
  have e11 : ρ' 11 = ρ 11 := h.row (by decide) (by decide) (by decide)
  have e13 : ρ' 13 = ρ 13 := h.row (by decide) (by decide) (by decide)
  have em : ∀ t, rM ρ' t = rM ρ t := fun t => by unfold rM; rw [e13]
  refine ⟨fun t ht => ?_, em⟩
  have := hT t ht
  rw [em, e13]
  refine ⟨this.1, this.2.1, fun k hk => ?_⟩
  have := this.2.2 k hk
  unfold rG at this ⊢
  rw [e11]
  exact this
theorem gRel_skip {l : Nat → Nat → Int64} {m p q : Nat} {S : gS} (hI : gInv m p q S) (h : gRel l p q S) (h0 : S.1 q = 0) : gRel l p (q + 1) S := by
  obtain ⟨r1, r2⟩ := h
  refine ⟨fun r c hr hc => ⟨fun g => ?_, fun g => ?_⟩, r2⟩
  · by_cases e : c = q
    · subst e
      rw [h0, hI.2.2.1 c h0]
      exact (r1 r c hr hc).2 (by omega)
    · exact (r1 r c hr hc).1 (by omega)
  · exact (r1 r c hr hc).2 (by omega)
theorem gRel_next {l : Nat → Nat → Int64} {m p : Nat} {S : gS} (hI : gInv m p (m + 1) S) (h : gRel l p (m + 1) S) : gRel l (p + 1) 0 S := by
  obtain ⟨r1, r2⟩ := h
  refine ⟨fun r c hr hc => ⟨fun g => ?_, fun g => ?_⟩, r2⟩
  · by_cases e : c < m + 1
    · exact (r1 r c hr hc).1 (by omega)
    · have h0 := hI.2.2.2 c (by omega)
      rw [h0, hI.2.2.1 c h0]
      exact (r1 r c hr hc).2 (by omega)
  · exact (r1 r c hr hc).2 (by omega)
theorem g225_0 {d c s : Nat} {i j : Nat} {X : zM} {ρ : Nat → Nat → Int32} {l : Nat → Nat → Int64} {Q : Option zV → zM → Prop}
    (h1 : Ev d c s 225 2 [some (zr (some (1, 0, 0))), some (zi (nI i)), some (zi (nI j)), some (zi (nI 0)), none] [] (OM X 1 0 ρ l) Q) : Ev d c s 225 0 [some (zr (some (1, 0, 0))), some (zi (nI i)), some (zi (nI j)), none, none] [] (OM X 1 0 ρ l) Q := by
  refine Ew.op (st' := zi (nI 0) :: _) f225_0 rfl rfl ?_
  refine Ew.sr (ls' := [some (zr (some (1, 0, 0))), some (zi (nI i)), some (zi (nI j)), some (zi (nI 0)), none]) f225_1 rfl rfl (Nat.le_of_ble_eq_true rfl) rfl rfl ?_
  exact h1
theorem g225_2 {d c s : Nat} {i j k n m : Nat} {X : zM} {ρ : Nat → Nat → Int32} {l : Nat → Nat → Int64} {Q : Option zV → zM → Prop} (e1 : ρ 13 i = nI n) (e2 : ρ 13 j = nI m) (nb_k : k < 5000) (nb_n : n < 5000)
    (b1 : i < 4)
    (h1 : (n < k) → Ev (d + 3) c s 225 32 [some (zr (some (1, 0, 0))), some (zi (nI i)), some (zi (nI j)), some (zi (nI 0)), none] [] (OM X 1 0 ρ l) Q)
    (b2 : (k ≤ n) → i < 4)
    (b3 : (k ≤ n) → k ≤ 30)
    (b4 : (k ≤ n) → k < 31)
    (h2 : (k ≤ n) → Ev (d + 3) c s 225 2 [some (zr (some (1, 0, 0))), some (zi (nI i)), some (zi (nI j)), some (zi (nI (k + 1))), none] [] (OM X 1 0 (zu ρ 31 k (rSet ρ i k)) l) Q) : Ev (d + 3) c s 225 2 [some (zr (some (1, 0, 0))), some (zi (nI i)), some (zi (nI j)), some (zi (nI k)), none] [] (OM X 1 0 ρ l) Q := by
  refine Ew.ld f225_2 rfl rfl rfl rfl ?_
  refine Ew.ld f225_3 rfl rfl rfl rfl ?_
  refine Ew.getp (v := some (1, 0, 13)) f225_4 rfl rfl rfl ?_
  refine Ew.ld f225_7 rfl rfl rfl rfl ?_
  refine Ew.ialdnV (v := nI n) f225_8 rfl b1 (Nat.le_of_ble_eq_true rfl) rfl (so_v e1) ?_
  refine Ew.icmp f225_9 rfl rfl (fun c1 => ?_) (fun c1 => ?_)
  · refine Ew.op (st' := zi (nI 0) :: _) f225_30 rfl rfl ?_
    refine Ew.sr (ls' := [some (zr (some (1, 0, 0))), some (zi (nI i)), some (zi (nI j)), some (zi (nI 0)), none]) f225_31 rfl rfl (Nat.le_of_ble_eq_true rfl) rfl rfl ?_
    exact h1 ((zlt_iff nb_n nb_k).mp c1)
  · refine Ew.ld f225_12 rfl rfl rfl rfl ?_
    refine Ew.getp (v := some (1, 0, 31)) f225_13 rfl rfl rfl ?_
    refine Ew.ld f225_16 rfl rfl rfl rfl ?_
    refine Ew.ld f225_17 rfl rfl rfl rfl ?_
    refine Ew.ld f225_18 rfl rfl rfl rfl ?_
    refine Ew.ld f225_19 rfl rfl rfl rfl ?_
    refine Ew.call0 (ls0 := [some (zr (some (1, 0, 0))), some (zi (nI i)), some (zi (nI k)), none, none]) f225_20 rfl (Nat.le_of_ble_eq_true rfl) rfl rfl (Nat.le_of_ble_eq_true rfl) rfl (Nat.le_of_ble_eq_true rfl) rfl rfl ?_
    refine sp_heldBy (b2 (Nat.not_lt.mp fun e => c1 ((zlt_iff nb_n nb_k).mpr e))) (b3 (Nat.not_lt.mp fun e => c1 ((zlt_iff nb_n nb_k).mpr e))) ?_
    show Ev (d + 3) c s 225 23 [some (zr (some (1, 0, 0))), some (zi (nI i)), some (zi (nI j)), some (zi (nI k)), none] [zi (rSet ρ i k), zi (nI k), zr (some (1, 0, 31))] (OM X 1 0 ρ l) Q
    refine Ew.iastnO f225_23 (by decide) rfl (b4 (Nat.not_lt.mp fun e => c1 ((zlt_iff nb_n nb_k).mpr e))) (Nat.le_of_ble_eq_true rfl) rfl ?_
    refine Ew.iinc (v := nI (k + 1)) (ls' := [some (zr (some (1, 0, 0))), some (zi (nI i)), some (zi (nI j)), some (zi (nI (k + 1))), none]) f225_24 rfl (nI_1 _) rfl rfl ?_
    refine Ew.goto f225_27 rfl ?_
    exact h2 (Nat.not_lt.mp fun e => c1 ((zlt_iff nb_n nb_k).mpr e))
theorem g225_32 {d c s : Nat} {i j k n m : Nat} {X : zM} {ρ : Nat → Nat → Int32} {l : Nat → Nat → Int64} {Q : Option zV → zM → Prop} (e1 : ρ 13 i = nI n) (e2 : ρ 13 j = nI m) (nb_k : k < 5000) (nb_m : m < 5000)
    (b1 : j < 4)
    (h1 : (m < k) → Ev (d + 3) c s 225 62 [some (zr (some (1, 0, 0))), some (zi (nI i)), some (zi (nI j)), some (zi (nI 0)), none] [] (OM X 1 0 ρ l) Q)
    (b2 : (k ≤ m) → j < 4)
    (b3 : (k ≤ m) → k ≤ 30)
    (b4 : (k ≤ m) → k < 31)
    (h2 : (k ≤ m) → Ev (d + 3) c s 225 32 [some (zr (some (1, 0, 0))), some (zi (nI i)), some (zi (nI j)), some (zi (nI (k + 1))), none] [] (OM X 1 0 (zu ρ 32 k (rSet ρ j k)) l) Q) : Ev (d + 3) c s 225 32 [some (zr (some (1, 0, 0))), some (zi (nI i)), some (zi (nI j)), some (zi (nI k)), none] [] (OM X 1 0 ρ l) Q := by
  refine Ew.ld f225_32 rfl rfl rfl rfl ?_
  refine Ew.ld f225_33 rfl rfl rfl rfl ?_
  refine Ew.getp (v := some (1, 0, 13)) f225_34 rfl rfl rfl ?_
  refine Ew.ld f225_37 rfl rfl rfl rfl ?_
  refine Ew.ialdnV (v := nI m) f225_38 rfl b1 (Nat.le_of_ble_eq_true rfl) rfl (so_v e2) ?_
  refine Ew.icmp f225_39 rfl rfl (fun c1 => ?_) (fun c1 => ?_)
  · refine Ew.op (st' := zi (nI 0) :: _) f225_60 rfl rfl ?_
    refine Ew.sr (ls' := [some (zr (some (1, 0, 0))), some (zi (nI i)), some (zi (nI j)), some (zi (nI 0)), none]) f225_61 rfl rfl (Nat.le_of_ble_eq_true rfl) rfl rfl ?_
    exact h1 ((zlt_iff nb_m nb_k).mp c1)
  · refine Ew.ld f225_42 rfl rfl rfl rfl ?_
    refine Ew.getp (v := some (1, 0, 32)) f225_43 rfl rfl rfl ?_
    refine Ew.ld f225_46 rfl rfl rfl rfl ?_
    refine Ew.ld f225_47 rfl rfl rfl rfl ?_
    refine Ew.ld f225_48 rfl rfl rfl rfl ?_
    refine Ew.ld f225_49 rfl rfl rfl rfl ?_
    refine Ew.call0 (ls0 := [some (zr (some (1, 0, 0))), some (zi (nI j)), some (zi (nI k)), none, none]) f225_50 rfl (Nat.le_of_ble_eq_true rfl) rfl rfl (Nat.le_of_ble_eq_true rfl) rfl (Nat.le_of_ble_eq_true rfl) rfl rfl ?_
    refine sp_heldBy (b2 (Nat.not_lt.mp fun e => c1 ((zlt_iff nb_m nb_k).mpr e))) (b3 (Nat.not_lt.mp fun e => c1 ((zlt_iff nb_m nb_k).mpr e))) ?_
    show Ev (d + 3) c s 225 53 [some (zr (some (1, 0, 0))), some (zi (nI i)), some (zi (nI j)), some (zi (nI k)), none] [zi (rSet ρ j k), zi (nI k), zr (some (1, 0, 32))] (OM X 1 0 ρ l) Q
    refine Ew.iastnO f225_53 (by decide) rfl (b4 (Nat.not_lt.mp fun e => c1 ((zlt_iff nb_m nb_k).mpr e))) (Nat.le_of_ble_eq_true rfl) rfl ?_
    refine Ew.iinc (v := nI (k + 1)) (ls' := [some (zr (some (1, 0, 0))), some (zi (nI i)), some (zi (nI j)), some (zi (nI (k + 1))), none]) f225_54 rfl (nI_1 _) rfl rfl ?_
    refine Ew.goto f225_57 rfl ?_
    exact h2 (Nat.not_lt.mp fun e => c1 ((zlt_iff nb_m nb_k).mpr e))
theorem g225_62 {d c s : Nat} {i j k : Nat} {X : zM} {ρ : Nat → Nat → Int32} {l : Nat → Nat → Int64} {Q : Option zV → zM → Prop} (nb_k : k < 5000)
    (h1 : (961 ≤ k) → Ev d c s 225 128 [some (zr (some (1, 0, 0))), some (zi (nI i)), some (zi (nI j)), some (zi (nI 0)), none] [] (OM X 1 0 (zu ρ 0 46 ((-4))) (zu (zu (zu (zu (zu l 29 0 (lN 1)) 30 0 ((1152921504606846976))) 0 43 (lN 0)) 0 44 (lN 0)) 0 45 (lN 0))) Q)
    (b1 : (k < 961) → k < 961)
    (b2 : (k < 961) → k < 961)
    (h2 : (k < 961) → Ev d c s 225 62 [some (zr (some (1, 0, 0))), some (zi (nI i)), some (zi (nI j)), some (zi (nI (k + 1))), none] [] (OM X 1 0 ρ (zu (zu l 29 k (lN 0)) 30 k (lN 0))) Q) : Ev d c s 225 62 [some (zr (some (1, 0, 0))), some (zi (nI i)), some (zi (nI j)), some (zi (nI k)), none] [] (OM X 1 0 ρ l) Q := by
  refine Ew.ld f225_62 rfl rfl rfl rfl ?_
  refine Ew.op (st' := zi (nI 961) :: _) f225_63 rfl rfl ?_
  refine Ew.icmp f225_66 rfl rfl (fun c1 => ?_) (fun c1 => ?_)
  · refine Ew.ld f225_89 rfl rfl rfl rfl ?_
    refine Ew.getp (v := some (1, 0, 29)) f225_90 rfl rfl rfl ?_
    refine Ew.op (st' := zi (nI 0) :: _) f225_93 rfl rfl ?_
    refine Ew.op (st' := zl (lN 1) :: _) f225_94 rfl rfl ?_
    refine Ew.lastnO f225_95 rfl (show 0 < 961 by decide) (Nat.le_of_ble_eq_true rfl) rfl ?_
    refine Ew.ld f225_96 rfl rfl rfl rfl ?_
    refine Ew.getp (v := some (1, 0, 30)) f225_97 rfl rfl rfl ?_
    refine Ew.op (st' := zi (nI 0) :: _) f225_100 rfl rfl ?_
    refine Ew.op (st' := zl ((1152921504606846976)) :: _) f225_101 rfl rfl ?_
    refine Ew.lastnO f225_104 rfl (show 0 < 961 by decide) (Nat.le_of_ble_eq_true rfl) rfl ?_
    refine Ew.ld f225_105 rfl rfl rfl rfl ?_
    refine Ew.op (st' := zl (lN 0) :: _) f225_106 rfl rfl ?_
    refine Ew.putlO f225_107 rfl rfl ?_
    refine Ew.ld f225_110 rfl rfl rfl rfl ?_
    refine Ew.op (st' := zl (lN 0) :: _) f225_111 rfl rfl ?_
    refine Ew.putlO f225_112 rfl rfl ?_
    refine Ew.ld f225_115 rfl rfl rfl rfl ?_
    refine Ew.op (st' := zl (lN 0) :: _) f225_116 rfl rfl ?_
    refine Ew.putlO f225_117 rfl rfl ?_
    refine Ew.ld f225_120 rfl rfl rfl rfl ?_
    refine Ew.op (st' := zi ((-4)) :: _) f225_121 rfl rfl ?_
    refine Ew.putiO f225_123 rfl rfl ?_
    refine Ew.op (st' := zi (nI 0) :: _) f225_126 rfl rfl ?_
    refine Ew.sr (ls' := [some (zr (some (1, 0, 0))), some (zi (nI i)), some (zi (nI j)), some (zi (nI 0)), none]) f225_127 rfl rfl (Nat.le_of_ble_eq_true rfl) rfl rfl ?_
    exact h1 ((zle_iff (by decide) nb_k).mp c1)
  · refine Ew.ld f225_69 rfl rfl rfl rfl ?_
    refine Ew.getp (v := some (1, 0, 29)) f225_70 rfl rfl rfl ?_
    refine Ew.ld f225_73 rfl rfl rfl rfl ?_
    refine Ew.op (st' := zl (lN 0) :: _) f225_74 rfl rfl ?_
    refine Ew.lastnO f225_75 rfl (b1 (Nat.not_le.mp fun e => c1 ((zle_iff (by decide) nb_k).mpr e))) (Nat.le_of_ble_eq_true rfl) rfl ?_
    refine Ew.ld f225_76 rfl rfl rfl rfl ?_
    refine Ew.getp (v := some (1, 0, 30)) f225_77 rfl rfl rfl ?_
    refine Ew.ld f225_80 rfl rfl rfl rfl ?_
    refine Ew.op (st' := zl (lN 0) :: _) f225_81 rfl rfl ?_
    refine Ew.lastnO f225_82 rfl (b2 (Nat.not_le.mp fun e => c1 ((zle_iff (by decide) nb_k).mpr e))) (Nat.le_of_ble_eq_true rfl) rfl ?_
    refine Ew.iinc (v := nI (k + 1)) (ls' := [some (zr (some (1, 0, 0))), some (zi (nI i)), some (zi (nI j)), some (zi (nI (k + 1))), none]) f225_83 rfl (nI_1 _) rfl rfl ?_
    refine Ew.goto f225_86 rfl ?_
    exact h2 (Nat.not_le.mp fun e => c1 ((zle_iff (by decide) nb_k).mpr e))
theorem g225_128 {d c s : Nat} {i j p n m : Nat} {o4 : Option zV} {X : zM} {ρ : Nat → Nat → Int32} {l : Nat → Nat → Int64} {Q : Option zV → zM → Prop} (e1 : ρ 13 i = nI n) (e2 : ρ 13 j = nI m) (nb_p : p < 5000) (nb_n : n < 5000)
    (b1 : i < 4)
    (h1 : (n < p) → Q none (OM X 1 0 ρ l))
    (h2 : (p ≤ n) → Ev d c s 225 141 [some (zr (some (1, 0, 0))), some (zi (nI i)), some (zi (nI j)), some (zi (nI p)), some (zi (nI 0))] [] (OM X 1 0 ρ l) Q) : Ev d c s 225 128 [some (zr (some (1, 0, 0))), some (zi (nI i)), some (zi (nI j)), some (zi (nI p)), o4] [] (OM X 1 0 ρ l) Q := by
  refine Ew.ld f225_128 rfl rfl rfl rfl ?_
  refine Ew.ld f225_129 rfl rfl rfl rfl ?_
  refine Ew.getp (v := some (1, 0, 13)) f225_130 rfl rfl rfl ?_
  refine Ew.ld f225_133 rfl rfl rfl rfl ?_
  refine Ew.ialdnV (v := nI n) f225_134 rfl b1 (Nat.le_of_ble_eq_true rfl) rfl (so_v e1) ?_
  refine Ew.icmp f225_135 rfl rfl (fun c1 => ?_) (fun c1 => ?_)
  · refine Ew.vret f225_190 ?_
    exact h1 ((zlt_iff nb_n nb_p).mp c1)
  · refine Ew.op (st' := zi (nI 0) :: _) f225_138 rfl rfl ?_
    refine Ew.sr (ls' := [some (zr (some (1, 0, 0))), some (zi (nI i)), some (zi (nI j)), some (zi (nI p)), some (zi (nI 0))]) f225_139 rfl rfl (Nat.le_of_ble_eq_true rfl) rfl rfl ?_
    exact h2 (Nat.not_lt.mp fun e => c1 ((zlt_iff nb_n nb_p).mpr e))
theorem g225_141 {d c s : Nat} {i j p q n m : Nat} {X : zM} {ρ : Nat → Nat → Int32} {l : Nat → Nat → Int64} {Q : Option zV → zM → Prop} (e1 : ρ 13 i = nI n) (e2 : ρ 13 j = nI m) (nb_q : q < 5000) (nb_m : m < 5000)
    (b1 : j < 4)
    (h1 : (m < q) → Ev (d + 1) c s 225 128 [some (zr (some (1, 0, 0))), some (zi (nI i)), some (zi (nI j)), some (zi (nI (p + 1))), some (zi (nI q))] [] (OM X 1 0 ρ l) Q)
    (b2 : (q ≤ m) → 31 * p + q < 961)
    (h2 : (q ≤ m) → ((lg_cmp (l 29 (31 * p + q)) (lN 0)) ≤ 0) → Ev (d + 1) c s 225 141 [some (zr (some (1, 0, 0))), some (zi (nI i)), some (zi (nI j)), some (zi (nI p)), some (zi (nI (q + 1)))] [] (OM X 1 0 ρ l) Q)
    (h3 : (q ≤ m) → (0 < (lg_cmp (l 29 (31 * p + q)) (lN 0))) → Ev d 0 0 224 0 [some (zr (some (1, 0, 0))), some (zi (nI i)), some (zi (nI j)), some (zi (nI p)), some (zi (nI q)), none, none, none, none, none, none] [] (OM X 1 0 ρ l) (fun r M' => Ev (d + 1) c s 225 178 [some (zr (some (1, 0, 0))), some (zi (nI i)), some (zi (nI j)), some (zi (nI p)), some (zi (nI q))] (zpush r []) M' Q)) : Ev (d + 1) c s 225 141 [some (zr (some (1, 0, 0))), some (zi (nI i)), some (zi (nI j)), some (zi (nI p)), some (zi (nI q))] [] (OM X 1 0 ρ l) Q := by
  refine Ew.ld f225_141 rfl rfl rfl rfl ?_
  refine Ew.ld f225_143 rfl rfl rfl rfl ?_
  refine Ew.getp (v := some (1, 0, 13)) f225_144 rfl rfl rfl ?_
  refine Ew.ld f225_147 rfl rfl rfl rfl ?_
  refine Ew.ialdnV (v := nI m) f225_148 rfl b1 (Nat.le_of_ble_eq_true rfl) rfl (so_v e2) ?_
  refine Ew.icmp f225_149 rfl rfl (fun c1 => ?_) (fun c1 => ?_)
  · refine Ew.iinc (v := nI (p + 1)) (ls' := [some (zr (some (1, 0, 0))), some (zi (nI i)), some (zi (nI j)), some (zi (nI (p + 1))), some (zi (nI q))]) f225_184 rfl (nI_1 _) rfl rfl ?_
    refine Ew.goto f225_187 rfl ?_
    exact h1 ((zlt_iff nb_m nb_q).mp c1)
  · refine Ew.ld f225_152 rfl rfl rfl rfl ?_
    refine Ew.getp (v := some (1, 0, 29)) f225_153 rfl rfl rfl ?_
    refine Ew.op (st' := zi (nI 31) :: _) f225_156 rfl rfl ?_
    refine Ew.ld f225_158 rfl rfl rfl rfl ?_
    refine Ew.muln f225_159 rfl ?_
    refine Ew.ld f225_160 rfl rfl rfl rfl ?_
    refine Ew.addn f225_162 rfl ?_
    refine Ew.laldnO f225_163 rfl (b2 (Nat.not_lt.mp fun e => c1 ((zlt_iff nb_m nb_q).mpr e))) (Nat.le_of_ble_eq_true rfl) rfl ?_
    refine Ew.op (st' := zl (lN 0) :: _) f225_164 rfl rfl ?_
    refine Ew.op (st' := zi (lg_cmp (l 29 (31 * p + q)) (lN 0)) :: _) f225_165 rfl rfl ?_
    refine Ew.ifc f225_166 rfl rfl (fun c2 => ?_) (fun c2 => ?_)
    · refine Ew.iinc (v := nI (q + 1)) (ls' := [some (zr (some (1, 0, 0))), some (zi (nI i)), some (zi (nI j)), some (zi (nI p)), some (zi (nI (q + 1)))]) f225_178 rfl (nI_1 _) rfl rfl ?_
      refine Ew.goto f225_181 rfl ?_
      exact h2 (Nat.not_lt.mp fun e => c1 ((zlt_iff nb_m nb_q).mpr e)) c2
    · refine Ew.ld f225_169 rfl rfl rfl rfl ?_
      refine Ew.ld f225_170 rfl rfl rfl rfl ?_
      refine Ew.ld f225_171 rfl rfl rfl rfl ?_
      refine Ew.ld f225_172 rfl rfl rfl rfl ?_
      refine Ew.ld f225_173 rfl rfl rfl rfl ?_
      refine Ew.call0 (ls0 := [some (zr (some (1, 0, 0))), some (zi (nI i)), some (zi (nI j)), some (zi (nI p)), some (zi (nI q)), none, none, none, none, none, none]) f225_175 rfl (Nat.le_of_ble_eq_true rfl) rfl rfl (Nat.le_of_ble_eq_true rfl) rfl (Nat.le_of_ble_eq_true rfl) rfl rfl ?_
      exact h3 (Nat.not_lt.mp fun e => c1 ((zlt_iff nb_m nb_q).mpr e)) (Int32.not_le.mp c2)
theorem g225_178 {d c s : Nat} {i j p q : Nat} {X : zM} {ρ : Nat → Nat → Int32} {l : Nat → Nat → Int64} {Q : Option zV → zM → Prop}
    (h1 : Ev d c s 225 141 [some (zr (some (1, 0, 0))), some (zi (nI i)), some (zi (nI j)), some (zi (nI p)), some (zi (nI (q + 1)))] [] (OM X 1 0 ρ l) Q) : Ev d c s 225 178 [some (zr (some (1, 0, 0))), some (zi (nI i)), some (zi (nI j)), some (zi (nI p)), some (zi (nI q))] [] (OM X 1 0 ρ l) Q := by
  refine Ew.iinc (v := nI (q + 1)) (ls' := [some (zr (some (1, 0, 0))), some (zi (nI i)), some (zi (nI j)), some (zi (nI p)), some (zi (nI (q + 1)))]) f225_178 rfl (nI_1 _) rfl rfl ?_
  refine Ew.goto f225_181 rfl ?_
  exact h1
theorem gC_le {ρ : Nat → Nat → Int32} {i j p q : Nat} (h : gC ρ i j p q = true) : p < rM ρ i := (of_decide_eq_true h).1
theorem gRow_inv {C1 C2 : Nat → Nat → Bool} {n m p : Nat} {s : gS} (hp : p ≤ n) (hn : n ≤ 30) (hm : m ≤ 30) (h1 : ∀ q, C1 p q = true → p < n) (h2 : ∀ q, C2 p q = true → q < m) (hI : gInv m p 0 s) : ∀ q, q ≤ m + 1 → gInv m p q (gRow C1 C2 n m p q s) := by
  intro q
  induction q with
  | zero => intro _; exact hI
  | succ q ih =>
    intro hq
    unfold gRow
    exact gPl_inv (by omega) (by omega) hm (fun e => by have := h1 q e; omega) (fun e => by have := h2 q e; omega) (ih (by omega))
theorem gAll_inv {C1 C2 : Nat → Nat → Bool} {n m : Nat} (hn : n ≤ 30) (hm : m ≤ 30) (h1 : ∀ p q, C1 p q = true → p < n) (h2 : ∀ p q, C2 p q = true → q < m) : ∀ p, p ≤ n + 1 → gInv m p 0 (gAll C1 C2 n m p gS0) := by
  intro p
  induction p with
  | zero => intro _; exact gInv0 m
  | succ p ih =>
    intro hp
    unfold gAll
    exact gInv_next (gRow_inv (by omega) hn hm (h1 p) (h2 p) (ih (by omega)) (m + 1) (Nat.le_refl _))
theorem sp_goesBoth {d c s i j : Nat} {X : zM} {ρ : Nat → Nat → Int32} {l : Nat → Nat → Int64} {Q : Option zV → zM → Prop} (hi : i < 4) (hj : j < 4) (hT : rTr ρ) (k : ∀ ρ' l', gFr ρ ρ' → (∀ x, l' 8 x = l 8 x) → l' 0 43 = lN (gFin (gC ρ i j) (fun p q => gC ρ j i q p) (rM ρ i) (rM ρ j)).2.2.1 → l' 0 44 = lN (gFin (gC ρ i j) (fun p q => gC ρ j i q p) (rM ρ i) (rM ρ j)).2.2.2.1 → l' 0 45 = lN (gFin (gC ρ i j) (fun p q => gC ρ j i q p) (rM ρ i) (rM ρ j)).2.2.2.2.1 → ρ' 0 46 = (gFin (gC ρ i j) (fun p q => gC ρ j i q p) (rM ρ i) (rM ρ j)).2.2.2.2.2 → Q none (OM X 1 0 ρ' l')) : Ev (d + 3) c s 225 0 [some (zr (some (1, 0, 0))), some (zi (nI i)), some (zi (nI j)), none, none] [] (OM X 1 0 ρ l) Q := by
  obtain ⟨ti1, ti2, _⟩ := hT i hi
  obtain ⟨tj1, tj2, _⟩ := hT j hj
  have aI := gAll_inv (C1 := gC ρ i j) (C2 := fun p q => gC ρ j i q p) ti2 tj2 (fun p q e => gC_le e) (fun p q e => gC_le e)
  -- the main loops
  have main : ∀ r p (ρ1 : Nat → Nat → Int32) (l1 : Nat → Nat → Int64) (o4 : Option zV), p + r = rM ρ i + 1 → gFr ρ ρ1 → (∀ c, c ≤ rM ρ i → ρ1 31 c = rSet ρ i c) → (∀ c, c ≤ rM ρ j → ρ1 32 c = rSet ρ j c) → (∀ x, l1 8 x = l 8 x) → gRel l1 p 0 (gAll (gC ρ i j) (fun p q => gC ρ j i q p) (rM ρ i) (rM ρ j) p gS0) → ρ1 0 46 = (gAll (gC ρ i j) (fun p q => gC ρ j i q p) (rM ρ i) (rM ρ j) p gS0).2.2.2.2.2 → Ev (d + 3) c s 225 128 [some (zr (some (1, 0, 0))), some (zi (nI i)), some (zi (nI j)), some (zi (nI p)), o4] [] (OM X 1 0 ρ1 l1) Q := by
    intro r
    induction r with
    | zero =>
      intro p ρ1 l1 o4 hp hf h31 h32 h8 hr h46
      have hp : p = rM ρ i + 1 := by omega
      subst hp
      have e13 : ρ1 13 = ρ 13 := hf.row (by decide) (by decide) (by decide)
      refine g225_128 (n := rM ρ i) (m := rM ρ j) (by rw [e13]; exact ti1) (by rw [e13]; exact tj1) (by omega) (by omega) hi (fun _ => ?_) (fun g => by omega)
      exact k ρ1 l1 hf h8 hr.2.1 hr.2.2.1 hr.2.2.2 h46
    | succ r ih =>
      intro p ρ1 l1 o4 hp hf h31 h32 h8 hr h46
      have e13 : ρ1 13 = ρ 13 := hf.row (by decide) (by decide) (by decide)
      refine g225_128 (n := rM ρ i) (m := rM ρ j) (by rw [e13]; exact ti1) (by rw [e13]; exact tj1) (by omega) (by omega) hi (fun g => by omega) (fun _ => ?_)
      have rI := gRow_inv (C1 := gC ρ i j) (C2 := fun p q => gC ρ j i q p) (n := rM ρ i) (p := p) (by omega) ti2 tj2 (fun q e => gC_le e) (fun q e => gC_le e) (aI p (by omega))
      have inner : ∀ t q (ρ2 : Nat → Nat → Int32) (l2 : Nat → Nat → Int64), q + t = rM ρ j + 1 → gFr ρ ρ2 → (∀ c, c ≤ rM ρ i → ρ2 31 c = rSet ρ i c) → (∀ c, c ≤ rM ρ j → ρ2 32 c = rSet ρ j c) → (∀ x, l2 8 x = l 8 x) → gRel l2 p q (gRow (gC ρ i j) (fun p q => gC ρ j i q p) (rM ρ i) (rM ρ j) p q (gAll (gC ρ i j) (fun p q => gC ρ j i q p) (rM ρ i) (rM ρ j) p gS0)) → ρ2 0 46 = (gRow (gC ρ i j) (fun p q => gC ρ j i q p) (rM ρ i) (rM ρ j) p q (gAll (gC ρ i j) (fun p q => gC ρ j i q p) (rM ρ i) (rM ρ j) p gS0)).2.2.2.2.2 → Ev (d + 3) c s 225 141 [some (zr (some (1, 0, 0))), some (zi (nI i)), some (zi (nI j)), some (zi (nI p)), some (zi (nI q))] [] (OM X 1 0 ρ2 l2) Q := by
        intro t
        induction t with
        | zero =>
          intro q ρ2 l2 hq hf2 h31' h32' h8' hr' h46'
          have hq : q = rM ρ j + 1 := by omega
          subst hq
          have e13 : ρ2 13 = ρ 13 := hf2.row (by decide) (by decide) (by decide)
          refine g225_141 (n := rM ρ i) (m := rM ρ j) (by rw [e13]; exact ti1) (by rw [e13]; exact tj1) (by omega) (by omega) hj (fun _ => ?_) (fun g => by omega) (fun g => by omega) (fun g => by omega)
          exact ih (p + 1) ρ2 l2 _ (by omega) hf2 h31' h32' h8' (gRel_next (rI (rM ρ j + 1) (Nat.le_refl _)) hr') h46'
        | succ t iht =>
          intro q ρ2 l2 hq hf2 h31' h32' h8' hr' h46'
          have e13 : ρ2 13 = ρ 13 := hf2.row (by decide) (by decide) (by decide)
          have e10 : ρ2 10 = ρ 10 := hf2.row (by decide) (by decide) (by decide)
          have e11 : ρ2 11 = ρ 11 := hf2.row (by decide) (by decide) (by decide)
          obtain ⟨hT2, hM2⟩ := hf2.tr hT
          have hIq := rI q (by omega)
          have iht' := iht (q + 1)
          unfold gRow at iht'
          generalize gRow (gC ρ i j) (fun p q => gC ρ j i q p) (rM ρ i) (rM ρ j) p q (gAll (gC ρ i j) (fun p q => gC ρ j i q p) (rM ρ i) (rM ρ j) p gS0) = S at hr' h46' hIq iht'
          have hle := hIq.le (c := q) (by omega)
          have cell := ((hr'.1 p q (by omega) (by omega)).1 (Or.inl ⟨rfl, Nat.le_refl q⟩)).1
          have cmp := zcmpP (a := S.1 q) (b := 0) (by omega) (by decide)
          refine g225_141 (n := rM ρ i) (m := rM ρ j) (by rw [e13]; exact ti1) (by rw [e13]; exact tj1) (by omega) (by omega) hj (fun g => by omega) (fun _ => by omega) (fun _ g => ?_) (fun _ g => ?_)
          · rw [cell] at g
            have h0 : S.1 q = 0 := by
              by_cases e : S.1 q = 0
              · exact e
              · exact absurd (cmp.mpr (by omega)) (Int32.not_lt.mpr g)
            refine iht' ρ2 l2 (by omega) hf2 h31' h32' h8' ?_ ?_
            · unfold gPl
              rw [if_pos h0]
              exact gRel_skip hIq hr' h0
            · unfold gPl
              rw [if_pos h0]
              exact h46'
          · rw [cell] at g
            have h0 : ¬ S.1 q = 0 := by have := cmp.mp g; omega
            have c1 : gC ρ2 i j p q = gC ρ i j p q := gC_rows e10 e11 e13 i j p q
            have c2 : gC ρ2 j i q p = gC ρ j i q p := gC_rows e10 e11 e13 j i q p
            refine sp_goesOn (S := S) hi hj hT2 (by rw [hM2]; omega) (by rw [hM2]; omega) ?_ ?_ (by rw [hM2]; exact hIq) h0 hr' h46' (fun l3 v hr3 hv h83 => g225_178 ?_)
            · rw [h31' p (by omega)]
              exact (rSet_rows e10 e11 i p 6).symm
            · rw [h32' q (by omega)]
              exact (rSet_rows e10 e11 j q 6).symm
            · rw [hM2, hM2, c1, c2] at hr3 hv
              refine iht' (zu ρ2 0 46 v) l3 (by omega) (fun q' i' a1 a2 a3 => by rw [zu_i_ne (by omega)]; exact hf2 q' i' a1 a2 a3) (fun c' hc' => by rw [zu_i_ne (by omega)]; exact h31' c' hc') (fun c' hc' => by rw [zu_i_ne (by omega)]; exact h32' c' hc') (fun x => (h83 x).trans (h8' x)) hr3 (by rw [zu_s]; exact hv)
      exact inner (rM ρ j + 1) 0 ρ1 l1 (by omega) hf h31 h32 h8 hr h46
  -- the table is emptied
  have clr : ∀ r u (ρ1 : Nat → Nat → Int32) (l1 : Nat → Nat → Int64), u + r = 961 → gFr ρ ρ1 → (∀ c, c ≤ rM ρ i → ρ1 31 c = rSet ρ i c) → (∀ c, c ≤ rM ρ j → ρ1 32 c = rSet ρ j c) → (∀ x, l1 8 x = l 8 x) → (∀ x, x < u → l1 29 x = lN 0 ∧ l1 30 x = lN 0) → Ev (d + 3) c s 225 62 [some (zr (some (1, 0, 0))), some (zi (nI i)), some (zi (nI j)), some (zi (nI u)), none] [] (OM X 1 0 ρ1 l1) Q := by
    intro r
    induction r with
    | zero =>
      intro u ρ1 l1 hu hf h31 h32 h8 hz
      refine g225_62 (by omega) (fun _ => ?_) (fun g => by omega) (fun g => by omega) (fun g => by omega)
      refine main (rM ρ i + 1) 0 _ _ _ (by omega) (fun q' i' a1 a2 a3 => by rw [zu_i_ne (by omega)]; exact hf q' i' a1 a2 a3) (fun c' hc' => by rw [zu_i_ne (by omega)]; exact h31 c' hc') (fun c' hc' => by rw [zu_i_ne (by omega)]; exact h32 c' hc') (fun x => by rw [zu_i_ne (by omega), zu_i_ne (by omega), zu_i_ne (by omega), zu_i_ne (by omega), zu_i_ne (by omega)]; exact h8 x) ⟨fun r' c' hr' hc' => ⟨fun g => ?_, fun g => ?_⟩, ?_, ?_, ?_⟩ (zu_s _ _ _ _)
      · have hr0 : r' = 0 := by omega
        subst hr0
        refine ⟨?_, ?_⟩
        · rw [zu_i_ne (by omega), zu_i_ne (by omega), zu_i_ne (by omega), zu_i_ne (by omega)]
          show zu l1 29 0 (lN 1) 29 (31 * 0 + c') = lN (zup (fun _ => 0) 0 1 c')
          by_cases e : c' = 0
          · subst e
            rw [zup_s]
            exact zu_s _ _ _ _
          · rw [zup_nn e, zu_i_ne (by omega)]
            exact (hz _ (by omega)).1
        · rw [zu_i_ne (by omega), zu_i_ne (by omega), zu_i_ne (by omega)]
          show zu (zu l1 29 0 (lN 1)) 30 0 1152921504606846976 30 (31 * 0 + c') = lN (zup (fun _ => 0) 0 (2 ^ 60) c')
          by_cases e : c' = 0
          · subst e
            rw [zup_s]
            exact (zu_s _ _ _ _).trans (by decide)
          · rw [zup_nn e, zu_i_ne (by omega), zu_i_ne (by omega)]
            exact (hz _ (by omega)).2
      · refine ⟨?_, ?_⟩
        · rw [zu_i_ne (by omega), zu_i_ne (by omega), zu_i_ne (by omega), zu_i_ne (by omega), zu_i_ne (by omega)]
          exact (hz _ (by omega)).1
        · rw [zu_i_ne (by omega), zu_i_ne (by omega), zu_i_ne (by omega), zu_i_ne (by omega), zu_i_ne (by omega)]
          exact (hz _ (by omega)).2
      · rw [zu_i_ne (by omega), zu_i_ne (by omega), zu_s]; rfl
      · rw [zu_i_ne (by omega), zu_s]; rfl
      · rw [zu_s]; rfl
    | succ r ih =>
      intro u ρ1 l1 hu hf h31 h32 h8 hz
      refine g225_62 (by omega) (fun g => by omega) (fun g => g) (fun g => g) (fun _ => ih (u + 1) ρ1 _ (by omega) hf h31 h32 (fun x => by rw [zu_i_ne (by omega), zu_i_ne (by omega)]; exact h8 x) (fun x hx => ?_))
      by_cases e : x = u
      · subst e
        rw [zu_i_ne (by omega), zu_s, zu_s]
        exact ⟨rfl, rfl⟩
      · rw [zu_i_ne (by omega), zu_i_ne (by omega), zu_i_ne (by omega), zu_i_ne (by omega)]
        exact hz x (by omega)
  -- what is held
  have two : ∀ r u (ρ1 : Nat → Nat → Int32), u + r = rM ρ j + 1 → gFr ρ ρ1 → (∀ c, c ≤ rM ρ i → ρ1 31 c = rSet ρ i c) → (∀ c, c < u → ρ1 32 c = rSet ρ j c) → Ev (d + 3) c s 225 32 [some (zr (some (1, 0, 0))), some (zi (nI i)), some (zi (nI j)), some (zi (nI u)), none] [] (OM X 1 0 ρ1 l) Q := by
    intro r
    induction r with
    | zero =>
      intro u ρ1 hu hf h31 h32
      have e13 : ρ1 13 = ρ 13 := hf.row (by decide) (by decide) (by decide)
      exact g225_32 (n := rM ρ i) (m := rM ρ j) (by rw [e13]; exact ti1) (by rw [e13]; exact tj1) (by omega) (by omega) hj (fun _ => clr 961 0 ρ1 l (by omega) hf h31 (fun c' hc' => h32 c' (by omega)) (fun _ => rfl) (fun x hx => absurd hx (Nat.not_lt_zero x))) (fun g => by omega) (fun g => by omega) (fun g => by omega) (fun g => by omega)
    | succ r ih =>
      intro u ρ1 hu hf h31 h32
      have e13 : ρ1 13 = ρ 13 := hf.row (by decide) (by decide) (by decide)
      have e10 : ρ1 10 = ρ 10 := hf.row (by decide) (by decide) (by decide)
      have e11 : ρ1 11 = ρ 11 := hf.row (by decide) (by decide) (by decide)
      refine g225_32 (n := rM ρ i) (m := rM ρ j) (by rw [e13]; exact ti1) (by rw [e13]; exact tj1) (by omega) (by omega) hj (fun g => by omega) (fun _ => hj) (fun _ => by omega) (fun _ => by omega) (fun _ => ih (u + 1) _ (by omega) (fun q' i' a1 a2 a3 => by rw [zu_i_ne (by omega)]; exact hf q' i' a1 a2 a3) (fun c' hc' => by rw [zu_i_ne (by omega)]; exact h31 c' hc') (fun c' hc' => ?_))
      by_cases e : c' = u
      · subst e
        rw [zu_s]
        exact rSet_rows e10 e11 j c' 6
      · rw [zu_i_ne (by omega)]
        exact h32 c' (by omega)
  have one : ∀ r u (ρ1 : Nat → Nat → Int32), u + r = rM ρ i + 1 → gFr ρ ρ1 → (∀ c, c < u → ρ1 31 c = rSet ρ i c) → Ev (d + 3) c s 225 2 [some (zr (some (1, 0, 0))), some (zi (nI i)), some (zi (nI j)), some (zi (nI u)), none] [] (OM X 1 0 ρ1 l) Q := by
    intro r
    induction r with
    | zero =>
      intro u ρ1 hu hf h31
      have e13 : ρ1 13 = ρ 13 := hf.row (by decide) (by decide) (by decide)
      exact g225_2 (n := rM ρ i) (m := rM ρ j) (by rw [e13]; exact ti1) (by rw [e13]; exact tj1) (by omega) (by omega) hi (fun _ => two (rM ρ j + 1) 0 ρ1 (by omega) hf (fun c' hc' => h31 c' (by omega)) (fun x hx => absurd hx (Nat.not_lt_zero x))) (fun g => by omega) (fun g => by omega) (fun g => by omega) (fun g => by omega)
    | succ r ih =>
      intro u ρ1 hu hf h31
      have e13 : ρ1 13 = ρ 13 := hf.row (by decide) (by decide) (by decide)
      have e10 : ρ1 10 = ρ 10 := hf.row (by decide) (by decide) (by decide)
      have e11 : ρ1 11 = ρ 11 := hf.row (by decide) (by decide) (by decide)
      refine g225_2 (n := rM ρ i) (m := rM ρ j) (by rw [e13]; exact ti1) (by rw [e13]; exact tj1) (by omega) (by omega) hi (fun g => by omega) (fun _ => hi) (fun _ => by omega) (fun _ => by omega) (fun _ => ih (u + 1) _ (by omega) (fun q' i' a1 a2 a3 => by rw [zu_i_ne (by omega)]; exact hf q' i' a1 a2 a3) (fun c' hc' => ?_))
      by_cases e : c' = u
      · subst e
        rw [zu_s]
        exact rSet_rows e10 e11 i c' 6
      · rw [zu_i_ne (by omega)]
        exact h31 c' (by omega)
  exact g225_0 (one (rM ρ i + 1) 0 ρ (by omega) (fun _ _ _ _ _ => rfl) (fun x hx => absurd hx (Nat.not_lt_zero x)))
/-- a pair of tasks -/
def aTwo (x y : Int32) : Option (Nat × Nat) := match aIx x 4, aIx y 4 with
  | some i, some j => if i = j then none else some (i, j)
  | _, _ => none
theorem g226_0 {d c s : Nat} {x y : Int32} {X : zM} {ρ : Nat → Nat → Int32} {l : Nat → Nat → Int64} {Q : Option zV → zM → Prop}
    (h1 : (lN 0 ≤ x.toInt64 ∧ x.toInt64 ≤ lN 3) → (lN 0 ≤ y.toInt64 ∧ y.toInt64 ≤ lN 3) → (x = y) → Q (some (zi (nI 0))) (OM X 1 0 ρ l))
    (h2 : (lN 0 ≤ x.toInt64 ∧ x.toInt64 ≤ lN 3) → (lN 0 ≤ y.toInt64 ∧ y.toInt64 ≤ lN 3) → (¬ x = y) → Q (some (zi (nI 1))) (OM X 1 0 ρ l))
    (h3 : (lN 0 ≤ x.toInt64 ∧ x.toInt64 ≤ lN 3) → (¬ (lN 0 ≤ y.toInt64 ∧ y.toInt64 ≤ lN 3)) → Q (some (zi (nI 0))) (OM X 1 0 ρ l))
    (h4 : (¬ (lN 0 ≤ x.toInt64 ∧ x.toInt64 ≤ lN 3)) → Q (some (zi (nI 0))) (OM X 1 0 ρ l)) : Ev (d + 2) c s 226 0 [some (zi x), some (zi y)] [] (OM X 1 0 ρ l) Q := by
  refine Ew.ld f226_0 rfl rfl rfl rfl ?_
  refine Ew.op (st' := zl x.toInt64 :: _) f226_1 rfl rfl ?_
  refine Ew.call0 (ls0 := [some (zl x.toInt64), none]) f226_2 rfl (Nat.le_of_ble_eq_true rfl) rfl rfl (Nat.le_of_ble_eq_true rfl) trivial (Nat.le_of_ble_eq_true rfl) rfl rfl ?_
  refine sp_isTask (fun c1 => ?_) (fun c1 => ?_)
  · refine Ew.ifc f226_5 rfl rfl (fun h => absurd h (show ¬ (((nI 1) : Int32) = 0) by decide)) (fun _ => ?_)
    refine Ew.ld f226_8 rfl rfl rfl rfl ?_
    refine Ew.op (st' := zl y.toInt64 :: _) f226_9 rfl rfl ?_
    refine Ew.call0 (ls0 := [some (zl y.toInt64), none]) f226_10 rfl (Nat.le_of_ble_eq_true rfl) rfl rfl (Nat.le_of_ble_eq_true rfl) trivial (Nat.le_of_ble_eq_true rfl) rfl rfl ?_
    refine sp_isTask (fun c2 => ?_) (fun c2 => ?_)
    · refine Ew.ifc f226_13 rfl rfl (fun h => absurd h (show ¬ (((nI 1) : Int32) = 0) by decide)) (fun _ => ?_)
      refine Ew.ld f226_16 rfl rfl rfl rfl ?_
      refine Ew.ld f226_17 rfl rfl rfl rfl ?_
      refine Ew.icmp f226_18 rfl rfl (fun c3 => ?_) (fun c3 => ?_)
      · refine Ew.op (st' := zi (nI 0) :: _) f226_25 rfl rfl ?_
        refine Ew.iretb f226_26 (Or.inl rfl) ?_
        exact h1 c1 c2 c3
      · refine Ew.op (st' := zi (nI 1) :: _) f226_21 rfl rfl ?_
        refine Ew.goto f226_22 rfl ?_
        refine Ew.iretb f226_26 (Or.inr rfl) ?_
        exact h2 c1 c2 c3
    · refine Ew.ifc f226_13 rfl rfl (fun _ => ?_) (fun h => absurd (show ((nI 0) : Int32) = 0 by decide) h)
      refine Ew.op (st' := zi (nI 0) :: _) f226_25 rfl rfl ?_
      refine Ew.iretb f226_26 (Or.inl rfl) ?_
      exact h3 c1 c2
  · refine Ew.ifc f226_5 rfl rfl (fun _ => ?_) (fun h => absurd (show ((nI 0) : Int32) = 0 by decide) h)
    refine Ew.op (st' := zi (nI 0) :: _) f226_25 rfl rfl ?_
    refine Ew.iretb f226_26 (Or.inl rfl) ?_
    exact h4 c1
theorem sp_areTwo {d c s : Nat} {x y : Int32} {X : zM} {ρ : Nat → Nat → Int32} {l : Nat → Nat → Int64} {Q : Option zV → zM → Prop} (k1 : ∀ i j, i < 4 → j < 4 → x = nI i → y = nI j → aTwo x y = some (i, j) → Q (some (zi (nI 1))) (OM X 1 0 ρ l)) (k0 : aTwo x y = none → Q (some (zi (nI 0))) (OM X 1 0 ρ l)) : Ev (d + 2) c s 226 0 [some (zi x), some (zi y)] [] (OM X 1 0 ρ l) Q := by
  refine g226_0 (fun h1 h2 e => ?_) (fun h1 h2 e => ?_) (fun h1 h2 => ?_) (fun h1 => ?_)
  · obtain ⟨i, hi, rfl⟩ := zrangeL (by decide) h1
    have hi : i < 4 := hi
    refine k0 ?_
    unfold aTwo
    rw [← e, aIx_some hi (by decide)]
    show (if i = i then none else some (i, i)) = none
    rw [if_pos rfl]
  · obtain ⟨i, hi, rfl⟩ := zrangeL (by decide) h1
    obtain ⟨j, hj, rfl⟩ := zrangeL (by decide) h2
    have hi : i < 4 := hi
    have hj : j < 4 := hj
    refine k1 i j hi hj rfl rfl ?_
    unfold aTwo
    rw [aIx_some hi (by decide), aIx_some hj (by decide)]
    simp only []
    rw [if_neg (fun g => e (by rw [g]))]
  · obtain ⟨i, hi, rfl⟩ := zrangeL (by decide) h1
    refine k0 ?_
    unfold aTwo
    rw [aIx_some (N := 4) hi (by decide), zrangeN (m := 3) (by decide) h2]
  · refine k0 ?_
    unfold aTwo
    rw [zrangeN (m := 3) (by decide) h1]
theorem aPair_eq {ρ : Nat → Nat → Int32} {w : Nat → Int32} (h : tTx w) (hr : rTrs ρ w) {i j : Nat} (hi : i < 4) (hj : j < 4) : gFin (gC ρ i j) (fun p q => gC ρ j i q p) (rM ρ i) (rM ρ j) = aPair w i j := by
  unfold aPair
  have hA := rAg_τ h hr
  rw [← rM_of h hr hi, ← rM_of h hr hj]
  refine (gFin_cg fun p q hp hq => ⟨?_, ?_⟩).symm
  · exact gC_ag hA hi hj hq
  · exact gC_ag hA hj hi hp
theorem gFr.keep {ρ ρ' : Nat → Nat → Int32} (h : gFr ρ ρ') : zKeep ρ ρ' := fun q i a b => h q i (by omega) (by omega) (by omega)
def aWays (σ : zSt) (x y z : Int32) : Int64 := match aTwo x y, aIx z 2 with
  | some p, some v => if v = 0 then lN (aPair σ.w p.1 p.2).2.2.1 else lN (aPair σ.w p.1 p.2).2.2.2.1
  | _, _ => -1
theorem g227_0 {d c s : Nat} {x y z : Int32} {X : zM} {ρ : Nat → Nat → Int32} {l : Nat → Nat → Int64} {Q : Option zV → zM → Prop}
    (h1 : Ev d 0 0 226 0 [some (zi x), some (zi y)] [] (OM X 1 0 ρ l) (fun r M' => Ev (d + 1) c s 227 5 [some (zr (some (1, 0, 0))), some (zi x), some (zi y), some (zi z)] (zpush r []) M' Q)) : Ev (d + 1) c s 227 0 [some (zr (some (1, 0, 0))), some (zi x), some (zi y), some (zi z)] [] (OM X 1 0 ρ l) Q := by
  refine Ew.ld f227_0 rfl rfl rfl rfl ?_
  refine Ew.ld f227_1 rfl rfl rfl rfl ?_
  refine Ew.call0 (ls0 := [some (zi x), some (zi y)]) f227_2 rfl (Nat.le_of_ble_eq_true rfl) rfl rfl (Nat.le_of_ble_eq_true rfl) trivial (Nat.le_of_ble_eq_true rfl) rfl rfl ?_
  exact h1
theorem g227_5 {d c s : Nat} {x y z : Int32} {X : zM} {ρ : Nat → Nat → Int32} {l : Nat → Nat → Int64} {Q : Option zV → zM → Prop}
    (h1 : ((lN 0) ≤ z.toInt64 ∧ z.toInt64 ≤ (lN 1)) → Ev d 0 0 225 0 [some (zr (some (1, 0, 0))), some (zi x), some (zi y), none, none] [] (OM X 1 0 ρ l) (fun r M' => Ev (d + 1) c s 227 28 [some (zr (some (1, 0, 0))), some (zi x), some (zi y), some (zi z)] (zpush r []) M' Q))
    (h2 : (¬ ((lN 0) ≤ z.toInt64 ∧ z.toInt64 ≤ (lN 1))) → Q (some (zl ((-1)))) (OM X 1 0 ρ l)) : Ev (d + 1) c s 227 5 [some (zr (some (1, 0, 0))), some (zi x), some (zi y), some (zi z)] [zi (nI 1)] (OM X 1 0 ρ l) Q := by
  refine Ew.ifc f227_5 rfl rfl (fun h => absurd h (show ¬ (((nI 1) : Int32) = 0) by decide)) (fun _ => ?_)
  refine Ew.ld f227_8 rfl rfl rfl rfl ?_
  refine Ew.op (st' := zl z.toInt64 :: _) f227_9 rfl rfl ?_
  refine Ew.op (st' := zl (lN 0) :: _) f227_10 rfl rfl ?_
  refine Ew.op (st' := zl (lN 1) :: _) f227_11 rfl rfl ?_
  refine Ew.call0 (ls0 := [some (zl z.toInt64), none, some (zl (lN 0)), none, some (zl (lN 1)), none]) f227_12 rfl (Nat.le_of_ble_eq_true rfl) rfl rfl (Nat.le_of_ble_eq_true rfl) trivial (Nat.le_of_ble_eq_true rfl) rfl rfl ?_
  refine sp_in (fun c1 => ?_) (fun c1 => ?_)
  · refine Ew.ifc f227_15 rfl rfl (fun _ => ?_) (fun h => absurd (show ¬ ((nI 1) : Int32) = 0 by decide) h)
    refine Ew.ld f227_22 rfl rfl rfl rfl ?_
    refine Ew.ld f227_23 rfl rfl rfl rfl ?_
    refine Ew.ld f227_24 rfl rfl rfl rfl ?_
    refine Ew.call0 (ls0 := [some (zr (some (1, 0, 0))), some (zi x), some (zi y), none, none]) f227_25 rfl (Nat.le_of_ble_eq_true rfl) rfl rfl (Nat.le_of_ble_eq_true rfl) rfl (Nat.le_of_ble_eq_true rfl) rfl rfl ?_
    exact h1 c1
  · refine Ew.ifc f227_15 rfl rfl (fun h => absurd h (show ¬ (¬ ((nI 0) : Int32) = 0) by decide)) (fun _ => ?_)
    refine Ew.op (st' := zl ((-1)) :: _) f227_18 rfl rfl ?_
    refine Ew.lret f227_21 ?_
    exact h2 c1
theorem g227_5z {d c s : Nat} {x y z : Int32} {X : zM} {ρ : Nat → Nat → Int32} {l : Nat → Nat → Int64} {Q : Option zV → zM → Prop}
    (h1 : Q (some (zl ((-1)))) (OM X 1 0 ρ l)) : Ev d c s 227 5 [some (zr (some (1, 0, 0))), some (zi x), some (zi y), some (zi z)] [zi (nI 0)] (OM X 1 0 ρ l) Q := by
  refine Ew.ifc f227_5 rfl rfl (fun _ => ?_) (fun h => absurd (show ((nI 0) : Int32) = 0 by decide) h)
  refine Ew.op (st' := zl ((-1)) :: _) f227_18 rfl rfl ?_
  refine Ew.lret f227_21 ?_
  exact h1
theorem g227_28 {d c s : Nat} {i j z : Nat} {X : zM} {ρ : Nat → Nat → Int32} {l : Nat → Nat → Int64} {Q : Option zV → zM → Prop} (nb_z : z < 5000)
    (h1 : (¬ z = 0) → Q (some (zl (l 0 44))) (OM X 1 0 ρ l))
    (h2 : (z = 0) → Q (some (zl (l 0 43))) (OM X 1 0 ρ l)) : Ev d c s 227 28 [some (zr (some (1, 0, 0))), some (zi (nI i)), some (zi (nI j)), some (zi (nI z))] [] (OM X 1 0 ρ l) Q := by
  refine Ew.ld f227_28 rfl rfl rfl rfl ?_
  refine Ew.ifc f227_29 rfl rfl (fun c1 => ?_) (fun c1 => ?_)
  · refine Ew.ld f227_39 rfl rfl rfl rfl ?_
    refine Ew.getlO f227_40 rfl rfl ?_
    refine Ew.lret f227_43 ?_
    exact h1 (fun e => c1 ((zeq nb_z (by decide)).mpr e))
  · refine Ew.ld f227_32 rfl rfl rfl rfl ?_
    refine Ew.getlO f227_33 rfl rfl ?_
    refine Ew.goto f227_36 rfl ?_
    refine Ew.lret f227_43 ?_
    exact h2 ((zeq nb_z (by decide)).mp (Classical.not_not.mp c1))
theorem rp_ways {d c s B : Nat} {x y z : Int32} {σ : zSt} {X : zM} {ρ : Nat → Nat → Int32} {l : Nat → Nat → Int64} {Q : Option zV → zM → Prop} (hG : zGood B σ) (hR : zRef ρ l σ) (k : ∀ ρ' l', zRef ρ' l' σ → Q (some (zl (aWays σ x y z))) (OM X 1 0 ρ' l')) : Ev (d + 4) c s 227 0 [some (zr (some (1, 0, 0))), some (zi x), some (zi y), some (zi z)] [] (OM X 1 0 ρ l) Q := by
  have hTx := hG.1.2.1
  have hT := rTr_of hTx hR.2.2.2.2.2
  unfold aWays at k
  refine g227_0 (sp_areTwo (fun i j hi hj ei ej e => ?_) (fun e => ?_))
  · subst ei
    subst ej
    rw [e] at k
    refine g227_5 (fun h => ?_) (fun h => ?_)
    · obtain ⟨v, hv, rfl⟩ := zrangeL (by decide) h
      have hv : v < 2 := hv
      rw [aIx_some hv (by decide)] at k
      simp only [] at k
      refine sp_goesBoth hi hj hT (fun ρ1 l1 hf h8 h43 h44 h45 h46 => ?_)
      rw [aPair_eq hTx hR.2.2.2.2.2 hi hj] at h43 h44
      have k := k ρ1 l1 (hR.keep hf.keep h8)
      refine g227_28 (by omega) (fun g => ?_) (fun g => ?_)
      · rw [if_neg g] at k
        rw [h44]
        exact k
      · rw [if_pos g] at k
        rw [h43]
        exact k
    · rw [zrangeN (m := 1) (by decide) h] at k
      exact k _ _ hR
  · rw [e] at k
    exact g227_5z (k _ _ hR)
def aOdds (σ : zSt) (x y z : Int32) : Int64 := match aTwo x y, aIx z 2 with
  | some p, some v => if v = 0 then lN (gRd 60 (aPair σ.w p.1 p.2).2.2.2.2.1).1 else lN (gRd 60 (aPair σ.w p.1 p.2).2.2.2.2.1).2
  | _, _ => -1
theorem g228_0 {d c s : Nat} {x y z : Int32} {X : zM} {ρ : Nat → Nat → Int32} {l : Nat → Nat → Int64} {Q : Option zV → zM → Prop}
    (h1 : Ev d 0 0 226 0 [some (zi x), some (zi y)] [] (OM X 1 0 ρ l) (fun r M' => Ev (d + 1) c s 228 5 [some (zr (some (1, 0, 0))), some (zi x), some (zi y), some (zi z), none, none, none, none] (zpush r []) M' Q)) : Ev (d + 1) c s 228 0 [some (zr (some (1, 0, 0))), some (zi x), some (zi y), some (zi z), none, none, none, none] [] (OM X 1 0 ρ l) Q := by
  refine Ew.ld f228_0 rfl rfl rfl rfl ?_
  refine Ew.ld f228_1 rfl rfl rfl rfl ?_
  refine Ew.call0 (ls0 := [some (zi x), some (zi y)]) f228_2 rfl (Nat.le_of_ble_eq_true rfl) rfl rfl (Nat.le_of_ble_eq_true rfl) trivial (Nat.le_of_ble_eq_true rfl) rfl rfl ?_
  exact h1
theorem g228_5 {d c s : Nat} {x y z : Int32} {X : zM} {ρ : Nat → Nat → Int32} {l : Nat → Nat → Int64} {Q : Option zV → zM → Prop}
    (h1 : ((lN 0) ≤ z.toInt64 ∧ z.toInt64 ≤ (lN 1)) → Ev d 0 0 225 0 [some (zr (some (1, 0, 0))), some (zi x), some (zi y), none, none] [] (OM X 1 0 ρ l) (fun r M' => Ev (d + 1) c s 228 28 [some (zr (some (1, 0, 0))), some (zi x), some (zi y), some (zi z), none, none, none, none] (zpush r []) M' Q))
    (h2 : (¬ ((lN 0) ≤ z.toInt64 ∧ z.toInt64 ≤ (lN 1))) → Q (some (zl ((-1)))) (OM X 1 0 ρ l)) : Ev (d + 1) c s 228 5 [some (zr (some (1, 0, 0))), some (zi x), some (zi y), some (zi z), none, none, none, none] [zi (nI 1)] (OM X 1 0 ρ l) Q := by
  refine Ew.ifc f228_5 rfl rfl (fun h => absurd h (show ¬ (((nI 1) : Int32) = 0) by decide)) (fun _ => ?_)
  refine Ew.ld f228_8 rfl rfl rfl rfl ?_
  refine Ew.op (st' := zl z.toInt64 :: _) f228_9 rfl rfl ?_
  refine Ew.op (st' := zl (lN 0) :: _) f228_10 rfl rfl ?_
  refine Ew.op (st' := zl (lN 1) :: _) f228_11 rfl rfl ?_
  refine Ew.call0 (ls0 := [some (zl z.toInt64), none, some (zl (lN 0)), none, some (zl (lN 1)), none]) f228_12 rfl (Nat.le_of_ble_eq_true rfl) rfl rfl (Nat.le_of_ble_eq_true rfl) trivial (Nat.le_of_ble_eq_true rfl) rfl rfl ?_
  refine sp_in (fun c1 => ?_) (fun c1 => ?_)
  · refine Ew.ifc f228_15 rfl rfl (fun _ => ?_) (fun h => absurd (show ¬ ((nI 1) : Int32) = 0 by decide) h)
    refine Ew.ld f228_22 rfl rfl rfl rfl ?_
    refine Ew.ld f228_23 rfl rfl rfl rfl ?_
    refine Ew.ld f228_24 rfl rfl rfl rfl ?_
    refine Ew.call0 (ls0 := [some (zr (some (1, 0, 0))), some (zi x), some (zi y), none, none]) f228_25 rfl (Nat.le_of_ble_eq_true rfl) rfl rfl (Nat.le_of_ble_eq_true rfl) rfl (Nat.le_of_ble_eq_true rfl) rfl rfl ?_
    exact h1 c1
  · refine Ew.ifc f228_15 rfl rfl (fun h => absurd h (show ¬ (¬ ((nI 0) : Int32) = 0) by decide)) (fun _ => ?_)
    refine Ew.op (st' := zl ((-1)) :: _) f228_18 rfl rfl ?_
    refine Ew.lret f228_21 ?_
    exact h2 c1
theorem g228_5z {d c s : Nat} {x y z : Int32} {X : zM} {ρ : Nat → Nat → Int32} {l : Nat → Nat → Int64} {Q : Option zV → zM → Prop}
    (h1 : Q (some (zl ((-1)))) (OM X 1 0 ρ l)) : Ev d c s 228 5 [some (zr (some (1, 0, 0))), some (zi x), some (zi y), some (zi z), none, none, none, none] [zi (nI 0)] (OM X 1 0 ρ l) Q := by
  refine Ew.ifc f228_5 rfl rfl (fun _ => ?_) (fun h => absurd (show ((nI 0) : Int32) = 0 by decide) h)
  refine Ew.op (st' := zl ((-1)) :: _) f228_18 rfl rfl ?_
  refine Ew.lret f228_21 ?_
  exact h1
theorem g228_28 {d c s : Nat} {i j z : Nat} {X : zM} {ρ : Nat → Nat → Int32} {l : Nat → Nat → Int64} {Q : Option zV → zM → Prop}
    (h1 : Ev d c s 228 39 [some (zr (some (1, 0, 0))), some (zi (nI i)), some (zi (nI j)), some (zi (nI z)), some (zl (l 0 45)), none, some (zl ((1152921504606846976))), none] [] (OM X 1 0 ρ l) Q) : Ev d c s 228 28 [some (zr (some (1, 0, 0))), some (zi (nI i)), some (zi (nI j)), some (zi (nI z)), none, none, none, none] [] (OM X 1 0 ρ l) Q := by
  refine Ew.ld f228_28 rfl rfl rfl rfl ?_
  refine Ew.getlO f228_29 rfl rfl ?_
  refine Ew.sr (ls' := [some (zr (some (1, 0, 0))), some (zi (nI i)), some (zi (nI j)), some (zi (nI z)), some (zl (l 0 45)), none, none, none]) f228_32 rfl rfl (Nat.le_of_ble_eq_true rfl) rfl rfl ?_
  refine Ew.op (st' := zl ((1152921504606846976)) :: _) f228_34 rfl rfl ?_
  refine Ew.sr (ls' := [some (zr (some (1, 0, 0))), some (zi (nI i)), some (zi (nI j)), some (zi (nI z)), some (zl (l 0 45)), none, some (zl ((1152921504606846976))), none]) f228_37 rfl rfl (Nat.le_of_ble_eq_true rfl) rfl rfl ?_
  exact h1
theorem g228_39 {d c s : Nat} {i j z : Nat} {u v : Int64} {X : zM} {ρ : Nat → Nat → Int32} {l : Nat → Nat → Int64} {Q : Option zV → zM → Prop} (nb_z : z < 5000)
    (h1 : ((lg_cmp v (lN 1)) ≤ 0) → (¬ z = 0) → Q (some (zl v)) (OM X 1 0 ρ l))
    (h2 : ((lg_cmp v (lN 1)) ≤ 0) → (z = 0) → Q (some (zl u)) (OM X 1 0 ρ l))
    (h3 : (0 < (lg_cmp v (lN 1))) → (¬ (lg_cmp (u - u / (lN 2) * (lN 2)) (lN 0)) = 0) → (¬ z = 0) → Q (some (zl v)) (OM X 1 0 ρ l))
    (h4 : (0 < (lg_cmp v (lN 1))) → (¬ (lg_cmp (u - u / (lN 2) * (lN 2)) (lN 0)) = 0) → (z = 0) → Q (some (zl u)) (OM X 1 0 ρ l))
    (h5 : (0 < (lg_cmp v (lN 1))) → ((lg_cmp (u - u / (lN 2) * (lN 2)) (lN 0)) = 0) → Ev d c s 228 39 [some (zr (some (1, 0, 0))), some (zi (nI i)), some (zi (nI j)), some (zi (nI z)), some (zl (u / (lN 2))), none, some (zl (v / (lN 2))), none] [] (OM X 1 0 ρ l) Q) : Ev d c s 228 39 [some (zr (some (1, 0, 0))), some (zi (nI i)), some (zi (nI j)), some (zi (nI z)), some (zl u), none, some (zl v), none] [] (OM X 1 0 ρ l) Q := by
  refine Ew.ld f228_39 rfl rfl rfl rfl ?_
  refine Ew.op (st' := zl (lN 1) :: _) f228_41 rfl rfl ?_
  refine Ew.op (st' := zi (lg_cmp v (lN 1)) :: _) f228_42 rfl rfl ?_
  refine Ew.ifc f228_43 rfl rfl (fun c1 => ?_) (fun c1 => ?_)
  · refine Ew.ld f228_76 rfl rfl rfl rfl ?_
    refine Ew.ifc f228_77 rfl rfl (fun c2 => ?_) (fun c2 => ?_)
    · refine Ew.ld f228_85 rfl rfl rfl rfl ?_
      refine Ew.lret f228_87 ?_
      exact h1 c1 (fun e => c2 ((zeq nb_z (by decide)).mpr e))
    · refine Ew.ld f228_80 rfl rfl rfl rfl ?_
      refine Ew.goto f228_82 rfl ?_
      refine Ew.lret f228_87 ?_
      exact h2 c1 ((zeq nb_z (by decide)).mp (Classical.not_not.mp c2))
  · refine Ew.ld f228_46 rfl rfl rfl rfl ?_
    refine Ew.op (st' := zl (lN 2) :: _) f228_48 rfl rfl ?_
    refine Ew.lrem f228_51 (by decide) rfl ?_
    refine Ew.op (st' := zl (lN 0) :: _) f228_52 rfl rfl ?_
    refine Ew.op (st' := zi (lg_cmp (u - u / (lN 2) * (lN 2)) (lN 0)) :: _) f228_53 rfl rfl ?_
    refine Ew.ifc f228_54 rfl rfl (fun c3 => ?_) (fun c3 => ?_)
    · refine Ew.ld f228_76 rfl rfl rfl rfl ?_
      refine Ew.ifc f228_77 rfl rfl (fun c4 => ?_) (fun c4 => ?_)
      · refine Ew.ld f228_85 rfl rfl rfl rfl ?_
        refine Ew.lret f228_87 ?_
        exact h3 (Int32.not_le.mp c1) c3 (fun e => c4 ((zeq nb_z (by decide)).mpr e))
      · refine Ew.ld f228_80 rfl rfl rfl rfl ?_
        refine Ew.goto f228_82 rfl ?_
        refine Ew.lret f228_87 ?_
        exact h4 (Int32.not_le.mp c1) c3 ((zeq nb_z (by decide)).mp (Classical.not_not.mp c4))
    · refine Ew.ld f228_57 rfl rfl rfl rfl ?_
      refine Ew.op (st' := zl (lN 2) :: _) f228_59 rfl rfl ?_
      refine Ew.ldiv f228_62 (by decide) rfl ?_
      refine Ew.sr (ls' := [some (zr (some (1, 0, 0))), some (zi (nI i)), some (zi (nI j)), some (zi (nI z)), some (zl (u / (lN 2))), none, some (zl v), none]) f228_63 rfl rfl (Nat.le_of_ble_eq_true rfl) rfl rfl ?_
      refine Ew.ld f228_65 rfl rfl rfl rfl ?_
      refine Ew.op (st' := zl (lN 2) :: _) f228_67 rfl rfl ?_
      refine Ew.ldiv f228_70 (by decide) rfl ?_
      refine Ew.sr (ls' := [some (zr (some (1, 0, 0))), some (zi (nI i)), some (zi (nI j)), some (zi (nI z)), some (zl (u / (lN 2))), none, some (zl (v / (lN 2))), none]) f228_71 rfl rfl (Nat.le_of_ble_eq_true rfl) rfl rfl ?_
      refine Ew.goto f228_73 rfl ?_
      exact h5 (Int32.not_le.mp c1) (Classical.not_not.mp c3)
theorem aPair_le {w : Nat → Int32} (h : tTx w) {i j : Nat} (hi : i < 4) (hj : j < 4) : (aPair w i j).2.2.1 ≤ 2 ^ 60 ∧ (aPair w i j).2.2.2.1 ≤ 2 ^ 60 ∧ (aPair w i j).2.2.2.2.1 ≤ 2 ^ 60 := by
  have hr := rTrs_τ h
  rw [← aPair_eq h hr hi hj]
  have ti := (rTr_of h hr i hi).2.1
  have tj := (rTr_of h hr j hj).2.1
  have := gAll_inv (C1 := gC (tτ w) i j) (C2 := fun p q => gC (tτ w) j i q p) ti tj (fun p q e => gC_le e) (fun p q e => gC_le e) (rM (tτ w) i + 1) (Nat.le_refl _)
  have := this.le (c := 0) (by decide)
  exact ⟨this.2.2.1, this.2.2.2.1, this.2.2.2.2⟩
theorem rp_odds {d c s B : Nat} {x y z : Int32} {σ : zSt} {X : zM} {ρ : Nat → Nat → Int32} {l : Nat → Nat → Int64} {Q : Option zV → zM → Prop} (hG : zGood B σ) (hR : zRef ρ l σ) (k : ∀ ρ' l', zRef ρ' l' σ → Q (some (zl (aOdds σ x y z))) (OM X 1 0 ρ' l')) : Ev (d + 4) c s 228 0 [some (zr (some (1, 0, 0))), some (zi x), some (zi y), some (zi z), none, none, none, none] [] (OM X 1 0 ρ l) Q := by
  have hTx := hG.1.2.1
  have hT := rTr_of hTx hR.2.2.2.2.2
  unfold aOdds at k
  refine g228_0 (sp_areTwo (fun i j hi hj ei ej e => ?_) (fun e => ?_))
  · subst ei
    subst ej
    rw [e] at k
    refine g228_5 (fun h => ?_) (fun h => ?_)
    · obtain ⟨v, hv, rfl⟩ := zrangeL (by decide) h
      have hv : v < 2 := hv
      rw [aIx_some hv (by decide)] at k
      simp only [] at k
      refine sp_goesBoth hi hj hT (fun ρ1 l1 hf h8 h43 h44 h45 h46 => ?_)
      rw [aPair_eq hTx hR.2.2.2.2.2 hi hj] at h45
      have k := k ρ1 l1 (hR.keep hf.keep h8)
      have hle := (aPair_le hTx hi hj).2.2
      refine g228_28 ?_
      rw [h45, show (1152921504606846976 : Int64) = lN (2 ^ 60) by decide]
      generalize (aPair σ.w i j).2.2.2.2.1 = u at hle k
      have key : ∀ r u, u ≤ 2 ^ 60 → r ≤ 60 → Q (some (zl (if v = 0 then lN (gRd r u).1 else lN (gRd r u).2))) (OM X 1 0 ρ1 l1) → Ev (d + 4) c s 228 39 [some (zr (some (1, 0, 0))), some (zi (nI i)), some (zi (nI j)), some (zi (nI v)), some (zl (lN u)), none, some (zl (lN (2 ^ r))), none] [] (OM X 1 0 ρ1 l1) Q := by
        intro r
        induction r with
        | zero =>
          intro u hu hr hk
          have c0 : ¬ 0 < lg_cmp (lN (2 ^ 0)) (lN 1) := by decide
          refine g228_39 (by omega) (fun _ g => ?_) (fun _ g => ?_) (fun g => absurd g c0) (fun g => absurd g c0) (fun g => absurd g c0)
          · rw [if_neg g] at hk; exact hk
          · rw [if_pos g] at hk; exact hk
        | succ r ih =>
          intro u hu hr hk
          have hpow : 2 ^ (r + 1) ≤ 2 ^ 60 := Nat.pow_le_pow_right (by decide) hr
          have h2 : 2 ≤ 2 ^ (r + 1) := by
            have : 2 ^ 1 ≤ 2 ^ (r + 1) := Nat.pow_le_pow_right (by decide) (by omega)
            exact this
          have c1 : 0 < lg_cmp (lN (2 ^ (r + 1))) (lN 1) := (zcmpP (by omega) (by decide)).mpr (by omega)
          have em : lN u - lN u / lN 2 * lN 2 = lN (u % 2) := pk_lRem (by omega) (by decide) (by decide)
          have c2 := zcmpE (a := u % 2) (b := 0) (by omega) (by decide)
          unfold gRd at hk
          refine g228_39 (by omega) (fun g => absurd c1 (Int32.not_lt.mpr g)) (fun g => absurd c1 (Int32.not_lt.mpr g)) (fun _ a b => ?_) (fun _ a b => ?_) (fun _ a => ?_)
          · rw [em] at a
            rw [if_neg b, if_neg (fun e => a (c2.mpr e))] at hk
            exact hk
          · rw [em] at a
            rw [if_pos b, if_neg (fun e => a (c2.mpr e))] at hk
            exact hk
          · rw [em] at a
            rw [if_pos (c2.mp a)] at hk
            have e1 : lN u / lN 2 = lN (u / 2) := pk_lDiv (by omega) (by decide) (by decide)
            have e2 : lN (2 ^ (r + 1)) / lN 2 = lN (2 ^ r) := by
              rw [pk_lDiv (by omega) (by decide) (by decide), Nat.pow_succ, Nat.mul_div_cancel _ (by decide)]
            rw [e1, e2]
            exact ih (u / 2) (by omega) (by omega) hk
      exact key 60 u hle (Nat.le_refl _) k
    · rw [zrangeN (m := 1) (by decide) h] at k
      exact k _ _ hR
  · rw [e] at k
    exact g228_5z (k _ _ hR)
def aNear (σ : zSt) (x y : Int32) : Int32 := match aTwo x y with
  | some p => (aPair σ.w p.1 p.2).2.2.2.2.2
  | none => -1
theorem g229_0 {d c s : Nat} {x y : Int32} {X : zM} {ρ : Nat → Nat → Int32} {l : Nat → Nat → Int64} {Q : Option zV → zM → Prop}
    (h1 : Ev d 0 0 226 0 [some (zi x), some (zi y)] [] (OM X 1 0 ρ l) (fun r M' => Ev (d + 1) c s 229 5 [some (zr (some (1, 0, 0))), some (zi x), some (zi y)] (zpush r []) M' Q)) : Ev (d + 1) c s 229 0 [some (zr (some (1, 0, 0))), some (zi x), some (zi y)] [] (OM X 1 0 ρ l) Q := by
  refine Ew.ld f229_0 rfl rfl rfl rfl ?_
  refine Ew.ld f229_1 rfl rfl rfl rfl ?_
  refine Ew.call0 (ls0 := [some (zi x), some (zi y)]) f229_2 rfl (Nat.le_of_ble_eq_true rfl) rfl rfl (Nat.le_of_ble_eq_true rfl) trivial (Nat.le_of_ble_eq_true rfl) rfl rfl ?_
  exact h1
theorem g229_5 {d c s : Nat} {x y : Int32} {X : zM} {ρ : Nat → Nat → Int32} {l : Nat → Nat → Int64} {Q : Option zV → zM → Prop}
    (h1 : Ev d 0 0 225 0 [some (zr (some (1, 0, 0))), some (zi x), some (zi y), none, none] [] (OM X 1 0 ρ l) (fun r M' => Ev (d + 1) c s 229 16 [some (zr (some (1, 0, 0))), some (zi x), some (zi y)] (zpush r []) M' Q)) : Ev (d + 1) c s 229 5 [some (zr (some (1, 0, 0))), some (zi x), some (zi y)] [zi (nI 1)] (OM X 1 0 ρ l) Q := by
  refine Ew.ifc f229_5 rfl rfl (fun _ => ?_) (fun h => absurd (show ¬ ((nI 1) : Int32) = 0 by decide) h)
  refine Ew.ld f229_10 rfl rfl rfl rfl ?_
  refine Ew.ld f229_11 rfl rfl rfl rfl ?_
  refine Ew.ld f229_12 rfl rfl rfl rfl ?_
  refine Ew.call0 (ls0 := [some (zr (some (1, 0, 0))), some (zi x), some (zi y), none, none]) f229_13 rfl (Nat.le_of_ble_eq_true rfl) rfl rfl (Nat.le_of_ble_eq_true rfl) rfl (Nat.le_of_ble_eq_true rfl) rfl rfl ?_
  exact h1
theorem g229_5z {d c s : Nat} {x y : Int32} {X : zM} {ρ : Nat → Nat → Int32} {l : Nat → Nat → Int64} {Q : Option zV → zM → Prop}
    (h1 : Q (some (zi ((-1)))) (OM X 1 0 ρ l)) : Ev d c s 229 5 [some (zr (some (1, 0, 0))), some (zi x), some (zi y)] [zi (nI 0)] (OM X 1 0 ρ l) Q := by
  refine Ew.ifc f229_5 rfl rfl (fun h => absurd h (show ¬ (¬ ((nI 0) : Int32) = 0) by decide)) (fun _ => ?_)
  refine Ew.op (st' := zi ((-1)) :: _) f229_8 rfl rfl ?_
  refine Ew.ireti f229_9 ?_
  exact h1
theorem g229_16 {d c s : Nat} {i j : Nat} {X : zM} {ρ : Nat → Nat → Int32} {l : Nat → Nat → Int64} {Q : Option zV → zM → Prop}
    (h1 : Q (some (zi (ρ 0 46))) (OM X 1 0 ρ l)) : Ev d c s 229 16 [some (zr (some (1, 0, 0))), some (zi (nI i)), some (zi (nI j))] [] (OM X 1 0 ρ l) Q := by
  refine Ew.ld f229_16 rfl rfl rfl rfl ?_
  refine Ew.getiO f229_17 rfl rfl ?_
  refine Ew.ireti f229_20 ?_
  exact h1
theorem rp_near {d c s B : Nat} {x y : Int32} {σ : zSt} {X : zM} {ρ : Nat → Nat → Int32} {l : Nat → Nat → Int64} {Q : Option zV → zM → Prop} (hG : zGood B σ) (hR : zRef ρ l σ) (k : ∀ ρ' l', zRef ρ' l' σ → Q (some (zi (aNear σ x y))) (OM X 1 0 ρ' l')) : Ev (d + 4) c s 229 0 [some (zr (some (1, 0, 0))), some (zi x), some (zi y)] [] (OM X 1 0 ρ l) Q := by
  have hTx := hG.1.2.1
  have hT := rTr_of hTx hR.2.2.2.2.2
  unfold aNear at k
  refine g229_0 (sp_areTwo (fun i j hi hj ei ej e => ?_) (fun e => ?_))
  · subst ei
    subst ej
    rw [e] at k
    simp only [] at k
    refine g229_5 (sp_goesBoth hi hj hT (fun ρ1 l1 hf h8 h43 h44 h45 h46 => g229_16 ?_))
    rw [aPair_eq hTx hR.2.2.2.2.2 hi hj] at h46
    rw [h46]
    exact k ρ1 l1 (hR.keep hf.keep h8)
  · rw [e] at k
    exact g229_5z (k _ _ hR)
