/-! the class: scripts, which never change -/
/-- a cell of a script, its number below a bound -/
def cSc (I : zI) (P : zP) (S : zS) (b n : Nat) (A : List Nat) : Prop := A.length ≤ 60 ∧ (∀ x, x ∈ A → x < 127) ∧ ∃ a, (n < b ∧ a < b) ∧ S 3 n 0 = (5, 0) ∧ P 3 n 0 0 = some (3, a, 0) ∧ S 3 a 0 = (22, A.length) ∧ ∀ k (h : k < A.length), I 3 a 0 k = nI A[k]
theorem cSc.sh {I : zI} {P : zP} {S : zS} {b n : Nat} {A : List Nat} (h : cSc I P S b n A) : S 3 n 0 = (5, 0) := by
  obtain ⟨_, _, a, _, sn, _⟩ := h
  exact sn
theorem g37_0 {d c s : Nat} {n a N k : Nat} {I : zI} {L : zL} {P : zP} {S : zS} {top : Nat} {Q : Option zV → zM → Prop} (sn : S 3 n 0 = (5, 0)) (pa : P 3 n 0 0 = some (3, a, 0)) (sa : S 3 a 0 = (22, N)) (hq : N < 5000)  (nb_k : k < 5000) (nb_N : N < 5000)
    (b1 : (k < 0) → vp_nar .char (nI 41) = (nI 41))
    (h1 : (k < 0) → Q (some (zi (nI 41))) (I, L, zpj P, zsj S, top))
    (b2 : (0 ≤ k) → (k < N) → k < N)
    (b3 : (0 ≤ k) → (k < N) → vp_nar .char (I 3 a 0 k) = (I 3 a 0 k))
    (h2 : (0 ≤ k) → (k < N) → Q (some (zi (I 3 a 0 k))) (I, L, zpj P, zsj S, top))
    (b4 : (0 ≤ k) → (N ≤ k) → vp_nar .char (nI 41) = (nI 41))
    (h3 : (0 ≤ k) → (N ≤ k) → Q (some (zi (nI 41))) (I, L, zpj P, zsj S, top)) : Ev d c s 37 0 [some (zr (some (3, n, 0))), some (zi (nI k))] [] (I, L, zpj P, zsj S, top) Q := by
  refine Ew.ld f37_0 rfl rfl rfl rfl ?_
  refine Ew.ifc f37_1 rfl rfl (fun c1 => ?_) (fun c1 => ?_)
  · refine Ew.op (st' := zi (nI 41) :: _) f37_13 rfl rfl ?_
    refine Ew.goto f37_15 rfl ?_
    refine Ew.iretc f37_24 (b1 ((zlt_iff nb_k (by decide)).mp c1)) ?_
    exact h1 ((zlt_iff nb_k (by decide)).mp c1)
  · refine Ew.ld f37_4 rfl rfl rfl rfl ?_
    refine Ew.ld f37_5 rfl rfl rfl rfl ?_
    refine Ew.getp (v := some (3, a, 0)) f37_6 (by show (S 3 n 0).1 = _; rw [sn]) (show zpj P 3 n 0 0 = _ from pa) rfl ?_
    refine Ew.alen (n := N) f37_9 (by show _ < (S 3 a 0).1; rw [sa]; exact Nat.le_of_ble_eq_true rfl) (by show (S 3 a 0).2 = _; rw [sa]) rfl ?_
    refine Ew.icmp f37_10 rfl rfl (fun c2 => ?_) (fun c2 => ?_)
    · refine Ew.ld f37_18 rfl rfl rfl rfl ?_
      refine Ew.getp (v := some (3, a, 0)) f37_19 (by show (S 3 n 0).1 = _; rw [sn]) (show zpj P 3 n 0 0 = _ from pa) rfl ?_
      refine Ew.ld f37_22 rfl rfl rfl rfl ?_
      refine Ew.caldn f37_23 (by show (S 3 a 0).1 = _; rw [sa]) (by show _ < (S 3 a 0).2; rw [sa]; exact (b2 (Nat.not_lt.mp fun e => c1 ((zlt_iff nb_k (by decide)).mpr e)) ((zlt_iff nb_k nb_N).mp c2))) (by show (S 3 a 0).2 < 5000; rw [sa]; omega) rfl ?_
      refine Ew.iretc f37_24 (b3 (Nat.not_lt.mp fun e => c1 ((zlt_iff nb_k (by decide)).mpr e)) ((zlt_iff nb_k nb_N).mp c2)) ?_
      exact h2 (Nat.not_lt.mp fun e => c1 ((zlt_iff nb_k (by decide)).mpr e)) ((zlt_iff nb_k nb_N).mp c2)
    · refine Ew.op (st' := zi (nI 41) :: _) f37_13 rfl rfl ?_
      refine Ew.goto f37_15 rfl ?_
      refine Ew.iretc f37_24 (b4 (Nat.not_lt.mp fun e => c1 ((zlt_iff nb_k (by decide)).mpr e)) (Nat.not_lt.mp fun e => c2 ((zlt_iff nb_k nb_N).mpr e))) ?_
      exact h3 (Nat.not_lt.mp fun e => c1 ((zlt_iff nb_k (by decide)).mpr e)) (Nat.not_lt.mp fun e => c2 ((zlt_iff nb_k nb_N).mpr e))
theorem pF_in {A : List Nat} {k : Nat} (h : k < A.length) : pF A k = A[k] := by
  unfold pF
  rw [List.getD_eq_getElem?_getD, List.getElem?_eq_getElem h]
  rfl
theorem pF_out {A : List Nat} {k : Nat} (h : A.length ≤ k) : pF A k = 41 := by
  unfold pF
  rw [List.getD_eq_getElem?_getD, List.getElem?_eq_none h]
  rfl
theorem pF_b {A : List Nat} (h : ∀ x, x ∈ A → x < 127) (k : Nat) : pF A k < 127 := by
  by_cases hk : k < A.length
  · rw [pF_in hk]; exact h _ (List.getElem_mem hk)
  · rw [pF_out (by omega)]; decide
theorem znar {x : Nat} (h : x < 127) : vp_nar .char (nI x) = nI x := by
  revert x
  decide
section
variable {d c s bb n k : Nat} {A : List Nat} {I : zI} {L : zL} {P : zP} {S : zS} {top : Nat} {Q : Option zV → zM → Prop}
theorem sp_sLet (h : cSc I P S bb n A) (hk : k < 5000) (kk : Q (some (zi (nI (pF A k)))) (I, L, zpj P, zsj S, top)) : Ev d c s 37 0 [some (zr (some (3, n, 0))), some (zi (nI k))] [] (I, L, zpj P, zsj S, top) Q := by
  obtain ⟨h60, h127, a, _, sn, pa, sa, hl⟩ := h
  refine g37_0 sn pa sa (by omega) hk (by omega) (fun q => by omega) (fun q => by omega) (fun _ q => q) (fun _ q => ?_) (fun _ q => ?_) (fun _ _ => by decide) (fun _ q => ?_)
  · rw [hl k q]; exact znar (h127 _ (List.getElem_mem q))
  · rw [hl k q, ← pF_in q]; exact kk
  · rw [pF_out q] at kk; exact kk
end
theorem g249_0 {d c s : Nat} {x : Nat} {I : zI} {L : zL} {P : zP} {S : zS} {top : Nat} {Q : Option zV → zM → Prop} (nb_x : x < 5000)
    (h1 : (x = 41) → Q (some (zi (nI 1))) (I, L, zpj P, zsj S, top))
    (h2 : (¬ x = 41) → (x = 93) → Q (some (zi (nI 1))) (I, L, zpj P, zsj S, top))
    (h3 : (¬ x = 41) → (¬ x = 93) → (¬ x = 125) → Q (some (zi (nI 0))) (I, L, zpj P, zsj S, top))
    (h4 : (¬ x = 41) → (¬ x = 93) → (x = 125) → Q (some (zi (nI 1))) (I, L, zpj P, zsj S, top)) : Ev d c s 249 0 [some (zi (nI x))] [] (I, L, zpj P, zsj S, top) Q := by
  refine Ew.ld f249_0 rfl rfl rfl rfl ?_
  refine Ew.op (st' := zi (nI 41) :: _) f249_1 rfl rfl ?_
  refine Ew.icmp f249_3 rfl rfl (fun c1 => ?_) (fun c1 => ?_)
  · refine Ew.op (st' := zi (nI 1) :: _) f249_18 rfl rfl ?_
    refine Ew.goto f249_19 rfl ?_
    refine Ew.iretb f249_23 (Or.inr rfl) ?_
    exact h1 ((zeq nb_x (by decide)).mp c1)
  · refine Ew.ld f249_6 rfl rfl rfl rfl ?_
    refine Ew.op (st' := zi (nI 93) :: _) f249_7 rfl rfl ?_
    refine Ew.icmp f249_9 rfl rfl (fun c2 => ?_) (fun c2 => ?_)
    · refine Ew.op (st' := zi (nI 1) :: _) f249_18 rfl rfl ?_
      refine Ew.goto f249_19 rfl ?_
      refine Ew.iretb f249_23 (Or.inr rfl) ?_
      exact h2 (fun e => c1 ((zeq nb_x (by decide)).mpr e)) ((zeq nb_x (by decide)).mp c2)
    · refine Ew.ld f249_12 rfl rfl rfl rfl ?_
      refine Ew.op (st' := zi (nI 125) :: _) f249_13 rfl rfl ?_
      refine Ew.icmp f249_15 rfl rfl (fun c3 => ?_) (fun c3 => ?_)
      · refine Ew.op (st' := zi (nI 0) :: _) f249_22 rfl rfl ?_
        refine Ew.iretb f249_23 (Or.inl rfl) ?_
        exact h3 (fun e => c1 ((zeq nb_x (by decide)).mpr e)) (fun e => c2 ((zeq nb_x (by decide)).mpr e)) (fun e => c3 ((zeq nb_x (by decide)).mpr e))
      · refine Ew.op (st' := zi (nI 1) :: _) f249_18 rfl rfl ?_
        refine Ew.goto f249_19 rfl ?_
        refine Ew.iretb f249_23 (Or.inr rfl) ?_
        exact h4 (fun e => c1 ((zeq nb_x (by decide)).mpr e)) (fun e => c2 ((zeq nb_x (by decide)).mpr e)) ((zeq nb_x (by decide)).mp (Classical.not_not.mp c3))
theorem sp_sIsC {d c s x : Nat} {I : zI} {L : zL} {P : zP} {S : zS} {top : Nat} {Q : Option zV → zM → Prop} (hx : x < 127) (k1 : pIsC x → Q (some (zi (nI 1))) (I, L, zpj P, zsj S, top)) (k0 : ¬ pIsC x → Q (some (zi (nI 0))) (I, L, zpj P, zsj S, top)) : Ev d c s 249 0 [some (zi (nI x))] [] (I, L, zpj P, zsj S, top) Q := by
  refine g249_0 (by omega) (fun q => k1 (Or.inl q)) (fun _ q => k1 (Or.inr (Or.inl q))) (fun q1 q2 q3 => k0 ?_) (fun _ _ q => k1 (Or.inr (Or.inr q)))
  rintro (q | q | q)
  · exact q1 q
  · exact q2 q
  · exact q3 q
theorem g38_0 {d c s : Nat} {n bb k : Nat} {A : List Nat} {I : zI} {L : zL} {P : zP} {S : zS} {top : Nat} {Q : Option zV → zM → Prop} (hc : cSc I P S bb n A) 
    (b1 : cSc I P S bb n A)
    (b2 : k < 5000)
    (b3 : (pF A k) < 127)
    (h1 : (pIsC ((pF A k))) → Q (some (zi (nI 1))) (I, L, zpj P, zsj S, top))
    (h2 : (¬ (pIsC ((pF A k)))) → Q (some (zi (nI 0))) (I, L, zpj P, zsj S, top)) : Ev (d + 1) c s 38 0 [some (zr (some (3, n, 0))), some (zi (nI k))] [] (I, L, zpj P, zsj S, top) Q := by
  refine Ew.ld f38_0 rfl rfl rfl rfl ?_
  refine Ew.ld f38_1 rfl rfl rfl rfl ?_
  refine Ew.call0 (ls0 := [some (zr (some (3, n, 0))), some (zi (nI k))]) f38_2 rfl (Nat.le_of_ble_eq_true rfl) rfl rfl (Nat.le_of_ble_eq_true rfl) (by show (S 3 n 0).1 = _; rw [hc.sh]) (Nat.le_of_ble_eq_true rfl) rfl rfl ?_
  refine sp_sLet b1 b2 ?_
  show Ev (d + 1) c s 38 5 [some (zr (some (3, n, 0))), some (zi (nI k))] [zi (nI (pF A k))] (I, L, zpj P, zsj S, top) Q
  refine Ew.call0 (ls0 := [some (zi (nI (pF A k)))]) f38_5 rfl (Nat.le_of_ble_eq_true rfl) rfl rfl (Nat.le_of_ble_eq_true rfl) trivial (Nat.le_of_ble_eq_true rfl) rfl rfl ?_
  refine sp_sIsC b3 (fun c1 => ?_) (fun c1 => ?_)
  · refine Ew.iretb f38_8 (Or.inr rfl) ?_
    exact h1 c1
  · refine Ew.iretb f38_8 (Or.inl rfl) ?_
    exact h2 c1
theorem sp_sCls {d c s bb n k : Nat} {A : List Nat} {I : zI} {L : zL} {P : zP} {S : zS} {top : Nat} {Q : Option zV → zM → Prop} (h : cSc I P S bb n A) (hk : k < 5000) (k1 : pIsC (pF A k) → Q (some (zi (nI 1))) (I, L, zpj P, zsj S, top)) (k0 : ¬ pIsC (pF A k) → Q (some (zi (nI 0))) (I, L, zpj P, zsj S, top)) : Ev (d + 1) c s 38 0 [some (zr (some (3, n, 0))), some (zi (nI k))] [] (I, L, zpj P, zsj S, top) Q :=
  g38_0 h h hk (pF_b h.2.1 k) k1 k0
theorem g39_0 {d c s : Nat} {n k : Nat} {I : zI} {L : zL} {P : zP} {S : zS} {top : Nat} {Q : Option zV → zM → Prop} (sn : S 3 n 0 = (5, 0)) 
    (h1 : Ev d c s 39 4 [some (zr (some (3, n, 0))), some (zi (nI k)), some (zi (nI 0)), some (zi (nI k))] [] (I, L, zpj P, zsj S, top) Q) : Ev d c s 39 0 [some (zr (some (3, n, 0))), some (zi (nI k)), none, none] [] (I, L, zpj P, zsj S, top) Q := by
  refine Ew.op (st' := zi (nI 0) :: _) f39_0 rfl rfl ?_
  refine Ew.sr (ls' := [some (zr (some (3, n, 0))), some (zi (nI k)), some (zi (nI 0)), none]) f39_1 rfl rfl (Nat.le_of_ble_eq_true rfl) rfl rfl ?_
  refine Ew.ld f39_2 rfl rfl rfl rfl ?_
  refine Ew.sr (ls' := [some (zr (some (3, n, 0))), some (zi (nI k)), some (zi (nI 0)), some (zi (nI k))]) f39_3 rfl rfl (Nat.le_of_ble_eq_true rfl) rfl rfl ?_
  exact h1
theorem g39_4 {d c s : Nat} {n a N o k x : Nat} {b : Int32} {I : zI} {L : zL} {P : zP} {S : zS} {top : Nat} {Q : Option zV → zM → Prop} (sn : S 3 n 0 = (5, 0)) (pa : P 3 n 0 0 = some (3, a, 0)) (sa : S 3 a 0 = (22, N)) (hq : N < 5000) (hx : k < N → I 3 a 0 k = nI x)  (nb_k : k < 5000) (nb_N : N < 5000) (nb_x : x < 5000)
    (h1 : (N ≤ k) → Q (some (zi (nI N))) (I, L, zpj P, zsj S, top))
    (b1 : (k < N) → k < N)
    (h2 : (k < N) → (x = 40) → (¬ (b + 1) = 0) → Ev (d + 1) c s 39 4 [some (zr (some (3, n, 0))), some (zi (nI o)), some (zi (b + 1)), some (zi (nI (k + 1)))] [] (I, L, zpj P, zsj S, top) Q)
    (h3 : (k < N) → (x = 40) → ((b + 1) = 0) → Q (some (zi (nI k))) (I, L, zpj P, zsj S, top))
    (b2 : (k < N) → (¬ x = 40) → k < N)
    (h4 : (k < N) → (¬ x = 40) → (x = 91) → (¬ (b + 1) = 0) → Ev (d + 1) c s 39 4 [some (zr (some (3, n, 0))), some (zi (nI o)), some (zi (b + 1)), some (zi (nI (k + 1)))] [] (I, L, zpj P, zsj S, top) Q)
    (h5 : (k < N) → (¬ x = 40) → (x = 91) → ((b + 1) = 0) → Q (some (zi (nI k))) (I, L, zpj P, zsj S, top))
    (b3 : (k < N) → (¬ x = 40) → (¬ x = 91) → k < N)
    (b4 : (k < N) → (¬ x = 40) → (¬ x = 91) → (¬ x = 123) → k < N)
    (b5 : (k < N) → (¬ x = 40) → (¬ x = 91) → (¬ x = 123) → x < 127)
    (h6 : (k < N) → (¬ x = 40) → (¬ x = 91) → (¬ x = 123) → (pIsC x) → (¬ (b + (-1)) = 0) → Ev (d + 1) c s 39 4 [some (zr (some (3, n, 0))), some (zi (nI o)), some (zi (b + (-1))), some (zi (nI (k + 1)))] [] (I, L, zpj P, zsj S, top) Q)
    (h7 : (k < N) → (¬ x = 40) → (¬ x = 91) → (¬ x = 123) → (pIsC x) → ((b + (-1)) = 0) → Q (some (zi (nI k))) (I, L, zpj P, zsj S, top))
    (h8 : (k < N) → (¬ x = 40) → (¬ x = 91) → (¬ x = 123) → (¬ (pIsC x)) → (¬ b = 0) → Ev (d + 1) c s 39 4 [some (zr (some (3, n, 0))), some (zi (nI o)), some (zi b), some (zi (nI (k + 1)))] [] (I, L, zpj P, zsj S, top) Q)
    (h9 : (k < N) → (¬ x = 40) → (¬ x = 91) → (¬ x = 123) → (¬ (pIsC x)) → (b = 0) → Q (some (zi (nI k))) (I, L, zpj P, zsj S, top))
    (h10 : (k < N) → (¬ x = 40) → (¬ x = 91) → (x = 123) → (¬ (b + 1) = 0) → Ev (d + 1) c s 39 4 [some (zr (some (3, n, 0))), some (zi (nI o)), some (zi (b + 1)), some (zi (nI (k + 1)))] [] (I, L, zpj P, zsj S, top) Q)
    (h11 : (k < N) → (¬ x = 40) → (¬ x = 91) → (x = 123) → ((b + 1) = 0) → Q (some (zi (nI k))) (I, L, zpj P, zsj S, top)) : Ev (d + 1) c s 39 4 [some (zr (some (3, n, 0))), some (zi (nI o)), some (zi b), some (zi (nI k))] [] (I, L, zpj P, zsj S, top) Q := by
  refine Ew.ld f39_4 rfl rfl rfl rfl ?_
  refine Ew.ld f39_5 rfl rfl rfl rfl ?_
  refine Ew.getp (v := some (3, a, 0)) f39_6 (by show (S 3 n 0).1 = _; rw [sn]) (show zpj P 3 n 0 0 = _ from pa) rfl ?_
  refine Ew.alen (n := N) f39_9 (by show _ < (S 3 a 0).1; rw [sa]; exact Nat.le_of_ble_eq_true rfl) (by show (S 3 a 0).2 = _; rw [sa]) rfl ?_
  refine Ew.icmp f39_10 rfl rfl (fun c1 => ?_) (fun c1 => ?_)
  · refine Ew.ld f39_79 rfl rfl rfl rfl ?_
    refine Ew.getp (v := some (3, a, 0)) f39_80 (by show (S 3 n 0).1 = _; rw [sn]) (show zpj P 3 n 0 0 = _ from pa) rfl ?_
    refine Ew.alen (n := N) f39_83 (by show _ < (S 3 a 0).1; rw [sa]; exact Nat.le_of_ble_eq_true rfl) (by show (S 3 a 0).2 = _; rw [sa]) rfl ?_
    refine Ew.ireti f39_84 ?_
    exact h1 ((zle_iff nb_N nb_k).mp c1)
  · refine Ew.ld f39_13 rfl rfl rfl rfl ?_
    refine Ew.getp (v := some (3, a, 0)) f39_14 (by show (S 3 n 0).1 = _; rw [sn]) (show zpj P 3 n 0 0 = _ from pa) rfl ?_
    refine Ew.ld f39_17 rfl rfl rfl rfl ?_
    refine Ew.caldnV (v := nI x) f39_18 (by show (S 3 a 0).1 = _; rw [sa]) (by show _ < (S 3 a 0).2; rw [sa]; exact (b1 (Nat.not_le.mp fun e => c1 ((zle_iff nb_N nb_k).mpr e)))) (by show (S 3 a 0).2 < 5000; rw [sa]; omega) rfl (hx (Nat.not_le.mp fun e => c1 ((zle_iff nb_N nb_k).mpr e))) ?_
    refine Ew.op (st' := zi (nI 40) :: _) f39_19 rfl rfl ?_
    refine Ew.icmp f39_21 rfl rfl (fun c2 => ?_) (fun c2 => ?_)
    · refine Ew.iinc (v := b + 1) (ls' := [some (zr (some (3, n, 0))), some (zi (nI o)), some (zi (b + 1)), some (zi (nI k))]) f39_46 rfl rfl rfl rfl ?_
      refine Ew.goto f39_49 rfl ?_
      refine Ew.ld f39_67 rfl rfl rfl rfl ?_
      refine Ew.ifc f39_68 rfl rfl (fun c3 => ?_) (fun c3 => ?_)
      · refine Ew.iinc (v := nI (k + 1)) (ls' := [some (zr (some (3, n, 0))), some (zi (nI o)), some (zi (b + 1)), some (zi (nI (k + 1)))]) f39_73 rfl (nI_1 _) rfl rfl ?_
        refine Ew.goto f39_76 rfl ?_
        exact h2 (Nat.not_le.mp fun e => c1 ((zle_iff nb_N nb_k).mpr e)) ((zeq nb_x (by decide)).mp c2) c3
      · refine Ew.ld f39_71 rfl rfl rfl rfl ?_
        refine Ew.ireti f39_72 ?_
        exact h3 (Nat.not_le.mp fun e => c1 ((zle_iff nb_N nb_k).mpr e)) ((zeq nb_x (by decide)).mp c2) (Classical.not_not.mp c3)
    · refine Ew.ld f39_24 rfl rfl rfl rfl ?_
      refine Ew.getp (v := some (3, a, 0)) f39_25 (by show (S 3 n 0).1 = _; rw [sn]) (show zpj P 3 n 0 0 = _ from pa) rfl ?_
      refine Ew.ld f39_28 rfl rfl rfl rfl ?_
      refine Ew.caldnV (v := nI x) f39_29 (by show (S 3 a 0).1 = _; rw [sa]) (by show _ < (S 3 a 0).2; rw [sa]; exact (b2 (Nat.not_le.mp fun e => c1 ((zle_iff nb_N nb_k).mpr e)) (fun e => c2 ((zeq nb_x (by decide)).mpr e)))) (by show (S 3 a 0).2 < 5000; rw [sa]; omega) rfl (hx (Nat.not_le.mp fun e => c1 ((zle_iff nb_N nb_k).mpr e))) ?_
      refine Ew.op (st' := zi (nI 91) :: _) f39_30 rfl rfl ?_
      refine Ew.icmp f39_32 rfl rfl (fun c4 => ?_) (fun c4 => ?_)
      · refine Ew.iinc (v := b + 1) (ls' := [some (zr (some (3, n, 0))), some (zi (nI o)), some (zi (b + 1)), some (zi (nI k))]) f39_46 rfl rfl rfl rfl ?_
        refine Ew.goto f39_49 rfl ?_
        refine Ew.ld f39_67 rfl rfl rfl rfl ?_
        refine Ew.ifc f39_68 rfl rfl (fun c5 => ?_) (fun c5 => ?_)
        · refine Ew.iinc (v := nI (k + 1)) (ls' := [some (zr (some (3, n, 0))), some (zi (nI o)), some (zi (b + 1)), some (zi (nI (k + 1)))]) f39_73 rfl (nI_1 _) rfl rfl ?_
          refine Ew.goto f39_76 rfl ?_
          exact h4 (Nat.not_le.mp fun e => c1 ((zle_iff nb_N nb_k).mpr e)) (fun e => c2 ((zeq nb_x (by decide)).mpr e)) ((zeq nb_x (by decide)).mp c4) c5
        · refine Ew.ld f39_71 rfl rfl rfl rfl ?_
          refine Ew.ireti f39_72 ?_
          exact h5 (Nat.not_le.mp fun e => c1 ((zle_iff nb_N nb_k).mpr e)) (fun e => c2 ((zeq nb_x (by decide)).mpr e)) ((zeq nb_x (by decide)).mp c4) (Classical.not_not.mp c5)
      · refine Ew.ld f39_35 rfl rfl rfl rfl ?_
        refine Ew.getp (v := some (3, a, 0)) f39_36 (by show (S 3 n 0).1 = _; rw [sn]) (show zpj P 3 n 0 0 = _ from pa) rfl ?_
        refine Ew.ld f39_39 rfl rfl rfl rfl ?_
        refine Ew.caldnV (v := nI x) f39_40 (by show (S 3 a 0).1 = _; rw [sa]) (by show _ < (S 3 a 0).2; rw [sa]; exact (b3 (Nat.not_le.mp fun e => c1 ((zle_iff nb_N nb_k).mpr e)) (fun e => c2 ((zeq nb_x (by decide)).mpr e)) (fun e => c4 ((zeq nb_x (by decide)).mpr e)))) (by show (S 3 a 0).2 < 5000; rw [sa]; omega) rfl (hx (Nat.not_le.mp fun e => c1 ((zle_iff nb_N nb_k).mpr e))) ?_
        refine Ew.op (st' := zi (nI 123) :: _) f39_41 rfl rfl ?_
        refine Ew.icmp f39_43 rfl rfl (fun c6 => ?_) (fun c6 => ?_)
        · refine Ew.ld f39_52 rfl rfl rfl rfl ?_
          refine Ew.getp (v := some (3, a, 0)) f39_53 (by show (S 3 n 0).1 = _; rw [sn]) (show zpj P 3 n 0 0 = _ from pa) rfl ?_
          refine Ew.ld f39_56 rfl rfl rfl rfl ?_
          refine Ew.caldnV (v := nI x) f39_57 (by show (S 3 a 0).1 = _; rw [sa]) (by show _ < (S 3 a 0).2; rw [sa]; exact (b4 (Nat.not_le.mp fun e => c1 ((zle_iff nb_N nb_k).mpr e)) (fun e => c2 ((zeq nb_x (by decide)).mpr e)) (fun e => c4 ((zeq nb_x (by decide)).mpr e)) (fun e => c6 ((zeq nb_x (by decide)).mpr e)))) (by show (S 3 a 0).2 < 5000; rw [sa]; omega) rfl (hx (Nat.not_le.mp fun e => c1 ((zle_iff nb_N nb_k).mpr e))) ?_
          refine Ew.call0 (ls0 := [some (zi (nI x))]) f39_58 rfl (Nat.le_of_ble_eq_true rfl) rfl rfl (Nat.le_of_ble_eq_true rfl) trivial (Nat.le_of_ble_eq_true rfl) rfl rfl ?_
          refine sp_sIsC (b5 (Nat.not_le.mp fun e => c1 ((zle_iff nb_N nb_k).mpr e)) (fun e => c2 ((zeq nb_x (by decide)).mpr e)) (fun e => c4 ((zeq nb_x (by decide)).mpr e)) (fun e => c6 ((zeq nb_x (by decide)).mpr e))) (fun c7 => ?_) (fun c7 => ?_)
          · refine Ew.ifc f39_61 rfl rfl (fun h => absurd h (show ¬ (((nI 1) : Int32) = 0) by decide)) (fun _ => ?_)
            refine Ew.iinc (v := b + (-1)) (ls' := [some (zr (some (3, n, 0))), some (zi (nI o)), some (zi (b + (-1))), some (zi (nI k))]) f39_64 rfl rfl rfl rfl ?_
            refine Ew.ld f39_67 rfl rfl rfl rfl ?_
            refine Ew.ifc f39_68 rfl rfl (fun c8 => ?_) (fun c8 => ?_)
            · refine Ew.iinc (v := nI (k + 1)) (ls' := [some (zr (some (3, n, 0))), some (zi (nI o)), some (zi (b + (-1))), some (zi (nI (k + 1)))]) f39_73 rfl (nI_1 _) rfl rfl ?_
              refine Ew.goto f39_76 rfl ?_
              exact h6 (Nat.not_le.mp fun e => c1 ((zle_iff nb_N nb_k).mpr e)) (fun e => c2 ((zeq nb_x (by decide)).mpr e)) (fun e => c4 ((zeq nb_x (by decide)).mpr e)) (fun e => c6 ((zeq nb_x (by decide)).mpr e)) c7 c8
            · refine Ew.ld f39_71 rfl rfl rfl rfl ?_
              refine Ew.ireti f39_72 ?_
              exact h7 (Nat.not_le.mp fun e => c1 ((zle_iff nb_N nb_k).mpr e)) (fun e => c2 ((zeq nb_x (by decide)).mpr e)) (fun e => c4 ((zeq nb_x (by decide)).mpr e)) (fun e => c6 ((zeq nb_x (by decide)).mpr e)) c7 (Classical.not_not.mp c8)
          · refine Ew.ifc f39_61 rfl rfl (fun _ => ?_) (fun h => absurd (show ((nI 0) : Int32) = 0 by decide) h)
            refine Ew.ld f39_67 rfl rfl rfl rfl ?_
            refine Ew.ifc f39_68 rfl rfl (fun c9 => ?_) (fun c9 => ?_)
            · refine Ew.iinc (v := nI (k + 1)) (ls' := [some (zr (some (3, n, 0))), some (zi (nI o)), some (zi b), some (zi (nI (k + 1)))]) f39_73 rfl (nI_1 _) rfl rfl ?_
              refine Ew.goto f39_76 rfl ?_
              exact h8 (Nat.not_le.mp fun e => c1 ((zle_iff nb_N nb_k).mpr e)) (fun e => c2 ((zeq nb_x (by decide)).mpr e)) (fun e => c4 ((zeq nb_x (by decide)).mpr e)) (fun e => c6 ((zeq nb_x (by decide)).mpr e)) c7 c9
            · refine Ew.ld f39_71 rfl rfl rfl rfl ?_
              refine Ew.ireti f39_72 ?_
              exact h9 (Nat.not_le.mp fun e => c1 ((zle_iff nb_N nb_k).mpr e)) (fun e => c2 ((zeq nb_x (by decide)).mpr e)) (fun e => c4 ((zeq nb_x (by decide)).mpr e)) (fun e => c6 ((zeq nb_x (by decide)).mpr e)) c7 (Classical.not_not.mp c9)
        · refine Ew.iinc (v := b + 1) (ls' := [some (zr (some (3, n, 0))), some (zi (nI o)), some (zi (b + 1)), some (zi (nI k))]) f39_46 rfl rfl rfl rfl ?_
          refine Ew.goto f39_49 rfl ?_
          refine Ew.ld f39_67 rfl rfl rfl rfl ?_
          refine Ew.ifc f39_68 rfl rfl (fun c10 => ?_) (fun c10 => ?_)
          · refine Ew.iinc (v := nI (k + 1)) (ls' := [some (zr (some (3, n, 0))), some (zi (nI o)), some (zi (b + 1)), some (zi (nI (k + 1)))]) f39_73 rfl (nI_1 _) rfl rfl ?_
            refine Ew.goto f39_76 rfl ?_
            exact h10 (Nat.not_le.mp fun e => c1 ((zle_iff nb_N nb_k).mpr e)) (fun e => c2 ((zeq nb_x (by decide)).mpr e)) (fun e => c4 ((zeq nb_x (by decide)).mpr e)) ((zeq nb_x (by decide)).mp (Classical.not_not.mp c6)) c10
          · refine Ew.ld f39_71 rfl rfl rfl rfl ?_
            refine Ew.ireti f39_72 ?_
            exact h11 (Nat.not_le.mp fun e => c1 ((zle_iff nb_N nb_k).mpr e)) (fun e => c2 ((zeq nb_x (by decide)).mpr e)) (fun e => c4 ((zeq nb_x (by decide)).mpr e)) ((zeq nb_x (by decide)).mp (Classical.not_not.mp c6)) (Classical.not_not.mp c10)
