/-! the class: a table becomes another -/
theorem g52_0 {d c s : Nat} {j k : Nat} {I : zI} {L : zL} {P : zP} {S : zS} {top : Nat} {Q : Option zV → zM → Prop} (hj : j < 15) (hk : k < 15) 
    (h1 : Ev d c s 52 34 [some (zr (some (2, j, 0))), some (zr (some (2, k, 0))), some (zi (nI 0))] [] (zup4 (zup4 (zup4 (zup4 I 2 j 0 2 (I 2 k 0 2)) 2 j 0 3 ((zup4 I 2 j 0 2 (I 2 k 0 2)) 2 k 0 3)) 2 j 0 4 ((zup4 (zup4 I 2 j 0 2 (I 2 k 0 2)) 2 j 0 3 ((zup4 I 2 j 0 2 (I 2 k 0 2)) 2 k 0 3)) 2 k 0 4)) 2 j 0 5 ((zup4 (zup4 (zup4 I 2 j 0 2 (I 2 k 0 2)) 2 j 0 3 ((zup4 I 2 j 0 2 (I 2 k 0 2)) 2 k 0 3)) 2 j 0 4 ((zup4 (zup4 I 2 j 0 2 (I 2 k 0 2)) 2 j 0 3 ((zup4 I 2 j 0 2 (I 2 k 0 2)) 2 k 0 3)) 2 k 0 4)) 2 k 0 5), L, zpj P, zsj S, top) Q) : Ev d c s 52 0 [some (zr (some (2, j, 0))), some (zr (some (2, k, 0))), none] [] (I, L, zpj P, zsj S, top) Q := by
  refine Ew.ld f52_0 rfl rfl rfl rfl ?_
  refine Ew.ld f52_1 rfl rfl rfl rfl ?_
  refine Ew.geti f52_2 (by rw [zsj2 _ hk]; rfl) rfl ?_
  refine Ew.puti f52_5 (by rw [zsj2 _ hj]; rfl) rfl ?_
  refine Ew.ld f52_8 rfl rfl rfl rfl ?_
  refine Ew.ld f52_9 rfl rfl rfl rfl ?_
  refine Ew.geti f52_10 (by rw [zsj2 _ hk]; rfl) rfl ?_
  refine Ew.puti f52_13 (by rw [zsj2 _ hj]; rfl) rfl ?_
  refine Ew.ld f52_16 rfl rfl rfl rfl ?_
  refine Ew.ld f52_17 rfl rfl rfl rfl ?_
  refine Ew.geti f52_18 (by rw [zsj2 _ hk]; rfl) rfl ?_
  refine Ew.puti f52_21 (by rw [zsj2 _ hj]; rfl) rfl ?_
  refine Ew.ld f52_24 rfl rfl rfl rfl ?_
  refine Ew.ld f52_25 rfl rfl rfl rfl ?_
  refine Ew.geti f52_26 (by rw [zsj2 _ hk]; rfl) rfl ?_
  refine Ew.puti f52_29 (by rw [zsj2 _ hj]; rfl) rfl ?_
  refine Ew.op (st' := zi (nI 0) :: _) f52_32 rfl rfl ?_
  refine Ew.sr (ls' := [some (zr (some (2, j, 0))), some (zr (some (2, k, 0))), some (zi (nI 0))]) f52_33 rfl rfl (Nat.le_of_ble_eq_true rfl) rfl rfl ?_
  exact h1
theorem g52_34 {d c s : Nat} {j k g : Nat} {I : zI} {L : zL} {P : zP} {S : zS} {top : Nat} {Q : Option zV → zM → Prop} (hj : j < 15) (hk : k < 15)  (nb_g : g < 5000)
    (h1 : (6 ≤ g) → Ev d c s 52 84 [some (zr (some (2, j, 0))), some (zr (some (2, k, 0))), some (zi (nI 0))] [] (I, L, zpj P, zsj S, top) Q)
    (b1 : (g < 6) → g < 6)
    (b2 : (g < 6) → g < 6)
    (b3 : (g < 6) → g < 6)
    (b4 : (g < 6) → g < 6)
    (b5 : (g < 6) → g < 6)
    (b6 : (g < 6) → g < 6)
    (h2 : (g < 6) → Ev d c s 52 34 [some (zr (some (2, j, 0))), some (zr (some (2, k, 0))), some (zi (nI (g + 1)))] [] (zup4 (zup4 (zup4 I 2 j 3 g (I 2 k 3 g)) 2 j 4 g ((zup4 I 2 j 3 g (I 2 k 3 g)) 2 k 4 g)) 2 j 5 g ((zup4 (zup4 I 2 j 3 g (I 2 k 3 g)) 2 j 4 g ((zup4 I 2 j 3 g (I 2 k 3 g)) 2 k 4 g)) 2 k 5 g), L, zpj P, zsj S, top) Q) : Ev d c s 52 34 [some (zr (some (2, j, 0))), some (zr (some (2, k, 0))), some (zi (nI g))] [] (I, L, zpj P, zsj S, top) Q := by
  refine Ew.ld f52_34 rfl rfl rfl rfl ?_
  refine Ew.op (st' := zi (nI 6) :: _) f52_35 rfl rfl ?_
  refine Ew.icmp f52_37 rfl rfl (fun c1 => ?_) (fun c1 => ?_)
  · refine Ew.op (st' := zi (nI 0) :: _) f52_82 rfl rfl ?_
    refine Ew.sr (ls' := [some (zr (some (2, j, 0))), some (zr (some (2, k, 0))), some (zi (nI 0))]) f52_83 rfl rfl (Nat.le_of_ble_eq_true rfl) rfl rfl ?_
    exact h1 ((zle_iff (by decide) nb_g).mp c1)
  · refine Ew.ld f52_40 rfl rfl rfl rfl ?_
    refine Ew.getp (v := some (2, j, 3)) f52_41 (by rw [zsj2 _ hj]; rfl) rfl rfl ?_
    refine Ew.ld f52_44 rfl rfl rfl rfl ?_
    refine Ew.ld f52_45 rfl rfl rfl rfl ?_
    refine Ew.getp (v := some (2, k, 3)) f52_46 (by rw [zsj2 _ hk]; rfl) rfl rfl ?_
    refine Ew.ld f52_49 rfl rfl rfl rfl ?_
    refine Ew.ialdn f52_50 (by rw [zsj2 _ hk]; rfl) (by rw [zsj2 _ hk]; exact (b1 (Nat.not_le.mp fun e => c1 ((zle_iff (by decide) nb_g).mpr e)))) (by rw [zsj2 _ hk]; decide) rfl ?_
    refine Ew.iastn f52_51 (by decide) (by rw [zsj2 _ hj]; rfl) (by rw [zsj2 _ hj]; exact (b2 (Nat.not_le.mp fun e => c1 ((zle_iff (by decide) nb_g).mpr e)))) (by rw [zsj2 _ hj]; decide) rfl ?_
    refine Ew.ld f52_52 rfl rfl rfl rfl ?_
    refine Ew.getp (v := some (2, j, 4)) f52_53 (by rw [zsj2 _ hj]; rfl) rfl rfl ?_
    refine Ew.ld f52_56 rfl rfl rfl rfl ?_
    refine Ew.ld f52_57 rfl rfl rfl rfl ?_
    refine Ew.getp (v := some (2, k, 4)) f52_58 (by rw [zsj2 _ hk]; rfl) rfl rfl ?_
    refine Ew.ld f52_61 rfl rfl rfl rfl ?_
    refine Ew.ialdn f52_62 (by rw [zsj2 _ hk]; rfl) (by rw [zsj2 _ hk]; exact (b3 (Nat.not_le.mp fun e => c1 ((zle_iff (by decide) nb_g).mpr e)))) (by rw [zsj2 _ hk]; decide) rfl ?_
    refine Ew.iastn f52_63 (by decide) (by rw [zsj2 _ hj]; rfl) (by rw [zsj2 _ hj]; exact (b4 (Nat.not_le.mp fun e => c1 ((zle_iff (by decide) nb_g).mpr e)))) (by rw [zsj2 _ hj]; decide) rfl ?_
    refine Ew.ld f52_64 rfl rfl rfl rfl ?_
    refine Ew.getp (v := some (2, j, 5)) f52_65 (by rw [zsj2 _ hj]; rfl) rfl rfl ?_
    refine Ew.ld f52_68 rfl rfl rfl rfl ?_
    refine Ew.ld f52_69 rfl rfl rfl rfl ?_
    refine Ew.getp (v := some (2, k, 5)) f52_70 (by rw [zsj2 _ hk]; rfl) rfl rfl ?_
    refine Ew.ld f52_73 rfl rfl rfl rfl ?_
    refine Ew.ialdn f52_74 (by rw [zsj2 _ hk]; rfl) (by rw [zsj2 _ hk]; exact (b5 (Nat.not_le.mp fun e => c1 ((zle_iff (by decide) nb_g).mpr e)))) (by rw [zsj2 _ hk]; decide) rfl ?_
    refine Ew.iastn f52_75 (by decide) (by rw [zsj2 _ hj]; rfl) (by rw [zsj2 _ hj]; exact (b6 (Nat.not_le.mp fun e => c1 ((zle_iff (by decide) nb_g).mpr e)))) (by rw [zsj2 _ hj]; decide) rfl ?_
    refine Ew.iinc (v := nI (g + 1)) (ls' := [some (zr (some (2, j, 0))), some (zr (some (2, k, 0))), some (zi (nI (g + 1)))]) f52_76 rfl (nI_1 _) rfl rfl ?_
    refine Ew.goto f52_79 rfl ?_
    exact h2 (Nat.not_le.mp fun e => c1 ((zle_iff (by decide) nb_g).mpr e))
theorem g52_84 {d c s : Nat} {j k t n a : Nat} {I : zI} {L : zL} {P : zP} {S : zS} {top : Nat} {Q : Option zV → zM → Prop} (hj : j < 15) (hk : k < 15) (sn : S 3 n 0 = (9, 0)) (sa : S 3 a 0 = (5, 0)) (pa : t < 4 → P 2 k 1 t = some (3, a, 0)) (pn : t < 4 → zup4 P 2 j 1 t (some (3, a, 0)) 2 k 2 t = some (3, n, 0)) (nb_t : t < 5000)
    (h1 : (4 ≤ t) → Q none (I, L, zpj P, zsj S, top))
    (b1 : (t < 4) → t < 4)
    (b2 : (t < 4) → t < 4)
    (b3 : (t < 4) → t < 4)
    (b4 : (t < 4) → t < 4)
    (b5 : (t < 4) → t < 4)
    (b6 : (t < 4) → t < 4)
    (b7 : (t < 4) → t < 4)
    (b8 : (t < 4) → t < 4)
    (b9 : (t < 4) → t < 4)
    (b10 : (t < 4) → t < 4)
    (b11 : (t < 4) → t < 4)
    (b12 : (t < 4) → t < 4)
    (b13 : (t < 4) → t < 4)
    (b14 : (t < 4) → t < 4)
    (h2 : (t < 4) → Ev d c s 52 84 [some (zr (some (2, j, 0))), some (zr (some (2, k, 0))), some (zi (nI (t + 1)))] [] (zup4 (zup4 (zup4 (zup4 (zup4 I 2 j 6 t (I 2 k 6 t)) 2 j 7 t ((zup4 I 2 j 6 t (I 2 k 6 t)) 2 k 7 t)) 2 j 8 t ((zup4 (zup4 I 2 j 6 t (I 2 k 6 t)) 2 j 7 t ((zup4 I 2 j 6 t (I 2 k 6 t)) 2 k 7 t)) 2 k 8 t)) 2 j 9 t ((zup4 (zup4 (zup4 I 2 j 6 t (I 2 k 6 t)) 2 j 7 t ((zup4 I 2 j 6 t (I 2 k 6 t)) 2 k 7 t)) 2 j 8 t ((zup4 (zup4 I 2 j 6 t (I 2 k 6 t)) 2 j 7 t ((zup4 I 2 j 6 t (I 2 k 6 t)) 2 k 7 t)) 2 k 8 t)) 2 k 9 t)) 2 j 10 t ((zup4 (zup4 (zup4 (zup4 I 2 j 6 t (I 2 k 6 t)) 2 j 7 t ((zup4 I 2 j 6 t (I 2 k 6 t)) 2 k 7 t)) 2 j 8 t ((zup4 (zup4 I 2 j 6 t (I 2 k 6 t)) 2 j 7 t ((zup4 I 2 j 6 t (I 2 k 6 t)) 2 k 7 t)) 2 k 8 t)) 2 j 9 t ((zup4 (zup4 (zup4 I 2 j 6 t (I 2 k 6 t)) 2 j 7 t ((zup4 I 2 j 6 t (I 2 k 6 t)) 2 k 7 t)) 2 j 8 t ((zup4 (zup4 I 2 j 6 t (I 2 k 6 t)) 2 j 7 t ((zup4 I 2 j 6 t (I 2 k 6 t)) 2 k 7 t)) 2 k 8 t)) 2 k 9 t)) 2 k 10 t), L, zpj (zup4 (zup4 P 2 j 1 t (some (3, a, 0))) 2 j 2 t (some (3, n, 0))), zsj S, top) Q) : Ev d c s 52 84 [some (zr (some (2, j, 0))), some (zr (some (2, k, 0))), some (zi (nI t))] [] (I, L, zpj P, zsj S, top) Q := by
  refine Ew.ld f52_84 rfl rfl rfl rfl ?_
  refine Ew.op (st' := zi (nI 4) :: _) f52_85 rfl rfl ?_
  refine Ew.icmp f52_86 rfl rfl (fun c1 => ?_) (fun c1 => ?_)
  · refine Ew.vret f52_179 ?_
    exact h1 ((zle_iff (by decide) nb_t).mp c1)
  · refine Ew.ld f52_89 rfl rfl rfl rfl ?_
    refine Ew.getp (v := some (2, j, 1)) f52_90 (by rw [zsj2 _ hj]; rfl) rfl rfl ?_
    refine Ew.ld f52_93 rfl rfl rfl rfl ?_
    refine Ew.ld f52_94 rfl rfl rfl rfl ?_
    refine Ew.getp (v := some (2, k, 1)) f52_95 (by rw [zsj2 _ hk]; rfl) rfl rfl ?_
    refine Ew.ld f52_98 rfl rfl rfl rfl ?_
    refine Ew.aaldn (v := some (3, a, 0)) f52_99 (by rw [zsj2 _ hk]; decide) (by rw [zsj2 _ hk]; exact (b1 (Nat.not_le.mp fun e => c1 ((zle_iff (by decide) nb_t).mpr e)))) (by rw [zsj2 _ hk]; decide) rfl (show zpj P 2 k 1 t = _ from (pa (Nat.not_le.mp fun e => c1 ((zle_iff (by decide) nb_t).mpr e)))) ?_
    refine Ew.aastn f52_100 (by rw [zsj2 _ hj]; decide) (by show (S 3 a 0).1 = zel (zsj S 2 j 1).1; rw [sa, zsj2 _ hj]; rfl) (by rw [zsj2 _ hj]; exact (b2 (Nat.not_le.mp fun e => c1 ((zle_iff (by decide) nb_t).mpr e)))) (by rw [zsj2 _ hj]; decide) rfl ?_
    rw [zpj_up (r := 2) (j := j) (q := 1) (n := t) (fun _ => rfl)]
    show Ev d c s 52 101 [some (zr (some (2, j, 0))), some (zr (some (2, k, 0))), some (zi (nI t))] [] (I, L, zpj (zup4 P 2 j 1 t (some (3, a, 0))), zsj S, top) Q
    refine Ew.ld f52_101 rfl rfl rfl rfl ?_
    refine Ew.getp (v := some (2, j, 2)) f52_102 (by rw [zsj2 _ hj]; rfl) rfl rfl ?_
    refine Ew.ld f52_105 rfl rfl rfl rfl ?_
    refine Ew.ld f52_106 rfl rfl rfl rfl ?_
    refine Ew.getp (v := some (2, k, 2)) f52_107 (by rw [zsj2 _ hk]; rfl) rfl rfl ?_
    refine Ew.ld f52_110 rfl rfl rfl rfl ?_
    refine Ew.aaldn (v := some (3, n, 0)) f52_111 (by rw [zsj2 _ hk]; decide) (by rw [zsj2 _ hk]; exact (b3 (Nat.not_le.mp fun e => c1 ((zle_iff (by decide) nb_t).mpr e)))) (by rw [zsj2 _ hk]; decide) rfl (show zpj (zup4 P 2 j 1 t (some (3, a, 0))) 2 k 2 t = _ from (pn (Nat.not_le.mp fun e => c1 ((zle_iff (by decide) nb_t).mpr e)))) ?_
    refine Ew.aastn f52_112 (by rw [zsj2 _ hj]; decide) (by show (S 3 n 0).1 = zel (zsj S 2 j 2).1; rw [sn, zsj2 _ hj]; rfl) (by rw [zsj2 _ hj]; exact (b4 (Nat.not_le.mp fun e => c1 ((zle_iff (by decide) nb_t).mpr e)))) (by rw [zsj2 _ hj]; decide) rfl ?_
    rw [zpj_up (r := 2) (j := j) (q := 2) (n := t) (fun _ => rfl)]
    show Ev d c s 52 113 [some (zr (some (2, j, 0))), some (zr (some (2, k, 0))), some (zi (nI t))] [] (I, L, zpj (zup4 (zup4 P 2 j 1 t (some (3, a, 0))) 2 j 2 t (some (3, n, 0))), zsj S, top) Q
    refine Ew.ld f52_113 rfl rfl rfl rfl ?_
    refine Ew.getp (v := some (2, j, 6)) f52_114 (by rw [zsj2 _ hj]; rfl) rfl rfl ?_
    refine Ew.ld f52_117 rfl rfl rfl rfl ?_
    refine Ew.ld f52_118 rfl rfl rfl rfl ?_
    refine Ew.getp (v := some (2, k, 6)) f52_119 (by rw [zsj2 _ hk]; rfl) rfl rfl ?_
    refine Ew.ld f52_122 rfl rfl rfl rfl ?_
    refine Ew.ialdn f52_123 (by rw [zsj2 _ hk]; rfl) (by rw [zsj2 _ hk]; exact (b5 (Nat.not_le.mp fun e => c1 ((zle_iff (by decide) nb_t).mpr e)))) (by rw [zsj2 _ hk]; decide) rfl ?_
    refine Ew.iastn f52_124 (by decide) (by rw [zsj2 _ hj]; rfl) (by rw [zsj2 _ hj]; exact (b6 (Nat.not_le.mp fun e => c1 ((zle_iff (by decide) nb_t).mpr e)))) (by rw [zsj2 _ hj]; decide) rfl ?_
    refine Ew.ld f52_125 rfl rfl rfl rfl ?_
    refine Ew.getp (v := some (2, j, 7)) f52_126 (by rw [zsj2 _ hj]; rfl) rfl rfl ?_
    refine Ew.ld f52_129 rfl rfl rfl rfl ?_
    refine Ew.ld f52_130 rfl rfl rfl rfl ?_
    refine Ew.getp (v := some (2, k, 7)) f52_131 (by rw [zsj2 _ hk]; rfl) rfl rfl ?_
    refine Ew.ld f52_134 rfl rfl rfl rfl ?_
    refine Ew.ialdn f52_135 (by rw [zsj2 _ hk]; rfl) (by rw [zsj2 _ hk]; exact (b7 (Nat.not_le.mp fun e => c1 ((zle_iff (by decide) nb_t).mpr e)))) (by rw [zsj2 _ hk]; decide) rfl ?_
    refine Ew.iastn f52_136 (by decide) (by rw [zsj2 _ hj]; rfl) (by rw [zsj2 _ hj]; exact (b8 (Nat.not_le.mp fun e => c1 ((zle_iff (by decide) nb_t).mpr e)))) (by rw [zsj2 _ hj]; decide) rfl ?_
    refine Ew.ld f52_137 rfl rfl rfl rfl ?_
    refine Ew.getp (v := some (2, j, 8)) f52_138 (by rw [zsj2 _ hj]; rfl) rfl rfl ?_
    refine Ew.ld f52_141 rfl rfl rfl rfl ?_
    refine Ew.ld f52_142 rfl rfl rfl rfl ?_
    refine Ew.getp (v := some (2, k, 8)) f52_143 (by rw [zsj2 _ hk]; rfl) rfl rfl ?_
    refine Ew.ld f52_146 rfl rfl rfl rfl ?_
    refine Ew.ialdn f52_147 (by rw [zsj2 _ hk]; rfl) (by rw [zsj2 _ hk]; exact (b9 (Nat.not_le.mp fun e => c1 ((zle_iff (by decide) nb_t).mpr e)))) (by rw [zsj2 _ hk]; decide) rfl ?_
    refine Ew.iastn f52_148 (by decide) (by rw [zsj2 _ hj]; rfl) (by rw [zsj2 _ hj]; exact (b10 (Nat.not_le.mp fun e => c1 ((zle_iff (by decide) nb_t).mpr e)))) (by rw [zsj2 _ hj]; decide) rfl ?_
    refine Ew.ld f52_149 rfl rfl rfl rfl ?_
    refine Ew.getp (v := some (2, j, 9)) f52_150 (by rw [zsj2 _ hj]; rfl) rfl rfl ?_
    refine Ew.ld f52_153 rfl rfl rfl rfl ?_
    refine Ew.ld f52_154 rfl rfl rfl rfl ?_
    refine Ew.getp (v := some (2, k, 9)) f52_155 (by rw [zsj2 _ hk]; rfl) rfl rfl ?_
    refine Ew.ld f52_158 rfl rfl rfl rfl ?_
    refine Ew.ialdn f52_159 (by rw [zsj2 _ hk]; rfl) (by rw [zsj2 _ hk]; exact (b11 (Nat.not_le.mp fun e => c1 ((zle_iff (by decide) nb_t).mpr e)))) (by rw [zsj2 _ hk]; decide) rfl ?_
    refine Ew.iastn f52_160 (by decide) (by rw [zsj2 _ hj]; rfl) (by rw [zsj2 _ hj]; exact (b12 (Nat.not_le.mp fun e => c1 ((zle_iff (by decide) nb_t).mpr e)))) (by rw [zsj2 _ hj]; decide) rfl ?_
    refine Ew.ld f52_161 rfl rfl rfl rfl ?_
    refine Ew.getp (v := some (2, j, 10)) f52_162 (by rw [zsj2 _ hj]; rfl) rfl rfl ?_
    refine Ew.ld f52_165 rfl rfl rfl rfl ?_
    refine Ew.ld f52_166 rfl rfl rfl rfl ?_
    refine Ew.getp (v := some (2, k, 10)) f52_167 (by rw [zsj2 _ hk]; rfl) rfl rfl ?_
    refine Ew.ld f52_170 rfl rfl rfl rfl ?_
    refine Ew.ialdn f52_171 (by rw [zsj2 _ hk]; rfl) (by rw [zsj2 _ hk]; exact (b13 (Nat.not_le.mp fun e => c1 ((zle_iff (by decide) nb_t).mpr e)))) (by rw [zsj2 _ hk]; decide) rfl ?_
    refine Ew.iastn f52_172 (by decide) (by rw [zsj2 _ hj]; rfl) (by rw [zsj2 _ hj]; exact (b14 (Nat.not_le.mp fun e => c1 ((zle_iff (by decide) nb_t).mpr e)))) (by rw [zsj2 _ hj]; decide) rfl ?_
    refine Ew.iinc (v := nI (t + 1)) (ls' := [some (zr (some (2, j, 0))), some (zr (some (2, k, 0))), some (zi (nI (t + 1)))]) f52_173 rfl (nI_1 _) rfl rfl ?_
    refine Ew.goto f52_176 rfl ?_
    exact h2 (Nat.not_le.mp fun e => c1 ((zle_iff (by decide) nb_t).mpr e))
theorem zu4s {α : Type} (f : Nat → Nat → Nat → Nat → α) (r j q i : Nat) (v : α) : zup4 f r j q i v r j q i = v := by rw [zup4_if, if_pos ⟨rfl, rfl, rfl, rfl⟩]
theorem zu4n {α : Type} (f : Nat → Nat → Nat → Nat → α) {r j q i : Nat} (v : α) {r' j' q' i' : Nat} (h : ¬ (r' = r ∧ j' = j ∧ q' = q ∧ i' = i)) : zup4 f r j q i v r' j' q' i' = f r' j' q' i' := by rw [zup4_if, if_neg h]
/-- all but one object is as it was -/
def cFr {α : Type} (r j : Nat) (f f' : Nat → Nat → Nat → Nat → α) : Prop := ∀ r' j' q n, ¬ (r' = r ∧ j' = j) → f' r' j' q n = f r' j' q n
theorem cFr.rfl {α : Type} {r j : Nat} {f : Nat → Nat → Nat → Nat → α} : cFr r j f f := fun _ _ _ _ _ => by trivial
theorem cFr.up {α : Type} {r j : Nat} {f f' : Nat → Nat → Nat → Nat → α} (h : cFr r j f f') (q n : Nat) (v : α) : cFr r j f (zup4 f' r j q n v) := fun r' j' q' n' g => by
  rw [zu4n _ _ (fun e => g ⟨e.1, e.2.1⟩)]
  exact h r' j' q' n' g
/-- a table has become another -/
def cBe (j k : Nat) (I I' : zI) (P P' : zP) : Prop := (cFr 2 j I I' ∧ cFr 2 j P P') ∧ (I' 2 j 0 2 = I 2 k 0 2 ∧ I' 2 j 0 3 = I 2 k 0 3 ∧ I' 2 j 0 4 = I 2 k 0 4 ∧ I' 2 j 0 5 = I 2 k 0 5) ∧ (∀ g, g < 6 → I' 2 j 3 g = I 2 k 3 g ∧ I' 2 j 4 g = I 2 k 4 g ∧ I' 2 j 5 g = I 2 k 5 g) ∧ ∀ t, t < 4 → (I' 2 j 6 t = I 2 k 6 t ∧ I' 2 j 7 t = I 2 k 7 t ∧ I' 2 j 8 t = I 2 k 8 t ∧ I' 2 j 9 t = I 2 k 9 t ∧ I' 2 j 10 t = I 2 k 10 t) ∧ P' 2 j 1 t = P 2 k 1 t ∧ P' 2 j 2 t = P 2 k 2 t
def cBeG (j k : Nat) (I I' : zI) (g : Nat) : Prop := cFr 2 j I I' ∧ (I' 2 j 0 2 = I 2 k 0 2 ∧ I' 2 j 0 3 = I 2 k 0 3 ∧ I' 2 j 0 4 = I 2 k 0 4 ∧ I' 2 j 0 5 = I 2 k 0 5) ∧ ∀ g', g' < g → I' 2 j 3 g' = I 2 k 3 g' ∧ I' 2 j 4 g' = I 2 k 4 g' ∧ I' 2 j 5 g' = I 2 k 5 g'
def cBeT (j k : Nat) (I I' : zI) (P P' : zP) (t : Nat) : Prop := cBeG j k I I' 6 ∧ cFr 2 j P P' ∧ ∀ t', t' < t → (I' 2 j 6 t' = I 2 k 6 t' ∧ I' 2 j 7 t' = I 2 k 7 t' ∧ I' 2 j 8 t' = I 2 k 8 t' ∧ I' 2 j 9 t' = I 2 k 9 t' ∧ I' 2 j 10 t' = I 2 k 10 t') ∧ P' 2 j 1 t' = P 2 k 1 t' ∧ P' 2 j 2 t' = P 2 k 2 t'
section
variable {d c s j k : Nat} {I I' : zI} {L : zL} {P P' : zP} {S : zS} {top : Nat} {Q : Option zV → zM → Prop}
theorem cBeG_next {g : Nat} (hne : ¬ k = j) (h : cBeG j k I I' g) : cBeG j k I (zup4 (zup4 (zup4 I' 2 j 3 g (I' 2 k 3 g)) 2 j 4 g (I' 2 k 4 g)) 2 j 5 g (I' 2 k 5 g)) (g + 1) := by
  obtain ⟨f, ⟨a, b, c, d⟩, hg⟩ := h
  have old : ∀ q n, ¬ ((q = 3 ∨ q = 4 ∨ q = 5) ∧ n = g) → (zup4 (zup4 (zup4 I' 2 j 3 g (I' 2 k 3 g)) 2 j 4 g (I' 2 k 4 g)) 2 j 5 g (I' 2 k 5 g)) 2 j q n = I' 2 j q n := by
    intro q n h
    rw [zu4n _ _ (by omega), zu4n _ _ (by omega), zu4n _ _ (by omega)]
  refine ⟨((f.up _ _ _).up _ _ _).up _ _ _, ?_, fun g' hg' => ?_⟩
  · rw [old _ _ (by omega), old _ _ (by omega), old _ _ (by omega), old _ _ (by omega)]
    exact ⟨a, b, c, d⟩
  · by_cases e : g' = g
    · subst e
      refine ⟨?_, ?_, ?_⟩
      · rw [zu4n _ _ (by omega), zu4n _ _ (by omega), zu4s]; exact f _ _ _ _ (by omega)
      · rw [zu4n _ _ (by omega), zu4s]; exact f _ _ _ _ (by omega)
      · rw [zu4s]; exact f _ _ _ _ (by omega)
    · rw [old _ _ (by omega), old _ _ (by omega), old _ _ (by omega)]
      exact hg g' (by omega)
theorem cBeT_next {t : Nat} {a n : Option zR} (hne : ¬ k = j) (h : cBeT j k I I' P P' t) (ha : P 2 k 1 t = a) (hn : P 2 k 2 t = n) : cBeT j k I (zup4 (zup4 (zup4 (zup4 (zup4 I' 2 j 6 t (I' 2 k 6 t)) 2 j 7 t (I' 2 k 7 t)) 2 j 8 t (I' 2 k 8 t)) 2 j 9 t (I' 2 k 9 t)) 2 j 10 t (I' 2 k 10 t)) P (zup4 (zup4 P' 2 j 1 t a) 2 j 2 t n) (t + 1) := by
  obtain ⟨⟨f, ⟨f2, f3, f4, f5⟩, hg⟩, fp, ht⟩ := h
  have old : ∀ q i, ¬ ((q = 6 ∨ q = 7 ∨ q = 8 ∨ q = 9 ∨ q = 10) ∧ i = t) → (zup4 (zup4 (zup4 (zup4 (zup4 I' 2 j 6 t (I' 2 k 6 t)) 2 j 7 t (I' 2 k 7 t)) 2 j 8 t (I' 2 k 8 t)) 2 j 9 t (I' 2 k 9 t)) 2 j 10 t (I' 2 k 10 t)) 2 j q i = I' 2 j q i := by
    intro q i h
    rw [zu4n _ _ (by omega), zu4n _ _ (by omega), zu4n _ _ (by omega), zu4n _ _ (by omega), zu4n _ _ (by omega)]
  refine ⟨⟨((((f.up _ _ _).up _ _ _).up _ _ _).up _ _ _).up _ _ _, ?_, fun g hg' => ?_⟩, (fp.up _ _ _).up _ _ _, fun t' ht' => ?_⟩
  · rw [old _ _ (by omega), old _ _ (by omega), old _ _ (by omega), old _ _ (by omega)]
    exact ⟨f2, f3, f4, f5⟩
  · rw [old _ _ (by omega), old _ _ (by omega), old _ _ (by omega)]
    exact hg g hg'
  · by_cases e : t' = t
    · subst e
      refine ⟨⟨?_, ?_, ?_, ?_, ?_⟩, ?_, ?_⟩
      · rw [zu4n _ _ (by omega), zu4n _ _ (by omega), zu4n _ _ (by omega), zu4n _ _ (by omega), zu4s]; exact f _ _ _ _ (by omega)
      · rw [zu4n _ _ (by omega), zu4n _ _ (by omega), zu4n _ _ (by omega), zu4s]; exact f _ _ _ _ (by omega)
      · rw [zu4n _ _ (by omega), zu4n _ _ (by omega), zu4s]; exact f _ _ _ _ (by omega)
      · rw [zu4n _ _ (by omega), zu4s]; exact f _ _ _ _ (by omega)
      · rw [zu4s]; exact f _ _ _ _ (by omega)
      · rw [zu4n _ _ (by omega), zu4s]; exact ha.symm
      · rw [zu4s]; exact hn.symm
    · rw [old _ _ (by omega), old _ _ (by omega), old _ _ (by omega), old _ _ (by omega), old _ _ (by omega), zu4n _ _ (by omega), zu4n _ _ (by omega), zu4n _ _ (by omega), zu4n _ _ (by omega)]
      exact ht t' (by omega)
end
