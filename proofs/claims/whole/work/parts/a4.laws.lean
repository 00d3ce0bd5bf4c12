/-! the law: its segments -/
theorem g250_18 {d c s : Nat} {i N : Nat} {I : zI} {L : zL} {P : zP} {S : zS} {top : Nat} {Q : Option zV → zM → Prop} (sN : S 9 0 0 = (20, N)) (hN : N ≤ 3072) 
    (h1 : (((nI N) - (nI 6)) < (nI i)) → Q (some (zi (nI 1))) (I, L, zpj P, zsj S, top))
    (b1 : ((nI i) ≤ ((nI N) - (nI 6))) → i < N)
    (h2 : ((nI i) ≤ ((nI N) - (nI 6))) → (((I 9 0 0 i) &&& (nI 31)) = nI 0) → Ev d c s 250 164 [some (zr (some (9, 0, 0))), some (zr (some (0, 0, 0))), some (zr (some (1, 0, 0))), some (zi (nI i))] [] (I, L, zpj P, zsj S, top) Q)
    (h3 : ((nI i) ≤ ((nI N) - (nI 6))) → (¬ ((I 9 0 0 i) &&& (nI 31)) = nI 0) → (((I 9 0 0 i) &&& (nI 31)) = nI 1) → Ev d c s 250 187 [some (zr (some (9, 0, 0))), some (zr (some (0, 0, 0))), some (zr (some (1, 0, 0))), some (zi (nI i))] [] (I, L, zpj P, zsj S, top) Q)
    (h4 : ((nI i) ≤ ((nI N) - (nI 6))) → (¬ ((I 9 0 0 i) &&& (nI 31)) = nI 0) → (¬ ((I 9 0 0 i) &&& (nI 31)) = nI 1) → (((I 9 0 0 i) &&& (nI 31)) = nI 2) → Ev d c s 250 210 [some (zr (some (9, 0, 0))), some (zr (some (0, 0, 0))), some (zr (some (1, 0, 0))), some (zi (nI i))] [] (I, L, zpj P, zsj S, top) Q)
    (h5 : ((nI i) ≤ ((nI N) - (nI 6))) → (¬ ((I 9 0 0 i) &&& (nI 31)) = nI 0) → (¬ ((I 9 0 0 i) &&& (nI 31)) = nI 1) → (¬ ((I 9 0 0 i) &&& (nI 31)) = nI 2) → (((I 9 0 0 i) &&& (nI 31)) = nI 3) → Ev d c s 250 233 [some (zr (some (9, 0, 0))), some (zr (some (0, 0, 0))), some (zr (some (1, 0, 0))), some (zi (nI i))] [] (I, L, zpj P, zsj S, top) Q)
    (h6 : ((nI i) ≤ ((nI N) - (nI 6))) → (¬ ((I 9 0 0 i) &&& (nI 31)) = nI 0) → (¬ ((I 9 0 0 i) &&& (nI 31)) = nI 1) → (¬ ((I 9 0 0 i) &&& (nI 31)) = nI 2) → (¬ ((I 9 0 0 i) &&& (nI 31)) = nI 3) → (((I 9 0 0 i) &&& (nI 31)) = nI 4) → Ev d c s 250 256 [some (zr (some (9, 0, 0))), some (zr (some (0, 0, 0))), some (zr (some (1, 0, 0))), some (zi (nI i))] [] (I, L, zpj P, zsj S, top) Q)
    (h7 : ((nI i) ≤ ((nI N) - (nI 6))) → (¬ ((I 9 0 0 i) &&& (nI 31)) = nI 0) → (¬ ((I 9 0 0 i) &&& (nI 31)) = nI 1) → (¬ ((I 9 0 0 i) &&& (nI 31)) = nI 2) → (¬ ((I 9 0 0 i) &&& (nI 31)) = nI 3) → (¬ ((I 9 0 0 i) &&& (nI 31)) = nI 4) → (((I 9 0 0 i) &&& (nI 31)) = nI 5) → Ev d c s 250 289 [some (zr (some (9, 0, 0))), some (zr (some (0, 0, 0))), some (zr (some (1, 0, 0))), some (zi (nI i))] [] (I, L, zpj P, zsj S, top) Q)
    (h8 : ((nI i) ≤ ((nI N) - (nI 6))) → (¬ ((I 9 0 0 i) &&& (nI 31)) = nI 0) → (¬ ((I 9 0 0 i) &&& (nI 31)) = nI 1) → (¬ ((I 9 0 0 i) &&& (nI 31)) = nI 2) → (¬ ((I 9 0 0 i) &&& (nI 31)) = nI 3) → (¬ ((I 9 0 0 i) &&& (nI 31)) = nI 4) → (¬ ((I 9 0 0 i) &&& (nI 31)) = nI 5) → (((I 9 0 0 i) &&& (nI 31)) = nI 6) → Ev d c s 250 332 [some (zr (some (9, 0, 0))), some (zr (some (0, 0, 0))), some (zr (some (1, 0, 0))), some (zi (nI i))] [] (I, L, zpj P, zsj S, top) Q)
    (h9 : ((nI i) ≤ ((nI N) - (nI 6))) → (¬ ((I 9 0 0 i) &&& (nI 31)) = nI 0) → (¬ ((I 9 0 0 i) &&& (nI 31)) = nI 1) → (¬ ((I 9 0 0 i) &&& (nI 31)) = nI 2) → (¬ ((I 9 0 0 i) &&& (nI 31)) = nI 3) → (¬ ((I 9 0 0 i) &&& (nI 31)) = nI 4) → (¬ ((I 9 0 0 i) &&& (nI 31)) = nI 5) → (¬ ((I 9 0 0 i) &&& (nI 31)) = nI 6) → (((I 9 0 0 i) &&& (nI 31)) = nI 7) → Ev d c s 250 355 [some (zr (some (9, 0, 0))), some (zr (some (0, 0, 0))), some (zr (some (1, 0, 0))), some (zi (nI i))] [] (I, L, zpj P, zsj S, top) Q)
    (h10 : ((nI i) ≤ ((nI N) - (nI 6))) → (¬ ((I 9 0 0 i) &&& (nI 31)) = nI 0) → (¬ ((I 9 0 0 i) &&& (nI 31)) = nI 1) → (¬ ((I 9 0 0 i) &&& (nI 31)) = nI 2) → (¬ ((I 9 0 0 i) &&& (nI 31)) = nI 3) → (¬ ((I 9 0 0 i) &&& (nI 31)) = nI 4) → (¬ ((I 9 0 0 i) &&& (nI 31)) = nI 5) → (¬ ((I 9 0 0 i) &&& (nI 31)) = nI 6) → (¬ ((I 9 0 0 i) &&& (nI 31)) = nI 7) → (((I 9 0 0 i) &&& (nI 31)) = nI 8) → Ev d c s 250 378 [some (zr (some (9, 0, 0))), some (zr (some (0, 0, 0))), some (zr (some (1, 0, 0))), some (zi (nI i))] [] (I, L, zpj P, zsj S, top) Q)
    (h11 : ((nI i) ≤ ((nI N) - (nI 6))) → (¬ ((I 9 0 0 i) &&& (nI 31)) = nI 0) → (¬ ((I 9 0 0 i) &&& (nI 31)) = nI 1) → (¬ ((I 9 0 0 i) &&& (nI 31)) = nI 2) → (¬ ((I 9 0 0 i) &&& (nI 31)) = nI 3) → (¬ ((I 9 0 0 i) &&& (nI 31)) = nI 4) → (¬ ((I 9 0 0 i) &&& (nI 31)) = nI 5) → (¬ ((I 9 0 0 i) &&& (nI 31)) = nI 6) → (¬ ((I 9 0 0 i) &&& (nI 31)) = nI 7) → (¬ ((I 9 0 0 i) &&& (nI 31)) = nI 8) → (((I 9 0 0 i) &&& (nI 31)) = nI 9) → Ev d c s 250 401 [some (zr (some (9, 0, 0))), some (zr (some (0, 0, 0))), some (zr (some (1, 0, 0))), some (zi (nI i))] [] (I, L, zpj P, zsj S, top) Q)
    (h12 : ((nI i) ≤ ((nI N) - (nI 6))) → (¬ ((I 9 0 0 i) &&& (nI 31)) = nI 0) → (¬ ((I 9 0 0 i) &&& (nI 31)) = nI 1) → (¬ ((I 9 0 0 i) &&& (nI 31)) = nI 2) → (¬ ((I 9 0 0 i) &&& (nI 31)) = nI 3) → (¬ ((I 9 0 0 i) &&& (nI 31)) = nI 4) → (¬ ((I 9 0 0 i) &&& (nI 31)) = nI 5) → (¬ ((I 9 0 0 i) &&& (nI 31)) = nI 6) → (¬ ((I 9 0 0 i) &&& (nI 31)) = nI 7) → (¬ ((I 9 0 0 i) &&& (nI 31)) = nI 8) → (¬ ((I 9 0 0 i) &&& (nI 31)) = nI 9) → (((I 9 0 0 i) &&& (nI 31)) = nI 10) → Ev d c s 250 414 [some (zr (some (9, 0, 0))), some (zr (some (0, 0, 0))), some (zr (some (1, 0, 0))), some (zi (nI i))] [] (I, L, zpj P, zsj S, top) Q)
    (h13 : ((nI i) ≤ ((nI N) - (nI 6))) → (¬ ((I 9 0 0 i) &&& (nI 31)) = nI 0) → (¬ ((I 9 0 0 i) &&& (nI 31)) = nI 1) → (¬ ((I 9 0 0 i) &&& (nI 31)) = nI 2) → (¬ ((I 9 0 0 i) &&& (nI 31)) = nI 3) → (¬ ((I 9 0 0 i) &&& (nI 31)) = nI 4) → (¬ ((I 9 0 0 i) &&& (nI 31)) = nI 5) → (¬ ((I 9 0 0 i) &&& (nI 31)) = nI 6) → (¬ ((I 9 0 0 i) &&& (nI 31)) = nI 7) → (¬ ((I 9 0 0 i) &&& (nI 31)) = nI 8) → (¬ ((I 9 0 0 i) &&& (nI 31)) = nI 9) → (¬ ((I 9 0 0 i) &&& (nI 31)) = nI 10) → (((I 9 0 0 i) &&& (nI 31)) = nI 11) → Ev d c s 250 447 [some (zr (some (9, 0, 0))), some (zr (some (0, 0, 0))), some (zr (some (1, 0, 0))), some (zi (nI i))] [] (I, L, zpj P, zsj S, top) Q)
    (h14 : ((nI i) ≤ ((nI N) - (nI 6))) → (¬ ((I 9 0 0 i) &&& (nI 31)) = nI 0) → (¬ ((I 9 0 0 i) &&& (nI 31)) = nI 1) → (¬ ((I 9 0 0 i) &&& (nI 31)) = nI 2) → (¬ ((I 9 0 0 i) &&& (nI 31)) = nI 3) → (¬ ((I 9 0 0 i) &&& (nI 31)) = nI 4) → (¬ ((I 9 0 0 i) &&& (nI 31)) = nI 5) → (¬ ((I 9 0 0 i) &&& (nI 31)) = nI 6) → (¬ ((I 9 0 0 i) &&& (nI 31)) = nI 7) → (¬ ((I 9 0 0 i) &&& (nI 31)) = nI 8) → (¬ ((I 9 0 0 i) &&& (nI 31)) = nI 9) → (¬ ((I 9 0 0 i) &&& (nI 31)) = nI 10) → (¬ ((I 9 0 0 i) &&& (nI 31)) = nI 11) → (((I 9 0 0 i) &&& (nI 31)) = nI 12) → Ev d c s 250 480 [some (zr (some (9, 0, 0))), some (zr (some (0, 0, 0))), some (zr (some (1, 0, 0))), some (zi (nI i))] [] (I, L, zpj P, zsj S, top) Q)
    (h15 : ((nI i) ≤ ((nI N) - (nI 6))) → (¬ ((I 9 0 0 i) &&& (nI 31)) = nI 0) → (¬ ((I 9 0 0 i) &&& (nI 31)) = nI 1) → (¬ ((I 9 0 0 i) &&& (nI 31)) = nI 2) → (¬ ((I 9 0 0 i) &&& (nI 31)) = nI 3) → (¬ ((I 9 0 0 i) &&& (nI 31)) = nI 4) → (¬ ((I 9 0 0 i) &&& (nI 31)) = nI 5) → (¬ ((I 9 0 0 i) &&& (nI 31)) = nI 6) → (¬ ((I 9 0 0 i) &&& (nI 31)) = nI 7) → (¬ ((I 9 0 0 i) &&& (nI 31)) = nI 8) → (¬ ((I 9 0 0 i) &&& (nI 31)) = nI 9) → (¬ ((I 9 0 0 i) &&& (nI 31)) = nI 10) → (¬ ((I 9 0 0 i) &&& (nI 31)) = nI 11) → (¬ ((I 9 0 0 i) &&& (nI 31)) = nI 12) → (((I 9 0 0 i) &&& (nI 31)) = nI 13) → Ev d c s 250 503 [some (zr (some (9, 0, 0))), some (zr (some (0, 0, 0))), some (zr (some (1, 0, 0))), some (zi (nI i))] [] (I, L, zpj P, zsj S, top) Q)
    (h16 : ((nI i) ≤ ((nI N) - (nI 6))) → (¬ ((I 9 0 0 i) &&& (nI 31)) = nI 0) → (¬ ((I 9 0 0 i) &&& (nI 31)) = nI 1) → (¬ ((I 9 0 0 i) &&& (nI 31)) = nI 2) → (¬ ((I 9 0 0 i) &&& (nI 31)) = nI 3) → (¬ ((I 9 0 0 i) &&& (nI 31)) = nI 4) → (¬ ((I 9 0 0 i) &&& (nI 31)) = nI 5) → (¬ ((I 9 0 0 i) &&& (nI 31)) = nI 6) → (¬ ((I 9 0 0 i) &&& (nI 31)) = nI 7) → (¬ ((I 9 0 0 i) &&& (nI 31)) = nI 8) → (¬ ((I 9 0 0 i) &&& (nI 31)) = nI 9) → (¬ ((I 9 0 0 i) &&& (nI 31)) = nI 10) → (¬ ((I 9 0 0 i) &&& (nI 31)) = nI 11) → (¬ ((I 9 0 0 i) &&& (nI 31)) = nI 12) → (¬ ((I 9 0 0 i) &&& (nI 31)) = nI 13) → (((I 9 0 0 i) &&& (nI 31)) = nI 14) → Ev d c s 250 536 [some (zr (some (9, 0, 0))), some (zr (some (0, 0, 0))), some (zr (some (1, 0, 0))), some (zi (nI i))] [] (I, L, zpj P, zsj S, top) Q)
    (h17 : ((nI i) ≤ ((nI N) - (nI 6))) → (¬ ((I 9 0 0 i) &&& (nI 31)) = nI 0) → (¬ ((I 9 0 0 i) &&& (nI 31)) = nI 1) → (¬ ((I 9 0 0 i) &&& (nI 31)) = nI 2) → (¬ ((I 9 0 0 i) &&& (nI 31)) = nI 3) → (¬ ((I 9 0 0 i) &&& (nI 31)) = nI 4) → (¬ ((I 9 0 0 i) &&& (nI 31)) = nI 5) → (¬ ((I 9 0 0 i) &&& (nI 31)) = nI 6) → (¬ ((I 9 0 0 i) &&& (nI 31)) = nI 7) → (¬ ((I 9 0 0 i) &&& (nI 31)) = nI 8) → (¬ ((I 9 0 0 i) &&& (nI 31)) = nI 9) → (¬ ((I 9 0 0 i) &&& (nI 31)) = nI 10) → (¬ ((I 9 0 0 i) &&& (nI 31)) = nI 11) → (¬ ((I 9 0 0 i) &&& (nI 31)) = nI 12) → (¬ ((I 9 0 0 i) &&& (nI 31)) = nI 13) → (¬ ((I 9 0 0 i) &&& (nI 31)) = nI 14) → (((I 9 0 0 i) &&& (nI 31)) = nI 15) → Ev d c s 250 559 [some (zr (some (9, 0, 0))), some (zr (some (0, 0, 0))), some (zr (some (1, 0, 0))), some (zi (nI i))] [] (I, L, zpj P, zsj S, top) Q)
    (h18 : ((nI i) ≤ ((nI N) - (nI 6))) → (¬ ((I 9 0 0 i) &&& (nI 31)) = nI 0) → (¬ ((I 9 0 0 i) &&& (nI 31)) = nI 1) → (¬ ((I 9 0 0 i) &&& (nI 31)) = nI 2) → (¬ ((I 9 0 0 i) &&& (nI 31)) = nI 3) → (¬ ((I 9 0 0 i) &&& (nI 31)) = nI 4) → (¬ ((I 9 0 0 i) &&& (nI 31)) = nI 5) → (¬ ((I 9 0 0 i) &&& (nI 31)) = nI 6) → (¬ ((I 9 0 0 i) &&& (nI 31)) = nI 7) → (¬ ((I 9 0 0 i) &&& (nI 31)) = nI 8) → (¬ ((I 9 0 0 i) &&& (nI 31)) = nI 9) → (¬ ((I 9 0 0 i) &&& (nI 31)) = nI 10) → (¬ ((I 9 0 0 i) &&& (nI 31)) = nI 11) → (¬ ((I 9 0 0 i) &&& (nI 31)) = nI 12) → (¬ ((I 9 0 0 i) &&& (nI 31)) = nI 13) → (¬ ((I 9 0 0 i) &&& (nI 31)) = nI 14) → (¬ ((I 9 0 0 i) &&& (nI 31)) = nI 15) → (((I 9 0 0 i) &&& (nI 31)) = nI 16) → Ev d c s 250 603 [some (zr (some (9, 0, 0))), some (zr (some (0, 0, 0))), some (zr (some (1, 0, 0))), some (zi (nI i))] [] (I, L, zpj P, zsj S, top) Q)
    (h19 : ((nI i) ≤ ((nI N) - (nI 6))) → (¬ ((I 9 0 0 i) &&& (nI 31)) = nI 0) → (¬ ((I 9 0 0 i) &&& (nI 31)) = nI 1) → (¬ ((I 9 0 0 i) &&& (nI 31)) = nI 2) → (¬ ((I 9 0 0 i) &&& (nI 31)) = nI 3) → (¬ ((I 9 0 0 i) &&& (nI 31)) = nI 4) → (¬ ((I 9 0 0 i) &&& (nI 31)) = nI 5) → (¬ ((I 9 0 0 i) &&& (nI 31)) = nI 6) → (¬ ((I 9 0 0 i) &&& (nI 31)) = nI 7) → (¬ ((I 9 0 0 i) &&& (nI 31)) = nI 8) → (¬ ((I 9 0 0 i) &&& (nI 31)) = nI 9) → (¬ ((I 9 0 0 i) &&& (nI 31)) = nI 10) → (¬ ((I 9 0 0 i) &&& (nI 31)) = nI 11) → (¬ ((I 9 0 0 i) &&& (nI 31)) = nI 12) → (¬ ((I 9 0 0 i) &&& (nI 31)) = nI 13) → (¬ ((I 9 0 0 i) &&& (nI 31)) = nI 14) → (¬ ((I 9 0 0 i) &&& (nI 31)) = nI 15) → (¬ ((I 9 0 0 i) &&& (nI 31)) = nI 16) → (((I 9 0 0 i) &&& (nI 31)) = nI 17) → Ev d c s 250 647 [some (zr (some (9, 0, 0))), some (zr (some (0, 0, 0))), some (zr (some (1, 0, 0))), some (zi (nI i))] [] (I, L, zpj P, zsj S, top) Q)
    (h20 : ((nI i) ≤ ((nI N) - (nI 6))) → (¬ ((I 9 0 0 i) &&& (nI 31)) = nI 0) → (¬ ((I 9 0 0 i) &&& (nI 31)) = nI 1) → (¬ ((I 9 0 0 i) &&& (nI 31)) = nI 2) → (¬ ((I 9 0 0 i) &&& (nI 31)) = nI 3) → (¬ ((I 9 0 0 i) &&& (nI 31)) = nI 4) → (¬ ((I 9 0 0 i) &&& (nI 31)) = nI 5) → (¬ ((I 9 0 0 i) &&& (nI 31)) = nI 6) → (¬ ((I 9 0 0 i) &&& (nI 31)) = nI 7) → (¬ ((I 9 0 0 i) &&& (nI 31)) = nI 8) → (¬ ((I 9 0 0 i) &&& (nI 31)) = nI 9) → (¬ ((I 9 0 0 i) &&& (nI 31)) = nI 10) → (¬ ((I 9 0 0 i) &&& (nI 31)) = nI 11) → (¬ ((I 9 0 0 i) &&& (nI 31)) = nI 12) → (¬ ((I 9 0 0 i) &&& (nI 31)) = nI 13) → (¬ ((I 9 0 0 i) &&& (nI 31)) = nI 14) → (¬ ((I 9 0 0 i) &&& (nI 31)) = nI 15) → (¬ ((I 9 0 0 i) &&& (nI 31)) = nI 16) → (¬ ((I 9 0 0 i) &&& (nI 31)) = nI 17) → (((I 9 0 0 i) &&& (nI 31)) = nI 18) → Ev d c s 250 680 [some (zr (some (9, 0, 0))), some (zr (some (0, 0, 0))), some (zr (some (1, 0, 0))), some (zi (nI i))] [] (I, L, zpj P, zsj S, top) Q)
    (h21 : ((nI i) ≤ ((nI N) - (nI 6))) → (¬ ((I 9 0 0 i) &&& (nI 31)) = nI 0) → (¬ ((I 9 0 0 i) &&& (nI 31)) = nI 1) → (¬ ((I 9 0 0 i) &&& (nI 31)) = nI 2) → (¬ ((I 9 0 0 i) &&& (nI 31)) = nI 3) → (¬ ((I 9 0 0 i) &&& (nI 31)) = nI 4) → (¬ ((I 9 0 0 i) &&& (nI 31)) = nI 5) → (¬ ((I 9 0 0 i) &&& (nI 31)) = nI 6) → (¬ ((I 9 0 0 i) &&& (nI 31)) = nI 7) → (¬ ((I 9 0 0 i) &&& (nI 31)) = nI 8) → (¬ ((I 9 0 0 i) &&& (nI 31)) = nI 9) → (¬ ((I 9 0 0 i) &&& (nI 31)) = nI 10) → (¬ ((I 9 0 0 i) &&& (nI 31)) = nI 11) → (¬ ((I 9 0 0 i) &&& (nI 31)) = nI 12) → (¬ ((I 9 0 0 i) &&& (nI 31)) = nI 13) → (¬ ((I 9 0 0 i) &&& (nI 31)) = nI 14) → (¬ ((I 9 0 0 i) &&& (nI 31)) = nI 15) → (¬ ((I 9 0 0 i) &&& (nI 31)) = nI 16) → (¬ ((I 9 0 0 i) &&& (nI 31)) = nI 17) → (¬ ((I 9 0 0 i) &&& (nI 31)) = nI 18) → (((I 9 0 0 i) &&& (nI 31)) = nI 19) → Ev d c s 250 703 [some (zr (some (9, 0, 0))), some (zr (some (0, 0, 0))), some (zr (some (1, 0, 0))), some (zi (nI i))] [] (I, L, zpj P, zsj S, top) Q)
    (h22 : ((nI i) ≤ ((nI N) - (nI 6))) → (¬ ((I 9 0 0 i) &&& (nI 31)) = nI 0) → (¬ ((I 9 0 0 i) &&& (nI 31)) = nI 1) → (¬ ((I 9 0 0 i) &&& (nI 31)) = nI 2) → (¬ ((I 9 0 0 i) &&& (nI 31)) = nI 3) → (¬ ((I 9 0 0 i) &&& (nI 31)) = nI 4) → (¬ ((I 9 0 0 i) &&& (nI 31)) = nI 5) → (¬ ((I 9 0 0 i) &&& (nI 31)) = nI 6) → (¬ ((I 9 0 0 i) &&& (nI 31)) = nI 7) → (¬ ((I 9 0 0 i) &&& (nI 31)) = nI 8) → (¬ ((I 9 0 0 i) &&& (nI 31)) = nI 9) → (¬ ((I 9 0 0 i) &&& (nI 31)) = nI 10) → (¬ ((I 9 0 0 i) &&& (nI 31)) = nI 11) → (¬ ((I 9 0 0 i) &&& (nI 31)) = nI 12) → (¬ ((I 9 0 0 i) &&& (nI 31)) = nI 13) → (¬ ((I 9 0 0 i) &&& (nI 31)) = nI 14) → (¬ ((I 9 0 0 i) &&& (nI 31)) = nI 15) → (¬ ((I 9 0 0 i) &&& (nI 31)) = nI 16) → (¬ ((I 9 0 0 i) &&& (nI 31)) = nI 17) → (¬ ((I 9 0 0 i) &&& (nI 31)) = nI 18) → (¬ ((I 9 0 0 i) &&& (nI 31)) = nI 19) → (((I 9 0 0 i) &&& (nI 31)) = nI 20) → Ev d c s 250 716 [some (zr (some (9, 0, 0))), some (zr (some (0, 0, 0))), some (zr (some (1, 0, 0))), some (zi (nI i))] [] (I, L, zpj P, zsj S, top) Q)
    (h23 : ((nI i) ≤ ((nI N) - (nI 6))) → (¬ ((I 9 0 0 i) &&& (nI 31)) = nI 0) → (¬ ((I 9 0 0 i) &&& (nI 31)) = nI 1) → (¬ ((I 9 0 0 i) &&& (nI 31)) = nI 2) → (¬ ((I 9 0 0 i) &&& (nI 31)) = nI 3) → (¬ ((I 9 0 0 i) &&& (nI 31)) = nI 4) → (¬ ((I 9 0 0 i) &&& (nI 31)) = nI 5) → (¬ ((I 9 0 0 i) &&& (nI 31)) = nI 6) → (¬ ((I 9 0 0 i) &&& (nI 31)) = nI 7) → (¬ ((I 9 0 0 i) &&& (nI 31)) = nI 8) → (¬ ((I 9 0 0 i) &&& (nI 31)) = nI 9) → (¬ ((I 9 0 0 i) &&& (nI 31)) = nI 10) → (¬ ((I 9 0 0 i) &&& (nI 31)) = nI 11) → (¬ ((I 9 0 0 i) &&& (nI 31)) = nI 12) → (¬ ((I 9 0 0 i) &&& (nI 31)) = nI 13) → (¬ ((I 9 0 0 i) &&& (nI 31)) = nI 14) → (¬ ((I 9 0 0 i) &&& (nI 31)) = nI 15) → (¬ ((I 9 0 0 i) &&& (nI 31)) = nI 16) → (¬ ((I 9 0 0 i) &&& (nI 31)) = nI 17) → (¬ ((I 9 0 0 i) &&& (nI 31)) = nI 18) → (¬ ((I 9 0 0 i) &&& (nI 31)) = nI 19) → (¬ ((I 9 0 0 i) &&& (nI 31)) = nI 20) → (((I 9 0 0 i) &&& (nI 31)) = nI 21) → Ev d c s 250 739 [some (zr (some (9, 0, 0))), some (zr (some (0, 0, 0))), some (zr (some (1, 0, 0))), some (zi (nI i))] [] (I, L, zpj P, zsj S, top) Q)
    (h24 : ((nI i) ≤ ((nI N) - (nI 6))) → (¬ ((I 9 0 0 i) &&& (nI 31)) = nI 0) → (¬ ((I 9 0 0 i) &&& (nI 31)) = nI 1) → (¬ ((I 9 0 0 i) &&& (nI 31)) = nI 2) → (¬ ((I 9 0 0 i) &&& (nI 31)) = nI 3) → (¬ ((I 9 0 0 i) &&& (nI 31)) = nI 4) → (¬ ((I 9 0 0 i) &&& (nI 31)) = nI 5) → (¬ ((I 9 0 0 i) &&& (nI 31)) = nI 6) → (¬ ((I 9 0 0 i) &&& (nI 31)) = nI 7) → (¬ ((I 9 0 0 i) &&& (nI 31)) = nI 8) → (¬ ((I 9 0 0 i) &&& (nI 31)) = nI 9) → (¬ ((I 9 0 0 i) &&& (nI 31)) = nI 10) → (¬ ((I 9 0 0 i) &&& (nI 31)) = nI 11) → (¬ ((I 9 0 0 i) &&& (nI 31)) = nI 12) → (¬ ((I 9 0 0 i) &&& (nI 31)) = nI 13) → (¬ ((I 9 0 0 i) &&& (nI 31)) = nI 14) → (¬ ((I 9 0 0 i) &&& (nI 31)) = nI 15) → (¬ ((I 9 0 0 i) &&& (nI 31)) = nI 16) → (¬ ((I 9 0 0 i) &&& (nI 31)) = nI 17) → (¬ ((I 9 0 0 i) &&& (nI 31)) = nI 18) → (¬ ((I 9 0 0 i) &&& (nI 31)) = nI 19) → (¬ ((I 9 0 0 i) &&& (nI 31)) = nI 20) → (¬ ((I 9 0 0 i) &&& (nI 31)) = nI 21) → (((I 9 0 0 i) &&& (nI 31)) = nI 22) → Ev d c s 250 752 [some (zr (some (9, 0, 0))), some (zr (some (0, 0, 0))), some (zr (some (1, 0, 0))), some (zi (nI i))] [] (I, L, zpj P, zsj S, top) Q)
    (h25 : ((nI i) ≤ ((nI N) - (nI 6))) → (¬ ((I 9 0 0 i) &&& (nI 31)) = nI 0) → (¬ ((I 9 0 0 i) &&& (nI 31)) = nI 1) → (¬ ((I 9 0 0 i) &&& (nI 31)) = nI 2) → (¬ ((I 9 0 0 i) &&& (nI 31)) = nI 3) → (¬ ((I 9 0 0 i) &&& (nI 31)) = nI 4) → (¬ ((I 9 0 0 i) &&& (nI 31)) = nI 5) → (¬ ((I 9 0 0 i) &&& (nI 31)) = nI 6) → (¬ ((I 9 0 0 i) &&& (nI 31)) = nI 7) → (¬ ((I 9 0 0 i) &&& (nI 31)) = nI 8) → (¬ ((I 9 0 0 i) &&& (nI 31)) = nI 9) → (¬ ((I 9 0 0 i) &&& (nI 31)) = nI 10) → (¬ ((I 9 0 0 i) &&& (nI 31)) = nI 11) → (¬ ((I 9 0 0 i) &&& (nI 31)) = nI 12) → (¬ ((I 9 0 0 i) &&& (nI 31)) = nI 13) → (¬ ((I 9 0 0 i) &&& (nI 31)) = nI 14) → (¬ ((I 9 0 0 i) &&& (nI 31)) = nI 15) → (¬ ((I 9 0 0 i) &&& (nI 31)) = nI 16) → (¬ ((I 9 0 0 i) &&& (nI 31)) = nI 17) → (¬ ((I 9 0 0 i) &&& (nI 31)) = nI 18) → (¬ ((I 9 0 0 i) &&& (nI 31)) = nI 19) → (¬ ((I 9 0 0 i) &&& (nI 31)) = nI 20) → (¬ ((I 9 0 0 i) &&& (nI 31)) = nI 21) → (¬ ((I 9 0 0 i) &&& (nI 31)) = nI 22) → (((I 9 0 0 i) &&& (nI 31)) = nI 23) → Ev d c s 250 765 [some (zr (some (9, 0, 0))), some (zr (some (0, 0, 0))), some (zr (some (1, 0, 0))), some (zi (nI i))] [] (I, L, zpj P, zsj S, top) Q)
    (h26 : ((nI i) ≤ ((nI N) - (nI 6))) → (¬ ((I 9 0 0 i) &&& (nI 31)) = nI 0) → (¬ ((I 9 0 0 i) &&& (nI 31)) = nI 1) → (¬ ((I 9 0 0 i) &&& (nI 31)) = nI 2) → (¬ ((I 9 0 0 i) &&& (nI 31)) = nI 3) → (¬ ((I 9 0 0 i) &&& (nI 31)) = nI 4) → (¬ ((I 9 0 0 i) &&& (nI 31)) = nI 5) → (¬ ((I 9 0 0 i) &&& (nI 31)) = nI 6) → (¬ ((I 9 0 0 i) &&& (nI 31)) = nI 7) → (¬ ((I 9 0 0 i) &&& (nI 31)) = nI 8) → (¬ ((I 9 0 0 i) &&& (nI 31)) = nI 9) → (¬ ((I 9 0 0 i) &&& (nI 31)) = nI 10) → (¬ ((I 9 0 0 i) &&& (nI 31)) = nI 11) → (¬ ((I 9 0 0 i) &&& (nI 31)) = nI 12) → (¬ ((I 9 0 0 i) &&& (nI 31)) = nI 13) → (¬ ((I 9 0 0 i) &&& (nI 31)) = nI 14) → (¬ ((I 9 0 0 i) &&& (nI 31)) = nI 15) → (¬ ((I 9 0 0 i) &&& (nI 31)) = nI 16) → (¬ ((I 9 0 0 i) &&& (nI 31)) = nI 17) → (¬ ((I 9 0 0 i) &&& (nI 31)) = nI 18) → (¬ ((I 9 0 0 i) &&& (nI 31)) = nI 19) → (¬ ((I 9 0 0 i) &&& (nI 31)) = nI 20) → (¬ ((I 9 0 0 i) &&& (nI 31)) = nI 21) → (¬ ((I 9 0 0 i) &&& (nI 31)) = nI 22) → (¬ ((I 9 0 0 i) &&& (nI 31)) = nI 23) → (((I 9 0 0 i) &&& (nI 31)) = nI 24) → Ev d c s 250 818 [some (zr (some (9, 0, 0))), some (zr (some (0, 0, 0))), some (zr (some (1, 0, 0))), some (zi (nI i))] [] (I, L, zpj P, zsj S, top) Q)
    (h27 : ((nI i) ≤ ((nI N) - (nI 6))) → (¬ ((I 9 0 0 i) &&& (nI 31)) = nI 0) → (¬ ((I 9 0 0 i) &&& (nI 31)) = nI 1) → (¬ ((I 9 0 0 i) &&& (nI 31)) = nI 2) → (¬ ((I 9 0 0 i) &&& (nI 31)) = nI 3) → (¬ ((I 9 0 0 i) &&& (nI 31)) = nI 4) → (¬ ((I 9 0 0 i) &&& (nI 31)) = nI 5) → (¬ ((I 9 0 0 i) &&& (nI 31)) = nI 6) → (¬ ((I 9 0 0 i) &&& (nI 31)) = nI 7) → (¬ ((I 9 0 0 i) &&& (nI 31)) = nI 8) → (¬ ((I 9 0 0 i) &&& (nI 31)) = nI 9) → (¬ ((I 9 0 0 i) &&& (nI 31)) = nI 10) → (¬ ((I 9 0 0 i) &&& (nI 31)) = nI 11) → (¬ ((I 9 0 0 i) &&& (nI 31)) = nI 12) → (¬ ((I 9 0 0 i) &&& (nI 31)) = nI 13) → (¬ ((I 9 0 0 i) &&& (nI 31)) = nI 14) → (¬ ((I 9 0 0 i) &&& (nI 31)) = nI 15) → (¬ ((I 9 0 0 i) &&& (nI 31)) = nI 16) → (¬ ((I 9 0 0 i) &&& (nI 31)) = nI 17) → (¬ ((I 9 0 0 i) &&& (nI 31)) = nI 18) → (¬ ((I 9 0 0 i) &&& (nI 31)) = nI 19) → (¬ ((I 9 0 0 i) &&& (nI 31)) = nI 20) → (¬ ((I 9 0 0 i) &&& (nI 31)) = nI 21) → (¬ ((I 9 0 0 i) &&& (nI 31)) = nI 22) → (¬ ((I 9 0 0 i) &&& (nI 31)) = nI 23) → (¬ ((I 9 0 0 i) &&& (nI 31)) = nI 24) → (((I 9 0 0 i) &&& (nI 31)) = nI 25) → Ev d c s 250 861 [some (zr (some (9, 0, 0))), some (zr (some (0, 0, 0))), some (zr (some (1, 0, 0))), some (zi (nI i))] [] (I, L, zpj P, zsj S, top) Q)
    (h28 : ((nI i) ≤ ((nI N) - (nI 6))) → (¬ ((I 9 0 0 i) &&& (nI 31)) = nI 0) → (¬ ((I 9 0 0 i) &&& (nI 31)) = nI 1) → (¬ ((I 9 0 0 i) &&& (nI 31)) = nI 2) → (¬ ((I 9 0 0 i) &&& (nI 31)) = nI 3) → (¬ ((I 9 0 0 i) &&& (nI 31)) = nI 4) → (¬ ((I 9 0 0 i) &&& (nI 31)) = nI 5) → (¬ ((I 9 0 0 i) &&& (nI 31)) = nI 6) → (¬ ((I 9 0 0 i) &&& (nI 31)) = nI 7) → (¬ ((I 9 0 0 i) &&& (nI 31)) = nI 8) → (¬ ((I 9 0 0 i) &&& (nI 31)) = nI 9) → (¬ ((I 9 0 0 i) &&& (nI 31)) = nI 10) → (¬ ((I 9 0 0 i) &&& (nI 31)) = nI 11) → (¬ ((I 9 0 0 i) &&& (nI 31)) = nI 12) → (¬ ((I 9 0 0 i) &&& (nI 31)) = nI 13) → (¬ ((I 9 0 0 i) &&& (nI 31)) = nI 14) → (¬ ((I 9 0 0 i) &&& (nI 31)) = nI 15) → (¬ ((I 9 0 0 i) &&& (nI 31)) = nI 16) → (¬ ((I 9 0 0 i) &&& (nI 31)) = nI 17) → (¬ ((I 9 0 0 i) &&& (nI 31)) = nI 18) → (¬ ((I 9 0 0 i) &&& (nI 31)) = nI 19) → (¬ ((I 9 0 0 i) &&& (nI 31)) = nI 20) → (¬ ((I 9 0 0 i) &&& (nI 31)) = nI 21) → (¬ ((I 9 0 0 i) &&& (nI 31)) = nI 22) → (¬ ((I 9 0 0 i) &&& (nI 31)) = nI 23) → (¬ ((I 9 0 0 i) &&& (nI 31)) = nI 24) → (¬ ((I 9 0 0 i) &&& (nI 31)) = nI 25) → (((I 9 0 0 i) &&& (nI 31)) = nI 26) → Ev d c s 250 904 [some (zr (some (9, 0, 0))), some (zr (some (0, 0, 0))), some (zr (some (1, 0, 0))), some (zi (nI i))] [] (I, L, zpj P, zsj S, top) Q)
    (h29 : ((nI i) ≤ ((nI N) - (nI 6))) → (¬ ((I 9 0 0 i) &&& (nI 31)) = nI 0) → (¬ ((I 9 0 0 i) &&& (nI 31)) = nI 1) → (¬ ((I 9 0 0 i) &&& (nI 31)) = nI 2) → (¬ ((I 9 0 0 i) &&& (nI 31)) = nI 3) → (¬ ((I 9 0 0 i) &&& (nI 31)) = nI 4) → (¬ ((I 9 0 0 i) &&& (nI 31)) = nI 5) → (¬ ((I 9 0 0 i) &&& (nI 31)) = nI 6) → (¬ ((I 9 0 0 i) &&& (nI 31)) = nI 7) → (¬ ((I 9 0 0 i) &&& (nI 31)) = nI 8) → (¬ ((I 9 0 0 i) &&& (nI 31)) = nI 9) → (¬ ((I 9 0 0 i) &&& (nI 31)) = nI 10) → (¬ ((I 9 0 0 i) &&& (nI 31)) = nI 11) → (¬ ((I 9 0 0 i) &&& (nI 31)) = nI 12) → (¬ ((I 9 0 0 i) &&& (nI 31)) = nI 13) → (¬ ((I 9 0 0 i) &&& (nI 31)) = nI 14) → (¬ ((I 9 0 0 i) &&& (nI 31)) = nI 15) → (¬ ((I 9 0 0 i) &&& (nI 31)) = nI 16) → (¬ ((I 9 0 0 i) &&& (nI 31)) = nI 17) → (¬ ((I 9 0 0 i) &&& (nI 31)) = nI 18) → (¬ ((I 9 0 0 i) &&& (nI 31)) = nI 19) → (¬ ((I 9 0 0 i) &&& (nI 31)) = nI 20) → (¬ ((I 9 0 0 i) &&& (nI 31)) = nI 21) → (¬ ((I 9 0 0 i) &&& (nI 31)) = nI 22) → (¬ ((I 9 0 0 i) &&& (nI 31)) = nI 23) → (¬ ((I 9 0 0 i) &&& (nI 31)) = nI 24) → (¬ ((I 9 0 0 i) &&& (nI 31)) = nI 25) → (¬ ((I 9 0 0 i) &&& (nI 31)) = nI 26) → (((I 9 0 0 i) &&& (nI 31)) = nI 27) → Ev d c s 250 927 [some (zr (some (9, 0, 0))), some (zr (some (0, 0, 0))), some (zr (some (1, 0, 0))), some (zi (nI i))] [] (I, L, zpj P, zsj S, top) Q)
    (h30 : ((nI i) ≤ ((nI N) - (nI 6))) → (¬ ((I 9 0 0 i) &&& (nI 31)) = nI 0) → (¬ ((I 9 0 0 i) &&& (nI 31)) = nI 1) → (¬ ((I 9 0 0 i) &&& (nI 31)) = nI 2) → (¬ ((I 9 0 0 i) &&& (nI 31)) = nI 3) → (¬ ((I 9 0 0 i) &&& (nI 31)) = nI 4) → (¬ ((I 9 0 0 i) &&& (nI 31)) = nI 5) → (¬ ((I 9 0 0 i) &&& (nI 31)) = nI 6) → (¬ ((I 9 0 0 i) &&& (nI 31)) = nI 7) → (¬ ((I 9 0 0 i) &&& (nI 31)) = nI 8) → (¬ ((I 9 0 0 i) &&& (nI 31)) = nI 9) → (¬ ((I 9 0 0 i) &&& (nI 31)) = nI 10) → (¬ ((I 9 0 0 i) &&& (nI 31)) = nI 11) → (¬ ((I 9 0 0 i) &&& (nI 31)) = nI 12) → (¬ ((I 9 0 0 i) &&& (nI 31)) = nI 13) → (¬ ((I 9 0 0 i) &&& (nI 31)) = nI 14) → (¬ ((I 9 0 0 i) &&& (nI 31)) = nI 15) → (¬ ((I 9 0 0 i) &&& (nI 31)) = nI 16) → (¬ ((I 9 0 0 i) &&& (nI 31)) = nI 17) → (¬ ((I 9 0 0 i) &&& (nI 31)) = nI 18) → (¬ ((I 9 0 0 i) &&& (nI 31)) = nI 19) → (¬ ((I 9 0 0 i) &&& (nI 31)) = nI 20) → (¬ ((I 9 0 0 i) &&& (nI 31)) = nI 21) → (¬ ((I 9 0 0 i) &&& (nI 31)) = nI 22) → (¬ ((I 9 0 0 i) &&& (nI 31)) = nI 23) → (¬ ((I 9 0 0 i) &&& (nI 31)) = nI 24) → (¬ ((I 9 0 0 i) &&& (nI 31)) = nI 25) → (¬ ((I 9 0 0 i) &&& (nI 31)) = nI 26) → (¬ ((I 9 0 0 i) &&& (nI 31)) = nI 27) → (((I 9 0 0 i) &&& (nI 31)) = nI 28) → Ev d c s 250 1010 [some (zr (some (9, 0, 0))), some (zr (some (0, 0, 0))), some (zr (some (1, 0, 0))), some (zi (nI i))] [] (I, L, zpj P, zsj S, top) Q)
    (h31 : ((nI i) ≤ ((nI N) - (nI 6))) → (¬ ((I 9 0 0 i) &&& (nI 31)) = nI 0) → (¬ ((I 9 0 0 i) &&& (nI 31)) = nI 1) → (¬ ((I 9 0 0 i) &&& (nI 31)) = nI 2) → (¬ ((I 9 0 0 i) &&& (nI 31)) = nI 3) → (¬ ((I 9 0 0 i) &&& (nI 31)) = nI 4) → (¬ ((I 9 0 0 i) &&& (nI 31)) = nI 5) → (¬ ((I 9 0 0 i) &&& (nI 31)) = nI 6) → (¬ ((I 9 0 0 i) &&& (nI 31)) = nI 7) → (¬ ((I 9 0 0 i) &&& (nI 31)) = nI 8) → (¬ ((I 9 0 0 i) &&& (nI 31)) = nI 9) → (¬ ((I 9 0 0 i) &&& (nI 31)) = nI 10) → (¬ ((I 9 0 0 i) &&& (nI 31)) = nI 11) → (¬ ((I 9 0 0 i) &&& (nI 31)) = nI 12) → (¬ ((I 9 0 0 i) &&& (nI 31)) = nI 13) → (¬ ((I 9 0 0 i) &&& (nI 31)) = nI 14) → (¬ ((I 9 0 0 i) &&& (nI 31)) = nI 15) → (¬ ((I 9 0 0 i) &&& (nI 31)) = nI 16) → (¬ ((I 9 0 0 i) &&& (nI 31)) = nI 17) → (¬ ((I 9 0 0 i) &&& (nI 31)) = nI 18) → (¬ ((I 9 0 0 i) &&& (nI 31)) = nI 19) → (¬ ((I 9 0 0 i) &&& (nI 31)) = nI 20) → (¬ ((I 9 0 0 i) &&& (nI 31)) = nI 21) → (¬ ((I 9 0 0 i) &&& (nI 31)) = nI 22) → (¬ ((I 9 0 0 i) &&& (nI 31)) = nI 23) → (¬ ((I 9 0 0 i) &&& (nI 31)) = nI 24) → (¬ ((I 9 0 0 i) &&& (nI 31)) = nI 25) → (¬ ((I 9 0 0 i) &&& (nI 31)) = nI 26) → (¬ ((I 9 0 0 i) &&& (nI 31)) = nI 27) → (¬ ((I 9 0 0 i) &&& (nI 31)) = nI 28) → Ev d c s 250 1073 [some (zr (some (9, 0, 0))), some (zr (some (0, 0, 0))), some (zr (some (1, 0, 0))), some (zi (nI i))] [] (I, L, zpj P, zsj S, top) Q) : Ev d c s 250 18 [some (zr (some (9, 0, 0))), some (zr (some (0, 0, 0))), some (zr (some (1, 0, 0))), some (zi (nI i))] [] (I, L, zpj P, zsj S, top) Q := by
  refine Ew.ld f250_18 rfl rfl rfl rfl ?_
  refine Ew.ld f250_19 rfl rfl rfl rfl ?_
  refine Ew.alen (n := N) f250_20 (by show _ < (S 9 0 0).1; rw [sN]; exact Nat.le_of_ble_eq_true rfl) (by show (S 9 0 0).2 = _; rw [sN]) rfl ?_
  refine Ew.op (st' := zi (nI 6) :: _) f250_21 rfl rfl ?_
  refine Ew.op (st' := zi ((nI N) - (nI 6)) :: _) f250_23 rfl rfl ?_
  refine Ew.icmp f250_24 rfl rfl (fun c1 => ?_) (fun c1 => ?_)
  · refine Ew.op (st' := zi (nI 1) :: _) f250_1079 rfl rfl ?_
    refine Ew.iretb f250_1080 (Or.inr rfl) ?_
    exact h1 c1
  · refine Ew.ld f250_27 rfl rfl rfl rfl ?_
    refine Ew.ld f250_28 rfl rfl rfl rfl ?_
    refine Ew.ialdn f250_29 (by show (S 9 0 0).1 = _; rw [sN]) (by show _ < (S 9 0 0).2; rw [sN]; exact (b1 (Int32.not_lt.mp c1))) (by show (S 9 0 0).2 < 5000; rw [sN]; omega) rfl ?_
    refine Ew.op (st' := zi (nI 31) :: _) f250_30 rfl rfl ?_
    refine Ew.op (st' := zi ((I 9 0 0 i) &&& (nI 31)) :: _) f250_32 rfl rfl ?_
    by_cases c2 : ((I 9 0 0 i) &&& (nI 31)) = nI 0
    · refine Ew.tsw (pc' := 164) (x := ((I 9 0 0 i) &&& (nI 31))) f250_33 (by rw [c2] <;> rfl) ?_
      exact h2 (Int32.not_lt.mp c1) c2
    by_cases c3 : ((I 9 0 0 i) &&& (nI 31)) = nI 1
    · refine Ew.tsw (pc' := 187) (x := ((I 9 0 0 i) &&& (nI 31))) f250_33 (by rw [c3] <;> rfl) ?_
      exact h3 (Int32.not_lt.mp c1) c2 c3
    by_cases c4 : ((I 9 0 0 i) &&& (nI 31)) = nI 2
    · refine Ew.tsw (pc' := 210) (x := ((I 9 0 0 i) &&& (nI 31))) f250_33 (by rw [c4] <;> rfl) ?_
      exact h4 (Int32.not_lt.mp c1) c2 c3 c4
    by_cases c5 : ((I 9 0 0 i) &&& (nI 31)) = nI 3
    · refine Ew.tsw (pc' := 233) (x := ((I 9 0 0 i) &&& (nI 31))) f250_33 (by rw [c5] <;> rfl) ?_
      exact h5 (Int32.not_lt.mp c1) c2 c3 c4 c5
    by_cases c6 : ((I 9 0 0 i) &&& (nI 31)) = nI 4
    · refine Ew.tsw (pc' := 256) (x := ((I 9 0 0 i) &&& (nI 31))) f250_33 (by rw [c6] <;> rfl) ?_
      exact h6 (Int32.not_lt.mp c1) c2 c3 c4 c5 c6
    by_cases c7 : ((I 9 0 0 i) &&& (nI 31)) = nI 5
    · refine Ew.tsw (pc' := 289) (x := ((I 9 0 0 i) &&& (nI 31))) f250_33 (by rw [c7] <;> rfl) ?_
      exact h7 (Int32.not_lt.mp c1) c2 c3 c4 c5 c6 c7
    by_cases c8 : ((I 9 0 0 i) &&& (nI 31)) = nI 6
    · refine Ew.tsw (pc' := 332) (x := ((I 9 0 0 i) &&& (nI 31))) f250_33 (by rw [c8] <;> rfl) ?_
      exact h8 (Int32.not_lt.mp c1) c2 c3 c4 c5 c6 c7 c8
    by_cases c9 : ((I 9 0 0 i) &&& (nI 31)) = nI 7
    · refine Ew.tsw (pc' := 355) (x := ((I 9 0 0 i) &&& (nI 31))) f250_33 (by rw [c9] <;> rfl) ?_
      exact h9 (Int32.not_lt.mp c1) c2 c3 c4 c5 c6 c7 c8 c9
    by_cases c10 : ((I 9 0 0 i) &&& (nI 31)) = nI 8
    · refine Ew.tsw (pc' := 378) (x := ((I 9 0 0 i) &&& (nI 31))) f250_33 (by rw [c10] <;> rfl) ?_
      exact h10 (Int32.not_lt.mp c1) c2 c3 c4 c5 c6 c7 c8 c9 c10
    by_cases c11 : ((I 9 0 0 i) &&& (nI 31)) = nI 9
    · refine Ew.tsw (pc' := 401) (x := ((I 9 0 0 i) &&& (nI 31))) f250_33 (by rw [c11] <;> rfl) ?_
      exact h11 (Int32.not_lt.mp c1) c2 c3 c4 c5 c6 c7 c8 c9 c10 c11
    by_cases c12 : ((I 9 0 0 i) &&& (nI 31)) = nI 10
    · refine Ew.tsw (pc' := 414) (x := ((I 9 0 0 i) &&& (nI 31))) f250_33 (by rw [c12] <;> rfl) ?_
      exact h12 (Int32.not_lt.mp c1) c2 c3 c4 c5 c6 c7 c8 c9 c10 c11 c12
    by_cases c13 : ((I 9 0 0 i) &&& (nI 31)) = nI 11
    · refine Ew.tsw (pc' := 447) (x := ((I 9 0 0 i) &&& (nI 31))) f250_33 (by rw [c13] <;> rfl) ?_
      exact h13 (Int32.not_lt.mp c1) c2 c3 c4 c5 c6 c7 c8 c9 c10 c11 c12 c13
    by_cases c14 : ((I 9 0 0 i) &&& (nI 31)) = nI 12
    · refine Ew.tsw (pc' := 480) (x := ((I 9 0 0 i) &&& (nI 31))) f250_33 (by rw [c14] <;> rfl) ?_
      exact h14 (Int32.not_lt.mp c1) c2 c3 c4 c5 c6 c7 c8 c9 c10 c11 c12 c13 c14
    by_cases c15 : ((I 9 0 0 i) &&& (nI 31)) = nI 13
    · refine Ew.tsw (pc' := 503) (x := ((I 9 0 0 i) &&& (nI 31))) f250_33 (by rw [c15] <;> rfl) ?_
      exact h15 (Int32.not_lt.mp c1) c2 c3 c4 c5 c6 c7 c8 c9 c10 c11 c12 c13 c14 c15
    by_cases c16 : ((I 9 0 0 i) &&& (nI 31)) = nI 14
    · refine Ew.tsw (pc' := 536) (x := ((I 9 0 0 i) &&& (nI 31))) f250_33 (by rw [c16] <;> rfl) ?_
      exact h16 (Int32.not_lt.mp c1) c2 c3 c4 c5 c6 c7 c8 c9 c10 c11 c12 c13 c14 c15 c16
    by_cases c17 : ((I 9 0 0 i) &&& (nI 31)) = nI 15
    · refine Ew.tsw (pc' := 559) (x := ((I 9 0 0 i) &&& (nI 31))) f250_33 (by rw [c17] <;> rfl) ?_
      exact h17 (Int32.not_lt.mp c1) c2 c3 c4 c5 c6 c7 c8 c9 c10 c11 c12 c13 c14 c15 c16 c17
    by_cases c18 : ((I 9 0 0 i) &&& (nI 31)) = nI 16
    · refine Ew.tsw (pc' := 603) (x := ((I 9 0 0 i) &&& (nI 31))) f250_33 (by rw [c18] <;> rfl) ?_
      exact h18 (Int32.not_lt.mp c1) c2 c3 c4 c5 c6 c7 c8 c9 c10 c11 c12 c13 c14 c15 c16 c17 c18
    by_cases c19 : ((I 9 0 0 i) &&& (nI 31)) = nI 17
    · refine Ew.tsw (pc' := 647) (x := ((I 9 0 0 i) &&& (nI 31))) f250_33 (by rw [c19] <;> rfl) ?_
      exact h19 (Int32.not_lt.mp c1) c2 c3 c4 c5 c6 c7 c8 c9 c10 c11 c12 c13 c14 c15 c16 c17 c18 c19
    by_cases c20 : ((I 9 0 0 i) &&& (nI 31)) = nI 18
    · refine Ew.tsw (pc' := 680) (x := ((I 9 0 0 i) &&& (nI 31))) f250_33 (by rw [c20] <;> rfl) ?_
      exact h20 (Int32.not_lt.mp c1) c2 c3 c4 c5 c6 c7 c8 c9 c10 c11 c12 c13 c14 c15 c16 c17 c18 c19 c20
    by_cases c21 : ((I 9 0 0 i) &&& (nI 31)) = nI 19
    · refine Ew.tsw (pc' := 703) (x := ((I 9 0 0 i) &&& (nI 31))) f250_33 (by rw [c21] <;> rfl) ?_
      exact h21 (Int32.not_lt.mp c1) c2 c3 c4 c5 c6 c7 c8 c9 c10 c11 c12 c13 c14 c15 c16 c17 c18 c19 c20 c21
    by_cases c22 : ((I 9 0 0 i) &&& (nI 31)) = nI 20
    · refine Ew.tsw (pc' := 716) (x := ((I 9 0 0 i) &&& (nI 31))) f250_33 (by rw [c22] <;> rfl) ?_
      exact h22 (Int32.not_lt.mp c1) c2 c3 c4 c5 c6 c7 c8 c9 c10 c11 c12 c13 c14 c15 c16 c17 c18 c19 c20 c21 c22
    by_cases c23 : ((I 9 0 0 i) &&& (nI 31)) = nI 21
    · refine Ew.tsw (pc' := 739) (x := ((I 9 0 0 i) &&& (nI 31))) f250_33 (by rw [c23] <;> rfl) ?_
      exact h23 (Int32.not_lt.mp c1) c2 c3 c4 c5 c6 c7 c8 c9 c10 c11 c12 c13 c14 c15 c16 c17 c18 c19 c20 c21 c22 c23
    by_cases c24 : ((I 9 0 0 i) &&& (nI 31)) = nI 22
    · refine Ew.tsw (pc' := 752) (x := ((I 9 0 0 i) &&& (nI 31))) f250_33 (by rw [c24] <;> rfl) ?_
      exact h24 (Int32.not_lt.mp c1) c2 c3 c4 c5 c6 c7 c8 c9 c10 c11 c12 c13 c14 c15 c16 c17 c18 c19 c20 c21 c22 c23 c24
    by_cases c25 : ((I 9 0 0 i) &&& (nI 31)) = nI 23
    · refine Ew.tsw (pc' := 765) (x := ((I 9 0 0 i) &&& (nI 31))) f250_33 (by rw [c25] <;> rfl) ?_
      exact h25 (Int32.not_lt.mp c1) c2 c3 c4 c5 c6 c7 c8 c9 c10 c11 c12 c13 c14 c15 c16 c17 c18 c19 c20 c21 c22 c23 c24 c25
    by_cases c26 : ((I 9 0 0 i) &&& (nI 31)) = nI 24
    · refine Ew.tsw (pc' := 818) (x := ((I 9 0 0 i) &&& (nI 31))) f250_33 (by rw [c26] <;> rfl) ?_
      exact h26 (Int32.not_lt.mp c1) c2 c3 c4 c5 c6 c7 c8 c9 c10 c11 c12 c13 c14 c15 c16 c17 c18 c19 c20 c21 c22 c23 c24 c25 c26
    by_cases c27 : ((I 9 0 0 i) &&& (nI 31)) = nI 25
    · refine Ew.tsw (pc' := 861) (x := ((I 9 0 0 i) &&& (nI 31))) f250_33 (by rw [c27] <;> rfl) ?_
      exact h27 (Int32.not_lt.mp c1) c2 c3 c4 c5 c6 c7 c8 c9 c10 c11 c12 c13 c14 c15 c16 c17 c18 c19 c20 c21 c22 c23 c24 c25 c26 c27
    by_cases c28 : ((I 9 0 0 i) &&& (nI 31)) = nI 26
    · refine Ew.tsw (pc' := 904) (x := ((I 9 0 0 i) &&& (nI 31))) f250_33 (by rw [c28] <;> rfl) ?_
      exact h28 (Int32.not_lt.mp c1) c2 c3 c4 c5 c6 c7 c8 c9 c10 c11 c12 c13 c14 c15 c16 c17 c18 c19 c20 c21 c22 c23 c24 c25 c26 c27 c28
    by_cases c29 : ((I 9 0 0 i) &&& (nI 31)) = nI 27
    · refine Ew.tsw (pc' := 927) (x := ((I 9 0 0 i) &&& (nI 31))) f250_33 (by rw [c29] <;> rfl) ?_
      exact h29 (Int32.not_lt.mp c1) c2 c3 c4 c5 c6 c7 c8 c9 c10 c11 c12 c13 c14 c15 c16 c17 c18 c19 c20 c21 c22 c23 c24 c25 c26 c27 c28 c29
    by_cases c30 : ((I 9 0 0 i) &&& (nI 31)) = nI 28
    · refine Ew.tsw (pc' := 1010) (x := ((I 9 0 0 i) &&& (nI 31))) f250_33 (by rw [c30] <;> rfl) ?_
      exact h30 (Int32.not_lt.mp c1) c2 c3 c4 c5 c6 c7 c8 c9 c10 c11 c12 c13 c14 c15 c16 c17 c18 c19 c20 c21 c22 c23 c24 c25 c26 c27 c28 c29 c30
    refine Ew.tsw (x := ((I 9 0 0 i) &&& (nI 31))) f250_33 (ztw_o (m := 0) (n := 29) (zno (by decide) (fun k hk => by rcases (show k = 0 ∨ k = 1 ∨ k = 2 ∨ k = 3 ∨ k = 4 ∨ k = 5 ∨ k = 6 ∨ k = 7 ∨ k = 8 ∨ k = 9 ∨ k = 10 ∨ k = 11 ∨ k = 12 ∨ k = 13 ∨ k = 14 ∨ k = 15 ∨ k = 16 ∨ k = 17 ∨ k = 18 ∨ k = 19 ∨ k = 20 ∨ k = 21 ∨ k = 22 ∨ k = 23 ∨ k = 24 ∨ k = 25 ∨ k = 26 ∨ k = 27 ∨ k = 28 by omega) with rfl | rfl | rfl | rfl | rfl | rfl | rfl | rfl | rfl | rfl | rfl | rfl | rfl | rfl | rfl | rfl | rfl | rfl | rfl | rfl | rfl | rfl | rfl | rfl | rfl | rfl | rfl | rfl | rfl <;> first | exact c2 | exact c3 | exact c4 | exact c5 | exact c6 | exact c7 | exact c8 | exact c9 | exact c10 | exact c11 | exact c12 | exact c13 | exact c14 | exact c15 | exact c16 | exact c17 | exact c18 | exact c19 | exact c20 | exact c21 | exact c22 | exact c23 | exact c24 | exact c25 | exact c26 | exact c27 | exact c28 | exact c29 | exact c30)) rfl rfl rfl) ?_
    exact h31 (Int32.not_lt.mp c1) c2 c3 c4 c5 c6 c7 c8 c9 c10 c11 c12 c13 c14 c15 c16 c17 c18 c19 c20 c21 c22 c23 c24 c25 c26 c27 c28 c29 c30
theorem g250_1073 {d c s : Nat} {i N : Nat} {I : zI} {L : zL} {P : zP} {S : zS} {top : Nat} {Q : Option zV → zM → Prop} (sN : S 9 0 0 = (20, N)) (hN : N ≤ 3072) 
    (h1 : Ev d c s 250 18 [some (zr (some (9, 0, 0))), some (zr (some (0, 0, 0))), some (zr (some (1, 0, 0))), some (zi (nI (i + 6)))] [] (I, L, zpj P, zsj S, top) Q) : Ev d c s 250 1073 [some (zr (some (9, 0, 0))), some (zr (some (0, 0, 0))), some (zr (some (1, 0, 0))), some (zi (nI i))] [] (I, L, zpj P, zsj S, top) Q := by
  refine Ew.iinc (v := nI (i + 6)) (ls' := [some (zr (some (9, 0, 0))), some (zr (some (0, 0, 0))), some (zr (some (1, 0, 0))), some (zi (nI (i + 6)))]) f250_1073 rfl (nI_add _ _) rfl rfl ?_
  refine Ew.goto f250_1076 rfl ?_
  exact h1
theorem g250_164 {d c s : Nat} {i N : Nat} {I : zI} {L : zL} {P : zP} {S : zS} {top : Nat} {Q : Option zV → zM → Prop} (sN : S 9 0 0 = (20, N)) (hN : N ≤ 3072) 
    (b1 : i + 1 < N)
    (h1 : Ev d 0 0 112 0 [some (zr (some (0, 0, 0))), some (zi (I 9 0 0 (i + 1)))] [] (I, L, zpj P, zsj S, top) (fun r M' => Ev (d + 1) c s 250 173 [some (zr (some (9, 0, 0))), some (zr (some (0, 0, 0))), some (zr (some (1, 0, 0))), some (zi (nI i))] (zpush r []) M' Q)) : Ev (d + 1) c s 250 164 [some (zr (some (9, 0, 0))), some (zr (some (0, 0, 0))), some (zr (some (1, 0, 0))), some (zi (nI i))] [] (I, L, zpj P, zsj S, top) Q := by
  refine Ew.ld f250_164 rfl rfl rfl rfl ?_
  refine Ew.ld f250_165 rfl rfl rfl rfl ?_
  refine Ew.ld f250_166 rfl rfl rfl rfl ?_
  refine Ew.op (st' := zi (nI 1) :: _) f250_167 rfl rfl ?_
  refine Ew.addn f250_168 rfl ?_
  refine Ew.ialdn f250_169 (by show (S 9 0 0).1 = _; rw [sN]) (by show _ < (S 9 0 0).2; rw [sN]; exact b1) (by show (S 9 0 0).2 < 5000; rw [sN]; omega) rfl ?_
  refine Ew.call0 (ls0 := [some (zr (some (0, 0, 0))), some (zi (I 9 0 0 (i + 1)))]) f250_170 rfl (Nat.le_of_ble_eq_true rfl) rfl rfl (Nat.le_of_ble_eq_true rfl) rfl (Nat.le_of_ble_eq_true rfl) rfl rfl ?_
  exact h1
theorem g250_173 {d c s : Nat} {i N : Nat} {v : Int32} {I : zI} {L : zL} {P : zP} {S : zS} {top : Nat} {Q : Option zV → zM → Prop} (sN : S 9 0 0 = (20, N)) (hN : N ≤ 3072) 
    (b1 : i + 1 < N)
    (h1 : Ev d 0 0 179 0 [some (zr (some (1, 0, 0))), some (zi (I 9 0 0 (i + 1)))] [] (I, L, zpj P, zsj S, top) (fun r M' => Ev (d + 1) c s 250 182 [some (zr (some (9, 0, 0))), some (zr (some (0, 0, 0))), some (zr (some (1, 0, 0))), some (zi (nI i))] (zpush r [zi v]) M' Q)) : Ev (d + 1) c s 250 173 [some (zr (some (9, 0, 0))), some (zr (some (0, 0, 0))), some (zr (some (1, 0, 0))), some (zi (nI i))] [zi v] (I, L, zpj P, zsj S, top) Q := by
  refine Ew.ld f250_173 rfl rfl rfl rfl ?_
  refine Ew.ld f250_174 rfl rfl rfl rfl ?_
  refine Ew.ld f250_175 rfl rfl rfl rfl ?_
  refine Ew.op (st' := zi (nI 1) :: _) f250_176 rfl rfl ?_
  refine Ew.addn f250_177 rfl ?_
  refine Ew.ialdn f250_178 (by show (S 9 0 0).1 = _; rw [sN]) (by show _ < (S 9 0 0).2; rw [sN]; exact b1) (by show (S 9 0 0).2 < 5000; rw [sN]; omega) rfl ?_
  refine Ew.call0 (ls0 := [some (zr (some (1, 0, 0))), some (zi (I 9 0 0 (i + 1)))]) f250_179 rfl (Nat.le_of_ble_eq_true rfl) rfl rfl (Nat.le_of_ble_eq_true rfl) rfl (Nat.le_of_ble_eq_true rfl) rfl rfl ?_
  exact h1
theorem g250_182 {d c s : Nat} {i N : Nat} {v : Int32} {I : zI} {L : zL} {P : zP} {S : zS} {top : Nat} {Q : Option zV → zM → Prop} (sN : S 9 0 0 = (20, N)) (hN : N ≤ 3072) 
    (h1 : (v = v) → Ev d c s 250 1073 [some (zr (some (9, 0, 0))), some (zr (some (0, 0, 0))), some (zr (some (1, 0, 0))), some (zi (nI i))] [] (I, L, zpj P, zsj S, top) Q)
    (h2 : (¬ v = v) → Q (some (zi (nI 0))) (I, L, zpj P, zsj S, top)) : Ev d c s 250 182 [some (zr (some (9, 0, 0))), some (zr (some (0, 0, 0))), some (zr (some (1, 0, 0))), some (zi (nI i))] [zi v, zi v] (I, L, zpj P, zsj S, top) Q := by
  refine Ew.icmp f250_182 rfl rfl (fun c1 => ?_) (fun c1 => ?_)
  · exact h1 c1
  · refine Ew.op (st' := zi (nI 0) :: _) f250_185 rfl rfl ?_
    refine Ew.iretb f250_186 (Or.inl rfl) ?_
    exact h2 c1
theorem g250_187 {d c s : Nat} {i N : Nat} {I : zI} {L : zL} {P : zP} {S : zS} {top : Nat} {Q : Option zV → zM → Prop} (sN : S 9 0 0 = (20, N)) (hN : N ≤ 3072) 
    (b1 : i + 1 < N)
    (h1 : Ev d 8 255 113 0 [some (zr (some (0, 0, 0))), some (zi (I 9 0 0 (i + 1))), none] [] (I, L, zpj P, zsj S, top) (fun r M' => Ev (d + 1) c s 250 196 [some (zr (some (9, 0, 0))), some (zr (some (0, 0, 0))), some (zr (some (1, 0, 0))), some (zi (nI i))] (zpush r []) M' Q)) : Ev (d + 1) (c + 8) (s + 255) 250 187 [some (zr (some (9, 0, 0))), some (zr (some (0, 0, 0))), some (zr (some (1, 0, 0))), some (zi (nI i))] [] (I, L, zpj P, zsj S, top) Q := by
  refine Ew.ld f250_187 rfl rfl rfl rfl ?_
  refine Ew.ld f250_188 rfl rfl rfl rfl ?_
  refine Ew.ld f250_189 rfl rfl rfl rfl ?_
  refine Ew.op (st' := zi (nI 1) :: _) f250_190 rfl rfl ?_
  refine Ew.addn f250_191 rfl ?_
  refine Ew.ialdn f250_192 (by show (S 9 0 0).1 = _; rw [sN]) (by show _ < (S 9 0 0).2; rw [sN]; exact b1) (by show (S 9 0 0).2 < 5000; rw [sN]; omega) rfl ?_
  refine Ew.callB (c := c) (s := s) (ls0 := [some (zr (some (0, 0, 0))), some (zi (I 9 0 0 (i + 1))), none]) f250_193 rfl (Nat.le_of_ble_eq_true rfl) rfl rfl (Nat.le_of_ble_eq_true rfl) rfl (Nat.le_of_ble_eq_true rfl) rfl rfl ?_
  exact h1
theorem g250_196 {d c s : Nat} {i N : Nat} {v : Int32} {I : zI} {L : zL} {P : zP} {S : zS} {top : Nat} {Q : Option zV → zM → Prop} (sN : S 9 0 0 = (20, N)) (hN : N ≤ 3072) 
    (b1 : i + 1 < N)
    (h1 : Ev d 0 0 188 0 [some (zr (some (1, 0, 0))), some (zi (I 9 0 0 (i + 1))), none, none, none] [] (I, L, zpj P, zsj S, top) (fun r M' => Ev (d + 1) c s 250 205 [some (zr (some (9, 0, 0))), some (zr (some (0, 0, 0))), some (zr (some (1, 0, 0))), some (zi (nI i))] (zpush r [zi v]) M' Q)) : Ev (d + 1) c s 250 196 [some (zr (some (9, 0, 0))), some (zr (some (0, 0, 0))), some (zr (some (1, 0, 0))), some (zi (nI i))] [zi v] (I, L, zpj P, zsj S, top) Q := by
  refine Ew.ld f250_196 rfl rfl rfl rfl ?_
  refine Ew.ld f250_197 rfl rfl rfl rfl ?_
  refine Ew.ld f250_198 rfl rfl rfl rfl ?_
  refine Ew.op (st' := zi (nI 1) :: _) f250_199 rfl rfl ?_
  refine Ew.addn f250_200 rfl ?_
  refine Ew.ialdn f250_201 (by show (S 9 0 0).1 = _; rw [sN]) (by show _ < (S 9 0 0).2; rw [sN]; exact b1) (by show (S 9 0 0).2 < 5000; rw [sN]; omega) rfl ?_
  refine Ew.call0 (ls0 := [some (zr (some (1, 0, 0))), some (zi (I 9 0 0 (i + 1))), none, none, none]) f250_202 rfl (Nat.le_of_ble_eq_true rfl) rfl rfl (Nat.le_of_ble_eq_true rfl) rfl (Nat.le_of_ble_eq_true rfl) rfl rfl ?_
  exact h1
theorem g250_205 {d c s : Nat} {i N : Nat} {v : Int32} {I : zI} {L : zL} {P : zP} {S : zS} {top : Nat} {Q : Option zV → zM → Prop} (sN : S 9 0 0 = (20, N)) (hN : N ≤ 3072) 
    (h1 : (v = v) → Ev d c s 250 1073 [some (zr (some (9, 0, 0))), some (zr (some (0, 0, 0))), some (zr (some (1, 0, 0))), some (zi (nI i))] [] (I, L, zpj P, zsj S, top) Q)
    (h2 : (¬ v = v) → Q (some (zi (nI 0))) (I, L, zpj P, zsj S, top)) : Ev d c s 250 205 [some (zr (some (9, 0, 0))), some (zr (some (0, 0, 0))), some (zr (some (1, 0, 0))), some (zi (nI i))] [zi v, zi v] (I, L, zpj P, zsj S, top) Q := by
  refine Ew.icmp f250_205 rfl rfl (fun c1 => ?_) (fun c1 => ?_)
  · exact h1 c1
  · refine Ew.op (st' := zi (nI 0) :: _) f250_208 rfl rfl ?_
    refine Ew.iretb f250_209 (Or.inl rfl) ?_
    exact h2 c1
theorem g250_210 {d c s : Nat} {i N : Nat} {I : zI} {L : zL} {P : zP} {S : zS} {top : Nat} {Q : Option zV → zM → Prop} (sN : S 9 0 0 = (20, N)) (hN : N ≤ 3072) 
    (b1 : i + 1 < N)
    (h1 : Ev d 20 536 114 0 [some (zr (some (0, 0, 0))), some (zi (I 9 0 0 (i + 1))), none, none] [] (I, L, zpj P, zsj S, top) (fun r M' => Ev (d + 1) c s 250 219 [some (zr (some (9, 0, 0))), some (zr (some (0, 0, 0))), some (zr (some (1, 0, 0))), some (zi (nI i))] (zpush r []) M' Q)) : Ev (d + 1) (c + 20) (s + 536) 250 210 [some (zr (some (9, 0, 0))), some (zr (some (0, 0, 0))), some (zr (some (1, 0, 0))), some (zi (nI i))] [] (I, L, zpj P, zsj S, top) Q := by
  refine Ew.ld f250_210 rfl rfl rfl rfl ?_
  refine Ew.ld f250_211 rfl rfl rfl rfl ?_
  refine Ew.ld f250_212 rfl rfl rfl rfl ?_
  refine Ew.op (st' := zi (nI 1) :: _) f250_213 rfl rfl ?_
  refine Ew.addn f250_214 rfl ?_
  refine Ew.ialdn f250_215 (by show (S 9 0 0).1 = _; rw [sN]) (by show _ < (S 9 0 0).2; rw [sN]; exact b1) (by show (S 9 0 0).2 < 5000; rw [sN]; omega) rfl ?_
  refine Ew.callB (c := c) (s := s) (ls0 := [some (zr (some (0, 0, 0))), some (zi (I 9 0 0 (i + 1))), none, none]) f250_216 rfl (Nat.le_of_ble_eq_true rfl) rfl rfl (Nat.le_of_ble_eq_true rfl) rfl (Nat.le_of_ble_eq_true rfl) rfl rfl ?_
  exact h1
theorem g250_219 {d c s : Nat} {i N : Nat} {v : Int32} {I : zI} {L : zL} {P : zP} {S : zS} {top : Nat} {Q : Option zV → zM → Prop} (sN : S 9 0 0 = (20, N)) (hN : N ≤ 3072) 
    (b1 : i + 1 < N)
    (h1 : Ev d 0 0 189 0 [some (zr (some (1, 0, 0))), some (zi (I 9 0 0 (i + 1))), none] [] (I, L, zpj P, zsj S, top) (fun r M' => Ev (d + 1) c s 250 228 [some (zr (some (9, 0, 0))), some (zr (some (0, 0, 0))), some (zr (some (1, 0, 0))), some (zi (nI i))] (zpush r [zi v]) M' Q)) : Ev (d + 1) c s 250 219 [some (zr (some (9, 0, 0))), some (zr (some (0, 0, 0))), some (zr (some (1, 0, 0))), some (zi (nI i))] [zi v] (I, L, zpj P, zsj S, top) Q := by
  refine Ew.ld f250_219 rfl rfl rfl rfl ?_
  refine Ew.ld f250_220 rfl rfl rfl rfl ?_
  refine Ew.ld f250_221 rfl rfl rfl rfl ?_
  refine Ew.op (st' := zi (nI 1) :: _) f250_222 rfl rfl ?_
  refine Ew.addn f250_223 rfl ?_
  refine Ew.ialdn f250_224 (by show (S 9 0 0).1 = _; rw [sN]) (by show _ < (S 9 0 0).2; rw [sN]; exact b1) (by show (S 9 0 0).2 < 5000; rw [sN]; omega) rfl ?_
  refine Ew.call0 (ls0 := [some (zr (some (1, 0, 0))), some (zi (I 9 0 0 (i + 1))), none]) f250_225 rfl (Nat.le_of_ble_eq_true rfl) rfl rfl (Nat.le_of_ble_eq_true rfl) rfl (Nat.le_of_ble_eq_true rfl) rfl rfl ?_
  exact h1
theorem g250_228 {d c s : Nat} {i N : Nat} {v : Int32} {I : zI} {L : zL} {P : zP} {S : zS} {top : Nat} {Q : Option zV → zM → Prop} (sN : S 9 0 0 = (20, N)) (hN : N ≤ 3072) 
    (h1 : (v = v) → Ev d c s 250 1073 [some (zr (some (9, 0, 0))), some (zr (some (0, 0, 0))), some (zr (some (1, 0, 0))), some (zi (nI i))] [] (I, L, zpj P, zsj S, top) Q)
    (h2 : (¬ v = v) → Q (some (zi (nI 0))) (I, L, zpj P, zsj S, top)) : Ev d c s 250 228 [some (zr (some (9, 0, 0))), some (zr (some (0, 0, 0))), some (zr (some (1, 0, 0))), some (zi (nI i))] [zi v, zi v] (I, L, zpj P, zsj S, top) Q := by
  refine Ew.icmp f250_228 rfl rfl (fun c1 => ?_) (fun c1 => ?_)
  · exact h1 c1
  · refine Ew.op (st' := zi (nI 0) :: _) f250_231 rfl rfl ?_
    refine Ew.iretb f250_232 (Or.inl rfl) ?_
    exact h2 c1
theorem g250_233 {d c s : Nat} {i N : Nat} {I : zI} {L : zL} {P : zP} {S : zS} {top : Nat} {Q : Option zV → zM → Prop} (sN : S 9 0 0 = (20, N)) (hN : N ≤ 3072) 
    (b1 : i + 1 < N)
    (h1 : Ev d 0 0 115 0 [some (zr (some (0, 0, 0))), some (zi (I 9 0 0 (i + 1)))] [] (I, L, zpj P, zsj S, top) (fun r M' => Ev (d + 1) c s 250 242 [some (zr (some (9, 0, 0))), some (zr (some (0, 0, 0))), some (zr (some (1, 0, 0))), some (zi (nI i))] (zpush r []) M' Q)) : Ev (d + 1) c s 250 233 [some (zr (some (9, 0, 0))), some (zr (some (0, 0, 0))), some (zr (some (1, 0, 0))), some (zi (nI i))] [] (I, L, zpj P, zsj S, top) Q := by
  refine Ew.ld f250_233 rfl rfl rfl rfl ?_
  refine Ew.ld f250_234 rfl rfl rfl rfl ?_
  refine Ew.ld f250_235 rfl rfl rfl rfl ?_
  refine Ew.op (st' := zi (nI 1) :: _) f250_236 rfl rfl ?_
  refine Ew.addn f250_237 rfl ?_
  refine Ew.ialdn f250_238 (by show (S 9 0 0).1 = _; rw [sN]) (by show _ < (S 9 0 0).2; rw [sN]; exact b1) (by show (S 9 0 0).2 < 5000; rw [sN]; omega) rfl ?_
  refine Ew.call0 (ls0 := [some (zr (some (0, 0, 0))), some (zi (I 9 0 0 (i + 1)))]) f250_239 rfl (Nat.le_of_ble_eq_true rfl) rfl rfl (Nat.le_of_ble_eq_true rfl) rfl (Nat.le_of_ble_eq_true rfl) rfl rfl ?_
  exact h1
theorem g250_242 {d c s : Nat} {i N : Nat} {v : Int32} {I : zI} {L : zL} {P : zP} {S : zS} {top : Nat} {Q : Option zV → zM → Prop} (sN : S 9 0 0 = (20, N)) (hN : N ≤ 3072) 
    (b1 : i + 1 < N)
    (h1 : Ev d 0 0 191 0 [some (zr (some (1, 0, 0))), some (zi (I 9 0 0 (i + 1)))] [] (I, L, zpj P, zsj S, top) (fun r M' => Ev (d + 1) c s 250 251 [some (zr (some (9, 0, 0))), some (zr (some (0, 0, 0))), some (zr (some (1, 0, 0))), some (zi (nI i))] (zpush r [zi v]) M' Q)) : Ev (d + 1) c s 250 242 [some (zr (some (9, 0, 0))), some (zr (some (0, 0, 0))), some (zr (some (1, 0, 0))), some (zi (nI i))] [zi v] (I, L, zpj P, zsj S, top) Q := by
  refine Ew.ld f250_242 rfl rfl rfl rfl ?_
  refine Ew.ld f250_243 rfl rfl rfl rfl ?_
  refine Ew.ld f250_244 rfl rfl rfl rfl ?_
  refine Ew.op (st' := zi (nI 1) :: _) f250_245 rfl rfl ?_
  refine Ew.addn f250_246 rfl ?_
  refine Ew.ialdn f250_247 (by show (S 9 0 0).1 = _; rw [sN]) (by show _ < (S 9 0 0).2; rw [sN]; exact b1) (by show (S 9 0 0).2 < 5000; rw [sN]; omega) rfl ?_
  refine Ew.call0 (ls0 := [some (zr (some (1, 0, 0))), some (zi (I 9 0 0 (i + 1)))]) f250_248 rfl (Nat.le_of_ble_eq_true rfl) rfl rfl (Nat.le_of_ble_eq_true rfl) rfl (Nat.le_of_ble_eq_true rfl) rfl rfl ?_
  exact h1
theorem g250_251 {d c s : Nat} {i N : Nat} {v : Int32} {I : zI} {L : zL} {P : zP} {S : zS} {top : Nat} {Q : Option zV → zM → Prop} (sN : S 9 0 0 = (20, N)) (hN : N ≤ 3072) 
    (h1 : (v = v) → Ev d c s 250 1073 [some (zr (some (9, 0, 0))), some (zr (some (0, 0, 0))), some (zr (some (1, 0, 0))), some (zi (nI i))] [] (I, L, zpj P, zsj S, top) Q)
    (h2 : (¬ v = v) → Q (some (zi (nI 0))) (I, L, zpj P, zsj S, top)) : Ev d c s 250 251 [some (zr (some (9, 0, 0))), some (zr (some (0, 0, 0))), some (zr (some (1, 0, 0))), some (zi (nI i))] [zi v, zi v] (I, L, zpj P, zsj S, top) Q := by
  refine Ew.icmp f250_251 rfl rfl (fun c1 => ?_) (fun c1 => ?_)
  · exact h1 c1
  · refine Ew.op (st' := zi (nI 0) :: _) f250_254 rfl rfl ?_
    refine Ew.iretb f250_255 (Or.inl rfl) ?_
    exact h2 c1
theorem g250_256 {d c s : Nat} {i N : Nat} {I : zI} {L : zL} {P : zP} {S : zS} {top : Nat} {Q : Option zV → zM → Prop} (sN : S 9 0 0 = (20, N)) (hN : N ≤ 3072) 
    (b1 : i + 1 < N)
    (b2 : i + 2 < N)
    (h1 : Ev d 0 0 116 0 [some (zr (some (0, 0, 0))), some (zi (I 9 0 0 (i + 1))), some (zi (I 9 0 0 (i + 2)))] [] (I, L, zpj P, zsj S, top) (fun r M' => Ev (d + 1) c s 250 270 [some (zr (some (9, 0, 0))), some (zr (some (0, 0, 0))), some (zr (some (1, 0, 0))), some (zi (nI i))] (zpush r []) M' Q)) : Ev (d + 1) c s 250 256 [some (zr (some (9, 0, 0))), some (zr (some (0, 0, 0))), some (zr (some (1, 0, 0))), some (zi (nI i))] [] (I, L, zpj P, zsj S, top) Q := by
  refine Ew.ld f250_256 rfl rfl rfl rfl ?_
  refine Ew.ld f250_257 rfl rfl rfl rfl ?_
  refine Ew.ld f250_258 rfl rfl rfl rfl ?_
  refine Ew.op (st' := zi (nI 1) :: _) f250_259 rfl rfl ?_
  refine Ew.addn f250_260 rfl ?_
  refine Ew.ialdn f250_261 (by show (S 9 0 0).1 = _; rw [sN]) (by show _ < (S 9 0 0).2; rw [sN]; exact b1) (by show (S 9 0 0).2 < 5000; rw [sN]; omega) rfl ?_
  refine Ew.ld f250_262 rfl rfl rfl rfl ?_
  refine Ew.ld f250_263 rfl rfl rfl rfl ?_
  refine Ew.op (st' := zi (nI 2) :: _) f250_264 rfl rfl ?_
  refine Ew.addn f250_265 rfl ?_
  refine Ew.ialdn f250_266 (by show (S 9 0 0).1 = _; rw [sN]) (by show _ < (S 9 0 0).2; rw [sN]; exact b2) (by show (S 9 0 0).2 < 5000; rw [sN]; omega) rfl ?_
  refine Ew.call0 (ls0 := [some (zr (some (0, 0, 0))), some (zi (I 9 0 0 (i + 1))), some (zi (I 9 0 0 (i + 2)))]) f250_267 rfl (Nat.le_of_ble_eq_true rfl) rfl rfl (Nat.le_of_ble_eq_true rfl) rfl (Nat.le_of_ble_eq_true rfl) rfl rfl ?_
  exact h1
theorem g250_270 {d c s : Nat} {i N : Nat} {v : Int32} {I : zI} {L : zL} {P : zP} {S : zS} {top : Nat} {Q : Option zV → zM → Prop} (sN : S 9 0 0 = (20, N)) (hN : N ≤ 3072) 
    (b1 : i + 1 < N)
    (b2 : i + 2 < N)
    (h1 : Ev d 0 0 172 0 [some (zr (some (1, 0, 0))), some (zi (I 9 0 0 (i + 1))), some (zi (I 9 0 0 (i + 2)))] [] (I, L, zpj P, zsj S, top) (fun r M' => Ev (d + 1) c s 250 284 [some (zr (some (9, 0, 0))), some (zr (some (0, 0, 0))), some (zr (some (1, 0, 0))), some (zi (nI i))] (zpush r [zi v]) M' Q)) : Ev (d + 1) c s 250 270 [some (zr (some (9, 0, 0))), some (zr (some (0, 0, 0))), some (zr (some (1, 0, 0))), some (zi (nI i))] [zi v] (I, L, zpj P, zsj S, top) Q := by
  refine Ew.ld f250_270 rfl rfl rfl rfl ?_
  refine Ew.ld f250_271 rfl rfl rfl rfl ?_
  refine Ew.ld f250_272 rfl rfl rfl rfl ?_
  refine Ew.op (st' := zi (nI 1) :: _) f250_273 rfl rfl ?_
  refine Ew.addn f250_274 rfl ?_
  refine Ew.ialdn f250_275 (by show (S 9 0 0).1 = _; rw [sN]) (by show _ < (S 9 0 0).2; rw [sN]; exact b1) (by show (S 9 0 0).2 < 5000; rw [sN]; omega) rfl ?_
  refine Ew.ld f250_276 rfl rfl rfl rfl ?_
  refine Ew.ld f250_277 rfl rfl rfl rfl ?_
  refine Ew.op (st' := zi (nI 2) :: _) f250_278 rfl rfl ?_
  refine Ew.addn f250_279 rfl ?_
  refine Ew.ialdn f250_280 (by show (S 9 0 0).1 = _; rw [sN]) (by show _ < (S 9 0 0).2; rw [sN]; exact b2) (by show (S 9 0 0).2 < 5000; rw [sN]; omega) rfl ?_
  refine Ew.call0 (ls0 := [some (zr (some (1, 0, 0))), some (zi (I 9 0 0 (i + 1))), some (zi (I 9 0 0 (i + 2)))]) f250_281 rfl (Nat.le_of_ble_eq_true rfl) rfl rfl (Nat.le_of_ble_eq_true rfl) rfl (Nat.le_of_ble_eq_true rfl) rfl rfl ?_
  exact h1
theorem g250_284 {d c s : Nat} {i N : Nat} {v : Int32} {I : zI} {L : zL} {P : zP} {S : zS} {top : Nat} {Q : Option zV → zM → Prop} (sN : S 9 0 0 = (20, N)) (hN : N ≤ 3072) 
    (h1 : (v = v) → Ev d c s 250 1073 [some (zr (some (9, 0, 0))), some (zr (some (0, 0, 0))), some (zr (some (1, 0, 0))), some (zi (nI i))] [] (I, L, zpj P, zsj S, top) Q)
    (h2 : (¬ v = v) → Q (some (zi (nI 0))) (I, L, zpj P, zsj S, top)) : Ev d c s 250 284 [some (zr (some (9, 0, 0))), some (zr (some (0, 0, 0))), some (zr (some (1, 0, 0))), some (zi (nI i))] [zi v, zi v] (I, L, zpj P, zsj S, top) Q := by
  refine Ew.icmp f250_284 rfl rfl (fun c1 => ?_) (fun c1 => ?_)
  · exact h1 c1
  · refine Ew.op (st' := zi (nI 0) :: _) f250_287 rfl rfl ?_
    refine Ew.iretb f250_288 (Or.inl rfl) ?_
    exact h2 c1
theorem g250_289 {d c s : Nat} {i N : Nat} {I : zI} {L : zL} {P : zP} {S : zS} {top : Nat} {Q : Option zV → zM → Prop} (sN : S 9 0 0 = (20, N)) (hN : N ≤ 3072) 
    (b1 : i + 1 < N)
    (b2 : i + 2 < N)
    (b3 : i + 3 < N)
    (h1 : Ev d 0 0 117 0 [some (zr (some (0, 0, 0))), some (zi (I 9 0 0 (i + 1))), some (zi (I 9 0 0 (i + 2))), some (zi (I 9 0 0 (i + 3)))] [] (I, L, zpj P, zsj S, top) (fun r M' => Ev (d + 1) c s 250 308 [some (zr (some (9, 0, 0))), some (zr (some (0, 0, 0))), some (zr (some (1, 0, 0))), some (zi (nI i))] (zpush r []) M' Q)) : Ev (d + 1) c s 250 289 [some (zr (some (9, 0, 0))), some (zr (some (0, 0, 0))), some (zr (some (1, 0, 0))), some (zi (nI i))] [] (I, L, zpj P, zsj S, top) Q := by
  refine Ew.ld f250_289 rfl rfl rfl rfl ?_
  refine Ew.ld f250_290 rfl rfl rfl rfl ?_
  refine Ew.ld f250_291 rfl rfl rfl rfl ?_
  refine Ew.op (st' := zi (nI 1) :: _) f250_292 rfl rfl ?_
  refine Ew.addn f250_293 rfl ?_
  refine Ew.ialdn f250_294 (by show (S 9 0 0).1 = _; rw [sN]) (by show _ < (S 9 0 0).2; rw [sN]; exact b1) (by show (S 9 0 0).2 < 5000; rw [sN]; omega) rfl ?_
  refine Ew.ld f250_295 rfl rfl rfl rfl ?_
  refine Ew.ld f250_296 rfl rfl rfl rfl ?_
  refine Ew.op (st' := zi (nI 2) :: _) f250_297 rfl rfl ?_
  refine Ew.addn f250_298 rfl ?_
  refine Ew.ialdn f250_299 (by show (S 9 0 0).1 = _; rw [sN]) (by show _ < (S 9 0 0).2; rw [sN]; exact b2) (by show (S 9 0 0).2 < 5000; rw [sN]; omega) rfl ?_
  refine Ew.ld f250_300 rfl rfl rfl rfl ?_
  refine Ew.ld f250_301 rfl rfl rfl rfl ?_
  refine Ew.op (st' := zi (nI 3) :: _) f250_302 rfl rfl ?_
  refine Ew.addn f250_303 rfl ?_
  refine Ew.ialdn f250_304 (by show (S 9 0 0).1 = _; rw [sN]) (by show _ < (S 9 0 0).2; rw [sN]; exact b3) (by show (S 9 0 0).2 < 5000; rw [sN]; omega) rfl ?_
  refine Ew.call0 (ls0 := [some (zr (some (0, 0, 0))), some (zi (I 9 0 0 (i + 1))), some (zi (I 9 0 0 (i + 2))), some (zi (I 9 0 0 (i + 3)))]) f250_305 rfl (Nat.le_of_ble_eq_true rfl) rfl rfl (Nat.le_of_ble_eq_true rfl) rfl (Nat.le_of_ble_eq_true rfl) rfl rfl ?_
  exact h1
theorem g250_308 {d c s : Nat} {i N : Nat} {v : Int32} {I : zI} {L : zL} {P : zP} {S : zS} {top : Nat} {Q : Option zV → zM → Prop} (sN : S 9 0 0 = (20, N)) (hN : N ≤ 3072) 
    (b1 : i + 1 < N)
    (b2 : i + 2 < N)
    (b3 : i + 3 < N)
    (h1 : Ev d 0 0 173 0 [some (zr (some (1, 0, 0))), some (zi (I 9 0 0 (i + 1))), some (zi (I 9 0 0 (i + 2))), some (zi (I 9 0 0 (i + 3)))] [] (I, L, zpj P, zsj S, top) (fun r M' => Ev (d + 1) c s 250 327 [some (zr (some (9, 0, 0))), some (zr (some (0, 0, 0))), some (zr (some (1, 0, 0))), some (zi (nI i))] (zpush r [zi v]) M' Q)) : Ev (d + 1) c s 250 308 [some (zr (some (9, 0, 0))), some (zr (some (0, 0, 0))), some (zr (some (1, 0, 0))), some (zi (nI i))] [zi v] (I, L, zpj P, zsj S, top) Q := by
  refine Ew.ld f250_308 rfl rfl rfl rfl ?_
  refine Ew.ld f250_309 rfl rfl rfl rfl ?_
  refine Ew.ld f250_310 rfl rfl rfl rfl ?_
  refine Ew.op (st' := zi (nI 1) :: _) f250_311 rfl rfl ?_
  refine Ew.addn f250_312 rfl ?_
  refine Ew.ialdn f250_313 (by show (S 9 0 0).1 = _; rw [sN]) (by show _ < (S 9 0 0).2; rw [sN]; exact b1) (by show (S 9 0 0).2 < 5000; rw [sN]; omega) rfl ?_
  refine Ew.ld f250_314 rfl rfl rfl rfl ?_
  refine Ew.ld f250_315 rfl rfl rfl rfl ?_
  refine Ew.op (st' := zi (nI 2) :: _) f250_316 rfl rfl ?_
  refine Ew.addn f250_317 rfl ?_
  refine Ew.ialdn f250_318 (by show (S 9 0 0).1 = _; rw [sN]) (by show _ < (S 9 0 0).2; rw [sN]; exact b2) (by show (S 9 0 0).2 < 5000; rw [sN]; omega) rfl ?_
  refine Ew.ld f250_319 rfl rfl rfl rfl ?_
  refine Ew.ld f250_320 rfl rfl rfl rfl ?_
  refine Ew.op (st' := zi (nI 3) :: _) f250_321 rfl rfl ?_
  refine Ew.addn f250_322 rfl ?_
  refine Ew.ialdn f250_323 (by show (S 9 0 0).1 = _; rw [sN]) (by show _ < (S 9 0 0).2; rw [sN]; exact b3) (by show (S 9 0 0).2 < 5000; rw [sN]; omega) rfl ?_
  refine Ew.call0 (ls0 := [some (zr (some (1, 0, 0))), some (zi (I 9 0 0 (i + 1))), some (zi (I 9 0 0 (i + 2))), some (zi (I 9 0 0 (i + 3)))]) f250_324 rfl (Nat.le_of_ble_eq_true rfl) rfl rfl (Nat.le_of_ble_eq_true rfl) rfl (Nat.le_of_ble_eq_true rfl) rfl rfl ?_
  exact h1
theorem g250_327 {d c s : Nat} {i N : Nat} {v : Int32} {I : zI} {L : zL} {P : zP} {S : zS} {top : Nat} {Q : Option zV → zM → Prop} (sN : S 9 0 0 = (20, N)) (hN : N ≤ 3072) 
    (h1 : (v = v) → Ev d c s 250 1073 [some (zr (some (9, 0, 0))), some (zr (some (0, 0, 0))), some (zr (some (1, 0, 0))), some (zi (nI i))] [] (I, L, zpj P, zsj S, top) Q)
    (h2 : (¬ v = v) → Q (some (zi (nI 0))) (I, L, zpj P, zsj S, top)) : Ev d c s 250 327 [some (zr (some (9, 0, 0))), some (zr (some (0, 0, 0))), some (zr (some (1, 0, 0))), some (zi (nI i))] [zi v, zi v] (I, L, zpj P, zsj S, top) Q := by
  refine Ew.icmp f250_327 rfl rfl (fun c1 => ?_) (fun c1 => ?_)
  · exact h1 c1
  · refine Ew.op (st' := zi (nI 0) :: _) f250_330 rfl rfl ?_
    refine Ew.iretb f250_331 (Or.inl rfl) ?_
    exact h2 c1
theorem g250_332 {d c s : Nat} {i N : Nat} {I : zI} {L : zL} {P : zP} {S : zS} {top : Nat} {Q : Option zV → zM → Prop} (sN : S 9 0 0 = (20, N)) (hN : N ≤ 3072) 
    (b1 : i + 1 < N)
    (h1 : Ev d 0 0 118 0 [some (zr (some (0, 0, 0))), some (zi (I 9 0 0 (i + 1))), none] [] (I, L, zpj P, zsj S, top) (fun r M' => Ev (d + 1) c s 250 341 [some (zr (some (9, 0, 0))), some (zr (some (0, 0, 0))), some (zr (some (1, 0, 0))), some (zi (nI i))] (zpush r []) M' Q)) : Ev (d + 1) c s 250 332 [some (zr (some (9, 0, 0))), some (zr (some (0, 0, 0))), some (zr (some (1, 0, 0))), some (zi (nI i))] [] (I, L, zpj P, zsj S, top) Q := by
  refine Ew.ld f250_332 rfl rfl rfl rfl ?_
  refine Ew.ld f250_333 rfl rfl rfl rfl ?_
  refine Ew.ld f250_334 rfl rfl rfl rfl ?_
  refine Ew.op (st' := zi (nI 1) :: _) f250_335 rfl rfl ?_
  refine Ew.addn f250_336 rfl ?_
  refine Ew.ialdn f250_337 (by show (S 9 0 0).1 = _; rw [sN]) (by show _ < (S 9 0 0).2; rw [sN]; exact b1) (by show (S 9 0 0).2 < 5000; rw [sN]; omega) rfl ?_
  refine Ew.call0 (ls0 := [some (zr (some (0, 0, 0))), some (zi (I 9 0 0 (i + 1))), none]) f250_338 rfl (Nat.le_of_ble_eq_true rfl) rfl rfl (Nat.le_of_ble_eq_true rfl) rfl (Nat.le_of_ble_eq_true rfl) rfl rfl ?_
  exact h1
theorem g250_341 {d c s : Nat} {i N : Nat} {v : Int32} {I : zI} {L : zL} {P : zP} {S : zS} {top : Nat} {Q : Option zV → zM → Prop} (sN : S 9 0 0 = (20, N)) (hN : N ≤ 3072) 
    (b1 : i + 1 < N)
    (h1 : Ev d 0 0 212 0 [some (zr (some (1, 0, 0))), some (zi (I 9 0 0 (i + 1))), none] [] (I, L, zpj P, zsj S, top) (fun r M' => Ev (d + 1) c s 250 350 [some (zr (some (9, 0, 0))), some (zr (some (0, 0, 0))), some (zr (some (1, 0, 0))), some (zi (nI i))] (zpush r [zi v]) M' Q)) : Ev (d + 1) c s 250 341 [some (zr (some (9, 0, 0))), some (zr (some (0, 0, 0))), some (zr (some (1, 0, 0))), some (zi (nI i))] [zi v] (I, L, zpj P, zsj S, top) Q := by
  refine Ew.ld f250_341 rfl rfl rfl rfl ?_
  refine Ew.ld f250_342 rfl rfl rfl rfl ?_
  refine Ew.ld f250_343 rfl rfl rfl rfl ?_
  refine Ew.op (st' := zi (nI 1) :: _) f250_344 rfl rfl ?_
  refine Ew.addn f250_345 rfl ?_
  refine Ew.ialdn f250_346 (by show (S 9 0 0).1 = _; rw [sN]) (by show _ < (S 9 0 0).2; rw [sN]; exact b1) (by show (S 9 0 0).2 < 5000; rw [sN]; omega) rfl ?_
  refine Ew.call0 (ls0 := [some (zr (some (1, 0, 0))), some (zi (I 9 0 0 (i + 1))), none]) f250_347 rfl (Nat.le_of_ble_eq_true rfl) rfl rfl (Nat.le_of_ble_eq_true rfl) rfl (Nat.le_of_ble_eq_true rfl) rfl rfl ?_
  exact h1
theorem g250_350 {d c s : Nat} {i N : Nat} {v : Int32} {I : zI} {L : zL} {P : zP} {S : zS} {top : Nat} {Q : Option zV → zM → Prop} (sN : S 9 0 0 = (20, N)) (hN : N ≤ 3072) 
    (h1 : (v = v) → Ev d c s 250 1073 [some (zr (some (9, 0, 0))), some (zr (some (0, 0, 0))), some (zr (some (1, 0, 0))), some (zi (nI i))] [] (I, L, zpj P, zsj S, top) Q)
    (h2 : (¬ v = v) → Q (some (zi (nI 0))) (I, L, zpj P, zsj S, top)) : Ev d c s 250 350 [some (zr (some (9, 0, 0))), some (zr (some (0, 0, 0))), some (zr (some (1, 0, 0))), some (zi (nI i))] [zi v, zi v] (I, L, zpj P, zsj S, top) Q := by
  refine Ew.icmp f250_350 rfl rfl (fun c1 => ?_) (fun c1 => ?_)
  · exact h1 c1
  · refine Ew.op (st' := zi (nI 0) :: _) f250_353 rfl rfl ?_
    refine Ew.iretb f250_354 (Or.inl rfl) ?_
    exact h2 c1
theorem g250_355 {d c s : Nat} {i N : Nat} {I : zI} {L : zL} {P : zP} {S : zS} {top : Nat} {Q : Option zV → zM → Prop} (sN : S 9 0 0 = (20, N)) (hN : N ≤ 3072) 
    (b1 : i + 1 < N)
    (h1 : Ev d 0 0 119 0 [some (zr (some (0, 0, 0))), some (zi (I 9 0 0 (i + 1)))] [] (I, L, zpj P, zsj S, top) (fun r M' => Ev (d + 1) c s 250 364 [some (zr (some (9, 0, 0))), some (zr (some (0, 0, 0))), some (zr (some (1, 0, 0))), some (zi (nI i))] (zpush r []) M' Q)) : Ev (d + 1) c s 250 355 [some (zr (some (9, 0, 0))), some (zr (some (0, 0, 0))), some (zr (some (1, 0, 0))), some (zi (nI i))] [] (I, L, zpj P, zsj S, top) Q := by
  refine Ew.ld f250_355 rfl rfl rfl rfl ?_
  refine Ew.ld f250_356 rfl rfl rfl rfl ?_
  refine Ew.ld f250_357 rfl rfl rfl rfl ?_
  refine Ew.op (st' := zi (nI 1) :: _) f250_358 rfl rfl ?_
  refine Ew.addn f250_359 rfl ?_
  refine Ew.ialdn f250_360 (by show (S 9 0 0).1 = _; rw [sN]) (by show _ < (S 9 0 0).2; rw [sN]; exact b1) (by show (S 9 0 0).2 < 5000; rw [sN]; omega) rfl ?_
  refine Ew.call0 (ls0 := [some (zr (some (0, 0, 0))), some (zi (I 9 0 0 (i + 1)))]) f250_361 rfl (Nat.le_of_ble_eq_true rfl) rfl rfl (Nat.le_of_ble_eq_true rfl) rfl (Nat.le_of_ble_eq_true rfl) rfl rfl ?_
  exact h1
theorem g250_364 {d c s : Nat} {i N : Nat} {v : Int32} {I : zI} {L : zL} {P : zP} {S : zS} {top : Nat} {Q : Option zV → zM → Prop} (sN : S 9 0 0 = (20, N)) (hN : N ≤ 3072) 
    (b1 : i + 1 < N)
    (h1 : Ev d 0 0 204 0 [some (zr (some (1, 0, 0))), some (zi (I 9 0 0 (i + 1)))] [] (I, L, zpj P, zsj S, top) (fun r M' => Ev (d + 1) c s 250 373 [some (zr (some (9, 0, 0))), some (zr (some (0, 0, 0))), some (zr (some (1, 0, 0))), some (zi (nI i))] (zpush r [zi v]) M' Q)) : Ev (d + 1) c s 250 364 [some (zr (some (9, 0, 0))), some (zr (some (0, 0, 0))), some (zr (some (1, 0, 0))), some (zi (nI i))] [zi v] (I, L, zpj P, zsj S, top) Q := by
  refine Ew.ld f250_364 rfl rfl rfl rfl ?_
  refine Ew.ld f250_365 rfl rfl rfl rfl ?_
  refine Ew.ld f250_366 rfl rfl rfl rfl ?_
  refine Ew.op (st' := zi (nI 1) :: _) f250_367 rfl rfl ?_
  refine Ew.addn f250_368 rfl ?_
  refine Ew.ialdn f250_369 (by show (S 9 0 0).1 = _; rw [sN]) (by show _ < (S 9 0 0).2; rw [sN]; exact b1) (by show (S 9 0 0).2 < 5000; rw [sN]; omega) rfl ?_
  refine Ew.call0 (ls0 := [some (zr (some (1, 0, 0))), some (zi (I 9 0 0 (i + 1)))]) f250_370 rfl (Nat.le_of_ble_eq_true rfl) rfl rfl (Nat.le_of_ble_eq_true rfl) rfl (Nat.le_of_ble_eq_true rfl) rfl rfl ?_
  exact h1
theorem g250_373 {d c s : Nat} {i N : Nat} {v : Int32} {I : zI} {L : zL} {P : zP} {S : zS} {top : Nat} {Q : Option zV → zM → Prop} (sN : S 9 0 0 = (20, N)) (hN : N ≤ 3072) 
    (h1 : (v = v) → Ev d c s 250 1073 [some (zr (some (9, 0, 0))), some (zr (some (0, 0, 0))), some (zr (some (1, 0, 0))), some (zi (nI i))] [] (I, L, zpj P, zsj S, top) Q)
    (h2 : (¬ v = v) → Q (some (zi (nI 0))) (I, L, zpj P, zsj S, top)) : Ev d c s 250 373 [some (zr (some (9, 0, 0))), some (zr (some (0, 0, 0))), some (zr (some (1, 0, 0))), some (zi (nI i))] [zi v, zi v] (I, L, zpj P, zsj S, top) Q := by
  refine Ew.icmp f250_373 rfl rfl (fun c1 => ?_) (fun c1 => ?_)
  · exact h1 c1
  · refine Ew.op (st' := zi (nI 0) :: _) f250_376 rfl rfl ?_
    refine Ew.iretb f250_377 (Or.inl rfl) ?_
    exact h2 c1
theorem g250_378 {d c s : Nat} {i N : Nat} {I : zI} {L : zL} {P : zP} {S : zS} {top : Nat} {Q : Option zV → zM → Prop} (sN : S 9 0 0 = (20, N)) (hN : N ≤ 3072) 
    (b1 : i + 1 < N)
    (h1 : Ev d 0 0 120 0 [some (zr (some (0, 0, 0))), some (zi (I 9 0 0 (i + 1))), none] [] (I, L, zpj P, zsj S, top) (fun r M' => Ev (d + 1) c s 250 387 [some (zr (some (9, 0, 0))), some (zr (some (0, 0, 0))), some (zr (some (1, 0, 0))), some (zi (nI i))] (zpush r []) M' Q)) : Ev (d + 1) c s 250 378 [some (zr (some (9, 0, 0))), some (zr (some (0, 0, 0))), some (zr (some (1, 0, 0))), some (zi (nI i))] [] (I, L, zpj P, zsj S, top) Q := by
  refine Ew.ld f250_378 rfl rfl rfl rfl ?_
  refine Ew.ld f250_379 rfl rfl rfl rfl ?_
  refine Ew.ld f250_380 rfl rfl rfl rfl ?_
  refine Ew.op (st' := zi (nI 1) :: _) f250_381 rfl rfl ?_
  refine Ew.addn f250_382 rfl ?_
  refine Ew.ialdn f250_383 (by show (S 9 0 0).1 = _; rw [sN]) (by show _ < (S 9 0 0).2; rw [sN]; exact b1) (by show (S 9 0 0).2 < 5000; rw [sN]; omega) rfl ?_
  refine Ew.call0 (ls0 := [some (zr (some (0, 0, 0))), some (zi (I 9 0 0 (i + 1))), none]) f250_384 rfl (Nat.le_of_ble_eq_true rfl) rfl rfl (Nat.le_of_ble_eq_true rfl) rfl (Nat.le_of_ble_eq_true rfl) rfl rfl ?_
  exact h1
theorem g250_387 {d c s : Nat} {i N : Nat} {v : Int32} {I : zI} {L : zL} {P : zP} {S : zS} {top : Nat} {Q : Option zV → zM → Prop} (sN : S 9 0 0 = (20, N)) (hN : N ≤ 3072) 
    (b1 : i + 1 < N)
    (h1 : Ev d 0 0 208 0 [some (zr (some (1, 0, 0))), some (zi (I 9 0 0 (i + 1))), none, none, none] [] (I, L, zpj P, zsj S, top) (fun r M' => Ev (d + 1) c s 250 396 [some (zr (some (9, 0, 0))), some (zr (some (0, 0, 0))), some (zr (some (1, 0, 0))), some (zi (nI i))] (zpush r [zi v]) M' Q)) : Ev (d + 1) c s 250 387 [some (zr (some (9, 0, 0))), some (zr (some (0, 0, 0))), some (zr (some (1, 0, 0))), some (zi (nI i))] [zi v] (I, L, zpj P, zsj S, top) Q := by
  refine Ew.ld f250_387 rfl rfl rfl rfl ?_
  refine Ew.ld f250_388 rfl rfl rfl rfl ?_
  refine Ew.ld f250_389 rfl rfl rfl rfl ?_
  refine Ew.op (st' := zi (nI 1) :: _) f250_390 rfl rfl ?_
  refine Ew.addn f250_391 rfl ?_
  refine Ew.ialdn f250_392 (by show (S 9 0 0).1 = _; rw [sN]) (by show _ < (S 9 0 0).2; rw [sN]; exact b1) (by show (S 9 0 0).2 < 5000; rw [sN]; omega) rfl ?_
  refine Ew.call0 (ls0 := [some (zr (some (1, 0, 0))), some (zi (I 9 0 0 (i + 1))), none, none, none]) f250_393 rfl (Nat.le_of_ble_eq_true rfl) rfl rfl (Nat.le_of_ble_eq_true rfl) rfl (Nat.le_of_ble_eq_true rfl) rfl rfl ?_
  exact h1
theorem g250_396 {d c s : Nat} {i N : Nat} {v : Int32} {I : zI} {L : zL} {P : zP} {S : zS} {top : Nat} {Q : Option zV → zM → Prop} (sN : S 9 0 0 = (20, N)) (hN : N ≤ 3072) 
    (h1 : (v = v) → Ev d c s 250 1073 [some (zr (some (9, 0, 0))), some (zr (some (0, 0, 0))), some (zr (some (1, 0, 0))), some (zi (nI i))] [] (I, L, zpj P, zsj S, top) Q)
    (h2 : (¬ v = v) → Q (some (zi (nI 0))) (I, L, zpj P, zsj S, top)) : Ev d c s 250 396 [some (zr (some (9, 0, 0))), some (zr (some (0, 0, 0))), some (zr (some (1, 0, 0))), some (zi (nI i))] [zi v, zi v] (I, L, zpj P, zsj S, top) Q := by
  refine Ew.icmp f250_396 rfl rfl (fun c1 => ?_) (fun c1 => ?_)
  · exact h1 c1
  · refine Ew.op (st' := zi (nI 0) :: _) f250_399 rfl rfl ?_
    refine Ew.iretb f250_400 (Or.inl rfl) ?_
    exact h2 c1
theorem g250_401 {d c s : Nat} {i N : Nat} {I : zI} {L : zL} {P : zP} {S : zS} {top : Nat} {Q : Option zV → zM → Prop} (sN : S 9 0 0 = (20, N)) (hN : N ≤ 3072) 
    (h1 : Ev d 0 0 121 0 [some (zr (some (0, 0, 0)))] [] (I, L, zpj P, zsj S, top) (fun r M' => Ev (d + 1) c s 250 405 [some (zr (some (9, 0, 0))), some (zr (some (0, 0, 0))), some (zr (some (1, 0, 0))), some (zi (nI i))] (zpush r []) M' Q)) : Ev (d + 1) c s 250 401 [some (zr (some (9, 0, 0))), some (zr (some (0, 0, 0))), some (zr (some (1, 0, 0))), some (zi (nI i))] [] (I, L, zpj P, zsj S, top) Q := by
  refine Ew.ld f250_401 rfl rfl rfl rfl ?_
  refine Ew.call0 (ls0 := [some (zr (some (0, 0, 0)))]) f250_402 rfl (Nat.le_of_ble_eq_true rfl) rfl rfl (Nat.le_of_ble_eq_true rfl) rfl (Nat.le_of_ble_eq_true rfl) rfl rfl ?_
  exact h1
theorem g250_405 {d c s : Nat} {i N : Nat} {v : Int32} {I : zI} {L : zL} {P : zP} {S : zS} {top : Nat} {Q : Option zV → zM → Prop} (sN : S 9 0 0 = (20, N)) (hN : N ≤ 3072) 
    (h1 : Ev d 0 0 211 0 [some (zr (some (1, 0, 0))), none] [] (I, L, zpj P, zsj S, top) (fun r M' => Ev (d + 1) c s 250 409 [some (zr (some (9, 0, 0))), some (zr (some (0, 0, 0))), some (zr (some (1, 0, 0))), some (zi (nI i))] (zpush r [zi v]) M' Q)) : Ev (d + 1) c s 250 405 [some (zr (some (9, 0, 0))), some (zr (some (0, 0, 0))), some (zr (some (1, 0, 0))), some (zi (nI i))] [zi v] (I, L, zpj P, zsj S, top) Q := by
  refine Ew.ld f250_405 rfl rfl rfl rfl ?_
  refine Ew.call0 (ls0 := [some (zr (some (1, 0, 0))), none]) f250_406 rfl (Nat.le_of_ble_eq_true rfl) rfl rfl (Nat.le_of_ble_eq_true rfl) rfl (Nat.le_of_ble_eq_true rfl) rfl rfl ?_
  exact h1
theorem g250_409 {d c s : Nat} {i N : Nat} {v : Int32} {I : zI} {L : zL} {P : zP} {S : zS} {top : Nat} {Q : Option zV → zM → Prop} (sN : S 9 0 0 = (20, N)) (hN : N ≤ 3072) 
    (h1 : (v = v) → Ev d c s 250 1073 [some (zr (some (9, 0, 0))), some (zr (some (0, 0, 0))), some (zr (some (1, 0, 0))), some (zi (nI i))] [] (I, L, zpj P, zsj S, top) Q)
    (h2 : (¬ v = v) → Q (some (zi (nI 0))) (I, L, zpj P, zsj S, top)) : Ev d c s 250 409 [some (zr (some (9, 0, 0))), some (zr (some (0, 0, 0))), some (zr (some (1, 0, 0))), some (zi (nI i))] [zi v, zi v] (I, L, zpj P, zsj S, top) Q := by
  refine Ew.icmp f250_409 rfl rfl (fun c1 => ?_) (fun c1 => ?_)
  · exact h1 c1
  · refine Ew.op (st' := zi (nI 0) :: _) f250_412 rfl rfl ?_
    refine Ew.iretb f250_413 (Or.inl rfl) ?_
    exact h2 c1
theorem g250_414 {d c s : Nat} {i N : Nat} {I : zI} {L : zL} {P : zP} {S : zS} {top : Nat} {Q : Option zV → zM → Prop} (sN : S 9 0 0 = (20, N)) (hN : N ≤ 3072) 
    (b1 : i + 1 < N)
    (b2 : i + 2 < N)
    (h1 : Ev d 0 0 122 0 [some (zr (some (0, 0, 0))), some (zi (I 9 0 0 (i + 1))), some (zi (I 9 0 0 (i + 2)))] [] (I, L, zpj P, zsj S, top) (fun r M' => Ev (d + 1) c s 250 428 [some (zr (some (9, 0, 0))), some (zr (some (0, 0, 0))), some (zr (some (1, 0, 0))), some (zi (nI i))] (zpush r []) M' Q)) : Ev (d + 1) c s 250 414 [some (zr (some (9, 0, 0))), some (zr (some (0, 0, 0))), some (zr (some (1, 0, 0))), some (zi (nI i))] [] (I, L, zpj P, zsj S, top) Q := by
  refine Ew.ld f250_414 rfl rfl rfl rfl ?_
  refine Ew.ld f250_415 rfl rfl rfl rfl ?_
  refine Ew.ld f250_416 rfl rfl rfl rfl ?_
  refine Ew.op (st' := zi (nI 1) :: _) f250_417 rfl rfl ?_
  refine Ew.addn f250_418 rfl ?_
  refine Ew.ialdn f250_419 (by show (S 9 0 0).1 = _; rw [sN]) (by show _ < (S 9 0 0).2; rw [sN]; exact b1) (by show (S 9 0 0).2 < 5000; rw [sN]; omega) rfl ?_
  refine Ew.ld f250_420 rfl rfl rfl rfl ?_
  refine Ew.ld f250_421 rfl rfl rfl rfl ?_
  refine Ew.op (st' := zi (nI 2) :: _) f250_422 rfl rfl ?_
  refine Ew.addn f250_423 rfl ?_
  refine Ew.ialdn f250_424 (by show (S 9 0 0).1 = _; rw [sN]) (by show _ < (S 9 0 0).2; rw [sN]; exact b2) (by show (S 9 0 0).2 < 5000; rw [sN]; omega) rfl ?_
  refine Ew.call0 (ls0 := [some (zr (some (0, 0, 0))), some (zi (I 9 0 0 (i + 1))), some (zi (I 9 0 0 (i + 2)))]) f250_425 rfl (Nat.le_of_ble_eq_true rfl) rfl rfl (Nat.le_of_ble_eq_true rfl) rfl (Nat.le_of_ble_eq_true rfl) rfl rfl ?_
  exact h1
theorem g250_428 {d c s : Nat} {i N : Nat} {v : Int32} {I : zI} {L : zL} {P : zP} {S : zS} {top : Nat} {Q : Option zV → zM → Prop} (sN : S 9 0 0 = (20, N)) (hN : N ≤ 3072) 
    (b1 : i + 1 < N)
    (b2 : i + 2 < N)
    (h1 : Ev d 0 0 214 0 [some (zr (some (1, 0, 0))), some (zi (I 9 0 0 (i + 1))), some (zi (I 9 0 0 (i + 2))), none] [] (I, L, zpj P, zsj S, top) (fun r M' => Ev (d + 1) c s 250 442 [some (zr (some (9, 0, 0))), some (zr (some (0, 0, 0))), some (zr (some (1, 0, 0))), some (zi (nI i))] (zpush r [zi v]) M' Q)) : Ev (d + 1) c s 250 428 [some (zr (some (9, 0, 0))), some (zr (some (0, 0, 0))), some (zr (some (1, 0, 0))), some (zi (nI i))] [zi v] (I, L, zpj P, zsj S, top) Q := by
  refine Ew.ld f250_428 rfl rfl rfl rfl ?_
  refine Ew.ld f250_429 rfl rfl rfl rfl ?_
  refine Ew.ld f250_430 rfl rfl rfl rfl ?_
  refine Ew.op (st' := zi (nI 1) :: _) f250_431 rfl rfl ?_
  refine Ew.addn f250_432 rfl ?_
  refine Ew.ialdn f250_433 (by show (S 9 0 0).1 = _; rw [sN]) (by show _ < (S 9 0 0).2; rw [sN]; exact b1) (by show (S 9 0 0).2 < 5000; rw [sN]; omega) rfl ?_
  refine Ew.ld f250_434 rfl rfl rfl rfl ?_
  refine Ew.ld f250_435 rfl rfl rfl rfl ?_
  refine Ew.op (st' := zi (nI 2) :: _) f250_436 rfl rfl ?_
  refine Ew.addn f250_437 rfl ?_
  refine Ew.ialdn f250_438 (by show (S 9 0 0).1 = _; rw [sN]) (by show _ < (S 9 0 0).2; rw [sN]; exact b2) (by show (S 9 0 0).2 < 5000; rw [sN]; omega) rfl ?_
  refine Ew.call0 (ls0 := [some (zr (some (1, 0, 0))), some (zi (I 9 0 0 (i + 1))), some (zi (I 9 0 0 (i + 2))), none]) f250_439 rfl (Nat.le_of_ble_eq_true rfl) rfl rfl (Nat.le_of_ble_eq_true rfl) rfl (Nat.le_of_ble_eq_true rfl) rfl rfl ?_
  exact h1
theorem g250_442 {d c s : Nat} {i N : Nat} {v : Int32} {I : zI} {L : zL} {P : zP} {S : zS} {top : Nat} {Q : Option zV → zM → Prop} (sN : S 9 0 0 = (20, N)) (hN : N ≤ 3072) 
    (h1 : (v = v) → Ev d c s 250 1073 [some (zr (some (9, 0, 0))), some (zr (some (0, 0, 0))), some (zr (some (1, 0, 0))), some (zi (nI i))] [] (I, L, zpj P, zsj S, top) Q)
    (h2 : (¬ v = v) → Q (some (zi (nI 0))) (I, L, zpj P, zsj S, top)) : Ev d c s 250 442 [some (zr (some (9, 0, 0))), some (zr (some (0, 0, 0))), some (zr (some (1, 0, 0))), some (zi (nI i))] [zi v, zi v] (I, L, zpj P, zsj S, top) Q := by
  refine Ew.icmp f250_442 rfl rfl (fun c1 => ?_) (fun c1 => ?_)
  · exact h1 c1
  · refine Ew.op (st' := zi (nI 0) :: _) f250_445 rfl rfl ?_
    refine Ew.iretb f250_446 (Or.inl rfl) ?_
    exact h2 c1
theorem g250_447 {d c s : Nat} {i N : Nat} {I : zI} {L : zL} {P : zP} {S : zS} {top : Nat} {Q : Option zV → zM → Prop} (sN : S 9 0 0 = (20, N)) (hN : N ≤ 3072) 
    (b1 : i + 1 < N)
    (b2 : i + 2 < N)
    (h1 : Ev d 0 0 123 0 [some (zr (some (0, 0, 0))), some (zi (I 9 0 0 (i + 1))), some (zi (I 9 0 0 (i + 2)))] [] (I, L, zpj P, zsj S, top) (fun r M' => Ev (d + 1) c s 250 461 [some (zr (some (9, 0, 0))), some (zr (some (0, 0, 0))), some (zr (some (1, 0, 0))), some (zi (nI i))] (zpush r []) M' Q)) : Ev (d + 1) c s 250 447 [some (zr (some (9, 0, 0))), some (zr (some (0, 0, 0))), some (zr (some (1, 0, 0))), some (zi (nI i))] [] (I, L, zpj P, zsj S, top) Q := by
  refine Ew.ld f250_447 rfl rfl rfl rfl ?_
  refine Ew.ld f250_448 rfl rfl rfl rfl ?_
  refine Ew.ld f250_449 rfl rfl rfl rfl ?_
  refine Ew.op (st' := zi (nI 1) :: _) f250_450 rfl rfl ?_
  refine Ew.addn f250_451 rfl ?_
  refine Ew.ialdn f250_452 (by show (S 9 0 0).1 = _; rw [sN]) (by show _ < (S 9 0 0).2; rw [sN]; exact b1) (by show (S 9 0 0).2 < 5000; rw [sN]; omega) rfl ?_
  refine Ew.ld f250_453 rfl rfl rfl rfl ?_
  refine Ew.ld f250_454 rfl rfl rfl rfl ?_
  refine Ew.op (st' := zi (nI 2) :: _) f250_455 rfl rfl ?_
  refine Ew.addn f250_456 rfl ?_
  refine Ew.ialdn f250_457 (by show (S 9 0 0).1 = _; rw [sN]) (by show _ < (S 9 0 0).2; rw [sN]; exact b2) (by show (S 9 0 0).2 < 5000; rw [sN]; omega) rfl ?_
  refine Ew.call0 (ls0 := [some (zr (some (0, 0, 0))), some (zi (I 9 0 0 (i + 1))), some (zi (I 9 0 0 (i + 2)))]) f250_458 rfl (Nat.le_of_ble_eq_true rfl) rfl rfl (Nat.le_of_ble_eq_true rfl) rfl (Nat.le_of_ble_eq_true rfl) rfl rfl ?_
  exact h1
theorem g250_461 {d c s : Nat} {i N : Nat} {v : Int32} {I : zI} {L : zL} {P : zP} {S : zS} {top : Nat} {Q : Option zV → zM → Prop} (sN : S 9 0 0 = (20, N)) (hN : N ≤ 3072) 
    (b1 : i + 1 < N)
    (b2 : i + 2 < N)
    (h1 : Ev d 0 0 215 0 [some (zr (some (1, 0, 0))), some (zi (I 9 0 0 (i + 1))), some (zi (I 9 0 0 (i + 2)))] [] (I, L, zpj P, zsj S, top) (fun r M' => Ev (d + 1) c s 250 475 [some (zr (some (9, 0, 0))), some (zr (some (0, 0, 0))), some (zr (some (1, 0, 0))), some (zi (nI i))] (zpush r [zi v]) M' Q)) : Ev (d + 1) c s 250 461 [some (zr (some (9, 0, 0))), some (zr (some (0, 0, 0))), some (zr (some (1, 0, 0))), some (zi (nI i))] [zi v] (I, L, zpj P, zsj S, top) Q := by
  refine Ew.ld f250_461 rfl rfl rfl rfl ?_
  refine Ew.ld f250_462 rfl rfl rfl rfl ?_
  refine Ew.ld f250_463 rfl rfl rfl rfl ?_
  refine Ew.op (st' := zi (nI 1) :: _) f250_464 rfl rfl ?_
  refine Ew.addn f250_465 rfl ?_
  refine Ew.ialdn f250_466 (by show (S 9 0 0).1 = _; rw [sN]) (by show _ < (S 9 0 0).2; rw [sN]; exact b1) (by show (S 9 0 0).2 < 5000; rw [sN]; omega) rfl ?_
  refine Ew.ld f250_467 rfl rfl rfl rfl ?_
  refine Ew.ld f250_468 rfl rfl rfl rfl ?_
  refine Ew.op (st' := zi (nI 2) :: _) f250_469 rfl rfl ?_
  refine Ew.addn f250_470 rfl ?_
  refine Ew.ialdn f250_471 (by show (S 9 0 0).1 = _; rw [sN]) (by show _ < (S 9 0 0).2; rw [sN]; exact b2) (by show (S 9 0 0).2 < 5000; rw [sN]; omega) rfl ?_
  refine Ew.call0 (ls0 := [some (zr (some (1, 0, 0))), some (zi (I 9 0 0 (i + 1))), some (zi (I 9 0 0 (i + 2)))]) f250_472 rfl (Nat.le_of_ble_eq_true rfl) rfl rfl (Nat.le_of_ble_eq_true rfl) rfl (Nat.le_of_ble_eq_true rfl) rfl rfl ?_
  exact h1
theorem g250_475 {d c s : Nat} {i N : Nat} {v : Int32} {I : zI} {L : zL} {P : zP} {S : zS} {top : Nat} {Q : Option zV → zM → Prop} (sN : S 9 0 0 = (20, N)) (hN : N ≤ 3072) 
    (h1 : (v = v) → Ev d c s 250 1073 [some (zr (some (9, 0, 0))), some (zr (some (0, 0, 0))), some (zr (some (1, 0, 0))), some (zi (nI i))] [] (I, L, zpj P, zsj S, top) Q)
    (h2 : (¬ v = v) → Q (some (zi (nI 0))) (I, L, zpj P, zsj S, top)) : Ev d c s 250 475 [some (zr (some (9, 0, 0))), some (zr (some (0, 0, 0))), some (zr (some (1, 0, 0))), some (zi (nI i))] [zi v, zi v] (I, L, zpj P, zsj S, top) Q := by
  refine Ew.icmp f250_475 rfl rfl (fun c1 => ?_) (fun c1 => ?_)
  · exact h1 c1
  · refine Ew.op (st' := zi (nI 0) :: _) f250_478 rfl rfl ?_
    refine Ew.iretb f250_479 (Or.inl rfl) ?_
    exact h2 c1
theorem g250_480 {d c s : Nat} {i N : Nat} {I : zI} {L : zL} {P : zP} {S : zS} {top : Nat} {Q : Option zV → zM → Prop} (sN : S 9 0 0 = (20, N)) (hN : N ≤ 3072) 
    (b1 : i + 1 < N)
    (h1 : Ev d 0 0 124 0 [some (zr (some (0, 0, 0))), some (zi (I 9 0 0 (i + 1)))] [] (I, L, zpj P, zsj S, top) (fun r M' => Ev (d + 1) c s 250 489 [some (zr (some (9, 0, 0))), some (zr (some (0, 0, 0))), some (zr (some (1, 0, 0))), some (zi (nI i))] (zpush r []) M' Q)) : Ev (d + 1) c s 250 480 [some (zr (some (9, 0, 0))), some (zr (some (0, 0, 0))), some (zr (some (1, 0, 0))), some (zi (nI i))] [] (I, L, zpj P, zsj S, top) Q := by
  refine Ew.ld f250_480 rfl rfl rfl rfl ?_
  refine Ew.ld f250_481 rfl rfl rfl rfl ?_
  refine Ew.ld f250_482 rfl rfl rfl rfl ?_
  refine Ew.op (st' := zi (nI 1) :: _) f250_483 rfl rfl ?_
  refine Ew.addn f250_484 rfl ?_
  refine Ew.ialdn f250_485 (by show (S 9 0 0).1 = _; rw [sN]) (by show _ < (S 9 0 0).2; rw [sN]; exact b1) (by show (S 9 0 0).2 < 5000; rw [sN]; omega) rfl ?_
  refine Ew.call0 (ls0 := [some (zr (some (0, 0, 0))), some (zi (I 9 0 0 (i + 1)))]) f250_486 rfl (Nat.le_of_ble_eq_true rfl) rfl rfl (Nat.le_of_ble_eq_true rfl) rfl (Nat.le_of_ble_eq_true rfl) rfl rfl ?_
  exact h1
theorem g250_489 {d c s : Nat} {i N : Nat} {v : Int32} {I : zI} {L : zL} {P : zP} {S : zS} {top : Nat} {Q : Option zV → zM → Prop} (sN : S 9 0 0 = (20, N)) (hN : N ≤ 3072) 
    (b1 : i + 1 < N)
    (h1 : Ev d 0 0 218 0 [some (zr (some (1, 0, 0))), some (zi (I 9 0 0 (i + 1)))] [] (I, L, zpj P, zsj S, top) (fun r M' => Ev (d + 1) c s 250 498 [some (zr (some (9, 0, 0))), some (zr (some (0, 0, 0))), some (zr (some (1, 0, 0))), some (zi (nI i))] (zpush r [zi v]) M' Q)) : Ev (d + 1) c s 250 489 [some (zr (some (9, 0, 0))), some (zr (some (0, 0, 0))), some (zr (some (1, 0, 0))), some (zi (nI i))] [zi v] (I, L, zpj P, zsj S, top) Q := by
  refine Ew.ld f250_489 rfl rfl rfl rfl ?_
  refine Ew.ld f250_490 rfl rfl rfl rfl ?_
  refine Ew.ld f250_491 rfl rfl rfl rfl ?_
  refine Ew.op (st' := zi (nI 1) :: _) f250_492 rfl rfl ?_
  refine Ew.addn f250_493 rfl ?_
  refine Ew.ialdn f250_494 (by show (S 9 0 0).1 = _; rw [sN]) (by show _ < (S 9 0 0).2; rw [sN]; exact b1) (by show (S 9 0 0).2 < 5000; rw [sN]; omega) rfl ?_
  refine Ew.call0 (ls0 := [some (zr (some (1, 0, 0))), some (zi (I 9 0 0 (i + 1)))]) f250_495 rfl (Nat.le_of_ble_eq_true rfl) rfl rfl (Nat.le_of_ble_eq_true rfl) rfl (Nat.le_of_ble_eq_true rfl) rfl rfl ?_
  exact h1
theorem g250_498 {d c s : Nat} {i N : Nat} {v : Int32} {I : zI} {L : zL} {P : zP} {S : zS} {top : Nat} {Q : Option zV → zM → Prop} (sN : S 9 0 0 = (20, N)) (hN : N ≤ 3072) 
    (h1 : (v = v) → Ev d c s 250 1073 [some (zr (some (9, 0, 0))), some (zr (some (0, 0, 0))), some (zr (some (1, 0, 0))), some (zi (nI i))] [] (I, L, zpj P, zsj S, top) Q)
    (h2 : (¬ v = v) → Q (some (zi (nI 0))) (I, L, zpj P, zsj S, top)) : Ev d c s 250 498 [some (zr (some (9, 0, 0))), some (zr (some (0, 0, 0))), some (zr (some (1, 0, 0))), some (zi (nI i))] [zi v, zi v] (I, L, zpj P, zsj S, top) Q := by
  refine Ew.icmp f250_498 rfl rfl (fun c1 => ?_) (fun c1 => ?_)
  · exact h1 c1
  · refine Ew.op (st' := zi (nI 0) :: _) f250_501 rfl rfl ?_
    refine Ew.iretb f250_502 (Or.inl rfl) ?_
    exact h2 c1
theorem g250_503 {d c s : Nat} {i N : Nat} {I : zI} {L : zL} {P : zP} {S : zS} {top : Nat} {Q : Option zV → zM → Prop} (sN : S 9 0 0 = (20, N)) (hN : N ≤ 3072) 
    (b1 : i + 1 < N)
    (b2 : i + 2 < N)
    (h1 : Ev d 0 0 125 0 [some (zr (some (0, 0, 0))), some (zi (I 9 0 0 (i + 1))), some (zi (I 9 0 0 (i + 2)))] [] (I, L, zpj P, zsj S, top) (fun r M' => Ev (d + 1) c s 250 517 [some (zr (some (9, 0, 0))), some (zr (some (0, 0, 0))), some (zr (some (1, 0, 0))), some (zi (nI i))] (zpush r []) M' Q)) : Ev (d + 1) c s 250 503 [some (zr (some (9, 0, 0))), some (zr (some (0, 0, 0))), some (zr (some (1, 0, 0))), some (zi (nI i))] [] (I, L, zpj P, zsj S, top) Q := by
  refine Ew.ld f250_503 rfl rfl rfl rfl ?_
  refine Ew.ld f250_504 rfl rfl rfl rfl ?_
  refine Ew.ld f250_505 rfl rfl rfl rfl ?_
  refine Ew.op (st' := zi (nI 1) :: _) f250_506 rfl rfl ?_
  refine Ew.addn f250_507 rfl ?_
  refine Ew.ialdn f250_508 (by show (S 9 0 0).1 = _; rw [sN]) (by show _ < (S 9 0 0).2; rw [sN]; exact b1) (by show (S 9 0 0).2 < 5000; rw [sN]; omega) rfl ?_
  refine Ew.ld f250_509 rfl rfl rfl rfl ?_
  refine Ew.ld f250_510 rfl rfl rfl rfl ?_
  refine Ew.op (st' := zi (nI 2) :: _) f250_511 rfl rfl ?_
  refine Ew.addn f250_512 rfl ?_
  refine Ew.ialdn f250_513 (by show (S 9 0 0).1 = _; rw [sN]) (by show _ < (S 9 0 0).2; rw [sN]; exact b2) (by show (S 9 0 0).2 < 5000; rw [sN]; omega) rfl ?_
  refine Ew.call0 (ls0 := [some (zr (some (0, 0, 0))), some (zi (I 9 0 0 (i + 1))), some (zi (I 9 0 0 (i + 2)))]) f250_514 rfl (Nat.le_of_ble_eq_true rfl) rfl rfl (Nat.le_of_ble_eq_true rfl) rfl (Nat.le_of_ble_eq_true rfl) rfl rfl ?_
  exact h1
theorem g250_517 {d c s : Nat} {i N : Nat} {v : Int32} {I : zI} {L : zL} {P : zP} {S : zS} {top : Nat} {Q : Option zV → zM → Prop} (sN : S 9 0 0 = (20, N)) (hN : N ≤ 3072) 
    (b1 : i + 1 < N)
    (b2 : i + 2 < N)
    (h1 : Ev d 0 0 220 0 [some (zr (some (1, 0, 0))), some (zi (I 9 0 0 (i + 1))), some (zi (I 9 0 0 (i + 2)))] [] (I, L, zpj P, zsj S, top) (fun r M' => Ev (d + 1) c s 250 531 [some (zr (some (9, 0, 0))), some (zr (some (0, 0, 0))), some (zr (some (1, 0, 0))), some (zi (nI i))] (zpush r [zi v]) M' Q)) : Ev (d + 1) c s 250 517 [some (zr (some (9, 0, 0))), some (zr (some (0, 0, 0))), some (zr (some (1, 0, 0))), some (zi (nI i))] [zi v] (I, L, zpj P, zsj S, top) Q := by
  refine Ew.ld f250_517 rfl rfl rfl rfl ?_
  refine Ew.ld f250_518 rfl rfl rfl rfl ?_
  refine Ew.ld f250_519 rfl rfl rfl rfl ?_
  refine Ew.op (st' := zi (nI 1) :: _) f250_520 rfl rfl ?_
  refine Ew.addn f250_521 rfl ?_
  refine Ew.ialdn f250_522 (by show (S 9 0 0).1 = _; rw [sN]) (by show _ < (S 9 0 0).2; rw [sN]; exact b1) (by show (S 9 0 0).2 < 5000; rw [sN]; omega) rfl ?_
  refine Ew.ld f250_523 rfl rfl rfl rfl ?_
  refine Ew.ld f250_524 rfl rfl rfl rfl ?_
  refine Ew.op (st' := zi (nI 2) :: _) f250_525 rfl rfl ?_
  refine Ew.addn f250_526 rfl ?_
  refine Ew.ialdn f250_527 (by show (S 9 0 0).1 = _; rw [sN]) (by show _ < (S 9 0 0).2; rw [sN]; exact b2) (by show (S 9 0 0).2 < 5000; rw [sN]; omega) rfl ?_
  refine Ew.call0 (ls0 := [some (zr (some (1, 0, 0))), some (zi (I 9 0 0 (i + 1))), some (zi (I 9 0 0 (i + 2)))]) f250_528 rfl (Nat.le_of_ble_eq_true rfl) rfl rfl (Nat.le_of_ble_eq_true rfl) rfl (Nat.le_of_ble_eq_true rfl) rfl rfl ?_
  exact h1
theorem g250_531 {d c s : Nat} {i N : Nat} {v : Int32} {I : zI} {L : zL} {P : zP} {S : zS} {top : Nat} {Q : Option zV → zM → Prop} (sN : S 9 0 0 = (20, N)) (hN : N ≤ 3072) 
    (h1 : (v = v) → Ev d c s 250 1073 [some (zr (some (9, 0, 0))), some (zr (some (0, 0, 0))), some (zr (some (1, 0, 0))), some (zi (nI i))] [] (I, L, zpj P, zsj S, top) Q)
    (h2 : (¬ v = v) → Q (some (zi (nI 0))) (I, L, zpj P, zsj S, top)) : Ev d c s 250 531 [some (zr (some (9, 0, 0))), some (zr (some (0, 0, 0))), some (zr (some (1, 0, 0))), some (zi (nI i))] [zi v, zi v] (I, L, zpj P, zsj S, top) Q := by
  refine Ew.icmp f250_531 rfl rfl (fun c1 => ?_) (fun c1 => ?_)
  · exact h1 c1
  · refine Ew.op (st' := zi (nI 0) :: _) f250_534 rfl rfl ?_
    refine Ew.iretb f250_535 (Or.inl rfl) ?_
    exact h2 c1
theorem g250_536 {d c s : Nat} {i N : Nat} {I : zI} {L : zL} {P : zP} {S : zS} {top : Nat} {Q : Option zV → zM → Prop} (sN : S 9 0 0 = (20, N)) (hN : N ≤ 3072) 
    (b1 : i + 1 < N)
    (h1 : Ev d 0 0 126 0 [some (zr (some (0, 0, 0))), some (zi (I 9 0 0 (i + 1)))] [] (I, L, zpj P, zsj S, top) (fun r M' => Ev (d + 1) c s 250 545 [some (zr (some (9, 0, 0))), some (zr (some (0, 0, 0))), some (zr (some (1, 0, 0))), some (zi (nI i))] (zpush r []) M' Q)) : Ev (d + 1) c s 250 536 [some (zr (some (9, 0, 0))), some (zr (some (0, 0, 0))), some (zr (some (1, 0, 0))), some (zi (nI i))] [] (I, L, zpj P, zsj S, top) Q := by
  refine Ew.ld f250_536 rfl rfl rfl rfl ?_
  refine Ew.ld f250_537 rfl rfl rfl rfl ?_
  refine Ew.ld f250_538 rfl rfl rfl rfl ?_
  refine Ew.op (st' := zi (nI 1) :: _) f250_539 rfl rfl ?_
  refine Ew.addn f250_540 rfl ?_
  refine Ew.ialdn f250_541 (by show (S 9 0 0).1 = _; rw [sN]) (by show _ < (S 9 0 0).2; rw [sN]; exact b1) (by show (S 9 0 0).2 < 5000; rw [sN]; omega) rfl ?_
  refine Ew.call0 (ls0 := [some (zr (some (0, 0, 0))), some (zi (I 9 0 0 (i + 1)))]) f250_542 rfl (Nat.le_of_ble_eq_true rfl) rfl rfl (Nat.le_of_ble_eq_true rfl) rfl (Nat.le_of_ble_eq_true rfl) rfl rfl ?_
  exact h1
theorem g250_545 {d c s : Nat} {i N : Nat} {v : Int32} {I : zI} {L : zL} {P : zP} {S : zS} {top : Nat} {Q : Option zV → zM → Prop} (sN : S 9 0 0 = (20, N)) (hN : N ≤ 3072) 
    (b1 : i + 1 < N)
    (h1 : Ev d 0 0 222 0 [some (zr (some (1, 0, 0))), some (zi (I 9 0 0 (i + 1))), none, none, none, none] [] (I, L, zpj P, zsj S, top) (fun r M' => Ev (d + 1) c s 250 554 [some (zr (some (9, 0, 0))), some (zr (some (0, 0, 0))), some (zr (some (1, 0, 0))), some (zi (nI i))] (zpush r [zi v]) M' Q)) : Ev (d + 1) c s 250 545 [some (zr (some (9, 0, 0))), some (zr (some (0, 0, 0))), some (zr (some (1, 0, 0))), some (zi (nI i))] [zi v] (I, L, zpj P, zsj S, top) Q := by
  refine Ew.ld f250_545 rfl rfl rfl rfl ?_
  refine Ew.ld f250_546 rfl rfl rfl rfl ?_
  refine Ew.ld f250_547 rfl rfl rfl rfl ?_
  refine Ew.op (st' := zi (nI 1) :: _) f250_548 rfl rfl ?_
  refine Ew.addn f250_549 rfl ?_
  refine Ew.ialdn f250_550 (by show (S 9 0 0).1 = _; rw [sN]) (by show _ < (S 9 0 0).2; rw [sN]; exact b1) (by show (S 9 0 0).2 < 5000; rw [sN]; omega) rfl ?_
  refine Ew.call0 (ls0 := [some (zr (some (1, 0, 0))), some (zi (I 9 0 0 (i + 1))), none, none, none, none]) f250_551 rfl (Nat.le_of_ble_eq_true rfl) rfl rfl (Nat.le_of_ble_eq_true rfl) rfl (Nat.le_of_ble_eq_true rfl) rfl rfl ?_
  exact h1
theorem g250_554 {d c s : Nat} {i N : Nat} {v : Int32} {I : zI} {L : zL} {P : zP} {S : zS} {top : Nat} {Q : Option zV → zM → Prop} (sN : S 9 0 0 = (20, N)) (hN : N ≤ 3072) 
    (h1 : (v = v) → Ev d c s 250 1073 [some (zr (some (9, 0, 0))), some (zr (some (0, 0, 0))), some (zr (some (1, 0, 0))), some (zi (nI i))] [] (I, L, zpj P, zsj S, top) Q)
    (h2 : (¬ v = v) → Q (some (zi (nI 0))) (I, L, zpj P, zsj S, top)) : Ev d c s 250 554 [some (zr (some (9, 0, 0))), some (zr (some (0, 0, 0))), some (zr (some (1, 0, 0))), some (zi (nI i))] [zi v, zi v] (I, L, zpj P, zsj S, top) Q := by
  refine Ew.icmp f250_554 rfl rfl (fun c1 => ?_) (fun c1 => ?_)
  · exact h1 c1
  · refine Ew.op (st' := zi (nI 0) :: _) f250_557 rfl rfl ?_
    refine Ew.iretb f250_558 (Or.inl rfl) ?_
    exact h2 c1
theorem g250_559 {d c s : Nat} {i N : Nat} {I : zI} {L : zL} {P : zP} {S : zS} {top : Nat} {Q : Option zV → zM → Prop} (sN : S 9 0 0 = (20, N)) (hN : N ≤ 3072) 
    (b1 : i + 1 < N)
    (b2 : i + 2 < N)
    (b3 : i + 3 < N)
    (h1 : Ev d 0 0 127 0 [some (zr (some (0, 0, 0))), some (zi (I 9 0 0 (i + 1))), some (zi (I 9 0 0 (i + 2))), some (zi (I 9 0 0 (i + 3)))] [] (I, L, zpj P, zsj S, top) (fun r M' => Ev (d + 1) c s 250 578 [some (zr (some (9, 0, 0))), some (zr (some (0, 0, 0))), some (zr (some (1, 0, 0))), some (zi (nI i))] (zpush r []) M' Q)) : Ev (d + 1) c s 250 559 [some (zr (some (9, 0, 0))), some (zr (some (0, 0, 0))), some (zr (some (1, 0, 0))), some (zi (nI i))] [] (I, L, zpj P, zsj S, top) Q := by
  refine Ew.ld f250_559 rfl rfl rfl rfl ?_
  refine Ew.ld f250_560 rfl rfl rfl rfl ?_
  refine Ew.ld f250_561 rfl rfl rfl rfl ?_
  refine Ew.op (st' := zi (nI 1) :: _) f250_562 rfl rfl ?_
  refine Ew.addn f250_563 rfl ?_
  refine Ew.ialdn f250_564 (by show (S 9 0 0).1 = _; rw [sN]) (by show _ < (S 9 0 0).2; rw [sN]; exact b1) (by show (S 9 0 0).2 < 5000; rw [sN]; omega) rfl ?_
  refine Ew.ld f250_565 rfl rfl rfl rfl ?_
  refine Ew.ld f250_566 rfl rfl rfl rfl ?_
  refine Ew.op (st' := zi (nI 2) :: _) f250_567 rfl rfl ?_
  refine Ew.addn f250_568 rfl ?_
  refine Ew.ialdn f250_569 (by show (S 9 0 0).1 = _; rw [sN]) (by show _ < (S 9 0 0).2; rw [sN]; exact b2) (by show (S 9 0 0).2 < 5000; rw [sN]; omega) rfl ?_
  refine Ew.ld f250_570 rfl rfl rfl rfl ?_
  refine Ew.ld f250_571 rfl rfl rfl rfl ?_
  refine Ew.op (st' := zi (nI 3) :: _) f250_572 rfl rfl ?_
  refine Ew.addn f250_573 rfl ?_
  refine Ew.ialdn f250_574 (by show (S 9 0 0).1 = _; rw [sN]) (by show _ < (S 9 0 0).2; rw [sN]; exact b3) (by show (S 9 0 0).2 < 5000; rw [sN]; omega) rfl ?_
  refine Ew.call0 (ls0 := [some (zr (some (0, 0, 0))), some (zi (I 9 0 0 (i + 1))), some (zi (I 9 0 0 (i + 2))), some (zi (I 9 0 0 (i + 3)))]) f250_575 rfl (Nat.le_of_ble_eq_true rfl) rfl rfl (Nat.le_of_ble_eq_true rfl) rfl (Nat.le_of_ble_eq_true rfl) rfl rfl ?_
  exact h1
theorem g250_578 {d c s : Nat} {i N : Nat} {v : Int64} {I : zI} {L : zL} {P : zP} {S : zS} {top : Nat} {Q : Option zV → zM → Prop} (sN : S 9 0 0 = (20, N)) (hN : N ≤ 3072) 
    (b1 : i + 1 < N)
    (b2 : i + 2 < N)
    (b3 : i + 3 < N)
    (h1 : Ev d 0 0 227 0 [some (zr (some (1, 0, 0))), some (zi (I 9 0 0 (i + 1))), some (zi (I 9 0 0 (i + 2))), some (zi (I 9 0 0 (i + 3)))] [] (I, L, zpj P, zsj S, top) (fun r M' => Ev (d + 1) c s 250 597 [some (zr (some (9, 0, 0))), some (zr (some (0, 0, 0))), some (zr (some (1, 0, 0))), some (zi (nI i))] (zpush r [zl v]) M' Q)) : Ev (d + 1) c s 250 578 [some (zr (some (9, 0, 0))), some (zr (some (0, 0, 0))), some (zr (some (1, 0, 0))), some (zi (nI i))] [zl v] (I, L, zpj P, zsj S, top) Q := by
  refine Ew.ld f250_578 rfl rfl rfl rfl ?_
  refine Ew.ld f250_579 rfl rfl rfl rfl ?_
  refine Ew.ld f250_580 rfl rfl rfl rfl ?_
  refine Ew.op (st' := zi (nI 1) :: _) f250_581 rfl rfl ?_
  refine Ew.addn f250_582 rfl ?_
  refine Ew.ialdn f250_583 (by show (S 9 0 0).1 = _; rw [sN]) (by show _ < (S 9 0 0).2; rw [sN]; exact b1) (by show (S 9 0 0).2 < 5000; rw [sN]; omega) rfl ?_
  refine Ew.ld f250_584 rfl rfl rfl rfl ?_
  refine Ew.ld f250_585 rfl rfl rfl rfl ?_
  refine Ew.op (st' := zi (nI 2) :: _) f250_586 rfl rfl ?_
  refine Ew.addn f250_587 rfl ?_
  refine Ew.ialdn f250_588 (by show (S 9 0 0).1 = _; rw [sN]) (by show _ < (S 9 0 0).2; rw [sN]; exact b2) (by show (S 9 0 0).2 < 5000; rw [sN]; omega) rfl ?_
  refine Ew.ld f250_589 rfl rfl rfl rfl ?_
  refine Ew.ld f250_590 rfl rfl rfl rfl ?_
  refine Ew.op (st' := zi (nI 3) :: _) f250_591 rfl rfl ?_
  refine Ew.addn f250_592 rfl ?_
  refine Ew.ialdn f250_593 (by show (S 9 0 0).1 = _; rw [sN]) (by show _ < (S 9 0 0).2; rw [sN]; exact b3) (by show (S 9 0 0).2 < 5000; rw [sN]; omega) rfl ?_
  refine Ew.call0 (ls0 := [some (zr (some (1, 0, 0))), some (zi (I 9 0 0 (i + 1))), some (zi (I 9 0 0 (i + 2))), some (zi (I 9 0 0 (i + 3)))]) f250_594 rfl (Nat.le_of_ble_eq_true rfl) rfl rfl (Nat.le_of_ble_eq_true rfl) rfl (Nat.le_of_ble_eq_true rfl) rfl rfl ?_
  exact h1
theorem g250_597 {d c s : Nat} {i N : Nat} {v : Int64} {I : zI} {L : zL} {P : zP} {S : zS} {top : Nat} {Q : Option zV → zM → Prop} (sN : S 9 0 0 = (20, N)) (hN : N ≤ 3072) 
    (h1 : ((lg_cmp v v) = 0) → Ev d c s 250 1073 [some (zr (some (9, 0, 0))), some (zr (some (0, 0, 0))), some (zr (some (1, 0, 0))), some (zi (nI i))] [] (I, L, zpj P, zsj S, top) Q)
    (h2 : (¬ (lg_cmp v v) = 0) → Q (some (zi (nI 0))) (I, L, zpj P, zsj S, top)) : Ev d c s 250 597 [some (zr (some (9, 0, 0))), some (zr (some (0, 0, 0))), some (zr (some (1, 0, 0))), some (zi (nI i))] [zl v, zl v] (I, L, zpj P, zsj S, top) Q := by
  refine Ew.op (st' := zi (lg_cmp v v) :: _) f250_597 rfl rfl ?_
  refine Ew.ifc f250_598 rfl rfl (fun c1 => ?_) (fun c1 => ?_)
  · exact h1 c1
  · refine Ew.op (st' := zi (nI 0) :: _) f250_601 rfl rfl ?_
    refine Ew.iretb f250_602 (Or.inl rfl) ?_
    exact h2 c1
theorem g250_603 {d c s : Nat} {i N : Nat} {I : zI} {L : zL} {P : zP} {S : zS} {top : Nat} {Q : Option zV → zM → Prop} (sN : S 9 0 0 = (20, N)) (hN : N ≤ 3072) 
    (b1 : i + 1 < N)
    (b2 : i + 2 < N)
    (b3 : i + 3 < N)
    (h1 : Ev d 0 0 128 0 [some (zr (some (0, 0, 0))), some (zi (I 9 0 0 (i + 1))), some (zi (I 9 0 0 (i + 2))), some (zi (I 9 0 0 (i + 3)))] [] (I, L, zpj P, zsj S, top) (fun r M' => Ev (d + 1) c s 250 622 [some (zr (some (9, 0, 0))), some (zr (some (0, 0, 0))), some (zr (some (1, 0, 0))), some (zi (nI i))] (zpush r []) M' Q)) : Ev (d + 1) c s 250 603 [some (zr (some (9, 0, 0))), some (zr (some (0, 0, 0))), some (zr (some (1, 0, 0))), some (zi (nI i))] [] (I, L, zpj P, zsj S, top) Q := by
  refine Ew.ld f250_603 rfl rfl rfl rfl ?_
  refine Ew.ld f250_604 rfl rfl rfl rfl ?_
  refine Ew.ld f250_605 rfl rfl rfl rfl ?_
  refine Ew.op (st' := zi (nI 1) :: _) f250_606 rfl rfl ?_
  refine Ew.addn f250_607 rfl ?_
  refine Ew.ialdn f250_608 (by show (S 9 0 0).1 = _; rw [sN]) (by show _ < (S 9 0 0).2; rw [sN]; exact b1) (by show (S 9 0 0).2 < 5000; rw [sN]; omega) rfl ?_
  refine Ew.ld f250_609 rfl rfl rfl rfl ?_
  refine Ew.ld f250_610 rfl rfl rfl rfl ?_
  refine Ew.op (st' := zi (nI 2) :: _) f250_611 rfl rfl ?_
  refine Ew.addn f250_612 rfl ?_
  refine Ew.ialdn f250_613 (by show (S 9 0 0).1 = _; rw [sN]) (by show _ < (S 9 0 0).2; rw [sN]; exact b2) (by show (S 9 0 0).2 < 5000; rw [sN]; omega) rfl ?_
  refine Ew.ld f250_614 rfl rfl rfl rfl ?_
  refine Ew.ld f250_615 rfl rfl rfl rfl ?_
  refine Ew.op (st' := zi (nI 3) :: _) f250_616 rfl rfl ?_
  refine Ew.addn f250_617 rfl ?_
  refine Ew.ialdn f250_618 (by show (S 9 0 0).1 = _; rw [sN]) (by show _ < (S 9 0 0).2; rw [sN]; exact b3) (by show (S 9 0 0).2 < 5000; rw [sN]; omega) rfl ?_
  refine Ew.call0 (ls0 := [some (zr (some (0, 0, 0))), some (zi (I 9 0 0 (i + 1))), some (zi (I 9 0 0 (i + 2))), some (zi (I 9 0 0 (i + 3)))]) f250_619 rfl (Nat.le_of_ble_eq_true rfl) rfl rfl (Nat.le_of_ble_eq_true rfl) rfl (Nat.le_of_ble_eq_true rfl) rfl rfl ?_
  exact h1
theorem g250_622 {d c s : Nat} {i N : Nat} {v : Int64} {I : zI} {L : zL} {P : zP} {S : zS} {top : Nat} {Q : Option zV → zM → Prop} (sN : S 9 0 0 = (20, N)) (hN : N ≤ 3072) 
    (b1 : i + 1 < N)
    (b2 : i + 2 < N)
    (b3 : i + 3 < N)
    (h1 : Ev d 0 0 228 0 [some (zr (some (1, 0, 0))), some (zi (I 9 0 0 (i + 1))), some (zi (I 9 0 0 (i + 2))), some (zi (I 9 0 0 (i + 3))), none, none, none, none] [] (I, L, zpj P, zsj S, top) (fun r M' => Ev (d + 1) c s 250 641 [some (zr (some (9, 0, 0))), some (zr (some (0, 0, 0))), some (zr (some (1, 0, 0))), some (zi (nI i))] (zpush r [zl v]) M' Q)) : Ev (d + 1) c s 250 622 [some (zr (some (9, 0, 0))), some (zr (some (0, 0, 0))), some (zr (some (1, 0, 0))), some (zi (nI i))] [zl v] (I, L, zpj P, zsj S, top) Q := by
  refine Ew.ld f250_622 rfl rfl rfl rfl ?_
  refine Ew.ld f250_623 rfl rfl rfl rfl ?_
  refine Ew.ld f250_624 rfl rfl rfl rfl ?_
  refine Ew.op (st' := zi (nI 1) :: _) f250_625 rfl rfl ?_
  refine Ew.addn f250_626 rfl ?_
  refine Ew.ialdn f250_627 (by show (S 9 0 0).1 = _; rw [sN]) (by show _ < (S 9 0 0).2; rw [sN]; exact b1) (by show (S 9 0 0).2 < 5000; rw [sN]; omega) rfl ?_
  refine Ew.ld f250_628 rfl rfl rfl rfl ?_
  refine Ew.ld f250_629 rfl rfl rfl rfl ?_
  refine Ew.op (st' := zi (nI 2) :: _) f250_630 rfl rfl ?_
  refine Ew.addn f250_631 rfl ?_
  refine Ew.ialdn f250_632 (by show (S 9 0 0).1 = _; rw [sN]) (by show _ < (S 9 0 0).2; rw [sN]; exact b2) (by show (S 9 0 0).2 < 5000; rw [sN]; omega) rfl ?_
  refine Ew.ld f250_633 rfl rfl rfl rfl ?_
  refine Ew.ld f250_634 rfl rfl rfl rfl ?_
  refine Ew.op (st' := zi (nI 3) :: _) f250_635 rfl rfl ?_
  refine Ew.addn f250_636 rfl ?_
  refine Ew.ialdn f250_637 (by show (S 9 0 0).1 = _; rw [sN]) (by show _ < (S 9 0 0).2; rw [sN]; exact b3) (by show (S 9 0 0).2 < 5000; rw [sN]; omega) rfl ?_
  refine Ew.call0 (ls0 := [some (zr (some (1, 0, 0))), some (zi (I 9 0 0 (i + 1))), some (zi (I 9 0 0 (i + 2))), some (zi (I 9 0 0 (i + 3))), none, none, none, none]) f250_638 rfl (Nat.le_of_ble_eq_true rfl) rfl rfl (Nat.le_of_ble_eq_true rfl) rfl (Nat.le_of_ble_eq_true rfl) rfl rfl ?_
  exact h1
theorem g250_641 {d c s : Nat} {i N : Nat} {v : Int64} {I : zI} {L : zL} {P : zP} {S : zS} {top : Nat} {Q : Option zV → zM → Prop} (sN : S 9 0 0 = (20, N)) (hN : N ≤ 3072) 
    (h1 : ((lg_cmp v v) = 0) → Ev d c s 250 1073 [some (zr (some (9, 0, 0))), some (zr (some (0, 0, 0))), some (zr (some (1, 0, 0))), some (zi (nI i))] [] (I, L, zpj P, zsj S, top) Q)
    (h2 : (¬ (lg_cmp v v) = 0) → Q (some (zi (nI 0))) (I, L, zpj P, zsj S, top)) : Ev d c s 250 641 [some (zr (some (9, 0, 0))), some (zr (some (0, 0, 0))), some (zr (some (1, 0, 0))), some (zi (nI i))] [zl v, zl v] (I, L, zpj P, zsj S, top) Q := by
  refine Ew.op (st' := zi (lg_cmp v v) :: _) f250_641 rfl rfl ?_
  refine Ew.ifc f250_642 rfl rfl (fun c1 => ?_) (fun c1 => ?_)
  · exact h1 c1
  · refine Ew.op (st' := zi (nI 0) :: _) f250_645 rfl rfl ?_
    refine Ew.iretb f250_646 (Or.inl rfl) ?_
    exact h2 c1
theorem g250_647 {d c s : Nat} {i N : Nat} {I : zI} {L : zL} {P : zP} {S : zS} {top : Nat} {Q : Option zV → zM → Prop} (sN : S 9 0 0 = (20, N)) (hN : N ≤ 3072) 
    (b1 : i + 1 < N)
    (b2 : i + 2 < N)
    (h1 : Ev d 0 0 129 0 [some (zr (some (0, 0, 0))), some (zi (I 9 0 0 (i + 1))), some (zi (I 9 0 0 (i + 2)))] [] (I, L, zpj P, zsj S, top) (fun r M' => Ev (d + 1) c s 250 661 [some (zr (some (9, 0, 0))), some (zr (some (0, 0, 0))), some (zr (some (1, 0, 0))), some (zi (nI i))] (zpush r []) M' Q)) : Ev (d + 1) c s 250 647 [some (zr (some (9, 0, 0))), some (zr (some (0, 0, 0))), some (zr (some (1, 0, 0))), some (zi (nI i))] [] (I, L, zpj P, zsj S, top) Q := by
  refine Ew.ld f250_647 rfl rfl rfl rfl ?_
  refine Ew.ld f250_648 rfl rfl rfl rfl ?_
  refine Ew.ld f250_649 rfl rfl rfl rfl ?_
  refine Ew.op (st' := zi (nI 1) :: _) f250_650 rfl rfl ?_
  refine Ew.addn f250_651 rfl ?_
  refine Ew.ialdn f250_652 (by show (S 9 0 0).1 = _; rw [sN]) (by show _ < (S 9 0 0).2; rw [sN]; exact b1) (by show (S 9 0 0).2 < 5000; rw [sN]; omega) rfl ?_
  refine Ew.ld f250_653 rfl rfl rfl rfl ?_
  refine Ew.ld f250_654 rfl rfl rfl rfl ?_
  refine Ew.op (st' := zi (nI 2) :: _) f250_655 rfl rfl ?_
  refine Ew.addn f250_656 rfl ?_
  refine Ew.ialdn f250_657 (by show (S 9 0 0).1 = _; rw [sN]) (by show _ < (S 9 0 0).2; rw [sN]; exact b2) (by show (S 9 0 0).2 < 5000; rw [sN]; omega) rfl ?_
  refine Ew.call0 (ls0 := [some (zr (some (0, 0, 0))), some (zi (I 9 0 0 (i + 1))), some (zi (I 9 0 0 (i + 2)))]) f250_658 rfl (Nat.le_of_ble_eq_true rfl) rfl rfl (Nat.le_of_ble_eq_true rfl) rfl (Nat.le_of_ble_eq_true rfl) rfl rfl ?_
  exact h1
theorem g250_661 {d c s : Nat} {i N : Nat} {v : Int32} {I : zI} {L : zL} {P : zP} {S : zS} {top : Nat} {Q : Option zV → zM → Prop} (sN : S 9 0 0 = (20, N)) (hN : N ≤ 3072) 
    (b1 : i + 1 < N)
    (b2 : i + 2 < N)
    (h1 : Ev d 0 0 229 0 [some (zr (some (1, 0, 0))), some (zi (I 9 0 0 (i + 1))), some (zi (I 9 0 0 (i + 2)))] [] (I, L, zpj P, zsj S, top) (fun r M' => Ev (d + 1) c s 250 675 [some (zr (some (9, 0, 0))), some (zr (some (0, 0, 0))), some (zr (some (1, 0, 0))), some (zi (nI i))] (zpush r [zi v]) M' Q)) : Ev (d + 1) c s 250 661 [some (zr (some (9, 0, 0))), some (zr (some (0, 0, 0))), some (zr (some (1, 0, 0))), some (zi (nI i))] [zi v] (I, L, zpj P, zsj S, top) Q := by
  refine Ew.ld f250_661 rfl rfl rfl rfl ?_
  refine Ew.ld f250_662 rfl rfl rfl rfl ?_
  refine Ew.ld f250_663 rfl rfl rfl rfl ?_
  refine Ew.op (st' := zi (nI 1) :: _) f250_664 rfl rfl ?_
  refine Ew.addn f250_665 rfl ?_
  refine Ew.ialdn f250_666 (by show (S 9 0 0).1 = _; rw [sN]) (by show _ < (S 9 0 0).2; rw [sN]; exact b1) (by show (S 9 0 0).2 < 5000; rw [sN]; omega) rfl ?_
  refine Ew.ld f250_667 rfl rfl rfl rfl ?_
  refine Ew.ld f250_668 rfl rfl rfl rfl ?_
  refine Ew.op (st' := zi (nI 2) :: _) f250_669 rfl rfl ?_
  refine Ew.addn f250_670 rfl ?_
  refine Ew.ialdn f250_671 (by show (S 9 0 0).1 = _; rw [sN]) (by show _ < (S 9 0 0).2; rw [sN]; exact b2) (by show (S 9 0 0).2 < 5000; rw [sN]; omega) rfl ?_
  refine Ew.call0 (ls0 := [some (zr (some (1, 0, 0))), some (zi (I 9 0 0 (i + 1))), some (zi (I 9 0 0 (i + 2)))]) f250_672 rfl (Nat.le_of_ble_eq_true rfl) rfl rfl (Nat.le_of_ble_eq_true rfl) rfl (Nat.le_of_ble_eq_true rfl) rfl rfl ?_
  exact h1
theorem g250_675 {d c s : Nat} {i N : Nat} {v : Int32} {I : zI} {L : zL} {P : zP} {S : zS} {top : Nat} {Q : Option zV → zM → Prop} (sN : S 9 0 0 = (20, N)) (hN : N ≤ 3072) 
    (h1 : (v = v) → Ev d c s 250 1073 [some (zr (some (9, 0, 0))), some (zr (some (0, 0, 0))), some (zr (some (1, 0, 0))), some (zi (nI i))] [] (I, L, zpj P, zsj S, top) Q)
    (h2 : (¬ v = v) → Q (some (zi (nI 0))) (I, L, zpj P, zsj S, top)) : Ev d c s 250 675 [some (zr (some (9, 0, 0))), some (zr (some (0, 0, 0))), some (zr (some (1, 0, 0))), some (zi (nI i))] [zi v, zi v] (I, L, zpj P, zsj S, top) Q := by
  refine Ew.icmp f250_675 rfl rfl (fun c1 => ?_) (fun c1 => ?_)
  · exact h1 c1
  · refine Ew.op (st' := zi (nI 0) :: _) f250_678 rfl rfl ?_
    refine Ew.iretb f250_679 (Or.inl rfl) ?_
    exact h2 c1
theorem g250_680 {d c s : Nat} {i N : Nat} {I : zI} {L : zL} {P : zP} {S : zS} {top : Nat} {Q : Option zV → zM → Prop} (sN : S 9 0 0 = (20, N)) (hN : N ≤ 3072) 
    (b1 : i + 1 < N)
    (h1 : Ev d 0 0 130 0 [some (zr (some (0, 0, 0))), some (zi (I 9 0 0 (i + 1))), none] [] (I, L, zpj P, zsj S, top) (fun r M' => Ev (d + 1) c s 250 689 [some (zr (some (9, 0, 0))), some (zr (some (0, 0, 0))), some (zr (some (1, 0, 0))), some (zi (nI i))] (zpush r []) M' Q)) : Ev (d + 1) c s 250 680 [some (zr (some (9, 0, 0))), some (zr (some (0, 0, 0))), some (zr (some (1, 0, 0))), some (zi (nI i))] [] (I, L, zpj P, zsj S, top) Q := by
  refine Ew.ld f250_680 rfl rfl rfl rfl ?_
  refine Ew.ld f250_681 rfl rfl rfl rfl ?_
  refine Ew.ld f250_682 rfl rfl rfl rfl ?_
  refine Ew.op (st' := zi (nI 1) :: _) f250_683 rfl rfl ?_
  refine Ew.addn f250_684 rfl ?_
  refine Ew.ialdn f250_685 (by show (S 9 0 0).1 = _; rw [sN]) (by show _ < (S 9 0 0).2; rw [sN]; exact b1) (by show (S 9 0 0).2 < 5000; rw [sN]; omega) rfl ?_
  refine Ew.call0 (ls0 := [some (zr (some (0, 0, 0))), some (zi (I 9 0 0 (i + 1))), none]) f250_686 rfl (Nat.le_of_ble_eq_true rfl) rfl rfl (Nat.le_of_ble_eq_true rfl) rfl (Nat.le_of_ble_eq_true rfl) rfl rfl ?_
  exact h1
theorem g250_689 {d c s : Nat} {i N : Nat} {v : Int32} {I : zI} {L : zL} {P : zP} {S : zS} {top : Nat} {Q : Option zV → zM → Prop} (sN : S 9 0 0 = (20, N)) (hN : N ≤ 3072) 
    (b1 : i + 1 < N)
    (h1 : Ev d 0 0 230 0 [some (zr (some (1, 0, 0))), some (zi (I 9 0 0 (i + 1))), none, none, none, none] [] (I, L, zpj P, zsj S, top) (fun r M' => Ev (d + 1) c s 250 698 [some (zr (some (9, 0, 0))), some (zr (some (0, 0, 0))), some (zr (some (1, 0, 0))), some (zi (nI i))] (zpush r [zi v]) M' Q)) : Ev (d + 1) c s 250 689 [some (zr (some (9, 0, 0))), some (zr (some (0, 0, 0))), some (zr (some (1, 0, 0))), some (zi (nI i))] [zi v] (I, L, zpj P, zsj S, top) Q := by
  refine Ew.ld f250_689 rfl rfl rfl rfl ?_
  refine Ew.ld f250_690 rfl rfl rfl rfl ?_
  refine Ew.ld f250_691 rfl rfl rfl rfl ?_
  refine Ew.op (st' := zi (nI 1) :: _) f250_692 rfl rfl ?_
  refine Ew.addn f250_693 rfl ?_
  refine Ew.ialdn f250_694 (by show (S 9 0 0).1 = _; rw [sN]) (by show _ < (S 9 0 0).2; rw [sN]; exact b1) (by show (S 9 0 0).2 < 5000; rw [sN]; omega) rfl ?_
  refine Ew.call0 (ls0 := [some (zr (some (1, 0, 0))), some (zi (I 9 0 0 (i + 1))), none, none, none, none]) f250_695 rfl (Nat.le_of_ble_eq_true rfl) rfl rfl (Nat.le_of_ble_eq_true rfl) rfl (Nat.le_of_ble_eq_true rfl) rfl rfl ?_
  exact h1
theorem g250_698 {d c s : Nat} {i N : Nat} {v : Int32} {I : zI} {L : zL} {P : zP} {S : zS} {top : Nat} {Q : Option zV → zM → Prop} (sN : S 9 0 0 = (20, N)) (hN : N ≤ 3072) 
    (h1 : (v = v) → Ev d c s 250 1073 [some (zr (some (9, 0, 0))), some (zr (some (0, 0, 0))), some (zr (some (1, 0, 0))), some (zi (nI i))] [] (I, L, zpj P, zsj S, top) Q)
    (h2 : (¬ v = v) → Q (some (zi (nI 0))) (I, L, zpj P, zsj S, top)) : Ev d c s 250 698 [some (zr (some (9, 0, 0))), some (zr (some (0, 0, 0))), some (zr (some (1, 0, 0))), some (zi (nI i))] [zi v, zi v] (I, L, zpj P, zsj S, top) Q := by
  refine Ew.icmp f250_698 rfl rfl (fun c1 => ?_) (fun c1 => ?_)
  · exact h1 c1
  · refine Ew.op (st' := zi (nI 0) :: _) f250_701 rfl rfl ?_
    refine Ew.iretb f250_702 (Or.inl rfl) ?_
    exact h2 c1
theorem g250_703 {d c s : Nat} {i N : Nat} {I : zI} {L : zL} {P : zP} {S : zS} {top : Nat} {Q : Option zV → zM → Prop} (sN : S 9 0 0 = (20, N)) (hN : N ≤ 3072) 
    (h1 : Ev d 0 0 131 0 [some (zr (some (0, 0, 0)))] [] (I, L, zpj P, zsj S, top) (fun r M' => Ev (d + 1) c s 250 707 [some (zr (some (9, 0, 0))), some (zr (some (0, 0, 0))), some (zr (some (1, 0, 0))), some (zi (nI i))] (zpush r []) M' Q)) : Ev (d + 1) c s 250 703 [some (zr (some (9, 0, 0))), some (zr (some (0, 0, 0))), some (zr (some (1, 0, 0))), some (zi (nI i))] [] (I, L, zpj P, zsj S, top) Q := by
  refine Ew.ld f250_703 rfl rfl rfl rfl ?_
  refine Ew.call0 (ls0 := [some (zr (some (0, 0, 0)))]) f250_704 rfl (Nat.le_of_ble_eq_true rfl) rfl rfl (Nat.le_of_ble_eq_true rfl) rfl (Nat.le_of_ble_eq_true rfl) rfl rfl ?_
  exact h1
theorem g250_707 {d c s : Nat} {i N : Nat} {v : Int32} {I : zI} {L : zL} {P : zP} {S : zS} {top : Nat} {Q : Option zV → zM → Prop} (sN : S 9 0 0 = (20, N)) (hN : N ≤ 3072) 
    (h1 : Ev d 0 0 231 0 [some (zr (some (1, 0, 0))), none] [] (I, L, zpj P, zsj S, top) (fun r M' => Ev (d + 1) c s 250 711 [some (zr (some (9, 0, 0))), some (zr (some (0, 0, 0))), some (zr (some (1, 0, 0))), some (zi (nI i))] (zpush r [zi v]) M' Q)) : Ev (d + 1) c s 250 707 [some (zr (some (9, 0, 0))), some (zr (some (0, 0, 0))), some (zr (some (1, 0, 0))), some (zi (nI i))] [zi v] (I, L, zpj P, zsj S, top) Q := by
  refine Ew.ld f250_707 rfl rfl rfl rfl ?_
  refine Ew.call0 (ls0 := [some (zr (some (1, 0, 0))), none]) f250_708 rfl (Nat.le_of_ble_eq_true rfl) rfl rfl (Nat.le_of_ble_eq_true rfl) rfl (Nat.le_of_ble_eq_true rfl) rfl rfl ?_
  exact h1
theorem g250_711 {d c s : Nat} {i N : Nat} {v : Int32} {I : zI} {L : zL} {P : zP} {S : zS} {top : Nat} {Q : Option zV → zM → Prop} (sN : S 9 0 0 = (20, N)) (hN : N ≤ 3072) 
    (h1 : (v = v) → Ev d c s 250 1073 [some (zr (some (9, 0, 0))), some (zr (some (0, 0, 0))), some (zr (some (1, 0, 0))), some (zi (nI i))] [] (I, L, zpj P, zsj S, top) Q)
    (h2 : (¬ v = v) → Q (some (zi (nI 0))) (I, L, zpj P, zsj S, top)) : Ev d c s 250 711 [some (zr (some (9, 0, 0))), some (zr (some (0, 0, 0))), some (zr (some (1, 0, 0))), some (zi (nI i))] [zi v, zi v] (I, L, zpj P, zsj S, top) Q := by
  refine Ew.icmp f250_711 rfl rfl (fun c1 => ?_) (fun c1 => ?_)
  · exact h1 c1
  · refine Ew.op (st' := zi (nI 0) :: _) f250_714 rfl rfl ?_
    refine Ew.iretb f250_715 (Or.inl rfl) ?_
    exact h2 c1
theorem g250_716 {d c s : Nat} {i N : Nat} {I : zI} {L : zL} {P : zP} {S : zS} {top : Nat} {Q : Option zV → zM → Prop} (sN : S 9 0 0 = (20, N)) (hN : N ≤ 3072) 
    (b1 : i + 1 < N)
    (h1 : Ev d 0 0 132 0 [some (zr (some (0, 0, 0))), some (zi (I 9 0 0 (i + 1)))] [] (I, L, zpj P, zsj S, top) (fun r M' => Ev (d + 1) c s 250 725 [some (zr (some (9, 0, 0))), some (zr (some (0, 0, 0))), some (zr (some (1, 0, 0))), some (zi (nI i))] (zpush r []) M' Q)) : Ev (d + 1) c s 250 716 [some (zr (some (9, 0, 0))), some (zr (some (0, 0, 0))), some (zr (some (1, 0, 0))), some (zi (nI i))] [] (I, L, zpj P, zsj S, top) Q := by
  refine Ew.ld f250_716 rfl rfl rfl rfl ?_
  refine Ew.ld f250_717 rfl rfl rfl rfl ?_
  refine Ew.ld f250_718 rfl rfl rfl rfl ?_
  refine Ew.op (st' := zi (nI 1) :: _) f250_719 rfl rfl ?_
  refine Ew.addn f250_720 rfl ?_
  refine Ew.ialdn f250_721 (by show (S 9 0 0).1 = _; rw [sN]) (by show _ < (S 9 0 0).2; rw [sN]; exact b1) (by show (S 9 0 0).2 < 5000; rw [sN]; omega) rfl ?_
  refine Ew.call0 (ls0 := [some (zr (some (0, 0, 0))), some (zi (I 9 0 0 (i + 1)))]) f250_722 rfl (Nat.le_of_ble_eq_true rfl) rfl rfl (Nat.le_of_ble_eq_true rfl) rfl (Nat.le_of_ble_eq_true rfl) rfl rfl ?_
  exact h1
theorem g250_725 {d c s : Nat} {i N : Nat} {v : Int32} {I : zI} {L : zL} {P : zP} {S : zS} {top : Nat} {Q : Option zV → zM → Prop} (sN : S 9 0 0 = (20, N)) (hN : N ≤ 3072) 
    (b1 : i + 1 < N)
    (h1 : Ev d 0 0 232 0 [some (zr (some (1, 0, 0))), some (zi (I 9 0 0 (i + 1))), none] [] (I, L, zpj P, zsj S, top) (fun r M' => Ev (d + 1) c s 250 734 [some (zr (some (9, 0, 0))), some (zr (some (0, 0, 0))), some (zr (some (1, 0, 0))), some (zi (nI i))] (zpush r [zi v]) M' Q)) : Ev (d + 1) c s 250 725 [some (zr (some (9, 0, 0))), some (zr (some (0, 0, 0))), some (zr (some (1, 0, 0))), some (zi (nI i))] [zi v] (I, L, zpj P, zsj S, top) Q := by
  refine Ew.ld f250_725 rfl rfl rfl rfl ?_
  refine Ew.ld f250_726 rfl rfl rfl rfl ?_
  refine Ew.ld f250_727 rfl rfl rfl rfl ?_
  refine Ew.op (st' := zi (nI 1) :: _) f250_728 rfl rfl ?_
  refine Ew.addn f250_729 rfl ?_
  refine Ew.ialdn f250_730 (by show (S 9 0 0).1 = _; rw [sN]) (by show _ < (S 9 0 0).2; rw [sN]; exact b1) (by show (S 9 0 0).2 < 5000; rw [sN]; omega) rfl ?_
  refine Ew.call0 (ls0 := [some (zr (some (1, 0, 0))), some (zi (I 9 0 0 (i + 1))), none]) f250_731 rfl (Nat.le_of_ble_eq_true rfl) rfl rfl (Nat.le_of_ble_eq_true rfl) rfl (Nat.le_of_ble_eq_true rfl) rfl rfl ?_
  exact h1
theorem g250_734 {d c s : Nat} {i N : Nat} {v : Int32} {I : zI} {L : zL} {P : zP} {S : zS} {top : Nat} {Q : Option zV → zM → Prop} (sN : S 9 0 0 = (20, N)) (hN : N ≤ 3072) 
    (h1 : (v = v) → Ev d c s 250 1073 [some (zr (some (9, 0, 0))), some (zr (some (0, 0, 0))), some (zr (some (1, 0, 0))), some (zi (nI i))] [] (I, L, zpj P, zsj S, top) Q)
    (h2 : (¬ v = v) → Q (some (zi (nI 0))) (I, L, zpj P, zsj S, top)) : Ev d c s 250 734 [some (zr (some (9, 0, 0))), some (zr (some (0, 0, 0))), some (zr (some (1, 0, 0))), some (zi (nI i))] [zi v, zi v] (I, L, zpj P, zsj S, top) Q := by
  refine Ew.icmp f250_734 rfl rfl (fun c1 => ?_) (fun c1 => ?_)
  · exact h1 c1
  · refine Ew.op (st' := zi (nI 0) :: _) f250_737 rfl rfl ?_
    refine Ew.iretb f250_738 (Or.inl rfl) ?_
    exact h2 c1
theorem g250_739 {d c s : Nat} {i N : Nat} {I : zI} {L : zL} {P : zP} {S : zS} {top : Nat} {Q : Option zV → zM → Prop} (sN : S 9 0 0 = (20, N)) (hN : N ≤ 3072) 
    (h1 : Ev d 0 0 133 0 [some (zr (some (0, 0, 0)))] [] (I, L, zpj P, zsj S, top) (fun r M' => Ev (d + 1) c s 250 743 [some (zr (some (9, 0, 0))), some (zr (some (0, 0, 0))), some (zr (some (1, 0, 0))), some (zi (nI i))] (zpush r []) M' Q)) : Ev (d + 1) c s 250 739 [some (zr (some (9, 0, 0))), some (zr (some (0, 0, 0))), some (zr (some (1, 0, 0))), some (zi (nI i))] [] (I, L, zpj P, zsj S, top) Q := by
  refine Ew.ld f250_739 rfl rfl rfl rfl ?_
  refine Ew.call0 (ls0 := [some (zr (some (0, 0, 0)))]) f250_740 rfl (Nat.le_of_ble_eq_true rfl) rfl rfl (Nat.le_of_ble_eq_true rfl) rfl (Nat.le_of_ble_eq_true rfl) rfl rfl ?_
  exact h1
theorem g250_743 {d c s : Nat} {i N : Nat} {v : Int32} {I : zI} {L : zL} {P : zP} {S : zS} {top : Nat} {Q : Option zV → zM → Prop} (sN : S 9 0 0 = (20, N)) (hN : N ≤ 3072) 
    (h1 : Ev d 0 0 233 0 [some (zr (some (1, 0, 0))), none] [] (I, L, zpj P, zsj S, top) (fun r M' => Ev (d + 1) c s 250 747 [some (zr (some (9, 0, 0))), some (zr (some (0, 0, 0))), some (zr (some (1, 0, 0))), some (zi (nI i))] (zpush r [zi v]) M' Q)) : Ev (d + 1) c s 250 743 [some (zr (some (9, 0, 0))), some (zr (some (0, 0, 0))), some (zr (some (1, 0, 0))), some (zi (nI i))] [zi v] (I, L, zpj P, zsj S, top) Q := by
  refine Ew.ld f250_743 rfl rfl rfl rfl ?_
  refine Ew.call0 (ls0 := [some (zr (some (1, 0, 0))), none]) f250_744 rfl (Nat.le_of_ble_eq_true rfl) rfl rfl (Nat.le_of_ble_eq_true rfl) rfl (Nat.le_of_ble_eq_true rfl) rfl rfl ?_
  exact h1
theorem g250_747 {d c s : Nat} {i N : Nat} {v : Int32} {I : zI} {L : zL} {P : zP} {S : zS} {top : Nat} {Q : Option zV → zM → Prop} (sN : S 9 0 0 = (20, N)) (hN : N ≤ 3072) 
    (h1 : (v = v) → Ev d c s 250 1073 [some (zr (some (9, 0, 0))), some (zr (some (0, 0, 0))), some (zr (some (1, 0, 0))), some (zi (nI i))] [] (I, L, zpj P, zsj S, top) Q)
    (h2 : (¬ v = v) → Q (some (zi (nI 0))) (I, L, zpj P, zsj S, top)) : Ev d c s 250 747 [some (zr (some (9, 0, 0))), some (zr (some (0, 0, 0))), some (zr (some (1, 0, 0))), some (zi (nI i))] [zi v, zi v] (I, L, zpj P, zsj S, top) Q := by
  refine Ew.icmp f250_747 rfl rfl (fun c1 => ?_) (fun c1 => ?_)
  · exact h1 c1
  · refine Ew.op (st' := zi (nI 0) :: _) f250_750 rfl rfl ?_
    refine Ew.iretb f250_751 (Or.inl rfl) ?_
    exact h2 c1
theorem g250_752 {d c s : Nat} {i N : Nat} {I : zI} {L : zL} {P : zP} {S : zS} {top : Nat} {Q : Option zV → zM → Prop} (sN : S 9 0 0 = (20, N)) (hN : N ≤ 3072) 
    (h1 : Ev d 0 0 134 0 [some (zr (some (0, 0, 0)))] [] (I, L, zpj P, zsj S, top) (fun r M' => Ev (d + 1) c s 250 756 [some (zr (some (9, 0, 0))), some (zr (some (0, 0, 0))), some (zr (some (1, 0, 0))), some (zi (nI i))] (zpush r []) M' Q)) : Ev (d + 1) c s 250 752 [some (zr (some (9, 0, 0))), some (zr (some (0, 0, 0))), some (zr (some (1, 0, 0))), some (zi (nI i))] [] (I, L, zpj P, zsj S, top) Q := by
  refine Ew.ld f250_752 rfl rfl rfl rfl ?_
  refine Ew.call0 (ls0 := [some (zr (some (0, 0, 0)))]) f250_753 rfl (Nat.le_of_ble_eq_true rfl) rfl rfl (Nat.le_of_ble_eq_true rfl) rfl (Nat.le_of_ble_eq_true rfl) rfl rfl ?_
  exact h1
theorem g250_756 {d c s : Nat} {i N : Nat} {v : Int32} {I : zI} {L : zL} {P : zP} {S : zS} {top : Nat} {Q : Option zV → zM → Prop} (sN : S 9 0 0 = (20, N)) (hN : N ≤ 3072) 
    (h1 : Ev d 0 0 234 0 [some (zr (some (1, 0, 0))), none] [] (I, L, zpj P, zsj S, top) (fun r M' => Ev (d + 1) c s 250 760 [some (zr (some (9, 0, 0))), some (zr (some (0, 0, 0))), some (zr (some (1, 0, 0))), some (zi (nI i))] (zpush r [zi v]) M' Q)) : Ev (d + 1) c s 250 756 [some (zr (some (9, 0, 0))), some (zr (some (0, 0, 0))), some (zr (some (1, 0, 0))), some (zi (nI i))] [zi v] (I, L, zpj P, zsj S, top) Q := by
  refine Ew.ld f250_756 rfl rfl rfl rfl ?_
  refine Ew.call0 (ls0 := [some (zr (some (1, 0, 0))), none]) f250_757 rfl (Nat.le_of_ble_eq_true rfl) rfl rfl (Nat.le_of_ble_eq_true rfl) rfl (Nat.le_of_ble_eq_true rfl) rfl rfl ?_
  exact h1
theorem g250_760 {d c s : Nat} {i N : Nat} {v : Int32} {I : zI} {L : zL} {P : zP} {S : zS} {top : Nat} {Q : Option zV → zM → Prop} (sN : S 9 0 0 = (20, N)) (hN : N ≤ 3072) 
    (h1 : (v = v) → Ev d c s 250 1073 [some (zr (some (9, 0, 0))), some (zr (some (0, 0, 0))), some (zr (some (1, 0, 0))), some (zi (nI i))] [] (I, L, zpj P, zsj S, top) Q)
    (h2 : (¬ v = v) → Q (some (zi (nI 0))) (I, L, zpj P, zsj S, top)) : Ev d c s 250 760 [some (zr (some (9, 0, 0))), some (zr (some (0, 0, 0))), some (zr (some (1, 0, 0))), some (zi (nI i))] [zi v, zi v] (I, L, zpj P, zsj S, top) Q := by
  refine Ew.icmp f250_760 rfl rfl (fun c1 => ?_) (fun c1 => ?_)
  · exact h1 c1
  · refine Ew.op (st' := zi (nI 0) :: _) f250_763 rfl rfl ?_
    refine Ew.iretb f250_764 (Or.inl rfl) ?_
    exact h2 c1
theorem g250_765 {d c s : Nat} {i N : Nat} {I : zI} {L : zL} {P : zP} {S : zS} {top : Nat} {Q : Option zV → zM → Prop} (sN : S 9 0 0 = (20, N)) (hN : N ≤ 3072) 
    (b1 : i + 1 < N)
    (b2 : i + 2 < N)
    (b3 : i + 3 < N)
    (b4 : i + 4 < N)
    (h1 : Ev d 0 0 135 0 [some (zr (some (0, 0, 0))), some (zi (I 9 0 0 (i + 1))), some (zi (I 9 0 0 (i + 2))), some (zi (I 9 0 0 (i + 3))), some (zi (I 9 0 0 (i + 4))), none] [] (I, L, zpj P, zsj S, top) (fun r M' => Ev (d + 1) c s 250 789 [some (zr (some (9, 0, 0))), some (zr (some (0, 0, 0))), some (zr (some (1, 0, 0))), some (zi (nI i))] (zpush r []) M' Q)) : Ev (d + 1) c s 250 765 [some (zr (some (9, 0, 0))), some (zr (some (0, 0, 0))), some (zr (some (1, 0, 0))), some (zi (nI i))] [] (I, L, zpj P, zsj S, top) Q := by
  refine Ew.ld f250_765 rfl rfl rfl rfl ?_
  refine Ew.ld f250_766 rfl rfl rfl rfl ?_
  refine Ew.ld f250_767 rfl rfl rfl rfl ?_
  refine Ew.op (st' := zi (nI 1) :: _) f250_768 rfl rfl ?_
  refine Ew.addn f250_769 rfl ?_
  refine Ew.ialdn f250_770 (by show (S 9 0 0).1 = _; rw [sN]) (by show _ < (S 9 0 0).2; rw [sN]; exact b1) (by show (S 9 0 0).2 < 5000; rw [sN]; omega) rfl ?_
  refine Ew.ld f250_771 rfl rfl rfl rfl ?_
  refine Ew.ld f250_772 rfl rfl rfl rfl ?_
  refine Ew.op (st' := zi (nI 2) :: _) f250_773 rfl rfl ?_
  refine Ew.addn f250_774 rfl ?_
  refine Ew.ialdn f250_775 (by show (S 9 0 0).1 = _; rw [sN]) (by show _ < (S 9 0 0).2; rw [sN]; exact b2) (by show (S 9 0 0).2 < 5000; rw [sN]; omega) rfl ?_
  refine Ew.ld f250_776 rfl rfl rfl rfl ?_
  refine Ew.ld f250_777 rfl rfl rfl rfl ?_
  refine Ew.op (st' := zi (nI 3) :: _) f250_778 rfl rfl ?_
  refine Ew.addn f250_779 rfl ?_
  refine Ew.ialdn f250_780 (by show (S 9 0 0).1 = _; rw [sN]) (by show _ < (S 9 0 0).2; rw [sN]; exact b3) (by show (S 9 0 0).2 < 5000; rw [sN]; omega) rfl ?_
  refine Ew.ld f250_781 rfl rfl rfl rfl ?_
  refine Ew.ld f250_782 rfl rfl rfl rfl ?_
  refine Ew.op (st' := zi (nI 4) :: _) f250_783 rfl rfl ?_
  refine Ew.addn f250_784 rfl ?_
  refine Ew.ialdn f250_785 (by show (S 9 0 0).1 = _; rw [sN]) (by show _ < (S 9 0 0).2; rw [sN]; exact b4) (by show (S 9 0 0).2 < 5000; rw [sN]; omega) rfl ?_
  refine Ew.call0 (ls0 := [some (zr (some (0, 0, 0))), some (zi (I 9 0 0 (i + 1))), some (zi (I 9 0 0 (i + 2))), some (zi (I 9 0 0 (i + 3))), some (zi (I 9 0 0 (i + 4))), none]) f250_786 rfl (Nat.le_of_ble_eq_true rfl) rfl rfl (Nat.le_of_ble_eq_true rfl) rfl (Nat.le_of_ble_eq_true rfl) rfl rfl ?_
  exact h1
theorem g250_789 {d c s : Nat} {i N : Nat} {v : Int32} {I : zI} {L : zL} {P : zP} {S : zS} {top : Nat} {Q : Option zV → zM → Prop} (sN : S 9 0 0 = (20, N)) (hN : N ≤ 3072) 
    (b1 : i + 1 < N)
    (b2 : i + 2 < N)
    (b3 : i + 3 < N)
    (b4 : i + 4 < N)
    (h1 : Ev d 0 0 238 0 [some (zr (some (1, 0, 0))), some (zi (I 9 0 0 (i + 1))), some (zi (I 9 0 0 (i + 2))), some (zi (I 9 0 0 (i + 3))), some (zi (I 9 0 0 (i + 4))), none, none, none, none, none] [] (I, L, zpj P, zsj S, top) (fun r M' => Ev (d + 1) c s 250 813 [some (zr (some (9, 0, 0))), some (zr (some (0, 0, 0))), some (zr (some (1, 0, 0))), some (zi (nI i))] (zpush r [zi v]) M' Q)) : Ev (d + 1) c s 250 789 [some (zr (some (9, 0, 0))), some (zr (some (0, 0, 0))), some (zr (some (1, 0, 0))), some (zi (nI i))] [zi v] (I, L, zpj P, zsj S, top) Q := by
  refine Ew.ld f250_789 rfl rfl rfl rfl ?_
  refine Ew.ld f250_790 rfl rfl rfl rfl ?_
  refine Ew.ld f250_791 rfl rfl rfl rfl ?_
  refine Ew.op (st' := zi (nI 1) :: _) f250_792 rfl rfl ?_
  refine Ew.addn f250_793 rfl ?_
  refine Ew.ialdn f250_794 (by show (S 9 0 0).1 = _; rw [sN]) (by show _ < (S 9 0 0).2; rw [sN]; exact b1) (by show (S 9 0 0).2 < 5000; rw [sN]; omega) rfl ?_
  refine Ew.ld f250_795 rfl rfl rfl rfl ?_
  refine Ew.ld f250_796 rfl rfl rfl rfl ?_
  refine Ew.op (st' := zi (nI 2) :: _) f250_797 rfl rfl ?_
  refine Ew.addn f250_798 rfl ?_
  refine Ew.ialdn f250_799 (by show (S 9 0 0).1 = _; rw [sN]) (by show _ < (S 9 0 0).2; rw [sN]; exact b2) (by show (S 9 0 0).2 < 5000; rw [sN]; omega) rfl ?_
  refine Ew.ld f250_800 rfl rfl rfl rfl ?_
  refine Ew.ld f250_801 rfl rfl rfl rfl ?_
  refine Ew.op (st' := zi (nI 3) :: _) f250_802 rfl rfl ?_
  refine Ew.addn f250_803 rfl ?_
  refine Ew.ialdn f250_804 (by show (S 9 0 0).1 = _; rw [sN]) (by show _ < (S 9 0 0).2; rw [sN]; exact b3) (by show (S 9 0 0).2 < 5000; rw [sN]; omega) rfl ?_
  refine Ew.ld f250_805 rfl rfl rfl rfl ?_
  refine Ew.ld f250_806 rfl rfl rfl rfl ?_
  refine Ew.op (st' := zi (nI 4) :: _) f250_807 rfl rfl ?_
  refine Ew.addn f250_808 rfl ?_
  refine Ew.ialdn f250_809 (by show (S 9 0 0).1 = _; rw [sN]) (by show _ < (S 9 0 0).2; rw [sN]; exact b4) (by show (S 9 0 0).2 < 5000; rw [sN]; omega) rfl ?_
  refine Ew.call0 (ls0 := [some (zr (some (1, 0, 0))), some (zi (I 9 0 0 (i + 1))), some (zi (I 9 0 0 (i + 2))), some (zi (I 9 0 0 (i + 3))), some (zi (I 9 0 0 (i + 4))), none, none, none, none, none]) f250_810 rfl (Nat.le_of_ble_eq_true rfl) rfl rfl (Nat.le_of_ble_eq_true rfl) rfl (Nat.le_of_ble_eq_true rfl) rfl rfl ?_
  exact h1
theorem g250_813 {d c s : Nat} {i N : Nat} {v : Int32} {I : zI} {L : zL} {P : zP} {S : zS} {top : Nat} {Q : Option zV → zM → Prop} (sN : S 9 0 0 = (20, N)) (hN : N ≤ 3072) 
    (h1 : (v = v) → Ev d c s 250 1073 [some (zr (some (9, 0, 0))), some (zr (some (0, 0, 0))), some (zr (some (1, 0, 0))), some (zi (nI i))] [] (I, L, zpj P, zsj S, top) Q)
    (h2 : (¬ v = v) → Q (some (zi (nI 0))) (I, L, zpj P, zsj S, top)) : Ev d c s 250 813 [some (zr (some (9, 0, 0))), some (zr (some (0, 0, 0))), some (zr (some (1, 0, 0))), some (zi (nI i))] [zi v, zi v] (I, L, zpj P, zsj S, top) Q := by
  refine Ew.icmp f250_813 rfl rfl (fun c1 => ?_) (fun c1 => ?_)
  · exact h1 c1
  · refine Ew.op (st' := zi (nI 0) :: _) f250_816 rfl rfl ?_
    refine Ew.iretb f250_817 (Or.inl rfl) ?_
    exact h2 c1
theorem g250_818 {d c s : Nat} {i N : Nat} {I : zI} {L : zL} {P : zP} {S : zS} {top : Nat} {Q : Option zV → zM → Prop} (sN : S 9 0 0 = (20, N)) (hN : N ≤ 3072) 
    (b1 : i + 1 < N)
    (b2 : i + 2 < N)
    (b3 : i + 3 < N)
    (h1 : Ev d 0 0 136 0 [some (zr (some (0, 0, 0))), some (zi (I 9 0 0 (i + 1))), some (zi (I 9 0 0 (i + 2))), some (zi (I 9 0 0 (i + 3))), none, none] [] (I, L, zpj P, zsj S, top) (fun r M' => Ev (d + 1) c s 250 837 [some (zr (some (9, 0, 0))), some (zr (some (0, 0, 0))), some (zr (some (1, 0, 0))), some (zi (nI i))] (zpush r []) M' Q)) : Ev (d + 1) c s 250 818 [some (zr (some (9, 0, 0))), some (zr (some (0, 0, 0))), some (zr (some (1, 0, 0))), some (zi (nI i))] [] (I, L, zpj P, zsj S, top) Q := by
  refine Ew.ld f250_818 rfl rfl rfl rfl ?_
  refine Ew.ld f250_819 rfl rfl rfl rfl ?_
  refine Ew.ld f250_820 rfl rfl rfl rfl ?_
  refine Ew.op (st' := zi (nI 1) :: _) f250_821 rfl rfl ?_
  refine Ew.addn f250_822 rfl ?_
  refine Ew.ialdn f250_823 (by show (S 9 0 0).1 = _; rw [sN]) (by show _ < (S 9 0 0).2; rw [sN]; exact b1) (by show (S 9 0 0).2 < 5000; rw [sN]; omega) rfl ?_
  refine Ew.ld f250_824 rfl rfl rfl rfl ?_
  refine Ew.ld f250_825 rfl rfl rfl rfl ?_
  refine Ew.op (st' := zi (nI 2) :: _) f250_826 rfl rfl ?_
  refine Ew.addn f250_827 rfl ?_
  refine Ew.ialdn f250_828 (by show (S 9 0 0).1 = _; rw [sN]) (by show _ < (S 9 0 0).2; rw [sN]; exact b2) (by show (S 9 0 0).2 < 5000; rw [sN]; omega) rfl ?_
  refine Ew.ld f250_829 rfl rfl rfl rfl ?_
  refine Ew.ld f250_830 rfl rfl rfl rfl ?_
  refine Ew.op (st' := zi (nI 3) :: _) f250_831 rfl rfl ?_
  refine Ew.addn f250_832 rfl ?_
  refine Ew.ialdn f250_833 (by show (S 9 0 0).1 = _; rw [sN]) (by show _ < (S 9 0 0).2; rw [sN]; exact b3) (by show (S 9 0 0).2 < 5000; rw [sN]; omega) rfl ?_
  refine Ew.call0 (ls0 := [some (zr (some (0, 0, 0))), some (zi (I 9 0 0 (i + 1))), some (zi (I 9 0 0 (i + 2))), some (zi (I 9 0 0 (i + 3))), none, none]) f250_834 rfl (Nat.le_of_ble_eq_true rfl) rfl rfl (Nat.le_of_ble_eq_true rfl) rfl (Nat.le_of_ble_eq_true rfl) rfl rfl ?_
  exact h1
theorem g250_837 {d c s : Nat} {i N : Nat} {v : Int32} {I : zI} {L : zL} {P : zP} {S : zS} {top : Nat} {Q : Option zV → zM → Prop} (sN : S 9 0 0 = (20, N)) (hN : N ≤ 3072) 
    (b1 : i + 1 < N)
    (b2 : i + 2 < N)
    (b3 : i + 3 < N)
    (h1 : Ev d 0 0 239 0 [some (zr (some (1, 0, 0))), some (zi (I 9 0 0 (i + 1))), some (zi (I 9 0 0 (i + 2))), some (zi (I 9 0 0 (i + 3))), none, none] [] (I, L, zpj P, zsj S, top) (fun r M' => Ev (d + 1) c s 250 856 [some (zr (some (9, 0, 0))), some (zr (some (0, 0, 0))), some (zr (some (1, 0, 0))), some (zi (nI i))] (zpush r [zi v]) M' Q)) : Ev (d + 1) c s 250 837 [some (zr (some (9, 0, 0))), some (zr (some (0, 0, 0))), some (zr (some (1, 0, 0))), some (zi (nI i))] [zi v] (I, L, zpj P, zsj S, top) Q := by
  refine Ew.ld f250_837 rfl rfl rfl rfl ?_
  refine Ew.ld f250_838 rfl rfl rfl rfl ?_
  refine Ew.ld f250_839 rfl rfl rfl rfl ?_
  refine Ew.op (st' := zi (nI 1) :: _) f250_840 rfl rfl ?_
  refine Ew.addn f250_841 rfl ?_
  refine Ew.ialdn f250_842 (by show (S 9 0 0).1 = _; rw [sN]) (by show _ < (S 9 0 0).2; rw [sN]; exact b1) (by show (S 9 0 0).2 < 5000; rw [sN]; omega) rfl ?_
  refine Ew.ld f250_843 rfl rfl rfl rfl ?_
  refine Ew.ld f250_844 rfl rfl rfl rfl ?_
  refine Ew.op (st' := zi (nI 2) :: _) f250_845 rfl rfl ?_
  refine Ew.addn f250_846 rfl ?_
  refine Ew.ialdn f250_847 (by show (S 9 0 0).1 = _; rw [sN]) (by show _ < (S 9 0 0).2; rw [sN]; exact b2) (by show (S 9 0 0).2 < 5000; rw [sN]; omega) rfl ?_
  refine Ew.ld f250_848 rfl rfl rfl rfl ?_
  refine Ew.ld f250_849 rfl rfl rfl rfl ?_
  refine Ew.op (st' := zi (nI 3) :: _) f250_850 rfl rfl ?_
  refine Ew.addn f250_851 rfl ?_
  refine Ew.ialdn f250_852 (by show (S 9 0 0).1 = _; rw [sN]) (by show _ < (S 9 0 0).2; rw [sN]; exact b3) (by show (S 9 0 0).2 < 5000; rw [sN]; omega) rfl ?_
  refine Ew.call0 (ls0 := [some (zr (some (1, 0, 0))), some (zi (I 9 0 0 (i + 1))), some (zi (I 9 0 0 (i + 2))), some (zi (I 9 0 0 (i + 3))), none, none]) f250_853 rfl (Nat.le_of_ble_eq_true rfl) rfl rfl (Nat.le_of_ble_eq_true rfl) rfl (Nat.le_of_ble_eq_true rfl) rfl rfl ?_
  exact h1
theorem g250_856 {d c s : Nat} {i N : Nat} {v : Int32} {I : zI} {L : zL} {P : zP} {S : zS} {top : Nat} {Q : Option zV → zM → Prop} (sN : S 9 0 0 = (20, N)) (hN : N ≤ 3072) 
    (h1 : (v = v) → Ev d c s 250 1073 [some (zr (some (9, 0, 0))), some (zr (some (0, 0, 0))), some (zr (some (1, 0, 0))), some (zi (nI i))] [] (I, L, zpj P, zsj S, top) Q)
    (h2 : (¬ v = v) → Q (some (zi (nI 0))) (I, L, zpj P, zsj S, top)) : Ev d c s 250 856 [some (zr (some (9, 0, 0))), some (zr (some (0, 0, 0))), some (zr (some (1, 0, 0))), some (zi (nI i))] [zi v, zi v] (I, L, zpj P, zsj S, top) Q := by
  refine Ew.icmp f250_856 rfl rfl (fun c1 => ?_) (fun c1 => ?_)
  · exact h1 c1
  · refine Ew.op (st' := zi (nI 0) :: _) f250_859 rfl rfl ?_
    refine Ew.iretb f250_860 (Or.inl rfl) ?_
    exact h2 c1
theorem g250_861 {d c s : Nat} {i N : Nat} {I : zI} {L : zL} {P : zP} {S : zS} {top : Nat} {Q : Option zV → zM → Prop} (sN : S 9 0 0 = (20, N)) (hN : N ≤ 3072) 
    (b1 : i + 1 < N)
    (b2 : i + 2 < N)
    (b3 : i + 3 < N)
    (h1 : Ev d 0 0 137 0 [some (zr (some (0, 0, 0))), some (zi (I 9 0 0 (i + 1))), some (zi (I 9 0 0 (i + 2))), some (zi (I 9 0 0 (i + 3)))] [] (I, L, zpj P, zsj S, top) (fun r M' => Ev (d + 1) c s 250 880 [some (zr (some (9, 0, 0))), some (zr (some (0, 0, 0))), some (zr (some (1, 0, 0))), some (zi (nI i))] (zpush r []) M' Q)) : Ev (d + 1) c s 250 861 [some (zr (some (9, 0, 0))), some (zr (some (0, 0, 0))), some (zr (some (1, 0, 0))), some (zi (nI i))] [] (I, L, zpj P, zsj S, top) Q := by
  refine Ew.ld f250_861 rfl rfl rfl rfl ?_
  refine Ew.ld f250_862 rfl rfl rfl rfl ?_
  refine Ew.ld f250_863 rfl rfl rfl rfl ?_
  refine Ew.op (st' := zi (nI 1) :: _) f250_864 rfl rfl ?_
  refine Ew.addn f250_865 rfl ?_
  refine Ew.ialdn f250_866 (by show (S 9 0 0).1 = _; rw [sN]) (by show _ < (S 9 0 0).2; rw [sN]; exact b1) (by show (S 9 0 0).2 < 5000; rw [sN]; omega) rfl ?_
  refine Ew.ld f250_867 rfl rfl rfl rfl ?_
  refine Ew.ld f250_868 rfl rfl rfl rfl ?_
  refine Ew.op (st' := zi (nI 2) :: _) f250_869 rfl rfl ?_
  refine Ew.addn f250_870 rfl ?_
  refine Ew.ialdn f250_871 (by show (S 9 0 0).1 = _; rw [sN]) (by show _ < (S 9 0 0).2; rw [sN]; exact b2) (by show (S 9 0 0).2 < 5000; rw [sN]; omega) rfl ?_
  refine Ew.ld f250_872 rfl rfl rfl rfl ?_
  refine Ew.ld f250_873 rfl rfl rfl rfl ?_
  refine Ew.op (st' := zi (nI 3) :: _) f250_874 rfl rfl ?_
  refine Ew.addn f250_875 rfl ?_
  refine Ew.ialdn f250_876 (by show (S 9 0 0).1 = _; rw [sN]) (by show _ < (S 9 0 0).2; rw [sN]; exact b3) (by show (S 9 0 0).2 < 5000; rw [sN]; omega) rfl ?_
  refine Ew.call0 (ls0 := [some (zr (some (0, 0, 0))), some (zi (I 9 0 0 (i + 1))), some (zi (I 9 0 0 (i + 2))), some (zi (I 9 0 0 (i + 3)))]) f250_877 rfl (Nat.le_of_ble_eq_true rfl) rfl rfl (Nat.le_of_ble_eq_true rfl) rfl (Nat.le_of_ble_eq_true rfl) rfl rfl ?_
  exact h1
theorem g250_880 {d c s : Nat} {i N : Nat} {v : Int32} {I : zI} {L : zL} {P : zP} {S : zS} {top : Nat} {Q : Option zV → zM → Prop} (sN : S 9 0 0 = (20, N)) (hN : N ≤ 3072) 
    (b1 : i + 1 < N)
    (b2 : i + 2 < N)
    (b3 : i + 3 < N)
    (h1 : Ev d 0 0 240 0 [some (zr (some (1, 0, 0))), some (zi (I 9 0 0 (i + 1))), some (zi (I 9 0 0 (i + 2))), some (zi (I 9 0 0 (i + 3))), none] [] (I, L, zpj P, zsj S, top) (fun r M' => Ev (d + 1) c s 250 899 [some (zr (some (9, 0, 0))), some (zr (some (0, 0, 0))), some (zr (some (1, 0, 0))), some (zi (nI i))] (zpush r [zi v]) M' Q)) : Ev (d + 1) c s 250 880 [some (zr (some (9, 0, 0))), some (zr (some (0, 0, 0))), some (zr (some (1, 0, 0))), some (zi (nI i))] [zi v] (I, L, zpj P, zsj S, top) Q := by
  refine Ew.ld f250_880 rfl rfl rfl rfl ?_
  refine Ew.ld f250_881 rfl rfl rfl rfl ?_
  refine Ew.ld f250_882 rfl rfl rfl rfl ?_
  refine Ew.op (st' := zi (nI 1) :: _) f250_883 rfl rfl ?_
  refine Ew.addn f250_884 rfl ?_
  refine Ew.ialdn f250_885 (by show (S 9 0 0).1 = _; rw [sN]) (by show _ < (S 9 0 0).2; rw [sN]; exact b1) (by show (S 9 0 0).2 < 5000; rw [sN]; omega) rfl ?_
  refine Ew.ld f250_886 rfl rfl rfl rfl ?_
  refine Ew.ld f250_887 rfl rfl rfl rfl ?_
  refine Ew.op (st' := zi (nI 2) :: _) f250_888 rfl rfl ?_
  refine Ew.addn f250_889 rfl ?_
  refine Ew.ialdn f250_890 (by show (S 9 0 0).1 = _; rw [sN]) (by show _ < (S 9 0 0).2; rw [sN]; exact b2) (by show (S 9 0 0).2 < 5000; rw [sN]; omega) rfl ?_
  refine Ew.ld f250_891 rfl rfl rfl rfl ?_
  refine Ew.ld f250_892 rfl rfl rfl rfl ?_
  refine Ew.op (st' := zi (nI 3) :: _) f250_893 rfl rfl ?_
  refine Ew.addn f250_894 rfl ?_
  refine Ew.ialdn f250_895 (by show (S 9 0 0).1 = _; rw [sN]) (by show _ < (S 9 0 0).2; rw [sN]; exact b3) (by show (S 9 0 0).2 < 5000; rw [sN]; omega) rfl ?_
  refine Ew.call0 (ls0 := [some (zr (some (1, 0, 0))), some (zi (I 9 0 0 (i + 1))), some (zi (I 9 0 0 (i + 2))), some (zi (I 9 0 0 (i + 3))), none]) f250_896 rfl (Nat.le_of_ble_eq_true rfl) rfl rfl (Nat.le_of_ble_eq_true rfl) rfl (Nat.le_of_ble_eq_true rfl) rfl rfl ?_
  exact h1
theorem g250_899 {d c s : Nat} {i N : Nat} {v : Int32} {I : zI} {L : zL} {P : zP} {S : zS} {top : Nat} {Q : Option zV → zM → Prop} (sN : S 9 0 0 = (20, N)) (hN : N ≤ 3072) 
    (h1 : (v = v) → Ev d c s 250 1073 [some (zr (some (9, 0, 0))), some (zr (some (0, 0, 0))), some (zr (some (1, 0, 0))), some (zi (nI i))] [] (I, L, zpj P, zsj S, top) Q)
    (h2 : (¬ v = v) → Q (some (zi (nI 0))) (I, L, zpj P, zsj S, top)) : Ev d c s 250 899 [some (zr (some (9, 0, 0))), some (zr (some (0, 0, 0))), some (zr (some (1, 0, 0))), some (zi (nI i))] [zi v, zi v] (I, L, zpj P, zsj S, top) Q := by
  refine Ew.icmp f250_899 rfl rfl (fun c1 => ?_) (fun c1 => ?_)
  · exact h1 c1
  · refine Ew.op (st' := zi (nI 0) :: _) f250_902 rfl rfl ?_
    refine Ew.iretb f250_903 (Or.inl rfl) ?_
    exact h2 c1
theorem g250_904 {d c s : Nat} {i N : Nat} {I : zI} {L : zL} {P : zP} {S : zS} {top : Nat} {Q : Option zV → zM → Prop} (sN : S 9 0 0 = (20, N)) (hN : N ≤ 3072) 
    (b1 : i + 1 < N)
    (h1 : Ev d 0 0 138 0 [some (zr (some (0, 0, 0))), some (zi (I 9 0 0 (i + 1)))] [] (I, L, zpj P, zsj S, top) (fun r M' => Ev (d + 1) c s 250 913 [some (zr (some (9, 0, 0))), some (zr (some (0, 0, 0))), some (zr (some (1, 0, 0))), some (zi (nI i))] (zpush r []) M' Q)) : Ev (d + 1) c s 250 904 [some (zr (some (9, 0, 0))), some (zr (some (0, 0, 0))), some (zr (some (1, 0, 0))), some (zi (nI i))] [] (I, L, zpj P, zsj S, top) Q := by
  refine Ew.ld f250_904 rfl rfl rfl rfl ?_
  refine Ew.ld f250_905 rfl rfl rfl rfl ?_
  refine Ew.ld f250_906 rfl rfl rfl rfl ?_
  refine Ew.op (st' := zi (nI 1) :: _) f250_907 rfl rfl ?_
  refine Ew.addn f250_908 rfl ?_
  refine Ew.ialdn f250_909 (by show (S 9 0 0).1 = _; rw [sN]) (by show _ < (S 9 0 0).2; rw [sN]; exact b1) (by show (S 9 0 0).2 < 5000; rw [sN]; omega) rfl ?_
  refine Ew.call0 (ls0 := [some (zr (some (0, 0, 0))), some (zi (I 9 0 0 (i + 1)))]) f250_910 rfl (Nat.le_of_ble_eq_true rfl) rfl rfl (Nat.le_of_ble_eq_true rfl) rfl (Nat.le_of_ble_eq_true rfl) rfl rfl ?_
  exact h1
theorem g250_913 {d c s : Nat} {i N : Nat} {v : Int32} {I : zI} {L : zL} {P : zP} {S : zS} {top : Nat} {Q : Option zV → zM → Prop} (sN : S 9 0 0 = (20, N)) (hN : N ≤ 3072) 
    (b1 : i + 1 < N)
    (h1 : Ev d 0 0 241 0 [some (zr (some (1, 0, 0))), some (zi (I 9 0 0 (i + 1)))] [] (I, L, zpj P, zsj S, top) (fun r M' => Ev (d + 1) c s 250 922 [some (zr (some (9, 0, 0))), some (zr (some (0, 0, 0))), some (zr (some (1, 0, 0))), some (zi (nI i))] (zpush r [zi v]) M' Q)) : Ev (d + 1) c s 250 913 [some (zr (some (9, 0, 0))), some (zr (some (0, 0, 0))), some (zr (some (1, 0, 0))), some (zi (nI i))] [zi v] (I, L, zpj P, zsj S, top) Q := by
  refine Ew.ld f250_913 rfl rfl rfl rfl ?_
  refine Ew.ld f250_914 rfl rfl rfl rfl ?_
  refine Ew.ld f250_915 rfl rfl rfl rfl ?_
  refine Ew.op (st' := zi (nI 1) :: _) f250_916 rfl rfl ?_
  refine Ew.addn f250_917 rfl ?_
  refine Ew.ialdn f250_918 (by show (S 9 0 0).1 = _; rw [sN]) (by show _ < (S 9 0 0).2; rw [sN]; exact b1) (by show (S 9 0 0).2 < 5000; rw [sN]; omega) rfl ?_
  refine Ew.call0 (ls0 := [some (zr (some (1, 0, 0))), some (zi (I 9 0 0 (i + 1)))]) f250_919 rfl (Nat.le_of_ble_eq_true rfl) rfl rfl (Nat.le_of_ble_eq_true rfl) rfl (Nat.le_of_ble_eq_true rfl) rfl rfl ?_
  exact h1
theorem g250_922 {d c s : Nat} {i N : Nat} {v : Int32} {I : zI} {L : zL} {P : zP} {S : zS} {top : Nat} {Q : Option zV → zM → Prop} (sN : S 9 0 0 = (20, N)) (hN : N ≤ 3072) 
    (h1 : (v = v) → Ev d c s 250 1073 [some (zr (some (9, 0, 0))), some (zr (some (0, 0, 0))), some (zr (some (1, 0, 0))), some (zi (nI i))] [] (I, L, zpj P, zsj S, top) Q)
    (h2 : (¬ v = v) → Q (some (zi (nI 0))) (I, L, zpj P, zsj S, top)) : Ev d c s 250 922 [some (zr (some (9, 0, 0))), some (zr (some (0, 0, 0))), some (zr (some (1, 0, 0))), some (zi (nI i))] [zi v, zi v] (I, L, zpj P, zsj S, top) Q := by
  refine Ew.icmp f250_922 rfl rfl (fun c1 => ?_) (fun c1 => ?_)
  · exact h1 c1
  · refine Ew.op (st' := zi (nI 0) :: _) f250_925 rfl rfl ?_
    refine Ew.iretb f250_926 (Or.inl rfl) ?_
    exact h2 c1
theorem g250_927 {d c s : Nat} {i N : Nat} {I : zI} {L : zL} {P : zP} {S : zS} {top : Nat} {Q : Option zV → zM → Prop} (sN : S 9 0 0 = (20, N)) (hN : N ≤ 3072) 
    (b1 : i + 1 < N)
    (b2 : i + 2 < N)
    (b3 : i + 3 < N)
    (b4 : i + 4 < N)
    (b5 : i + 5 < N)
    (h1 : Ev d 0 0 139 0 [some (zr (some (0, 0, 0))), some (zi (I 9 0 0 (i + 1))), some (zi (I 9 0 0 (i + 2))), some (zi (I 9 0 0 (i + 3))), some (zl ((((I 9 0 0 (i + 4)).toInt64) <<< ((nI 32).toInt64 &&& 63)) ||| (((I 9 0 0 (i + 5)).toInt64) &&& ((4294967295))))), none, none] [] (I, L, zpj P, zsj S, top) (fun r M' => Ev (d + 1) c s 250 966 [some (zr (some (9, 0, 0))), some (zr (some (0, 0, 0))), some (zr (some (1, 0, 0))), some (zi (nI i))] (zpush r []) M' Q)) : Ev (d + 1) c s 250 927 [some (zr (some (9, 0, 0))), some (zr (some (0, 0, 0))), some (zr (some (1, 0, 0))), some (zi (nI i))] [] (I, L, zpj P, zsj S, top) Q := by
  refine Ew.ld f250_927 rfl rfl rfl rfl ?_
  refine Ew.ld f250_928 rfl rfl rfl rfl ?_
  refine Ew.ld f250_929 rfl rfl rfl rfl ?_
  refine Ew.op (st' := zi (nI 1) :: _) f250_930 rfl rfl ?_
  refine Ew.addn f250_931 rfl ?_
  refine Ew.ialdn f250_932 (by show (S 9 0 0).1 = _; rw [sN]) (by show _ < (S 9 0 0).2; rw [sN]; exact b1) (by show (S 9 0 0).2 < 5000; rw [sN]; omega) rfl ?_
  refine Ew.ld f250_933 rfl rfl rfl rfl ?_
  refine Ew.ld f250_934 rfl rfl rfl rfl ?_
  refine Ew.op (st' := zi (nI 2) :: _) f250_935 rfl rfl ?_
  refine Ew.addn f250_936 rfl ?_
  refine Ew.ialdn f250_937 (by show (S 9 0 0).1 = _; rw [sN]) (by show _ < (S 9 0 0).2; rw [sN]; exact b2) (by show (S 9 0 0).2 < 5000; rw [sN]; omega) rfl ?_
  refine Ew.ld f250_938 rfl rfl rfl rfl ?_
  refine Ew.ld f250_939 rfl rfl rfl rfl ?_
  refine Ew.op (st' := zi (nI 3) :: _) f250_940 rfl rfl ?_
  refine Ew.addn f250_941 rfl ?_
  refine Ew.ialdn f250_942 (by show (S 9 0 0).1 = _; rw [sN]) (by show _ < (S 9 0 0).2; rw [sN]; exact b3) (by show (S 9 0 0).2 < 5000; rw [sN]; omega) rfl ?_
  refine Ew.ld f250_943 rfl rfl rfl rfl ?_
  refine Ew.ld f250_944 rfl rfl rfl rfl ?_
  refine Ew.op (st' := zi (nI 4) :: _) f250_945 rfl rfl ?_
  refine Ew.addn f250_946 rfl ?_
  refine Ew.ialdn f250_947 (by show (S 9 0 0).1 = _; rw [sN]) (by show _ < (S 9 0 0).2; rw [sN]; exact b4) (by show (S 9 0 0).2 < 5000; rw [sN]; omega) rfl ?_
  refine Ew.op (st' := zl ((I 9 0 0 (i + 4)).toInt64) :: _) f250_948 rfl rfl ?_
  refine Ew.op (st' := zi (nI 32) :: _) f250_949 rfl rfl ?_
  refine Ew.op (st' := zl (((I 9 0 0 (i + 4)).toInt64) <<< ((nI 32).toInt64 &&& 63)) :: _) f250_951 rfl rfl ?_
  refine Ew.ld f250_952 rfl rfl rfl rfl ?_
  refine Ew.ld f250_953 rfl rfl rfl rfl ?_
  refine Ew.op (st' := zi (nI 5) :: _) f250_954 rfl rfl ?_
  refine Ew.addn f250_955 rfl ?_
  refine Ew.ialdn f250_956 (by show (S 9 0 0).1 = _; rw [sN]) (by show _ < (S 9 0 0).2; rw [sN]; exact b5) (by show (S 9 0 0).2 < 5000; rw [sN]; omega) rfl ?_
  refine Ew.op (st' := zl ((I 9 0 0 (i + 5)).toInt64) :: _) f250_957 rfl rfl ?_
  refine Ew.op (st' := zl ((4294967295)) :: _) f250_958 rfl rfl ?_
  refine Ew.op (st' := zl (((I 9 0 0 (i + 5)).toInt64) &&& ((4294967295))) :: _) f250_961 rfl rfl ?_
  refine Ew.op (st' := zl ((((I 9 0 0 (i + 4)).toInt64) <<< ((nI 32).toInt64 &&& 63)) ||| (((I 9 0 0 (i + 5)).toInt64) &&& ((4294967295)))) :: _) f250_962 rfl rfl ?_
  refine Ew.call0 (ls0 := [some (zr (some (0, 0, 0))), some (zi (I 9 0 0 (i + 1))), some (zi (I 9 0 0 (i + 2))), some (zi (I 9 0 0 (i + 3))), some (zl ((((I 9 0 0 (i + 4)).toInt64) <<< ((nI 32).toInt64 &&& 63)) ||| (((I 9 0 0 (i + 5)).toInt64) &&& ((4294967295))))), none, none]) f250_963 rfl (Nat.le_of_ble_eq_true rfl) rfl rfl (Nat.le_of_ble_eq_true rfl) rfl (Nat.le_of_ble_eq_true rfl) rfl rfl ?_
  exact h1
theorem g250_966 {d c s : Nat} {i N : Nat} {v : Int32} {I : zI} {L : zL} {P : zP} {S : zS} {top : Nat} {Q : Option zV → zM → Prop} (sN : S 9 0 0 = (20, N)) (hN : N ≤ 3072) 
    (b1 : i + 1 < N)
    (b2 : i + 2 < N)
    (b3 : i + 3 < N)
    (b4 : i + 4 < N)
    (b5 : i + 5 < N)
    (h1 : Ev d 0 0 242 0 [some (zr (some (1, 0, 0))), some (zi (I 9 0 0 (i + 1))), some (zi (I 9 0 0 (i + 2))), some (zi (I 9 0 0 (i + 3))), some (zl ((((I 9 0 0 (i + 4)).toInt64) <<< ((nI 32).toInt64 &&& 63)) ||| (((I 9 0 0 (i + 5)).toInt64) &&& ((4294967295))))), none, none] [] (I, L, zpj P, zsj S, top) (fun r M' => Ev (d + 1) c s 250 1005 [some (zr (some (9, 0, 0))), some (zr (some (0, 0, 0))), some (zr (some (1, 0, 0))), some (zi (nI i))] (zpush r [zi v]) M' Q)) : Ev (d + 1) c s 250 966 [some (zr (some (9, 0, 0))), some (zr (some (0, 0, 0))), some (zr (some (1, 0, 0))), some (zi (nI i))] [zi v] (I, L, zpj P, zsj S, top) Q := by
  refine Ew.ld f250_966 rfl rfl rfl rfl ?_
  refine Ew.ld f250_967 rfl rfl rfl rfl ?_
  refine Ew.ld f250_968 rfl rfl rfl rfl ?_
  refine Ew.op (st' := zi (nI 1) :: _) f250_969 rfl rfl ?_
  refine Ew.addn f250_970 rfl ?_
  refine Ew.ialdn f250_971 (by show (S 9 0 0).1 = _; rw [sN]) (by show _ < (S 9 0 0).2; rw [sN]; exact b1) (by show (S 9 0 0).2 < 5000; rw [sN]; omega) rfl ?_
  refine Ew.ld f250_972 rfl rfl rfl rfl ?_
  refine Ew.ld f250_973 rfl rfl rfl rfl ?_
  refine Ew.op (st' := zi (nI 2) :: _) f250_974 rfl rfl ?_
  refine Ew.addn f250_975 rfl ?_
  refine Ew.ialdn f250_976 (by show (S 9 0 0).1 = _; rw [sN]) (by show _ < (S 9 0 0).2; rw [sN]; exact b2) (by show (S 9 0 0).2 < 5000; rw [sN]; omega) rfl ?_
  refine Ew.ld f250_977 rfl rfl rfl rfl ?_
  refine Ew.ld f250_978 rfl rfl rfl rfl ?_
  refine Ew.op (st' := zi (nI 3) :: _) f250_979 rfl rfl ?_
  refine Ew.addn f250_980 rfl ?_
  refine Ew.ialdn f250_981 (by show (S 9 0 0).1 = _; rw [sN]) (by show _ < (S 9 0 0).2; rw [sN]; exact b3) (by show (S 9 0 0).2 < 5000; rw [sN]; omega) rfl ?_
  refine Ew.ld f250_982 rfl rfl rfl rfl ?_
  refine Ew.ld f250_983 rfl rfl rfl rfl ?_
  refine Ew.op (st' := zi (nI 4) :: _) f250_984 rfl rfl ?_
  refine Ew.addn f250_985 rfl ?_
  refine Ew.ialdn f250_986 (by show (S 9 0 0).1 = _; rw [sN]) (by show _ < (S 9 0 0).2; rw [sN]; exact b4) (by show (S 9 0 0).2 < 5000; rw [sN]; omega) rfl ?_
  refine Ew.op (st' := zl ((I 9 0 0 (i + 4)).toInt64) :: _) f250_987 rfl rfl ?_
  refine Ew.op (st' := zi (nI 32) :: _) f250_988 rfl rfl ?_
  refine Ew.op (st' := zl (((I 9 0 0 (i + 4)).toInt64) <<< ((nI 32).toInt64 &&& 63)) :: _) f250_990 rfl rfl ?_
  refine Ew.ld f250_991 rfl rfl rfl rfl ?_
  refine Ew.ld f250_992 rfl rfl rfl rfl ?_
  refine Ew.op (st' := zi (nI 5) :: _) f250_993 rfl rfl ?_
  refine Ew.addn f250_994 rfl ?_
  refine Ew.ialdn f250_995 (by show (S 9 0 0).1 = _; rw [sN]) (by show _ < (S 9 0 0).2; rw [sN]; exact b5) (by show (S 9 0 0).2 < 5000; rw [sN]; omega) rfl ?_
  refine Ew.op (st' := zl ((I 9 0 0 (i + 5)).toInt64) :: _) f250_996 rfl rfl ?_
  refine Ew.op (st' := zl ((4294967295)) :: _) f250_997 rfl rfl ?_
  refine Ew.op (st' := zl (((I 9 0 0 (i + 5)).toInt64) &&& ((4294967295))) :: _) f250_1000 rfl rfl ?_
  refine Ew.op (st' := zl ((((I 9 0 0 (i + 4)).toInt64) <<< ((nI 32).toInt64 &&& 63)) ||| (((I 9 0 0 (i + 5)).toInt64) &&& ((4294967295)))) :: _) f250_1001 rfl rfl ?_
  refine Ew.call0 (ls0 := [some (zr (some (1, 0, 0))), some (zi (I 9 0 0 (i + 1))), some (zi (I 9 0 0 (i + 2))), some (zi (I 9 0 0 (i + 3))), some (zl ((((I 9 0 0 (i + 4)).toInt64) <<< ((nI 32).toInt64 &&& 63)) ||| (((I 9 0 0 (i + 5)).toInt64) &&& ((4294967295))))), none, none]) f250_1002 rfl (Nat.le_of_ble_eq_true rfl) rfl rfl (Nat.le_of_ble_eq_true rfl) rfl (Nat.le_of_ble_eq_true rfl) rfl rfl ?_
  exact h1
theorem g250_1005 {d c s : Nat} {i N : Nat} {v : Int32} {I : zI} {L : zL} {P : zP} {S : zS} {top : Nat} {Q : Option zV → zM → Prop} (sN : S 9 0 0 = (20, N)) (hN : N ≤ 3072) 
    (h1 : (v = v) → Ev d c s 250 1073 [some (zr (some (9, 0, 0))), some (zr (some (0, 0, 0))), some (zr (some (1, 0, 0))), some (zi (nI i))] [] (I, L, zpj P, zsj S, top) Q)
    (h2 : (¬ v = v) → Q (some (zi (nI 0))) (I, L, zpj P, zsj S, top)) : Ev d c s 250 1005 [some (zr (some (9, 0, 0))), some (zr (some (0, 0, 0))), some (zr (some (1, 0, 0))), some (zi (nI i))] [zi v, zi v] (I, L, zpj P, zsj S, top) Q := by
  refine Ew.icmp f250_1005 rfl rfl (fun c1 => ?_) (fun c1 => ?_)
  · exact h1 c1
  · refine Ew.op (st' := zi (nI 0) :: _) f250_1008 rfl rfl ?_
    refine Ew.iretb f250_1009 (Or.inl rfl) ?_
    exact h2 c1
theorem g250_1010 {d c s : Nat} {i N : Nat} {I : zI} {L : zL} {P : zP} {S : zS} {top : Nat} {Q : Option zV → zM → Prop} (sN : S 9 0 0 = (20, N)) (hN : N ≤ 3072) 
    (b1 : i + 1 < N)
    (b2 : i + 2 < N)
    (b3 : i + 3 < N)
    (b4 : i + 4 < N)
    (b5 : i + 5 < N)
    (h1 : Ev d 0 0 140 0 [some (zr (some (0, 0, 0))), some (zi (I 9 0 0 (i + 1))), some (zi (I 9 0 0 (i + 2))), some (zi (I 9 0 0 (i + 3))), some (zi (I 9 0 0 (i + 4))), some (zi (I 9 0 0 (i + 5))), none, none] [] (I, L, zpj P, zsj S, top) (fun r M' => Ev (d + 1) c s 250 1039 [some (zr (some (9, 0, 0))), some (zr (some (0, 0, 0))), some (zr (some (1, 0, 0))), some (zi (nI i))] (zpush r []) M' Q)) : Ev (d + 1) c s 250 1010 [some (zr (some (9, 0, 0))), some (zr (some (0, 0, 0))), some (zr (some (1, 0, 0))), some (zi (nI i))] [] (I, L, zpj P, zsj S, top) Q := by
  refine Ew.ld f250_1010 rfl rfl rfl rfl ?_
  refine Ew.ld f250_1011 rfl rfl rfl rfl ?_
  refine Ew.ld f250_1012 rfl rfl rfl rfl ?_
  refine Ew.op (st' := zi (nI 1) :: _) f250_1013 rfl rfl ?_
  refine Ew.addn f250_1014 rfl ?_
  refine Ew.ialdn f250_1015 (by show (S 9 0 0).1 = _; rw [sN]) (by show _ < (S 9 0 0).2; rw [sN]; exact b1) (by show (S 9 0 0).2 < 5000; rw [sN]; omega) rfl ?_
  refine Ew.ld f250_1016 rfl rfl rfl rfl ?_
  refine Ew.ld f250_1017 rfl rfl rfl rfl ?_
  refine Ew.op (st' := zi (nI 2) :: _) f250_1018 rfl rfl ?_
  refine Ew.addn f250_1019 rfl ?_
  refine Ew.ialdn f250_1020 (by show (S 9 0 0).1 = _; rw [sN]) (by show _ < (S 9 0 0).2; rw [sN]; exact b2) (by show (S 9 0 0).2 < 5000; rw [sN]; omega) rfl ?_
  refine Ew.ld f250_1021 rfl rfl rfl rfl ?_
  refine Ew.ld f250_1022 rfl rfl rfl rfl ?_
  refine Ew.op (st' := zi (nI 3) :: _) f250_1023 rfl rfl ?_
  refine Ew.addn f250_1024 rfl ?_
  refine Ew.ialdn f250_1025 (by show (S 9 0 0).1 = _; rw [sN]) (by show _ < (S 9 0 0).2; rw [sN]; exact b3) (by show (S 9 0 0).2 < 5000; rw [sN]; omega) rfl ?_
  refine Ew.ld f250_1026 rfl rfl rfl rfl ?_
  refine Ew.ld f250_1027 rfl rfl rfl rfl ?_
  refine Ew.op (st' := zi (nI 4) :: _) f250_1028 rfl rfl ?_
  refine Ew.addn f250_1029 rfl ?_
  refine Ew.ialdn f250_1030 (by show (S 9 0 0).1 = _; rw [sN]) (by show _ < (S 9 0 0).2; rw [sN]; exact b4) (by show (S 9 0 0).2 < 5000; rw [sN]; omega) rfl ?_
  refine Ew.ld f250_1031 rfl rfl rfl rfl ?_
  refine Ew.ld f250_1032 rfl rfl rfl rfl ?_
  refine Ew.op (st' := zi (nI 5) :: _) f250_1033 rfl rfl ?_
  refine Ew.addn f250_1034 rfl ?_
  refine Ew.ialdn f250_1035 (by show (S 9 0 0).1 = _; rw [sN]) (by show _ < (S 9 0 0).2; rw [sN]; exact b5) (by show (S 9 0 0).2 < 5000; rw [sN]; omega) rfl ?_
  refine Ew.call0 (ls0 := [some (zr (some (0, 0, 0))), some (zi (I 9 0 0 (i + 1))), some (zi (I 9 0 0 (i + 2))), some (zi (I 9 0 0 (i + 3))), some (zi (I 9 0 0 (i + 4))), some (zi (I 9 0 0 (i + 5))), none, none]) f250_1036 rfl (Nat.le_of_ble_eq_true rfl) rfl rfl (Nat.le_of_ble_eq_true rfl) rfl (Nat.le_of_ble_eq_true rfl) rfl rfl ?_
  exact h1
theorem g250_1039 {d c s : Nat} {i N : Nat} {v : Int32} {I : zI} {L : zL} {P : zP} {S : zS} {top : Nat} {Q : Option zV → zM → Prop} (sN : S 9 0 0 = (20, N)) (hN : N ≤ 3072) 
    (b1 : i + 1 < N)
    (b2 : i + 2 < N)
    (b3 : i + 3 < N)
    (b4 : i + 4 < N)
    (b5 : i + 5 < N)
    (h1 : Ev d 0 0 243 0 [some (zr (some (1, 0, 0))), some (zi (I 9 0 0 (i + 1))), some (zi (I 9 0 0 (i + 2))), some (zi (I 9 0 0 (i + 3))), some (zi (I 9 0 0 (i + 4))), some (zi (I 9 0 0 (i + 5))), none] [] (I, L, zpj P, zsj S, top) (fun r M' => Ev (d + 1) c s 250 1068 [some (zr (some (9, 0, 0))), some (zr (some (0, 0, 0))), some (zr (some (1, 0, 0))), some (zi (nI i))] (zpush r [zi v]) M' Q)) : Ev (d + 1) c s 250 1039 [some (zr (some (9, 0, 0))), some (zr (some (0, 0, 0))), some (zr (some (1, 0, 0))), some (zi (nI i))] [zi v] (I, L, zpj P, zsj S, top) Q := by
  refine Ew.ld f250_1039 rfl rfl rfl rfl ?_
  refine Ew.ld f250_1040 rfl rfl rfl rfl ?_
  refine Ew.ld f250_1041 rfl rfl rfl rfl ?_
  refine Ew.op (st' := zi (nI 1) :: _) f250_1042 rfl rfl ?_
  refine Ew.addn f250_1043 rfl ?_
  refine Ew.ialdn f250_1044 (by show (S 9 0 0).1 = _; rw [sN]) (by show _ < (S 9 0 0).2; rw [sN]; exact b1) (by show (S 9 0 0).2 < 5000; rw [sN]; omega) rfl ?_
  refine Ew.ld f250_1045 rfl rfl rfl rfl ?_
  refine Ew.ld f250_1046 rfl rfl rfl rfl ?_
  refine Ew.op (st' := zi (nI 2) :: _) f250_1047 rfl rfl ?_
  refine Ew.addn f250_1048 rfl ?_
  refine Ew.ialdn f250_1049 (by show (S 9 0 0).1 = _; rw [sN]) (by show _ < (S 9 0 0).2; rw [sN]; exact b2) (by show (S 9 0 0).2 < 5000; rw [sN]; omega) rfl ?_
  refine Ew.ld f250_1050 rfl rfl rfl rfl ?_
  refine Ew.ld f250_1051 rfl rfl rfl rfl ?_
  refine Ew.op (st' := zi (nI 3) :: _) f250_1052 rfl rfl ?_
  refine Ew.addn f250_1053 rfl ?_
  refine Ew.ialdn f250_1054 (by show (S 9 0 0).1 = _; rw [sN]) (by show _ < (S 9 0 0).2; rw [sN]; exact b3) (by show (S 9 0 0).2 < 5000; rw [sN]; omega) rfl ?_
  refine Ew.ld f250_1055 rfl rfl rfl rfl ?_
  refine Ew.ld f250_1056 rfl rfl rfl rfl ?_
  refine Ew.op (st' := zi (nI 4) :: _) f250_1057 rfl rfl ?_
  refine Ew.addn f250_1058 rfl ?_
  refine Ew.ialdn f250_1059 (by show (S 9 0 0).1 = _; rw [sN]) (by show _ < (S 9 0 0).2; rw [sN]; exact b4) (by show (S 9 0 0).2 < 5000; rw [sN]; omega) rfl ?_
  refine Ew.ld f250_1060 rfl rfl rfl rfl ?_
  refine Ew.ld f250_1061 rfl rfl rfl rfl ?_
  refine Ew.op (st' := zi (nI 5) :: _) f250_1062 rfl rfl ?_
  refine Ew.addn f250_1063 rfl ?_
  refine Ew.ialdn f250_1064 (by show (S 9 0 0).1 = _; rw [sN]) (by show _ < (S 9 0 0).2; rw [sN]; exact b5) (by show (S 9 0 0).2 < 5000; rw [sN]; omega) rfl ?_
  refine Ew.call0 (ls0 := [some (zr (some (1, 0, 0))), some (zi (I 9 0 0 (i + 1))), some (zi (I 9 0 0 (i + 2))), some (zi (I 9 0 0 (i + 3))), some (zi (I 9 0 0 (i + 4))), some (zi (I 9 0 0 (i + 5))), none]) f250_1065 rfl (Nat.le_of_ble_eq_true rfl) rfl rfl (Nat.le_of_ble_eq_true rfl) rfl (Nat.le_of_ble_eq_true rfl) rfl rfl ?_
  exact h1
theorem g250_1068 {d c s : Nat} {i N : Nat} {v : Int32} {I : zI} {L : zL} {P : zP} {S : zS} {top : Nat} {Q : Option zV → zM → Prop} (sN : S 9 0 0 = (20, N)) (hN : N ≤ 3072) 
    (h1 : (v = v) → Ev d c s 250 1073 [some (zr (some (9, 0, 0))), some (zr (some (0, 0, 0))), some (zr (some (1, 0, 0))), some (zi (nI i))] [] (I, L, zpj P, zsj S, top) Q)
    (h2 : (¬ v = v) → Q (some (zi (nI 0))) (I, L, zpj P, zsj S, top)) : Ev d c s 250 1068 [some (zr (some (9, 0, 0))), some (zr (some (0, 0, 0))), some (zr (some (1, 0, 0))), some (zi (nI i))] [zi v, zi v] (I, L, zpj P, zsj S, top) Q := by
  refine Ew.icmp f250_1068 rfl rfl (fun c1 => ?_) (fun c1 => ?_)
  · exact h1 c1
  · refine Ew.op (st' := zi (nI 0) :: _) f250_1071 rfl rfl ?_
    refine Ew.iretb f250_1072 (Or.inl rfl) ?_
    exact h2 c1
