/-! the law: its segments -/
theorem g249_18 {d c s : Nat} {i N : Nat} {I : zI} {L : zL} {P : zP} {S : zS} {top : Nat} {Q : Option zV → zM → Prop} (sN : S 9 0 0 = (20, N)) (hN : N ≤ 3072) 
    (h1 : (((nI N) - (nI 6)) < (nI i)) → Q (some (zi (nI 1))) (I, L, zpj P, zsj S, top))
    (b1 : ((nI i) ≤ ((nI N) - (nI 6))) → i < N)
    (h2 : ((nI i) ≤ ((nI N) - (nI 6))) → (((I 9 0 0 i) &&& (nI 31)) = nI 0) → Ev d c s 249 164 [some (zr (some (9, 0, 0))), some (zr (some (0, 0, 0))), some (zr (some (1, 0, 0))), some (zi (nI i))] [] (I, L, zpj P, zsj S, top) Q)
    (h3 : ((nI i) ≤ ((nI N) - (nI 6))) → (¬ ((I 9 0 0 i) &&& (nI 31)) = nI 0) → (((I 9 0 0 i) &&& (nI 31)) = nI 1) → Ev d c s 249 187 [some (zr (some (9, 0, 0))), some (zr (some (0, 0, 0))), some (zr (some (1, 0, 0))), some (zi (nI i))] [] (I, L, zpj P, zsj S, top) Q)
    (h4 : ((nI i) ≤ ((nI N) - (nI 6))) → (¬ ((I 9 0 0 i) &&& (nI 31)) = nI 0) → (¬ ((I 9 0 0 i) &&& (nI 31)) = nI 1) → (((I 9 0 0 i) &&& (nI 31)) = nI 2) → Ev d c s 249 210 [some (zr (some (9, 0, 0))), some (zr (some (0, 0, 0))), some (zr (some (1, 0, 0))), some (zi (nI i))] [] (I, L, zpj P, zsj S, top) Q)
    (h5 : ((nI i) ≤ ((nI N) - (nI 6))) → (¬ ((I 9 0 0 i) &&& (nI 31)) = nI 0) → (¬ ((I 9 0 0 i) &&& (nI 31)) = nI 1) → (¬ ((I 9 0 0 i) &&& (nI 31)) = nI 2) → (((I 9 0 0 i) &&& (nI 31)) = nI 3) → Ev d c s 249 233 [some (zr (some (9, 0, 0))), some (zr (some (0, 0, 0))), some (zr (some (1, 0, 0))), some (zi (nI i))] [] (I, L, zpj P, zsj S, top) Q)
    (h6 : ((nI i) ≤ ((nI N) - (nI 6))) → (¬ ((I 9 0 0 i) &&& (nI 31)) = nI 0) → (¬ ((I 9 0 0 i) &&& (nI 31)) = nI 1) → (¬ ((I 9 0 0 i) &&& (nI 31)) = nI 2) → (¬ ((I 9 0 0 i) &&& (nI 31)) = nI 3) → (((I 9 0 0 i) &&& (nI 31)) = nI 4) → Ev d c s 249 256 [some (zr (some (9, 0, 0))), some (zr (some (0, 0, 0))), some (zr (some (1, 0, 0))), some (zi (nI i))] [] (I, L, zpj P, zsj S, top) Q)
    (h7 : ((nI i) ≤ ((nI N) - (nI 6))) → (¬ ((I 9 0 0 i) &&& (nI 31)) = nI 0) → (¬ ((I 9 0 0 i) &&& (nI 31)) = nI 1) → (¬ ((I 9 0 0 i) &&& (nI 31)) = nI 2) → (¬ ((I 9 0 0 i) &&& (nI 31)) = nI 3) → (¬ ((I 9 0 0 i) &&& (nI 31)) = nI 4) → (((I 9 0 0 i) &&& (nI 31)) = nI 5) → Ev d c s 249 289 [some (zr (some (9, 0, 0))), some (zr (some (0, 0, 0))), some (zr (some (1, 0, 0))), some (zi (nI i))] [] (I, L, zpj P, zsj S, top) Q)
    (h8 : ((nI i) ≤ ((nI N) - (nI 6))) → (¬ ((I 9 0 0 i) &&& (nI 31)) = nI 0) → (¬ ((I 9 0 0 i) &&& (nI 31)) = nI 1) → (¬ ((I 9 0 0 i) &&& (nI 31)) = nI 2) → (¬ ((I 9 0 0 i) &&& (nI 31)) = nI 3) → (¬ ((I 9 0 0 i) &&& (nI 31)) = nI 4) → (¬ ((I 9 0 0 i) &&& (nI 31)) = nI 5) → (((I 9 0 0 i) &&& (nI 31)) = nI 6) → Ev d c s 249 332 [some (zr (some (9, 0, 0))), some (zr (some (0, 0, 0))), some (zr (some (1, 0, 0))), some (zi (nI i))] [] (I, L, zpj P, zsj S, top) Q)
    (h9 : ((nI i) ≤ ((nI N) - (nI 6))) → (¬ ((I 9 0 0 i) &&& (nI 31)) = nI 0) → (¬ ((I 9 0 0 i) &&& (nI 31)) = nI 1) → (¬ ((I 9 0 0 i) &&& (nI 31)) = nI 2) → (¬ ((I 9 0 0 i) &&& (nI 31)) = nI 3) → (¬ ((I 9 0 0 i) &&& (nI 31)) = nI 4) → (¬ ((I 9 0 0 i) &&& (nI 31)) = nI 5) → (¬ ((I 9 0 0 i) &&& (nI 31)) = nI 6) → (((I 9 0 0 i) &&& (nI 31)) = nI 7) → Ev d c s 249 355 [some (zr (some (9, 0, 0))), some (zr (some (0, 0, 0))), some (zr (some (1, 0, 0))), some (zi (nI i))] [] (I, L, zpj P, zsj S, top) Q)
    (h10 : ((nI i) ≤ ((nI N) - (nI 6))) → (¬ ((I 9 0 0 i) &&& (nI 31)) = nI 0) → (¬ ((I 9 0 0 i) &&& (nI 31)) = nI 1) → (¬ ((I 9 0 0 i) &&& (nI 31)) = nI 2) → (¬ ((I 9 0 0 i) &&& (nI 31)) = nI 3) → (¬ ((I 9 0 0 i) &&& (nI 31)) = nI 4) → (¬ ((I 9 0 0 i) &&& (nI 31)) = nI 5) → (¬ ((I 9 0 0 i) &&& (nI 31)) = nI 6) → (¬ ((I 9 0 0 i) &&& (nI 31)) = nI 7) → (((I 9 0 0 i) &&& (nI 31)) = nI 8) → Ev d c s 249 378 [some (zr (some (9, 0, 0))), some (zr (some (0, 0, 0))), some (zr (some (1, 0, 0))), some (zi (nI i))] [] (I, L, zpj P, zsj S, top) Q)
    (h11 : ((nI i) ≤ ((nI N) - (nI 6))) → (¬ ((I 9 0 0 i) &&& (nI 31)) = nI 0) → (¬ ((I 9 0 0 i) &&& (nI 31)) = nI 1) → (¬ ((I 9 0 0 i) &&& (nI 31)) = nI 2) → (¬ ((I 9 0 0 i) &&& (nI 31)) = nI 3) → (¬ ((I 9 0 0 i) &&& (nI 31)) = nI 4) → (¬ ((I 9 0 0 i) &&& (nI 31)) = nI 5) → (¬ ((I 9 0 0 i) &&& (nI 31)) = nI 6) → (¬ ((I 9 0 0 i) &&& (nI 31)) = nI 7) → (¬ ((I 9 0 0 i) &&& (nI 31)) = nI 8) → (((I 9 0 0 i) &&& (nI 31)) = nI 9) → Ev d c s 249 401 [some (zr (some (9, 0, 0))), some (zr (some (0, 0, 0))), some (zr (some (1, 0, 0))), some (zi (nI i))] [] (I, L, zpj P, zsj S, top) Q)
    (h12 : ((nI i) ≤ ((nI N) - (nI 6))) → (¬ ((I 9 0 0 i) &&& (nI 31)) = nI 0) → (¬ ((I 9 0 0 i) &&& (nI 31)) = nI 1) → (¬ ((I 9 0 0 i) &&& (nI 31)) = nI 2) → (¬ ((I 9 0 0 i) &&& (nI 31)) = nI 3) → (¬ ((I 9 0 0 i) &&& (nI 31)) = nI 4) → (¬ ((I 9 0 0 i) &&& (nI 31)) = nI 5) → (¬ ((I 9 0 0 i) &&& (nI 31)) = nI 6) → (¬ ((I 9 0 0 i) &&& (nI 31)) = nI 7) → (¬ ((I 9 0 0 i) &&& (nI 31)) = nI 8) → (¬ ((I 9 0 0 i) &&& (nI 31)) = nI 9) → (((I 9 0 0 i) &&& (nI 31)) = nI 10) → Ev d c s 249 414 [some (zr (some (9, 0, 0))), some (zr (some (0, 0, 0))), some (zr (some (1, 0, 0))), some (zi (nI i))] [] (I, L, zpj P, zsj S, top) Q)
    (h13 : ((nI i) ≤ ((nI N) - (nI 6))) → (¬ ((I 9 0 0 i) &&& (nI 31)) = nI 0) → (¬ ((I 9 0 0 i) &&& (nI 31)) = nI 1) → (¬ ((I 9 0 0 i) &&& (nI 31)) = nI 2) → (¬ ((I 9 0 0 i) &&& (nI 31)) = nI 3) → (¬ ((I 9 0 0 i) &&& (nI 31)) = nI 4) → (¬ ((I 9 0 0 i) &&& (nI 31)) = nI 5) → (¬ ((I 9 0 0 i) &&& (nI 31)) = nI 6) → (¬ ((I 9 0 0 i) &&& (nI 31)) = nI 7) → (¬ ((I 9 0 0 i) &&& (nI 31)) = nI 8) → (¬ ((I 9 0 0 i) &&& (nI 31)) = nI 9) → (¬ ((I 9 0 0 i) &&& (nI 31)) = nI 10) → (((I 9 0 0 i) &&& (nI 31)) = nI 11) → Ev d c s 249 447 [some (zr (some (9, 0, 0))), some (zr (some (0, 0, 0))), some (zr (some (1, 0, 0))), some (zi (nI i))] [] (I, L, zpj P, zsj S, top) Q)
    (h14 : ((nI i) ≤ ((nI N) - (nI 6))) → (¬ ((I 9 0 0 i) &&& (nI 31)) = nI 0) → (¬ ((I 9 0 0 i) &&& (nI 31)) = nI 1) → (¬ ((I 9 0 0 i) &&& (nI 31)) = nI 2) → (¬ ((I 9 0 0 i) &&& (nI 31)) = nI 3) → (¬ ((I 9 0 0 i) &&& (nI 31)) = nI 4) → (¬ ((I 9 0 0 i) &&& (nI 31)) = nI 5) → (¬ ((I 9 0 0 i) &&& (nI 31)) = nI 6) → (¬ ((I 9 0 0 i) &&& (nI 31)) = nI 7) → (¬ ((I 9 0 0 i) &&& (nI 31)) = nI 8) → (¬ ((I 9 0 0 i) &&& (nI 31)) = nI 9) → (¬ ((I 9 0 0 i) &&& (nI 31)) = nI 10) → (¬ ((I 9 0 0 i) &&& (nI 31)) = nI 11) → (((I 9 0 0 i) &&& (nI 31)) = nI 12) → Ev d c s 249 480 [some (zr (some (9, 0, 0))), some (zr (some (0, 0, 0))), some (zr (some (1, 0, 0))), some (zi (nI i))] [] (I, L, zpj P, zsj S, top) Q)
    (h15 : ((nI i) ≤ ((nI N) - (nI 6))) → (¬ ((I 9 0 0 i) &&& (nI 31)) = nI 0) → (¬ ((I 9 0 0 i) &&& (nI 31)) = nI 1) → (¬ ((I 9 0 0 i) &&& (nI 31)) = nI 2) → (¬ ((I 9 0 0 i) &&& (nI 31)) = nI 3) → (¬ ((I 9 0 0 i) &&& (nI 31)) = nI 4) → (¬ ((I 9 0 0 i) &&& (nI 31)) = nI 5) → (¬ ((I 9 0 0 i) &&& (nI 31)) = nI 6) → (¬ ((I 9 0 0 i) &&& (nI 31)) = nI 7) → (¬ ((I 9 0 0 i) &&& (nI 31)) = nI 8) → (¬ ((I 9 0 0 i) &&& (nI 31)) = nI 9) → (¬ ((I 9 0 0 i) &&& (nI 31)) = nI 10) → (¬ ((I 9 0 0 i) &&& (nI 31)) = nI 11) → (¬ ((I 9 0 0 i) &&& (nI 31)) = nI 12) → (((I 9 0 0 i) &&& (nI 31)) = nI 13) → Ev d c s 249 503 [some (zr (some (9, 0, 0))), some (zr (some (0, 0, 0))), some (zr (some (1, 0, 0))), some (zi (nI i))] [] (I, L, zpj P, zsj S, top) Q)
    (h16 : ((nI i) ≤ ((nI N) - (nI 6))) → (¬ ((I 9 0 0 i) &&& (nI 31)) = nI 0) → (¬ ((I 9 0 0 i) &&& (nI 31)) = nI 1) → (¬ ((I 9 0 0 i) &&& (nI 31)) = nI 2) → (¬ ((I 9 0 0 i) &&& (nI 31)) = nI 3) → (¬ ((I 9 0 0 i) &&& (nI 31)) = nI 4) → (¬ ((I 9 0 0 i) &&& (nI 31)) = nI 5) → (¬ ((I 9 0 0 i) &&& (nI 31)) = nI 6) → (¬ ((I 9 0 0 i) &&& (nI 31)) = nI 7) → (¬ ((I 9 0 0 i) &&& (nI 31)) = nI 8) → (¬ ((I 9 0 0 i) &&& (nI 31)) = nI 9) → (¬ ((I 9 0 0 i) &&& (nI 31)) = nI 10) → (¬ ((I 9 0 0 i) &&& (nI 31)) = nI 11) → (¬ ((I 9 0 0 i) &&& (nI 31)) = nI 12) → (¬ ((I 9 0 0 i) &&& (nI 31)) = nI 13) → (((I 9 0 0 i) &&& (nI 31)) = nI 14) → Ev d c s 249 536 [some (zr (some (9, 0, 0))), some (zr (some (0, 0, 0))), some (zr (some (1, 0, 0))), some (zi (nI i))] [] (I, L, zpj P, zsj S, top) Q)
    (h17 : ((nI i) ≤ ((nI N) - (nI 6))) → (¬ ((I 9 0 0 i) &&& (nI 31)) = nI 0) → (¬ ((I 9 0 0 i) &&& (nI 31)) = nI 1) → (¬ ((I 9 0 0 i) &&& (nI 31)) = nI 2) → (¬ ((I 9 0 0 i) &&& (nI 31)) = nI 3) → (¬ ((I 9 0 0 i) &&& (nI 31)) = nI 4) → (¬ ((I 9 0 0 i) &&& (nI 31)) = nI 5) → (¬ ((I 9 0 0 i) &&& (nI 31)) = nI 6) → (¬ ((I 9 0 0 i) &&& (nI 31)) = nI 7) → (¬ ((I 9 0 0 i) &&& (nI 31)) = nI 8) → (¬ ((I 9 0 0 i) &&& (nI 31)) = nI 9) → (¬ ((I 9 0 0 i) &&& (nI 31)) = nI 10) → (¬ ((I 9 0 0 i) &&& (nI 31)) = nI 11) → (¬ ((I 9 0 0 i) &&& (nI 31)) = nI 12) → (¬ ((I 9 0 0 i) &&& (nI 31)) = nI 13) → (¬ ((I 9 0 0 i) &&& (nI 31)) = nI 14) → (((I 9 0 0 i) &&& (nI 31)) = nI 15) → Ev d c s 249 559 [some (zr (some (9, 0, 0))), some (zr (some (0, 0, 0))), some (zr (some (1, 0, 0))), some (zi (nI i))] [] (I, L, zpj P, zsj S, top) Q)
    (h18 : ((nI i) ≤ ((nI N) - (nI 6))) → (¬ ((I 9 0 0 i) &&& (nI 31)) = nI 0) → (¬ ((I 9 0 0 i) &&& (nI 31)) = nI 1) → (¬ ((I 9 0 0 i) &&& (nI 31)) = nI 2) → (¬ ((I 9 0 0 i) &&& (nI 31)) = nI 3) → (¬ ((I 9 0 0 i) &&& (nI 31)) = nI 4) → (¬ ((I 9 0 0 i) &&& (nI 31)) = nI 5) → (¬ ((I 9 0 0 i) &&& (nI 31)) = nI 6) → (¬ ((I 9 0 0 i) &&& (nI 31)) = nI 7) → (¬ ((I 9 0 0 i) &&& (nI 31)) = nI 8) → (¬ ((I 9 0 0 i) &&& (nI 31)) = nI 9) → (¬ ((I 9 0 0 i) &&& (nI 31)) = nI 10) → (¬ ((I 9 0 0 i) &&& (nI 31)) = nI 11) → (¬ ((I 9 0 0 i) &&& (nI 31)) = nI 12) → (¬ ((I 9 0 0 i) &&& (nI 31)) = nI 13) → (¬ ((I 9 0 0 i) &&& (nI 31)) = nI 14) → (¬ ((I 9 0 0 i) &&& (nI 31)) = nI 15) → (((I 9 0 0 i) &&& (nI 31)) = nI 16) → Ev d c s 249 603 [some (zr (some (9, 0, 0))), some (zr (some (0, 0, 0))), some (zr (some (1, 0, 0))), some (zi (nI i))] [] (I, L, zpj P, zsj S, top) Q)
    (h19 : ((nI i) ≤ ((nI N) - (nI 6))) → (¬ ((I 9 0 0 i) &&& (nI 31)) = nI 0) → (¬ ((I 9 0 0 i) &&& (nI 31)) = nI 1) → (¬ ((I 9 0 0 i) &&& (nI 31)) = nI 2) → (¬ ((I 9 0 0 i) &&& (nI 31)) = nI 3) → (¬ ((I 9 0 0 i) &&& (nI 31)) = nI 4) → (¬ ((I 9 0 0 i) &&& (nI 31)) = nI 5) → (¬ ((I 9 0 0 i) &&& (nI 31)) = nI 6) → (¬ ((I 9 0 0 i) &&& (nI 31)) = nI 7) → (¬ ((I 9 0 0 i) &&& (nI 31)) = nI 8) → (¬ ((I 9 0 0 i) &&& (nI 31)) = nI 9) → (¬ ((I 9 0 0 i) &&& (nI 31)) = nI 10) → (¬ ((I 9 0 0 i) &&& (nI 31)) = nI 11) → (¬ ((I 9 0 0 i) &&& (nI 31)) = nI 12) → (¬ ((I 9 0 0 i) &&& (nI 31)) = nI 13) → (¬ ((I 9 0 0 i) &&& (nI 31)) = nI 14) → (¬ ((I 9 0 0 i) &&& (nI 31)) = nI 15) → (¬ ((I 9 0 0 i) &&& (nI 31)) = nI 16) → (((I 9 0 0 i) &&& (nI 31)) = nI 17) → Ev d c s 249 647 [some (zr (some (9, 0, 0))), some (zr (some (0, 0, 0))), some (zr (some (1, 0, 0))), some (zi (nI i))] [] (I, L, zpj P, zsj S, top) Q)
    (h20 : ((nI i) ≤ ((nI N) - (nI 6))) → (¬ ((I 9 0 0 i) &&& (nI 31)) = nI 0) → (¬ ((I 9 0 0 i) &&& (nI 31)) = nI 1) → (¬ ((I 9 0 0 i) &&& (nI 31)) = nI 2) → (¬ ((I 9 0 0 i) &&& (nI 31)) = nI 3) → (¬ ((I 9 0 0 i) &&& (nI 31)) = nI 4) → (¬ ((I 9 0 0 i) &&& (nI 31)) = nI 5) → (¬ ((I 9 0 0 i) &&& (nI 31)) = nI 6) → (¬ ((I 9 0 0 i) &&& (nI 31)) = nI 7) → (¬ ((I 9 0 0 i) &&& (nI 31)) = nI 8) → (¬ ((I 9 0 0 i) &&& (nI 31)) = nI 9) → (¬ ((I 9 0 0 i) &&& (nI 31)) = nI 10) → (¬ ((I 9 0 0 i) &&& (nI 31)) = nI 11) → (¬ ((I 9 0 0 i) &&& (nI 31)) = nI 12) → (¬ ((I 9 0 0 i) &&& (nI 31)) = nI 13) → (¬ ((I 9 0 0 i) &&& (nI 31)) = nI 14) → (¬ ((I 9 0 0 i) &&& (nI 31)) = nI 15) → (¬ ((I 9 0 0 i) &&& (nI 31)) = nI 16) → (¬ ((I 9 0 0 i) &&& (nI 31)) = nI 17) → (((I 9 0 0 i) &&& (nI 31)) = nI 18) → Ev d c s 249 680 [some (zr (some (9, 0, 0))), some (zr (some (0, 0, 0))), some (zr (some (1, 0, 0))), some (zi (nI i))] [] (I, L, zpj P, zsj S, top) Q)
    (h21 : ((nI i) ≤ ((nI N) - (nI 6))) → (¬ ((I 9 0 0 i) &&& (nI 31)) = nI 0) → (¬ ((I 9 0 0 i) &&& (nI 31)) = nI 1) → (¬ ((I 9 0 0 i) &&& (nI 31)) = nI 2) → (¬ ((I 9 0 0 i) &&& (nI 31)) = nI 3) → (¬ ((I 9 0 0 i) &&& (nI 31)) = nI 4) → (¬ ((I 9 0 0 i) &&& (nI 31)) = nI 5) → (¬ ((I 9 0 0 i) &&& (nI 31)) = nI 6) → (¬ ((I 9 0 0 i) &&& (nI 31)) = nI 7) → (¬ ((I 9 0 0 i) &&& (nI 31)) = nI 8) → (¬ ((I 9 0 0 i) &&& (nI 31)) = nI 9) → (¬ ((I 9 0 0 i) &&& (nI 31)) = nI 10) → (¬ ((I 9 0 0 i) &&& (nI 31)) = nI 11) → (¬ ((I 9 0 0 i) &&& (nI 31)) = nI 12) → (¬ ((I 9 0 0 i) &&& (nI 31)) = nI 13) → (¬ ((I 9 0 0 i) &&& (nI 31)) = nI 14) → (¬ ((I 9 0 0 i) &&& (nI 31)) = nI 15) → (¬ ((I 9 0 0 i) &&& (nI 31)) = nI 16) → (¬ ((I 9 0 0 i) &&& (nI 31)) = nI 17) → (¬ ((I 9 0 0 i) &&& (nI 31)) = nI 18) → (((I 9 0 0 i) &&& (nI 31)) = nI 19) → Ev d c s 249 703 [some (zr (some (9, 0, 0))), some (zr (some (0, 0, 0))), some (zr (some (1, 0, 0))), some (zi (nI i))] [] (I, L, zpj P, zsj S, top) Q)
    (h22 : ((nI i) ≤ ((nI N) - (nI 6))) → (¬ ((I 9 0 0 i) &&& (nI 31)) = nI 0) → (¬ ((I 9 0 0 i) &&& (nI 31)) = nI 1) → (¬ ((I 9 0 0 i) &&& (nI 31)) = nI 2) → (¬ ((I 9 0 0 i) &&& (nI 31)) = nI 3) → (¬ ((I 9 0 0 i) &&& (nI 31)) = nI 4) → (¬ ((I 9 0 0 i) &&& (nI 31)) = nI 5) → (¬ ((I 9 0 0 i) &&& (nI 31)) = nI 6) → (¬ ((I 9 0 0 i) &&& (nI 31)) = nI 7) → (¬ ((I 9 0 0 i) &&& (nI 31)) = nI 8) → (¬ ((I 9 0 0 i) &&& (nI 31)) = nI 9) → (¬ ((I 9 0 0 i) &&& (nI 31)) = nI 10) → (¬ ((I 9 0 0 i) &&& (nI 31)) = nI 11) → (¬ ((I 9 0 0 i) &&& (nI 31)) = nI 12) → (¬ ((I 9 0 0 i) &&& (nI 31)) = nI 13) → (¬ ((I 9 0 0 i) &&& (nI 31)) = nI 14) → (¬ ((I 9 0 0 i) &&& (nI 31)) = nI 15) → (¬ ((I 9 0 0 i) &&& (nI 31)) = nI 16) → (¬ ((I 9 0 0 i) &&& (nI 31)) = nI 17) → (¬ ((I 9 0 0 i) &&& (nI 31)) = nI 18) → (¬ ((I 9 0 0 i) &&& (nI 31)) = nI 19) → (((I 9 0 0 i) &&& (nI 31)) = nI 20) → Ev d c s 249 716 [some (zr (some (9, 0, 0))), some (zr (some (0, 0, 0))), some (zr (some (1, 0, 0))), some (zi (nI i))] [] (I, L, zpj P, zsj S, top) Q)
    (h23 : ((nI i) ≤ ((nI N) - (nI 6))) → (¬ ((I 9 0 0 i) &&& (nI 31)) = nI 0) → (¬ ((I 9 0 0 i) &&& (nI 31)) = nI 1) → (¬ ((I 9 0 0 i) &&& (nI 31)) = nI 2) → (¬ ((I 9 0 0 i) &&& (nI 31)) = nI 3) → (¬ ((I 9 0 0 i) &&& (nI 31)) = nI 4) → (¬ ((I 9 0 0 i) &&& (nI 31)) = nI 5) → (¬ ((I 9 0 0 i) &&& (nI 31)) = nI 6) → (¬ ((I 9 0 0 i) &&& (nI 31)) = nI 7) → (¬ ((I 9 0 0 i) &&& (nI 31)) = nI 8) → (¬ ((I 9 0 0 i) &&& (nI 31)) = nI 9) → (¬ ((I 9 0 0 i) &&& (nI 31)) = nI 10) → (¬ ((I 9 0 0 i) &&& (nI 31)) = nI 11) → (¬ ((I 9 0 0 i) &&& (nI 31)) = nI 12) → (¬ ((I 9 0 0 i) &&& (nI 31)) = nI 13) → (¬ ((I 9 0 0 i) &&& (nI 31)) = nI 14) → (¬ ((I 9 0 0 i) &&& (nI 31)) = nI 15) → (¬ ((I 9 0 0 i) &&& (nI 31)) = nI 16) → (¬ ((I 9 0 0 i) &&& (nI 31)) = nI 17) → (¬ ((I 9 0 0 i) &&& (nI 31)) = nI 18) → (¬ ((I 9 0 0 i) &&& (nI 31)) = nI 19) → (¬ ((I 9 0 0 i) &&& (nI 31)) = nI 20) → (((I 9 0 0 i) &&& (nI 31)) = nI 21) → Ev d c s 249 739 [some (zr (some (9, 0, 0))), some (zr (some (0, 0, 0))), some (zr (some (1, 0, 0))), some (zi (nI i))] [] (I, L, zpj P, zsj S, top) Q)
    (h24 : ((nI i) ≤ ((nI N) - (nI 6))) → (¬ ((I 9 0 0 i) &&& (nI 31)) = nI 0) → (¬ ((I 9 0 0 i) &&& (nI 31)) = nI 1) → (¬ ((I 9 0 0 i) &&& (nI 31)) = nI 2) → (¬ ((I 9 0 0 i) &&& (nI 31)) = nI 3) → (¬ ((I 9 0 0 i) &&& (nI 31)) = nI 4) → (¬ ((I 9 0 0 i) &&& (nI 31)) = nI 5) → (¬ ((I 9 0 0 i) &&& (nI 31)) = nI 6) → (¬ ((I 9 0 0 i) &&& (nI 31)) = nI 7) → (¬ ((I 9 0 0 i) &&& (nI 31)) = nI 8) → (¬ ((I 9 0 0 i) &&& (nI 31)) = nI 9) → (¬ ((I 9 0 0 i) &&& (nI 31)) = nI 10) → (¬ ((I 9 0 0 i) &&& (nI 31)) = nI 11) → (¬ ((I 9 0 0 i) &&& (nI 31)) = nI 12) → (¬ ((I 9 0 0 i) &&& (nI 31)) = nI 13) → (¬ ((I 9 0 0 i) &&& (nI 31)) = nI 14) → (¬ ((I 9 0 0 i) &&& (nI 31)) = nI 15) → (¬ ((I 9 0 0 i) &&& (nI 31)) = nI 16) → (¬ ((I 9 0 0 i) &&& (nI 31)) = nI 17) → (¬ ((I 9 0 0 i) &&& (nI 31)) = nI 18) → (¬ ((I 9 0 0 i) &&& (nI 31)) = nI 19) → (¬ ((I 9 0 0 i) &&& (nI 31)) = nI 20) → (¬ ((I 9 0 0 i) &&& (nI 31)) = nI 21) → (((I 9 0 0 i) &&& (nI 31)) = nI 22) → Ev d c s 249 752 [some (zr (some (9, 0, 0))), some (zr (some (0, 0, 0))), some (zr (some (1, 0, 0))), some (zi (nI i))] [] (I, L, zpj P, zsj S, top) Q)
    (h25 : ((nI i) ≤ ((nI N) - (nI 6))) → (¬ ((I 9 0 0 i) &&& (nI 31)) = nI 0) → (¬ ((I 9 0 0 i) &&& (nI 31)) = nI 1) → (¬ ((I 9 0 0 i) &&& (nI 31)) = nI 2) → (¬ ((I 9 0 0 i) &&& (nI 31)) = nI 3) → (¬ ((I 9 0 0 i) &&& (nI 31)) = nI 4) → (¬ ((I 9 0 0 i) &&& (nI 31)) = nI 5) → (¬ ((I 9 0 0 i) &&& (nI 31)) = nI 6) → (¬ ((I 9 0 0 i) &&& (nI 31)) = nI 7) → (¬ ((I 9 0 0 i) &&& (nI 31)) = nI 8) → (¬ ((I 9 0 0 i) &&& (nI 31)) = nI 9) → (¬ ((I 9 0 0 i) &&& (nI 31)) = nI 10) → (¬ ((I 9 0 0 i) &&& (nI 31)) = nI 11) → (¬ ((I 9 0 0 i) &&& (nI 31)) = nI 12) → (¬ ((I 9 0 0 i) &&& (nI 31)) = nI 13) → (¬ ((I 9 0 0 i) &&& (nI 31)) = nI 14) → (¬ ((I 9 0 0 i) &&& (nI 31)) = nI 15) → (¬ ((I 9 0 0 i) &&& (nI 31)) = nI 16) → (¬ ((I 9 0 0 i) &&& (nI 31)) = nI 17) → (¬ ((I 9 0 0 i) &&& (nI 31)) = nI 18) → (¬ ((I 9 0 0 i) &&& (nI 31)) = nI 19) → (¬ ((I 9 0 0 i) &&& (nI 31)) = nI 20) → (¬ ((I 9 0 0 i) &&& (nI 31)) = nI 21) → (¬ ((I 9 0 0 i) &&& (nI 31)) = nI 22) → (((I 9 0 0 i) &&& (nI 31)) = nI 23) → Ev d c s 249 765 [some (zr (some (9, 0, 0))), some (zr (some (0, 0, 0))), some (zr (some (1, 0, 0))), some (zi (nI i))] [] (I, L, zpj P, zsj S, top) Q)
    (h26 : ((nI i) ≤ ((nI N) - (nI 6))) → (¬ ((I 9 0 0 i) &&& (nI 31)) = nI 0) → (¬ ((I 9 0 0 i) &&& (nI 31)) = nI 1) → (¬ ((I 9 0 0 i) &&& (nI 31)) = nI 2) → (¬ ((I 9 0 0 i) &&& (nI 31)) = nI 3) → (¬ ((I 9 0 0 i) &&& (nI 31)) = nI 4) → (¬ ((I 9 0 0 i) &&& (nI 31)) = nI 5) → (¬ ((I 9 0 0 i) &&& (nI 31)) = nI 6) → (¬ ((I 9 0 0 i) &&& (nI 31)) = nI 7) → (¬ ((I 9 0 0 i) &&& (nI 31)) = nI 8) → (¬ ((I 9 0 0 i) &&& (nI 31)) = nI 9) → (¬ ((I 9 0 0 i) &&& (nI 31)) = nI 10) → (¬ ((I 9 0 0 i) &&& (nI 31)) = nI 11) → (¬ ((I 9 0 0 i) &&& (nI 31)) = nI 12) → (¬ ((I 9 0 0 i) &&& (nI 31)) = nI 13) → (¬ ((I 9 0 0 i) &&& (nI 31)) = nI 14) → (¬ ((I 9 0 0 i) &&& (nI 31)) = nI 15) → (¬ ((I 9 0 0 i) &&& (nI 31)) = nI 16) → (¬ ((I 9 0 0 i) &&& (nI 31)) = nI 17) → (¬ ((I 9 0 0 i) &&& (nI 31)) = nI 18) → (¬ ((I 9 0 0 i) &&& (nI 31)) = nI 19) → (¬ ((I 9 0 0 i) &&& (nI 31)) = nI 20) → (¬ ((I 9 0 0 i) &&& (nI 31)) = nI 21) → (¬ ((I 9 0 0 i) &&& (nI 31)) = nI 22) → (¬ ((I 9 0 0 i) &&& (nI 31)) = nI 23) → (((I 9 0 0 i) &&& (nI 31)) = nI 24) → Ev d c s 249 818 [some (zr (some (9, 0, 0))), some (zr (some (0, 0, 0))), some (zr (some (1, 0, 0))), some (zi (nI i))] [] (I, L, zpj P, zsj S, top) Q)
    (h27 : ((nI i) ≤ ((nI N) - (nI 6))) → (¬ ((I 9 0 0 i) &&& (nI 31)) = nI 0) → (¬ ((I 9 0 0 i) &&& (nI 31)) = nI 1) → (¬ ((I 9 0 0 i) &&& (nI 31)) = nI 2) → (¬ ((I 9 0 0 i) &&& (nI 31)) = nI 3) → (¬ ((I 9 0 0 i) &&& (nI 31)) = nI 4) → (¬ ((I 9 0 0 i) &&& (nI 31)) = nI 5) → (¬ ((I 9 0 0 i) &&& (nI 31)) = nI 6) → (¬ ((I 9 0 0 i) &&& (nI 31)) = nI 7) → (¬ ((I 9 0 0 i) &&& (nI 31)) = nI 8) → (¬ ((I 9 0 0 i) &&& (nI 31)) = nI 9) → (¬ ((I 9 0 0 i) &&& (nI 31)) = nI 10) → (¬ ((I 9 0 0 i) &&& (nI 31)) = nI 11) → (¬ ((I 9 0 0 i) &&& (nI 31)) = nI 12) → (¬ ((I 9 0 0 i) &&& (nI 31)) = nI 13) → (¬ ((I 9 0 0 i) &&& (nI 31)) = nI 14) → (¬ ((I 9 0 0 i) &&& (nI 31)) = nI 15) → (¬ ((I 9 0 0 i) &&& (nI 31)) = nI 16) → (¬ ((I 9 0 0 i) &&& (nI 31)) = nI 17) → (¬ ((I 9 0 0 i) &&& (nI 31)) = nI 18) → (¬ ((I 9 0 0 i) &&& (nI 31)) = nI 19) → (¬ ((I 9 0 0 i) &&& (nI 31)) = nI 20) → (¬ ((I 9 0 0 i) &&& (nI 31)) = nI 21) → (¬ ((I 9 0 0 i) &&& (nI 31)) = nI 22) → (¬ ((I 9 0 0 i) &&& (nI 31)) = nI 23) → (¬ ((I 9 0 0 i) &&& (nI 31)) = nI 24) → (((I 9 0 0 i) &&& (nI 31)) = nI 25) → Ev d c s 249 861 [some (zr (some (9, 0, 0))), some (zr (some (0, 0, 0))), some (zr (some (1, 0, 0))), some (zi (nI i))] [] (I, L, zpj P, zsj S, top) Q)
    (h28 : ((nI i) ≤ ((nI N) - (nI 6))) → (¬ ((I 9 0 0 i) &&& (nI 31)) = nI 0) → (¬ ((I 9 0 0 i) &&& (nI 31)) = nI 1) → (¬ ((I 9 0 0 i) &&& (nI 31)) = nI 2) → (¬ ((I 9 0 0 i) &&& (nI 31)) = nI 3) → (¬ ((I 9 0 0 i) &&& (nI 31)) = nI 4) → (¬ ((I 9 0 0 i) &&& (nI 31)) = nI 5) → (¬ ((I 9 0 0 i) &&& (nI 31)) = nI 6) → (¬ ((I 9 0 0 i) &&& (nI 31)) = nI 7) → (¬ ((I 9 0 0 i) &&& (nI 31)) = nI 8) → (¬ ((I 9 0 0 i) &&& (nI 31)) = nI 9) → (¬ ((I 9 0 0 i) &&& (nI 31)) = nI 10) → (¬ ((I 9 0 0 i) &&& (nI 31)) = nI 11) → (¬ ((I 9 0 0 i) &&& (nI 31)) = nI 12) → (¬ ((I 9 0 0 i) &&& (nI 31)) = nI 13) → (¬ ((I 9 0 0 i) &&& (nI 31)) = nI 14) → (¬ ((I 9 0 0 i) &&& (nI 31)) = nI 15) → (¬ ((I 9 0 0 i) &&& (nI 31)) = nI 16) → (¬ ((I 9 0 0 i) &&& (nI 31)) = nI 17) → (¬ ((I 9 0 0 i) &&& (nI 31)) = nI 18) → (¬ ((I 9 0 0 i) &&& (nI 31)) = nI 19) → (¬ ((I 9 0 0 i) &&& (nI 31)) = nI 20) → (¬ ((I 9 0 0 i) &&& (nI 31)) = nI 21) → (¬ ((I 9 0 0 i) &&& (nI 31)) = nI 22) → (¬ ((I 9 0 0 i) &&& (nI 31)) = nI 23) → (¬ ((I 9 0 0 i) &&& (nI 31)) = nI 24) → (¬ ((I 9 0 0 i) &&& (nI 31)) = nI 25) → (((I 9 0 0 i) &&& (nI 31)) = nI 26) → Ev d c s 249 904 [some (zr (some (9, 0, 0))), some (zr (some (0, 0, 0))), some (zr (some (1, 0, 0))), some (zi (nI i))] [] (I, L, zpj P, zsj S, top) Q)
    (h29 : ((nI i) ≤ ((nI N) - (nI 6))) → (¬ ((I 9 0 0 i) &&& (nI 31)) = nI 0) → (¬ ((I 9 0 0 i) &&& (nI 31)) = nI 1) → (¬ ((I 9 0 0 i) &&& (nI 31)) = nI 2) → (¬ ((I 9 0 0 i) &&& (nI 31)) = nI 3) → (¬ ((I 9 0 0 i) &&& (nI 31)) = nI 4) → (¬ ((I 9 0 0 i) &&& (nI 31)) = nI 5) → (¬ ((I 9 0 0 i) &&& (nI 31)) = nI 6) → (¬ ((I 9 0 0 i) &&& (nI 31)) = nI 7) → (¬ ((I 9 0 0 i) &&& (nI 31)) = nI 8) → (¬ ((I 9 0 0 i) &&& (nI 31)) = nI 9) → (¬ ((I 9 0 0 i) &&& (nI 31)) = nI 10) → (¬ ((I 9 0 0 i) &&& (nI 31)) = nI 11) → (¬ ((I 9 0 0 i) &&& (nI 31)) = nI 12) → (¬ ((I 9 0 0 i) &&& (nI 31)) = nI 13) → (¬ ((I 9 0 0 i) &&& (nI 31)) = nI 14) → (¬ ((I 9 0 0 i) &&& (nI 31)) = nI 15) → (¬ ((I 9 0 0 i) &&& (nI 31)) = nI 16) → (¬ ((I 9 0 0 i) &&& (nI 31)) = nI 17) → (¬ ((I 9 0 0 i) &&& (nI 31)) = nI 18) → (¬ ((I 9 0 0 i) &&& (nI 31)) = nI 19) → (¬ ((I 9 0 0 i) &&& (nI 31)) = nI 20) → (¬ ((I 9 0 0 i) &&& (nI 31)) = nI 21) → (¬ ((I 9 0 0 i) &&& (nI 31)) = nI 22) → (¬ ((I 9 0 0 i) &&& (nI 31)) = nI 23) → (¬ ((I 9 0 0 i) &&& (nI 31)) = nI 24) → (¬ ((I 9 0 0 i) &&& (nI 31)) = nI 25) → (¬ ((I 9 0 0 i) &&& (nI 31)) = nI 26) → (((I 9 0 0 i) &&& (nI 31)) = nI 27) → Ev d c s 249 927 [some (zr (some (9, 0, 0))), some (zr (some (0, 0, 0))), some (zr (some (1, 0, 0))), some (zi (nI i))] [] (I, L, zpj P, zsj S, top) Q)
    (h30 : ((nI i) ≤ ((nI N) - (nI 6))) → (¬ ((I 9 0 0 i) &&& (nI 31)) = nI 0) → (¬ ((I 9 0 0 i) &&& (nI 31)) = nI 1) → (¬ ((I 9 0 0 i) &&& (nI 31)) = nI 2) → (¬ ((I 9 0 0 i) &&& (nI 31)) = nI 3) → (¬ ((I 9 0 0 i) &&& (nI 31)) = nI 4) → (¬ ((I 9 0 0 i) &&& (nI 31)) = nI 5) → (¬ ((I 9 0 0 i) &&& (nI 31)) = nI 6) → (¬ ((I 9 0 0 i) &&& (nI 31)) = nI 7) → (¬ ((I 9 0 0 i) &&& (nI 31)) = nI 8) → (¬ ((I 9 0 0 i) &&& (nI 31)) = nI 9) → (¬ ((I 9 0 0 i) &&& (nI 31)) = nI 10) → (¬ ((I 9 0 0 i) &&& (nI 31)) = nI 11) → (¬ ((I 9 0 0 i) &&& (nI 31)) = nI 12) → (¬ ((I 9 0 0 i) &&& (nI 31)) = nI 13) → (¬ ((I 9 0 0 i) &&& (nI 31)) = nI 14) → (¬ ((I 9 0 0 i) &&& (nI 31)) = nI 15) → (¬ ((I 9 0 0 i) &&& (nI 31)) = nI 16) → (¬ ((I 9 0 0 i) &&& (nI 31)) = nI 17) → (¬ ((I 9 0 0 i) &&& (nI 31)) = nI 18) → (¬ ((I 9 0 0 i) &&& (nI 31)) = nI 19) → (¬ ((I 9 0 0 i) &&& (nI 31)) = nI 20) → (¬ ((I 9 0 0 i) &&& (nI 31)) = nI 21) → (¬ ((I 9 0 0 i) &&& (nI 31)) = nI 22) → (¬ ((I 9 0 0 i) &&& (nI 31)) = nI 23) → (¬ ((I 9 0 0 i) &&& (nI 31)) = nI 24) → (¬ ((I 9 0 0 i) &&& (nI 31)) = nI 25) → (¬ ((I 9 0 0 i) &&& (nI 31)) = nI 26) → (¬ ((I 9 0 0 i) &&& (nI 31)) = nI 27) → (((I 9 0 0 i) &&& (nI 31)) = nI 28) → Ev d c s 249 1010 [some (zr (some (9, 0, 0))), some (zr (some (0, 0, 0))), some (zr (some (1, 0, 0))), some (zi (nI i))] [] (I, L, zpj P, zsj S, top) Q)
    (h31 : ((nI i) ≤ ((nI N) - (nI 6))) → (¬ ((I 9 0 0 i) &&& (nI 31)) = nI 0) → (¬ ((I 9 0 0 i) &&& (nI 31)) = nI 1) → (¬ ((I 9 0 0 i) &&& (nI 31)) = nI 2) → (¬ ((I 9 0 0 i) &&& (nI 31)) = nI 3) → (¬ ((I 9 0 0 i) &&& (nI 31)) = nI 4) → (¬ ((I 9 0 0 i) &&& (nI 31)) = nI 5) → (¬ ((I 9 0 0 i) &&& (nI 31)) = nI 6) → (¬ ((I 9 0 0 i) &&& (nI 31)) = nI 7) → (¬ ((I 9 0 0 i) &&& (nI 31)) = nI 8) → (¬ ((I 9 0 0 i) &&& (nI 31)) = nI 9) → (¬ ((I 9 0 0 i) &&& (nI 31)) = nI 10) → (¬ ((I 9 0 0 i) &&& (nI 31)) = nI 11) → (¬ ((I 9 0 0 i) &&& (nI 31)) = nI 12) → (¬ ((I 9 0 0 i) &&& (nI 31)) = nI 13) → (¬ ((I 9 0 0 i) &&& (nI 31)) = nI 14) → (¬ ((I 9 0 0 i) &&& (nI 31)) = nI 15) → (¬ ((I 9 0 0 i) &&& (nI 31)) = nI 16) → (¬ ((I 9 0 0 i) &&& (nI 31)) = nI 17) → (¬ ((I 9 0 0 i) &&& (nI 31)) = nI 18) → (¬ ((I 9 0 0 i) &&& (nI 31)) = nI 19) → (¬ ((I 9 0 0 i) &&& (nI 31)) = nI 20) → (¬ ((I 9 0 0 i) &&& (nI 31)) = nI 21) → (¬ ((I 9 0 0 i) &&& (nI 31)) = nI 22) → (¬ ((I 9 0 0 i) &&& (nI 31)) = nI 23) → (¬ ((I 9 0 0 i) &&& (nI 31)) = nI 24) → (¬ ((I 9 0 0 i) &&& (nI 31)) = nI 25) → (¬ ((I 9 0 0 i) &&& (nI 31)) = nI 26) → (¬ ((I 9 0 0 i) &&& (nI 31)) = nI 27) → (¬ ((I 9 0 0 i) &&& (nI 31)) = nI 28) → Ev d c s 249 1073 [some (zr (some (9, 0, 0))), some (zr (some (0, 0, 0))), some (zr (some (1, 0, 0))), some (zi (nI i))] [] (I, L, zpj P, zsj S, top) Q) : Ev d c s 249 18 [some (zr (some (9, 0, 0))), some (zr (some (0, 0, 0))), some (zr (some (1, 0, 0))), some (zi (nI i))] [] (I, L, zpj P, zsj S, top) Q := by
  refine Ew.ld f249_18 rfl rfl rfl rfl ?_
  refine Ew.ld f249_19 rfl rfl rfl rfl ?_
  refine Ew.alen (n := N) f249_20 (by show _ < (S 9 0 0).1; rw [sN]; exact Nat.le_of_ble_eq_true rfl) (by show (S 9 0 0).2 = _; rw [sN]) rfl ?_
  refine Ew.op (st' := zi (nI 6) :: _) f249_21 rfl rfl ?_
  refine Ew.op (st' := zi ((nI N) - (nI 6)) :: _) f249_23 rfl rfl ?_
  refine Ew.icmp f249_24 rfl rfl (fun c1 => ?_) (fun c1 => ?_)
  · refine Ew.op (st' := zi (nI 1) :: _) f249_1079 rfl rfl ?_
    refine Ew.iretb f249_1080 (Or.inr rfl) ?_
    exact h1 c1
  · refine Ew.ld f249_27 rfl rfl rfl rfl ?_
    refine Ew.ld f249_28 rfl rfl rfl rfl ?_
    refine Ew.ialdn f249_29 (by show (S 9 0 0).1 = _; rw [sN]) (by show _ < (S 9 0 0).2; rw [sN]; exact (b1 (Int32.not_lt.mp c1))) (by show (S 9 0 0).2 < 5000; rw [sN]; omega) rfl ?_
    refine Ew.op (st' := zi (nI 31) :: _) f249_30 rfl rfl ?_
    refine Ew.op (st' := zi ((I 9 0 0 i) &&& (nI 31)) :: _) f249_32 rfl rfl ?_
    by_cases c2 : ((I 9 0 0 i) &&& (nI 31)) = nI 0
    · refine Ew.tsw (pc' := 164) (x := ((I 9 0 0 i) &&& (nI 31))) f249_33 (by rw [c2] <;> rfl) ?_
      exact h2 (Int32.not_lt.mp c1) c2
    by_cases c3 : ((I 9 0 0 i) &&& (nI 31)) = nI 1
    · refine Ew.tsw (pc' := 187) (x := ((I 9 0 0 i) &&& (nI 31))) f249_33 (by rw [c3] <;> rfl) ?_
      exact h3 (Int32.not_lt.mp c1) c2 c3
    by_cases c4 : ((I 9 0 0 i) &&& (nI 31)) = nI 2
    · refine Ew.tsw (pc' := 210) (x := ((I 9 0 0 i) &&& (nI 31))) f249_33 (by rw [c4] <;> rfl) ?_
      exact h4 (Int32.not_lt.mp c1) c2 c3 c4
    by_cases c5 : ((I 9 0 0 i) &&& (nI 31)) = nI 3
    · refine Ew.tsw (pc' := 233) (x := ((I 9 0 0 i) &&& (nI 31))) f249_33 (by rw [c5] <;> rfl) ?_
      exact h5 (Int32.not_lt.mp c1) c2 c3 c4 c5
    by_cases c6 : ((I 9 0 0 i) &&& (nI 31)) = nI 4
    · refine Ew.tsw (pc' := 256) (x := ((I 9 0 0 i) &&& (nI 31))) f249_33 (by rw [c6] <;> rfl) ?_
      exact h6 (Int32.not_lt.mp c1) c2 c3 c4 c5 c6
    by_cases c7 : ((I 9 0 0 i) &&& (nI 31)) = nI 5
    · refine Ew.tsw (pc' := 289) (x := ((I 9 0 0 i) &&& (nI 31))) f249_33 (by rw [c7] <;> rfl) ?_
      exact h7 (Int32.not_lt.mp c1) c2 c3 c4 c5 c6 c7
    by_cases c8 : ((I 9 0 0 i) &&& (nI 31)) = nI 6
    · refine Ew.tsw (pc' := 332) (x := ((I 9 0 0 i) &&& (nI 31))) f249_33 (by rw [c8] <;> rfl) ?_
      exact h8 (Int32.not_lt.mp c1) c2 c3 c4 c5 c6 c7 c8
    by_cases c9 : ((I 9 0 0 i) &&& (nI 31)) = nI 7
    · refine Ew.tsw (pc' := 355) (x := ((I 9 0 0 i) &&& (nI 31))) f249_33 (by rw [c9] <;> rfl) ?_
      exact h9 (Int32.not_lt.mp c1) c2 c3 c4 c5 c6 c7 c8 c9
    by_cases c10 : ((I 9 0 0 i) &&& (nI 31)) = nI 8
    · refine Ew.tsw (pc' := 378) (x := ((I 9 0 0 i) &&& (nI 31))) f249_33 (by rw [c10] <;> rfl) ?_
      exact h10 (Int32.not_lt.mp c1) c2 c3 c4 c5 c6 c7 c8 c9 c10
    by_cases c11 : ((I 9 0 0 i) &&& (nI 31)) = nI 9
    · refine Ew.tsw (pc' := 401) (x := ((I 9 0 0 i) &&& (nI 31))) f249_33 (by rw [c11] <;> rfl) ?_
      exact h11 (Int32.not_lt.mp c1) c2 c3 c4 c5 c6 c7 c8 c9 c10 c11
    by_cases c12 : ((I 9 0 0 i) &&& (nI 31)) = nI 10
    · refine Ew.tsw (pc' := 414) (x := ((I 9 0 0 i) &&& (nI 31))) f249_33 (by rw [c12] <;> rfl) ?_
      exact h12 (Int32.not_lt.mp c1) c2 c3 c4 c5 c6 c7 c8 c9 c10 c11 c12
    by_cases c13 : ((I 9 0 0 i) &&& (nI 31)) = nI 11
    · refine Ew.tsw (pc' := 447) (x := ((I 9 0 0 i) &&& (nI 31))) f249_33 (by rw [c13] <;> rfl) ?_
      exact h13 (Int32.not_lt.mp c1) c2 c3 c4 c5 c6 c7 c8 c9 c10 c11 c12 c13
    by_cases c14 : ((I 9 0 0 i) &&& (nI 31)) = nI 12
    · refine Ew.tsw (pc' := 480) (x := ((I 9 0 0 i) &&& (nI 31))) f249_33 (by rw [c14] <;> rfl) ?_
      exact h14 (Int32.not_lt.mp c1) c2 c3 c4 c5 c6 c7 c8 c9 c10 c11 c12 c13 c14
    by_cases c15 : ((I 9 0 0 i) &&& (nI 31)) = nI 13
    · refine Ew.tsw (pc' := 503) (x := ((I 9 0 0 i) &&& (nI 31))) f249_33 (by rw [c15] <;> rfl) ?_
      exact h15 (Int32.not_lt.mp c1) c2 c3 c4 c5 c6 c7 c8 c9 c10 c11 c12 c13 c14 c15
    by_cases c16 : ((I 9 0 0 i) &&& (nI 31)) = nI 14
    · refine Ew.tsw (pc' := 536) (x := ((I 9 0 0 i) &&& (nI 31))) f249_33 (by rw [c16] <;> rfl) ?_
      exact h16 (Int32.not_lt.mp c1) c2 c3 c4 c5 c6 c7 c8 c9 c10 c11 c12 c13 c14 c15 c16
    by_cases c17 : ((I 9 0 0 i) &&& (nI 31)) = nI 15
    · refine Ew.tsw (pc' := 559) (x := ((I 9 0 0 i) &&& (nI 31))) f249_33 (by rw [c17] <;> rfl) ?_
      exact h17 (Int32.not_lt.mp c1) c2 c3 c4 c5 c6 c7 c8 c9 c10 c11 c12 c13 c14 c15 c16 c17
    by_cases c18 : ((I 9 0 0 i) &&& (nI 31)) = nI 16
    · refine Ew.tsw (pc' := 603) (x := ((I 9 0 0 i) &&& (nI 31))) f249_33 (by rw [c18] <;> rfl) ?_
      exact h18 (Int32.not_lt.mp c1) c2 c3 c4 c5 c6 c7 c8 c9 c10 c11 c12 c13 c14 c15 c16 c17 c18
    by_cases c19 : ((I 9 0 0 i) &&& (nI 31)) = nI 17
    · refine Ew.tsw (pc' := 647) (x := ((I 9 0 0 i) &&& (nI 31))) f249_33 (by rw [c19] <;> rfl) ?_
      exact h19 (Int32.not_lt.mp c1) c2 c3 c4 c5 c6 c7 c8 c9 c10 c11 c12 c13 c14 c15 c16 c17 c18 c19
    by_cases c20 : ((I 9 0 0 i) &&& (nI 31)) = nI 18
    · refine Ew.tsw (pc' := 680) (x := ((I 9 0 0 i) &&& (nI 31))) f249_33 (by rw [c20] <;> rfl) ?_
      exact h20 (Int32.not_lt.mp c1) c2 c3 c4 c5 c6 c7 c8 c9 c10 c11 c12 c13 c14 c15 c16 c17 c18 c19 c20
    by_cases c21 : ((I 9 0 0 i) &&& (nI 31)) = nI 19
    · refine Ew.tsw (pc' := 703) (x := ((I 9 0 0 i) &&& (nI 31))) f249_33 (by rw [c21] <;> rfl) ?_
      exact h21 (Int32.not_lt.mp c1) c2 c3 c4 c5 c6 c7 c8 c9 c10 c11 c12 c13 c14 c15 c16 c17 c18 c19 c20 c21
    by_cases c22 : ((I 9 0 0 i) &&& (nI 31)) = nI 20
    · refine Ew.tsw (pc' := 716) (x := ((I 9 0 0 i) &&& (nI 31))) f249_33 (by rw [c22] <;> rfl) ?_
      exact h22 (Int32.not_lt.mp c1) c2 c3 c4 c5 c6 c7 c8 c9 c10 c11 c12 c13 c14 c15 c16 c17 c18 c19 c20 c21 c22
    by_cases c23 : ((I 9 0 0 i) &&& (nI 31)) = nI 21
    · refine Ew.tsw (pc' := 739) (x := ((I 9 0 0 i) &&& (nI 31))) f249_33 (by rw [c23] <;> rfl) ?_
      exact h23 (Int32.not_lt.mp c1) c2 c3 c4 c5 c6 c7 c8 c9 c10 c11 c12 c13 c14 c15 c16 c17 c18 c19 c20 c21 c22 c23
    by_cases c24 : ((I 9 0 0 i) &&& (nI 31)) = nI 22
    · refine Ew.tsw (pc' := 752) (x := ((I 9 0 0 i) &&& (nI 31))) f249_33 (by rw [c24] <;> rfl) ?_
      exact h24 (Int32.not_lt.mp c1) c2 c3 c4 c5 c6 c7 c8 c9 c10 c11 c12 c13 c14 c15 c16 c17 c18 c19 c20 c21 c22 c23 c24
    by_cases c25 : ((I 9 0 0 i) &&& (nI 31)) = nI 23
    · refine Ew.tsw (pc' := 765) (x := ((I 9 0 0 i) &&& (nI 31))) f249_33 (by rw [c25] <;> rfl) ?_
      exact h25 (Int32.not_lt.mp c1) c2 c3 c4 c5 c6 c7 c8 c9 c10 c11 c12 c13 c14 c15 c16 c17 c18 c19 c20 c21 c22 c23 c24 c25
    by_cases c26 : ((I 9 0 0 i) &&& (nI 31)) = nI 24
    · refine Ew.tsw (pc' := 818) (x := ((I 9 0 0 i) &&& (nI 31))) f249_33 (by rw [c26] <;> rfl) ?_
      exact h26 (Int32.not_lt.mp c1) c2 c3 c4 c5 c6 c7 c8 c9 c10 c11 c12 c13 c14 c15 c16 c17 c18 c19 c20 c21 c22 c23 c24 c25 c26
    by_cases c27 : ((I 9 0 0 i) &&& (nI 31)) = nI 25
    · refine Ew.tsw (pc' := 861) (x := ((I 9 0 0 i) &&& (nI 31))) f249_33 (by rw [c27] <;> rfl) ?_
      exact h27 (Int32.not_lt.mp c1) c2 c3 c4 c5 c6 c7 c8 c9 c10 c11 c12 c13 c14 c15 c16 c17 c18 c19 c20 c21 c22 c23 c24 c25 c26 c27
    by_cases c28 : ((I 9 0 0 i) &&& (nI 31)) = nI 26
    · refine Ew.tsw (pc' := 904) (x := ((I 9 0 0 i) &&& (nI 31))) f249_33 (by rw [c28] <;> rfl) ?_
      exact h28 (Int32.not_lt.mp c1) c2 c3 c4 c5 c6 c7 c8 c9 c10 c11 c12 c13 c14 c15 c16 c17 c18 c19 c20 c21 c22 c23 c24 c25 c26 c27 c28
    by_cases c29 : ((I 9 0 0 i) &&& (nI 31)) = nI 27
    · refine Ew.tsw (pc' := 927) (x := ((I 9 0 0 i) &&& (nI 31))) f249_33 (by rw [c29] <;> rfl) ?_
      exact h29 (Int32.not_lt.mp c1) c2 c3 c4 c5 c6 c7 c8 c9 c10 c11 c12 c13 c14 c15 c16 c17 c18 c19 c20 c21 c22 c23 c24 c25 c26 c27 c28 c29
    by_cases c30 : ((I 9 0 0 i) &&& (nI 31)) = nI 28
    · refine Ew.tsw (pc' := 1010) (x := ((I 9 0 0 i) &&& (nI 31))) f249_33 (by rw [c30] <;> rfl) ?_
      exact h30 (Int32.not_lt.mp c1) c2 c3 c4 c5 c6 c7 c8 c9 c10 c11 c12 c13 c14 c15 c16 c17 c18 c19 c20 c21 c22 c23 c24 c25 c26 c27 c28 c29 c30
    refine Ew.tsw (x := ((I 9 0 0 i) &&& (nI 31))) f249_33 (ztw_o (m := 0) (n := 29) (zno (by decide) (fun k hk => by rcases (show k = 0 ∨ k = 1 ∨ k = 2 ∨ k = 3 ∨ k = 4 ∨ k = 5 ∨ k = 6 ∨ k = 7 ∨ k = 8 ∨ k = 9 ∨ k = 10 ∨ k = 11 ∨ k = 12 ∨ k = 13 ∨ k = 14 ∨ k = 15 ∨ k = 16 ∨ k = 17 ∨ k = 18 ∨ k = 19 ∨ k = 20 ∨ k = 21 ∨ k = 22 ∨ k = 23 ∨ k = 24 ∨ k = 25 ∨ k = 26 ∨ k = 27 ∨ k = 28 by omega) with rfl | rfl | rfl | rfl | rfl | rfl | rfl | rfl | rfl | rfl | rfl | rfl | rfl | rfl | rfl | rfl | rfl | rfl | rfl | rfl | rfl | rfl | rfl | rfl | rfl | rfl | rfl | rfl | rfl <;> first | exact c2 | exact c3 | exact c4 | exact c5 | exact c6 | exact c7 | exact c8 | exact c9 | exact c10 | exact c11 | exact c12 | exact c13 | exact c14 | exact c15 | exact c16 | exact c17 | exact c18 | exact c19 | exact c20 | exact c21 | exact c22 | exact c23 | exact c24 | exact c25 | exact c26 | exact c27 | exact c28 | exact c29 | exact c30)) rfl rfl rfl) ?_
    exact h31 (Int32.not_lt.mp c1) c2 c3 c4 c5 c6 c7 c8 c9 c10 c11 c12 c13 c14 c15 c16 c17 c18 c19 c20 c21 c22 c23 c24 c25 c26 c27 c28 c29 c30
theorem g249_1073 {d c s : Nat} {i N : Nat} {I : zI} {L : zL} {P : zP} {S : zS} {top : Nat} {Q : Option zV → zM → Prop} (sN : S 9 0 0 = (20, N)) (hN : N ≤ 3072) 
    (h1 : Ev d c s 249 18 [some (zr (some (9, 0, 0))), some (zr (some (0, 0, 0))), some (zr (some (1, 0, 0))), some (zi (nI (i + 6)))] [] (I, L, zpj P, zsj S, top) Q) : Ev d c s 249 1073 [some (zr (some (9, 0, 0))), some (zr (some (0, 0, 0))), some (zr (some (1, 0, 0))), some (zi (nI i))] [] (I, L, zpj P, zsj S, top) Q := by
  refine Ew.iinc (v := nI (i + 6)) (ls' := [some (zr (some (9, 0, 0))), some (zr (some (0, 0, 0))), some (zr (some (1, 0, 0))), some (zi (nI (i + 6)))]) f249_1073 rfl (nI_add _ _) rfl rfl ?_
  refine Ew.goto f249_1076 rfl ?_
  exact h1
theorem g249_164 {d c s : Nat} {i N : Nat} {I : zI} {L : zL} {P : zP} {S : zS} {top : Nat} {Q : Option zV → zM → Prop} (sN : S 9 0 0 = (20, N)) (hN : N ≤ 3072) 
    (b1 : i + 1 < N)
    (h1 : Ev d 0 0 112 0 [some (zr (some (0, 0, 0))), some (zi (I 9 0 0 (i + 1)))] [] (I, L, zpj P, zsj S, top) (fun r M' => Ev (d + 1) c s 249 173 [some (zr (some (9, 0, 0))), some (zr (some (0, 0, 0))), some (zr (some (1, 0, 0))), some (zi (nI i))] (zpush r []) M' Q)) : Ev (d + 1) c s 249 164 [some (zr (some (9, 0, 0))), some (zr (some (0, 0, 0))), some (zr (some (1, 0, 0))), some (zi (nI i))] [] (I, L, zpj P, zsj S, top) Q := by
  refine Ew.ld f249_164 rfl rfl rfl rfl ?_
  refine Ew.ld f249_165 rfl rfl rfl rfl ?_
  refine Ew.ld f249_166 rfl rfl rfl rfl ?_
  refine Ew.op (st' := zi (nI 1) :: _) f249_167 rfl rfl ?_
  refine Ew.addn f249_168 rfl ?_
  refine Ew.ialdn f249_169 (by show (S 9 0 0).1 = _; rw [sN]) (by show _ < (S 9 0 0).2; rw [sN]; exact b1) (by show (S 9 0 0).2 < 5000; rw [sN]; omega) rfl ?_
  refine Ew.call0 (ls0 := [some (zr (some (0, 0, 0))), some (zi (I 9 0 0 (i + 1)))]) f249_170 rfl (Nat.le_of_ble_eq_true rfl) rfl rfl (Nat.le_of_ble_eq_true rfl) rfl (Nat.le_of_ble_eq_true rfl) rfl rfl ?_
  exact h1
theorem g249_173 {d c s : Nat} {i N : Nat} {v : Int32} {I : zI} {L : zL} {P : zP} {S : zS} {top : Nat} {Q : Option zV → zM → Prop} (sN : S 9 0 0 = (20, N)) (hN : N ≤ 3072) 
    (b1 : i + 1 < N)
    (h1 : Ev d 0 0 179 0 [some (zr (some (1, 0, 0))), some (zi (I 9 0 0 (i + 1)))] [] (I, L, zpj P, zsj S, top) (fun r M' => Ev (d + 1) c s 249 182 [some (zr (some (9, 0, 0))), some (zr (some (0, 0, 0))), some (zr (some (1, 0, 0))), some (zi (nI i))] (zpush r [zi v]) M' Q)) : Ev (d + 1) c s 249 173 [some (zr (some (9, 0, 0))), some (zr (some (0, 0, 0))), some (zr (some (1, 0, 0))), some (zi (nI i))] [zi v] (I, L, zpj P, zsj S, top) Q := by
  refine Ew.ld f249_173 rfl rfl rfl rfl ?_
  refine Ew.ld f249_174 rfl rfl rfl rfl ?_
  refine Ew.ld f249_175 rfl rfl rfl rfl ?_
  refine Ew.op (st' := zi (nI 1) :: _) f249_176 rfl rfl ?_
  refine Ew.addn f249_177 rfl ?_
  refine Ew.ialdn f249_178 (by show (S 9 0 0).1 = _; rw [sN]) (by show _ < (S 9 0 0).2; rw [sN]; exact b1) (by show (S 9 0 0).2 < 5000; rw [sN]; omega) rfl ?_
  refine Ew.call0 (ls0 := [some (zr (some (1, 0, 0))), some (zi (I 9 0 0 (i + 1)))]) f249_179 rfl (Nat.le_of_ble_eq_true rfl) rfl rfl (Nat.le_of_ble_eq_true rfl) rfl (Nat.le_of_ble_eq_true rfl) rfl rfl ?_
  exact h1
theorem g249_182 {d c s : Nat} {i N : Nat} {v : Int32} {I : zI} {L : zL} {P : zP} {S : zS} {top : Nat} {Q : Option zV → zM → Prop} (sN : S 9 0 0 = (20, N)) (hN : N ≤ 3072) 
    (h1 : (v = v) → Ev d c s 249 1073 [some (zr (some (9, 0, 0))), some (zr (some (0, 0, 0))), some (zr (some (1, 0, 0))), some (zi (nI i))] [] (I, L, zpj P, zsj S, top) Q)
    (h2 : (¬ v = v) → Q (some (zi (nI 0))) (I, L, zpj P, zsj S, top)) : Ev d c s 249 182 [some (zr (some (9, 0, 0))), some (zr (some (0, 0, 0))), some (zr (some (1, 0, 0))), some (zi (nI i))] [zi v, zi v] (I, L, zpj P, zsj S, top) Q := by
  refine Ew.icmp f249_182 rfl rfl (fun c1 => ?_) (fun c1 => ?_)
  · exact h1 c1
  · refine Ew.op (st' := zi (nI 0) :: _) f249_185 rfl rfl ?_
    refine Ew.iretb f249_186 (Or.inl rfl) ?_
    exact h2 c1
theorem g249_187 {d c s : Nat} {i N : Nat} {I : zI} {L : zL} {P : zP} {S : zS} {top : Nat} {Q : Option zV → zM → Prop} (sN : S 9 0 0 = (20, N)) (hN : N ≤ 3072) 
    (b1 : i + 1 < N)
    (h1 : Ev d 8 255 113 0 [some (zr (some (0, 0, 0))), some (zi (I 9 0 0 (i + 1))), none] [] (I, L, zpj P, zsj S, top) (fun r M' => Ev (d + 1) c s 249 196 [some (zr (some (9, 0, 0))), some (zr (some (0, 0, 0))), some (zr (some (1, 0, 0))), some (zi (nI i))] (zpush r []) M' Q)) : Ev (d + 1) (c + 8) (s + 255) 249 187 [some (zr (some (9, 0, 0))), some (zr (some (0, 0, 0))), some (zr (some (1, 0, 0))), some (zi (nI i))] [] (I, L, zpj P, zsj S, top) Q := by
  refine Ew.ld f249_187 rfl rfl rfl rfl ?_
  refine Ew.ld f249_188 rfl rfl rfl rfl ?_
  refine Ew.ld f249_189 rfl rfl rfl rfl ?_
  refine Ew.op (st' := zi (nI 1) :: _) f249_190 rfl rfl ?_
  refine Ew.addn f249_191 rfl ?_
  refine Ew.ialdn f249_192 (by show (S 9 0 0).1 = _; rw [sN]) (by show _ < (S 9 0 0).2; rw [sN]; exact b1) (by show (S 9 0 0).2 < 5000; rw [sN]; omega) rfl ?_
  refine Ew.callB (c := c) (s := s) (ls0 := [some (zr (some (0, 0, 0))), some (zi (I 9 0 0 (i + 1))), none]) f249_193 rfl (Nat.le_of_ble_eq_true rfl) rfl rfl (Nat.le_of_ble_eq_true rfl) rfl (Nat.le_of_ble_eq_true rfl) rfl rfl ?_
  exact h1
theorem g249_196 {d c s : Nat} {i N : Nat} {v : Int32} {I : zI} {L : zL} {P : zP} {S : zS} {top : Nat} {Q : Option zV → zM → Prop} (sN : S 9 0 0 = (20, N)) (hN : N ≤ 3072) 
    (b1 : i + 1 < N)
    (h1 : Ev d 0 0 188 0 [some (zr (some (1, 0, 0))), some (zi (I 9 0 0 (i + 1))), none, none, none] [] (I, L, zpj P, zsj S, top) (fun r M' => Ev (d + 1) c s 249 205 [some (zr (some (9, 0, 0))), some (zr (some (0, 0, 0))), some (zr (some (1, 0, 0))), some (zi (nI i))] (zpush r [zi v]) M' Q)) : Ev (d + 1) c s 249 196 [some (zr (some (9, 0, 0))), some (zr (some (0, 0, 0))), some (zr (some (1, 0, 0))), some (zi (nI i))] [zi v] (I, L, zpj P, zsj S, top) Q := by
  refine Ew.ld f249_196 rfl rfl rfl rfl ?_
  refine Ew.ld f249_197 rfl rfl rfl rfl ?_
  refine Ew.ld f249_198 rfl rfl rfl rfl ?_
  refine Ew.op (st' := zi (nI 1) :: _) f249_199 rfl rfl ?_
  refine Ew.addn f249_200 rfl ?_
  refine Ew.ialdn f249_201 (by show (S 9 0 0).1 = _; rw [sN]) (by show _ < (S 9 0 0).2; rw [sN]; exact b1) (by show (S 9 0 0).2 < 5000; rw [sN]; omega) rfl ?_
  refine Ew.call0 (ls0 := [some (zr (some (1, 0, 0))), some (zi (I 9 0 0 (i + 1))), none, none, none]) f249_202 rfl (Nat.le_of_ble_eq_true rfl) rfl rfl (Nat.le_of_ble_eq_true rfl) rfl (Nat.le_of_ble_eq_true rfl) rfl rfl ?_
  exact h1
theorem g249_205 {d c s : Nat} {i N : Nat} {v : Int32} {I : zI} {L : zL} {P : zP} {S : zS} {top : Nat} {Q : Option zV → zM → Prop} (sN : S 9 0 0 = (20, N)) (hN : N ≤ 3072) 
    (h1 : (v = v) → Ev d c s 249 1073 [some (zr (some (9, 0, 0))), some (zr (some (0, 0, 0))), some (zr (some (1, 0, 0))), some (zi (nI i))] [] (I, L, zpj P, zsj S, top) Q)
    (h2 : (¬ v = v) → Q (some (zi (nI 0))) (I, L, zpj P, zsj S, top)) : Ev d c s 249 205 [some (zr (some (9, 0, 0))), some (zr (some (0, 0, 0))), some (zr (some (1, 0, 0))), some (zi (nI i))] [zi v, zi v] (I, L, zpj P, zsj S, top) Q := by
  refine Ew.icmp f249_205 rfl rfl (fun c1 => ?_) (fun c1 => ?_)
  · exact h1 c1
  · refine Ew.op (st' := zi (nI 0) :: _) f249_208 rfl rfl ?_
    refine Ew.iretb f249_209 (Or.inl rfl) ?_
    exact h2 c1
theorem g249_210 {d c s : Nat} {i N : Nat} {I : zI} {L : zL} {P : zP} {S : zS} {top : Nat} {Q : Option zV → zM → Prop} (sN : S 9 0 0 = (20, N)) (hN : N ≤ 3072) 
    (b1 : i + 1 < N)
    (h1 : Ev d 20 536 114 0 [some (zr (some (0, 0, 0))), some (zi (I 9 0 0 (i + 1))), none, none] [] (I, L, zpj P, zsj S, top) (fun r M' => Ev (d + 1) c s 249 219 [some (zr (some (9, 0, 0))), some (zr (some (0, 0, 0))), some (zr (some (1, 0, 0))), some (zi (nI i))] (zpush r []) M' Q)) : Ev (d + 1) (c + 20) (s + 536) 249 210 [some (zr (some (9, 0, 0))), some (zr (some (0, 0, 0))), some (zr (some (1, 0, 0))), some (zi (nI i))] [] (I, L, zpj P, zsj S, top) Q := by
  refine Ew.ld f249_210 rfl rfl rfl rfl ?_
  refine Ew.ld f249_211 rfl rfl rfl rfl ?_
  refine Ew.ld f249_212 rfl rfl rfl rfl ?_
  refine Ew.op (st' := zi (nI 1) :: _) f249_213 rfl rfl ?_
  refine Ew.addn f249_214 rfl ?_
  refine Ew.ialdn f249_215 (by show (S 9 0 0).1 = _; rw [sN]) (by show _ < (S 9 0 0).2; rw [sN]; exact b1) (by show (S 9 0 0).2 < 5000; rw [sN]; omega) rfl ?_
  refine Ew.callB (c := c) (s := s) (ls0 := [some (zr (some (0, 0, 0))), some (zi (I 9 0 0 (i + 1))), none, none]) f249_216 rfl (Nat.le_of_ble_eq_true rfl) rfl rfl (Nat.le_of_ble_eq_true rfl) rfl (Nat.le_of_ble_eq_true rfl) rfl rfl ?_
  exact h1
theorem g249_219 {d c s : Nat} {i N : Nat} {v : Int32} {I : zI} {L : zL} {P : zP} {S : zS} {top : Nat} {Q : Option zV → zM → Prop} (sN : S 9 0 0 = (20, N)) (hN : N ≤ 3072) 
    (b1 : i + 1 < N)
    (h1 : Ev d 0 0 189 0 [some (zr (some (1, 0, 0))), some (zi (I 9 0 0 (i + 1))), none] [] (I, L, zpj P, zsj S, top) (fun r M' => Ev (d + 1) c s 249 228 [some (zr (some (9, 0, 0))), some (zr (some (0, 0, 0))), some (zr (some (1, 0, 0))), some (zi (nI i))] (zpush r [zi v]) M' Q)) : Ev (d + 1) c s 249 219 [some (zr (some (9, 0, 0))), some (zr (some (0, 0, 0))), some (zr (some (1, 0, 0))), some (zi (nI i))] [zi v] (I, L, zpj P, zsj S, top) Q := by
  refine Ew.ld f249_219 rfl rfl rfl rfl ?_
  refine Ew.ld f249_220 rfl rfl rfl rfl ?_
  refine Ew.ld f249_221 rfl rfl rfl rfl ?_
  refine Ew.op (st' := zi (nI 1) :: _) f249_222 rfl rfl ?_
  refine Ew.addn f249_223 rfl ?_
  refine Ew.ialdn f249_224 (by show (S 9 0 0).1 = _; rw [sN]) (by show _ < (S 9 0 0).2; rw [sN]; exact b1) (by show (S 9 0 0).2 < 5000; rw [sN]; omega) rfl ?_
  refine Ew.call0 (ls0 := [some (zr (some (1, 0, 0))), some (zi (I 9 0 0 (i + 1))), none]) f249_225 rfl (Nat.le_of_ble_eq_true rfl) rfl rfl (Nat.le_of_ble_eq_true rfl) rfl (Nat.le_of_ble_eq_true rfl) rfl rfl ?_
  exact h1
theorem g249_228 {d c s : Nat} {i N : Nat} {v : Int32} {I : zI} {L : zL} {P : zP} {S : zS} {top : Nat} {Q : Option zV → zM → Prop} (sN : S 9 0 0 = (20, N)) (hN : N ≤ 3072) 
    (h1 : (v = v) → Ev d c s 249 1073 [some (zr (some (9, 0, 0))), some (zr (some (0, 0, 0))), some (zr (some (1, 0, 0))), some (zi (nI i))] [] (I, L, zpj P, zsj S, top) Q)
    (h2 : (¬ v = v) → Q (some (zi (nI 0))) (I, L, zpj P, zsj S, top)) : Ev d c s 249 228 [some (zr (some (9, 0, 0))), some (zr (some (0, 0, 0))), some (zr (some (1, 0, 0))), some (zi (nI i))] [zi v, zi v] (I, L, zpj P, zsj S, top) Q := by
  refine Ew.icmp f249_228 rfl rfl (fun c1 => ?_) (fun c1 => ?_)
  · exact h1 c1
  · refine Ew.op (st' := zi (nI 0) :: _) f249_231 rfl rfl ?_
    refine Ew.iretb f249_232 (Or.inl rfl) ?_
    exact h2 c1
theorem g249_233 {d c s : Nat} {i N : Nat} {I : zI} {L : zL} {P : zP} {S : zS} {top : Nat} {Q : Option zV → zM → Prop} (sN : S 9 0 0 = (20, N)) (hN : N ≤ 3072) 
    (b1 : i + 1 < N)
    (h1 : Ev d 0 0 115 0 [some (zr (some (0, 0, 0))), some (zi (I 9 0 0 (i + 1)))] [] (I, L, zpj P, zsj S, top) (fun r M' => Ev (d + 1) c s 249 242 [some (zr (some (9, 0, 0))), some (zr (some (0, 0, 0))), some (zr (some (1, 0, 0))), some (zi (nI i))] (zpush r []) M' Q)) : Ev (d + 1) c s 249 233 [some (zr (some (9, 0, 0))), some (zr (some (0, 0, 0))), some (zr (some (1, 0, 0))), some (zi (nI i))] [] (I, L, zpj P, zsj S, top) Q := by
  refine Ew.ld f249_233 rfl rfl rfl rfl ?_
  refine Ew.ld f249_234 rfl rfl rfl rfl ?_
  refine Ew.ld f249_235 rfl rfl rfl rfl ?_
  refine Ew.op (st' := zi (nI 1) :: _) f249_236 rfl rfl ?_
  refine Ew.addn f249_237 rfl ?_
  refine Ew.ialdn f249_238 (by show (S 9 0 0).1 = _; rw [sN]) (by show _ < (S 9 0 0).2; rw [sN]; exact b1) (by show (S 9 0 0).2 < 5000; rw [sN]; omega) rfl ?_
  refine Ew.call0 (ls0 := [some (zr (some (0, 0, 0))), some (zi (I 9 0 0 (i + 1)))]) f249_239 rfl (Nat.le_of_ble_eq_true rfl) rfl rfl (Nat.le_of_ble_eq_true rfl) rfl (Nat.le_of_ble_eq_true rfl) rfl rfl ?_
  exact h1
theorem g249_242 {d c s : Nat} {i N : Nat} {v : Int32} {I : zI} {L : zL} {P : zP} {S : zS} {top : Nat} {Q : Option zV → zM → Prop} (sN : S 9 0 0 = (20, N)) (hN : N ≤ 3072) 
    (b1 : i + 1 < N)
    (h1 : Ev d 0 0 191 0 [some (zr (some (1, 0, 0))), some (zi (I 9 0 0 (i + 1)))] [] (I, L, zpj P, zsj S, top) (fun r M' => Ev (d + 1) c s 249 251 [some (zr (some (9, 0, 0))), some (zr (some (0, 0, 0))), some (zr (some (1, 0, 0))), some (zi (nI i))] (zpush r [zi v]) M' Q)) : Ev (d + 1) c s 249 242 [some (zr (some (9, 0, 0))), some (zr (some (0, 0, 0))), some (zr (some (1, 0, 0))), some (zi (nI i))] [zi v] (I, L, zpj P, zsj S, top) Q := by
  refine Ew.ld f249_242 rfl rfl rfl rfl ?_
  refine Ew.ld f249_243 rfl rfl rfl rfl ?_
  refine Ew.ld f249_244 rfl rfl rfl rfl ?_
  refine Ew.op (st' := zi (nI 1) :: _) f249_245 rfl rfl ?_
  refine Ew.addn f249_246 rfl ?_
  refine Ew.ialdn f249_247 (by show (S 9 0 0).1 = _; rw [sN]) (by show _ < (S 9 0 0).2; rw [sN]; exact b1) (by show (S 9 0 0).2 < 5000; rw [sN]; omega) rfl ?_
  refine Ew.call0 (ls0 := [some (zr (some (1, 0, 0))), some (zi (I 9 0 0 (i + 1)))]) f249_248 rfl (Nat.le_of_ble_eq_true rfl) rfl rfl (Nat.le_of_ble_eq_true rfl) rfl (Nat.le_of_ble_eq_true rfl) rfl rfl ?_
  exact h1
theorem g249_251 {d c s : Nat} {i N : Nat} {v : Int32} {I : zI} {L : zL} {P : zP} {S : zS} {top : Nat} {Q : Option zV → zM → Prop} (sN : S 9 0 0 = (20, N)) (hN : N ≤ 3072) 
    (h1 : (v = v) → Ev d c s 249 1073 [some (zr (some (9, 0, 0))), some (zr (some (0, 0, 0))), some (zr (some (1, 0, 0))), some (zi (nI i))] [] (I, L, zpj P, zsj S, top) Q)
    (h2 : (¬ v = v) → Q (some (zi (nI 0))) (I, L, zpj P, zsj S, top)) : Ev d c s 249 251 [some (zr (some (9, 0, 0))), some (zr (some (0, 0, 0))), some (zr (some (1, 0, 0))), some (zi (nI i))] [zi v, zi v] (I, L, zpj P, zsj S, top) Q := by
  refine Ew.icmp f249_251 rfl rfl (fun c1 => ?_) (fun c1 => ?_)
  · exact h1 c1
  · refine Ew.op (st' := zi (nI 0) :: _) f249_254 rfl rfl ?_
    refine Ew.iretb f249_255 (Or.inl rfl) ?_
    exact h2 c1
theorem g249_256 {d c s : Nat} {i N : Nat} {I : zI} {L : zL} {P : zP} {S : zS} {top : Nat} {Q : Option zV → zM → Prop} (sN : S 9 0 0 = (20, N)) (hN : N ≤ 3072) 
    (b1 : i + 1 < N)
    (b2 : i + 2 < N)
    (h1 : Ev d 0 0 116 0 [some (zr (some (0, 0, 0))), some (zi (I 9 0 0 (i + 1))), some (zi (I 9 0 0 (i + 2)))] [] (I, L, zpj P, zsj S, top) (fun r M' => Ev (d + 1) c s 249 270 [some (zr (some (9, 0, 0))), some (zr (some (0, 0, 0))), some (zr (some (1, 0, 0))), some (zi (nI i))] (zpush r []) M' Q)) : Ev (d + 1) c s 249 256 [some (zr (some (9, 0, 0))), some (zr (some (0, 0, 0))), some (zr (some (1, 0, 0))), some (zi (nI i))] [] (I, L, zpj P, zsj S, top) Q := by
  refine Ew.ld f249_256 rfl rfl rfl rfl ?_
  refine Ew.ld f249_257 rfl rfl rfl rfl ?_
  refine Ew.ld f249_258 rfl rfl rfl rfl ?_
  refine Ew.op (st' := zi (nI 1) :: _) f249_259 rfl rfl ?_
  refine Ew.addn f249_260 rfl ?_
  refine Ew.ialdn f249_261 (by show (S 9 0 0).1 = _; rw [sN]) (by show _ < (S 9 0 0).2; rw [sN]; exact b1) (by show (S 9 0 0).2 < 5000; rw [sN]; omega) rfl ?_
  refine Ew.ld f249_262 rfl rfl rfl rfl ?_
  refine Ew.ld f249_263 rfl rfl rfl rfl ?_
  refine Ew.op (st' := zi (nI 2) :: _) f249_264 rfl rfl ?_
  refine Ew.addn f249_265 rfl ?_
  refine Ew.ialdn f249_266 (by show (S 9 0 0).1 = _; rw [sN]) (by show _ < (S 9 0 0).2; rw [sN]; exact b2) (by show (S 9 0 0).2 < 5000; rw [sN]; omega) rfl ?_
  refine Ew.call0 (ls0 := [some (zr (some (0, 0, 0))), some (zi (I 9 0 0 (i + 1))), some (zi (I 9 0 0 (i + 2)))]) f249_267 rfl (Nat.le_of_ble_eq_true rfl) rfl rfl (Nat.le_of_ble_eq_true rfl) rfl (Nat.le_of_ble_eq_true rfl) rfl rfl ?_
  exact h1
theorem g249_270 {d c s : Nat} {i N : Nat} {v : Int32} {I : zI} {L : zL} {P : zP} {S : zS} {top : Nat} {Q : Option zV → zM → Prop} (sN : S 9 0 0 = (20, N)) (hN : N ≤ 3072) 
    (b1 : i + 1 < N)
    (b2 : i + 2 < N)
    (h1 : Ev d 0 0 172 0 [some (zr (some (1, 0, 0))), some (zi (I 9 0 0 (i + 1))), some (zi (I 9 0 0 (i + 2)))] [] (I, L, zpj P, zsj S, top) (fun r M' => Ev (d + 1) c s 249 284 [some (zr (some (9, 0, 0))), some (zr (some (0, 0, 0))), some (zr (some (1, 0, 0))), some (zi (nI i))] (zpush r [zi v]) M' Q)) : Ev (d + 1) c s 249 270 [some (zr (some (9, 0, 0))), some (zr (some (0, 0, 0))), some (zr (some (1, 0, 0))), some (zi (nI i))] [zi v] (I, L, zpj P, zsj S, top) Q := by
  refine Ew.ld f249_270 rfl rfl rfl rfl ?_
  refine Ew.ld f249_271 rfl rfl rfl rfl ?_
  refine Ew.ld f249_272 rfl rfl rfl rfl ?_
  refine Ew.op (st' := zi (nI 1) :: _) f249_273 rfl rfl ?_
  refine Ew.addn f249_274 rfl ?_
  refine Ew.ialdn f249_275 (by show (S 9 0 0).1 = _; rw [sN]) (by show _ < (S 9 0 0).2; rw [sN]; exact b1) (by show (S 9 0 0).2 < 5000; rw [sN]; omega) rfl ?_
  refine Ew.ld f249_276 rfl rfl rfl rfl ?_
  refine Ew.ld f249_277 rfl rfl rfl rfl ?_
  refine Ew.op (st' := zi (nI 2) :: _) f249_278 rfl rfl ?_
  refine Ew.addn f249_279 rfl ?_
  refine Ew.ialdn f249_280 (by show (S 9 0 0).1 = _; rw [sN]) (by show _ < (S 9 0 0).2; rw [sN]; exact b2) (by show (S 9 0 0).2 < 5000; rw [sN]; omega) rfl ?_
  refine Ew.call0 (ls0 := [some (zr (some (1, 0, 0))), some (zi (I 9 0 0 (i + 1))), some (zi (I 9 0 0 (i + 2)))]) f249_281 rfl (Nat.le_of_ble_eq_true rfl) rfl rfl (Nat.le_of_ble_eq_true rfl) rfl (Nat.le_of_ble_eq_true rfl) rfl rfl ?_
  exact h1
theorem g249_284 {d c s : Nat} {i N : Nat} {v : Int32} {I : zI} {L : zL} {P : zP} {S : zS} {top : Nat} {Q : Option zV → zM → Prop} (sN : S 9 0 0 = (20, N)) (hN : N ≤ 3072) 
    (h1 : (v = v) → Ev d c s 249 1073 [some (zr (some (9, 0, 0))), some (zr (some (0, 0, 0))), some (zr (some (1, 0, 0))), some (zi (nI i))] [] (I, L, zpj P, zsj S, top) Q)
    (h2 : (¬ v = v) → Q (some (zi (nI 0))) (I, L, zpj P, zsj S, top)) : Ev d c s 249 284 [some (zr (some (9, 0, 0))), some (zr (some (0, 0, 0))), some (zr (some (1, 0, 0))), some (zi (nI i))] [zi v, zi v] (I, L, zpj P, zsj S, top) Q := by
  refine Ew.icmp f249_284 rfl rfl (fun c1 => ?_) (fun c1 => ?_)
  · exact h1 c1
  · refine Ew.op (st' := zi (nI 0) :: _) f249_287 rfl rfl ?_
    refine Ew.iretb f249_288 (Or.inl rfl) ?_
    exact h2 c1
theorem g249_289 {d c s : Nat} {i N : Nat} {I : zI} {L : zL} {P : zP} {S : zS} {top : Nat} {Q : Option zV → zM → Prop} (sN : S 9 0 0 = (20, N)) (hN : N ≤ 3072) 
    (b1 : i + 1 < N)
    (b2 : i + 2 < N)
    (b3 : i + 3 < N)
    (h1 : Ev d 0 0 117 0 [some (zr (some (0, 0, 0))), some (zi (I 9 0 0 (i + 1))), some (zi (I 9 0 0 (i + 2))), some (zi (I 9 0 0 (i + 3)))] [] (I, L, zpj P, zsj S, top) (fun r M' => Ev (d + 1) c s 249 308 [some (zr (some (9, 0, 0))), some (zr (some (0, 0, 0))), some (zr (some (1, 0, 0))), some (zi (nI i))] (zpush r []) M' Q)) : Ev (d + 1) c s 249 289 [some (zr (some (9, 0, 0))), some (zr (some (0, 0, 0))), some (zr (some (1, 0, 0))), some (zi (nI i))] [] (I, L, zpj P, zsj S, top) Q := by
  refine Ew.ld f249_289 rfl rfl rfl rfl ?_
  refine Ew.ld f249_290 rfl rfl rfl rfl ?_
  refine Ew.ld f249_291 rfl rfl rfl rfl ?_
  refine Ew.op (st' := zi (nI 1) :: _) f249_292 rfl rfl ?_
  refine Ew.addn f249_293 rfl ?_
  refine Ew.ialdn f249_294 (by show (S 9 0 0).1 = _; rw [sN]) (by show _ < (S 9 0 0).2; rw [sN]; exact b1) (by show (S 9 0 0).2 < 5000; rw [sN]; omega) rfl ?_
  refine Ew.ld f249_295 rfl rfl rfl rfl ?_
  refine Ew.ld f249_296 rfl rfl rfl rfl ?_
  refine Ew.op (st' := zi (nI 2) :: _) f249_297 rfl rfl ?_
  refine Ew.addn f249_298 rfl ?_
  refine Ew.ialdn f249_299 (by show (S 9 0 0).1 = _; rw [sN]) (by show _ < (S 9 0 0).2; rw [sN]; exact b2) (by show (S 9 0 0).2 < 5000; rw [sN]; omega) rfl ?_
  refine Ew.ld f249_300 rfl rfl rfl rfl ?_
  refine Ew.ld f249_301 rfl rfl rfl rfl ?_
  refine Ew.op (st' := zi (nI 3) :: _) f249_302 rfl rfl ?_
  refine Ew.addn f249_303 rfl ?_
  refine Ew.ialdn f249_304 (by show (S 9 0 0).1 = _; rw [sN]) (by show _ < (S 9 0 0).2; rw [sN]; exact b3) (by show (S 9 0 0).2 < 5000; rw [sN]; omega) rfl ?_
  refine Ew.call0 (ls0 := [some (zr (some (0, 0, 0))), some (zi (I 9 0 0 (i + 1))), some (zi (I 9 0 0 (i + 2))), some (zi (I 9 0 0 (i + 3)))]) f249_305 rfl (Nat.le_of_ble_eq_true rfl) rfl rfl (Nat.le_of_ble_eq_true rfl) rfl (Nat.le_of_ble_eq_true rfl) rfl rfl ?_
  exact h1
theorem g249_308 {d c s : Nat} {i N : Nat} {v : Int32} {I : zI} {L : zL} {P : zP} {S : zS} {top : Nat} {Q : Option zV → zM → Prop} (sN : S 9 0 0 = (20, N)) (hN : N ≤ 3072) 
    (b1 : i + 1 < N)
    (b2 : i + 2 < N)
    (b3 : i + 3 < N)
    (h1 : Ev d 0 0 173 0 [some (zr (some (1, 0, 0))), some (zi (I 9 0 0 (i + 1))), some (zi (I 9 0 0 (i + 2))), some (zi (I 9 0 0 (i + 3)))] [] (I, L, zpj P, zsj S, top) (fun r M' => Ev (d + 1) c s 249 327 [some (zr (some (9, 0, 0))), some (zr (some (0, 0, 0))), some (zr (some (1, 0, 0))), some (zi (nI i))] (zpush r [zi v]) M' Q)) : Ev (d + 1) c s 249 308 [some (zr (some (9, 0, 0))), some (zr (some (0, 0, 0))), some (zr (some (1, 0, 0))), some (zi (nI i))] [zi v] (I, L, zpj P, zsj S, top) Q := by
  refine Ew.ld f249_308 rfl rfl rfl rfl ?_
  refine Ew.ld f249_309 rfl rfl rfl rfl ?_
  refine Ew.ld f249_310 rfl rfl rfl rfl ?_
  refine Ew.op (st' := zi (nI 1) :: _) f249_311 rfl rfl ?_
  refine Ew.addn f249_312 rfl ?_
  refine Ew.ialdn f249_313 (by show (S 9 0 0).1 = _; rw [sN]) (by show _ < (S 9 0 0).2; rw [sN]; exact b1) (by show (S 9 0 0).2 < 5000; rw [sN]; omega) rfl ?_
  refine Ew.ld f249_314 rfl rfl rfl rfl ?_
  refine Ew.ld f249_315 rfl rfl rfl rfl ?_
  refine Ew.op (st' := zi (nI 2) :: _) f249_316 rfl rfl ?_
  refine Ew.addn f249_317 rfl ?_
  refine Ew.ialdn f249_318 (by show (S 9 0 0).1 = _; rw [sN]) (by show _ < (S 9 0 0).2; rw [sN]; exact b2) (by show (S 9 0 0).2 < 5000; rw [sN]; omega) rfl ?_
  refine Ew.ld f249_319 rfl rfl rfl rfl ?_
  refine Ew.ld f249_320 rfl rfl rfl rfl ?_
  refine Ew.op (st' := zi (nI 3) :: _) f249_321 rfl rfl ?_
  refine Ew.addn f249_322 rfl ?_
  refine Ew.ialdn f249_323 (by show (S 9 0 0).1 = _; rw [sN]) (by show _ < (S 9 0 0).2; rw [sN]; exact b3) (by show (S 9 0 0).2 < 5000; rw [sN]; omega) rfl ?_
  refine Ew.call0 (ls0 := [some (zr (some (1, 0, 0))), some (zi (I 9 0 0 (i + 1))), some (zi (I 9 0 0 (i + 2))), some (zi (I 9 0 0 (i + 3)))]) f249_324 rfl (Nat.le_of_ble_eq_true rfl) rfl rfl (Nat.le_of_ble_eq_true rfl) rfl (Nat.le_of_ble_eq_true rfl) rfl rfl ?_
  exact h1
theorem g249_327 {d c s : Nat} {i N : Nat} {v : Int32} {I : zI} {L : zL} {P : zP} {S : zS} {top : Nat} {Q : Option zV → zM → Prop} (sN : S 9 0 0 = (20, N)) (hN : N ≤ 3072) 
    (h1 : (v = v) → Ev d c s 249 1073 [some (zr (some (9, 0, 0))), some (zr (some (0, 0, 0))), some (zr (some (1, 0, 0))), some (zi (nI i))] [] (I, L, zpj P, zsj S, top) Q)
    (h2 : (¬ v = v) → Q (some (zi (nI 0))) (I, L, zpj P, zsj S, top)) : Ev d c s 249 327 [some (zr (some (9, 0, 0))), some (zr (some (0, 0, 0))), some (zr (some (1, 0, 0))), some (zi (nI i))] [zi v, zi v] (I, L, zpj P, zsj S, top) Q := by
  refine Ew.icmp f249_327 rfl rfl (fun c1 => ?_) (fun c1 => ?_)
  · exact h1 c1
  · refine Ew.op (st' := zi (nI 0) :: _) f249_330 rfl rfl ?_
    refine Ew.iretb f249_331 (Or.inl rfl) ?_
    exact h2 c1
theorem g249_332 {d c s : Nat} {i N : Nat} {I : zI} {L : zL} {P : zP} {S : zS} {top : Nat} {Q : Option zV → zM → Prop} (sN : S 9 0 0 = (20, N)) (hN : N ≤ 3072) 
    (b1 : i + 1 < N)
    (h1 : Ev d 0 0 118 0 [some (zr (some (0, 0, 0))), some (zi (I 9 0 0 (i + 1))), none] [] (I, L, zpj P, zsj S, top) (fun r M' => Ev (d + 1) c s 249 341 [some (zr (some (9, 0, 0))), some (zr (some (0, 0, 0))), some (zr (some (1, 0, 0))), some (zi (nI i))] (zpush r []) M' Q)) : Ev (d + 1) c s 249 332 [some (zr (some (9, 0, 0))), some (zr (some (0, 0, 0))), some (zr (some (1, 0, 0))), some (zi (nI i))] [] (I, L, zpj P, zsj S, top) Q := by
  refine Ew.ld f249_332 rfl rfl rfl rfl ?_
  refine Ew.ld f249_333 rfl rfl rfl rfl ?_
  refine Ew.ld f249_334 rfl rfl rfl rfl ?_
  refine Ew.op (st' := zi (nI 1) :: _) f249_335 rfl rfl ?_
  refine Ew.addn f249_336 rfl ?_
  refine Ew.ialdn f249_337 (by show (S 9 0 0).1 = _; rw [sN]) (by show _ < (S 9 0 0).2; rw [sN]; exact b1) (by show (S 9 0 0).2 < 5000; rw [sN]; omega) rfl ?_
  refine Ew.call0 (ls0 := [some (zr (some (0, 0, 0))), some (zi (I 9 0 0 (i + 1))), none]) f249_338 rfl (Nat.le_of_ble_eq_true rfl) rfl rfl (Nat.le_of_ble_eq_true rfl) rfl (Nat.le_of_ble_eq_true rfl) rfl rfl ?_
  exact h1
theorem g249_341 {d c s : Nat} {i N : Nat} {v : Int32} {I : zI} {L : zL} {P : zP} {S : zS} {top : Nat} {Q : Option zV → zM → Prop} (sN : S 9 0 0 = (20, N)) (hN : N ≤ 3072) 
    (b1 : i + 1 < N)
    (h1 : Ev d 0 0 212 0 [some (zr (some (1, 0, 0))), some (zi (I 9 0 0 (i + 1))), none] [] (I, L, zpj P, zsj S, top) (fun r M' => Ev (d + 1) c s 249 350 [some (zr (some (9, 0, 0))), some (zr (some (0, 0, 0))), some (zr (some (1, 0, 0))), some (zi (nI i))] (zpush r [zi v]) M' Q)) : Ev (d + 1) c s 249 341 [some (zr (some (9, 0, 0))), some (zr (some (0, 0, 0))), some (zr (some (1, 0, 0))), some (zi (nI i))] [zi v] (I, L, zpj P, zsj S, top) Q := by
  refine Ew.ld f249_341 rfl rfl rfl rfl ?_
  refine Ew.ld f249_342 rfl rfl rfl rfl ?_
  refine Ew.ld f249_343 rfl rfl rfl rfl ?_
  refine Ew.op (st' := zi (nI 1) :: _) f249_344 rfl rfl ?_
  refine Ew.addn f249_345 rfl ?_
  refine Ew.ialdn f249_346 (by show (S 9 0 0).1 = _; rw [sN]) (by show _ < (S 9 0 0).2; rw [sN]; exact b1) (by show (S 9 0 0).2 < 5000; rw [sN]; omega) rfl ?_
  refine Ew.call0 (ls0 := [some (zr (some (1, 0, 0))), some (zi (I 9 0 0 (i + 1))), none]) f249_347 rfl (Nat.le_of_ble_eq_true rfl) rfl rfl (Nat.le_of_ble_eq_true rfl) rfl (Nat.le_of_ble_eq_true rfl) rfl rfl ?_
  exact h1
theorem g249_350 {d c s : Nat} {i N : Nat} {v : Int32} {I : zI} {L : zL} {P : zP} {S : zS} {top : Nat} {Q : Option zV → zM → Prop} (sN : S 9 0 0 = (20, N)) (hN : N ≤ 3072) 
    (h1 : (v = v) → Ev d c s 249 1073 [some (zr (some (9, 0, 0))), some (zr (some (0, 0, 0))), some (zr (some (1, 0, 0))), some (zi (nI i))] [] (I, L, zpj P, zsj S, top) Q)
    (h2 : (¬ v = v) → Q (some (zi (nI 0))) (I, L, zpj P, zsj S, top)) : Ev d c s 249 350 [some (zr (some (9, 0, 0))), some (zr (some (0, 0, 0))), some (zr (some (1, 0, 0))), some (zi (nI i))] [zi v, zi v] (I, L, zpj P, zsj S, top) Q := by
  refine Ew.icmp f249_350 rfl rfl (fun c1 => ?_) (fun c1 => ?_)
  · exact h1 c1
  · refine Ew.op (st' := zi (nI 0) :: _) f249_353 rfl rfl ?_
    refine Ew.iretb f249_354 (Or.inl rfl) ?_
    exact h2 c1
theorem g249_355 {d c s : Nat} {i N : Nat} {I : zI} {L : zL} {P : zP} {S : zS} {top : Nat} {Q : Option zV → zM → Prop} (sN : S 9 0 0 = (20, N)) (hN : N ≤ 3072) 
    (b1 : i + 1 < N)
    (h1 : Ev d 0 0 119 0 [some (zr (some (0, 0, 0))), some (zi (I 9 0 0 (i + 1)))] [] (I, L, zpj P, zsj S, top) (fun r M' => Ev (d + 1) c s 249 364 [some (zr (some (9, 0, 0))), some (zr (some (0, 0, 0))), some (zr (some (1, 0, 0))), some (zi (nI i))] (zpush r []) M' Q)) : Ev (d + 1) c s 249 355 [some (zr (some (9, 0, 0))), some (zr (some (0, 0, 0))), some (zr (some (1, 0, 0))), some (zi (nI i))] [] (I, L, zpj P, zsj S, top) Q := by
  refine Ew.ld f249_355 rfl rfl rfl rfl ?_
  refine Ew.ld f249_356 rfl rfl rfl rfl ?_
  refine Ew.ld f249_357 rfl rfl rfl rfl ?_
  refine Ew.op (st' := zi (nI 1) :: _) f249_358 rfl rfl ?_
  refine Ew.addn f249_359 rfl ?_
  refine Ew.ialdn f249_360 (by show (S 9 0 0).1 = _; rw [sN]) (by show _ < (S 9 0 0).2; rw [sN]; exact b1) (by show (S 9 0 0).2 < 5000; rw [sN]; omega) rfl ?_
  refine Ew.call0 (ls0 := [some (zr (some (0, 0, 0))), some (zi (I 9 0 0 (i + 1)))]) f249_361 rfl (Nat.le_of_ble_eq_true rfl) rfl rfl (Nat.le_of_ble_eq_true rfl) rfl (Nat.le_of_ble_eq_true rfl) rfl rfl ?_
  exact h1
theorem g249_364 {d c s : Nat} {i N : Nat} {v : Int32} {I : zI} {L : zL} {P : zP} {S : zS} {top : Nat} {Q : Option zV → zM → Prop} (sN : S 9 0 0 = (20, N)) (hN : N ≤ 3072) 
    (b1 : i + 1 < N)
    (h1 : Ev d 0 0 204 0 [some (zr (some (1, 0, 0))), some (zi (I 9 0 0 (i + 1)))] [] (I, L, zpj P, zsj S, top) (fun r M' => Ev (d + 1) c s 249 373 [some (zr (some (9, 0, 0))), some (zr (some (0, 0, 0))), some (zr (some (1, 0, 0))), some (zi (nI i))] (zpush r [zi v]) M' Q)) : Ev (d + 1) c s 249 364 [some (zr (some (9, 0, 0))), some (zr (some (0, 0, 0))), some (zr (some (1, 0, 0))), some (zi (nI i))] [zi v] (I, L, zpj P, zsj S, top) Q := by
  refine Ew.ld f249_364 rfl rfl rfl rfl ?_
  refine Ew.ld f249_365 rfl rfl rfl rfl ?_
  refine Ew.ld f249_366 rfl rfl rfl rfl ?_
  refine Ew.op (st' := zi (nI 1) :: _) f249_367 rfl rfl ?_
  refine Ew.addn f249_368 rfl ?_
  refine Ew.ialdn f249_369 (by show (S 9 0 0).1 = _; rw [sN]) (by show _ < (S 9 0 0).2; rw [sN]; exact b1) (by show (S 9 0 0).2 < 5000; rw [sN]; omega) rfl ?_
  refine Ew.call0 (ls0 := [some (zr (some (1, 0, 0))), some (zi (I 9 0 0 (i + 1)))]) f249_370 rfl (Nat.le_of_ble_eq_true rfl) rfl rfl (Nat.le_of_ble_eq_true rfl) rfl (Nat.le_of_ble_eq_true rfl) rfl rfl ?_
  exact h1
theorem g249_373 {d c s : Nat} {i N : Nat} {v : Int32} {I : zI} {L : zL} {P : zP} {S : zS} {top : Nat} {Q : Option zV → zM → Prop} (sN : S 9 0 0 = (20, N)) (hN : N ≤ 3072) 
    (h1 : (v = v) → Ev d c s 249 1073 [some (zr (some (9, 0, 0))), some (zr (some (0, 0, 0))), some (zr (some (1, 0, 0))), some (zi (nI i))] [] (I, L, zpj P, zsj S, top) Q)
    (h2 : (¬ v = v) → Q (some (zi (nI 0))) (I, L, zpj P, zsj S, top)) : Ev d c s 249 373 [some (zr (some (9, 0, 0))), some (zr (some (0, 0, 0))), some (zr (some (1, 0, 0))), some (zi (nI i))] [zi v, zi v] (I, L, zpj P, zsj S, top) Q := by
  refine Ew.icmp f249_373 rfl rfl (fun c1 => ?_) (fun c1 => ?_)
  · exact h1 c1
  · refine Ew.op (st' := zi (nI 0) :: _) f249_376 rfl rfl ?_
    refine Ew.iretb f249_377 (Or.inl rfl) ?_
    exact h2 c1
theorem g249_378 {d c s : Nat} {i N : Nat} {I : zI} {L : zL} {P : zP} {S : zS} {top : Nat} {Q : Option zV → zM → Prop} (sN : S 9 0 0 = (20, N)) (hN : N ≤ 3072) 
    (b1 : i + 1 < N)
    (h1 : Ev d 0 0 120 0 [some (zr (some (0, 0, 0))), some (zi (I 9 0 0 (i + 1))), none] [] (I, L, zpj P, zsj S, top) (fun r M' => Ev (d + 1) c s 249 387 [some (zr (some (9, 0, 0))), some (zr (some (0, 0, 0))), some (zr (some (1, 0, 0))), some (zi (nI i))] (zpush r []) M' Q)) : Ev (d + 1) c s 249 378 [some (zr (some (9, 0, 0))), some (zr (some (0, 0, 0))), some (zr (some (1, 0, 0))), some (zi (nI i))] [] (I, L, zpj P, zsj S, top) Q := by
  refine Ew.ld f249_378 rfl rfl rfl rfl ?_
  refine Ew.ld f249_379 rfl rfl rfl rfl ?_
  refine Ew.ld f249_380 rfl rfl rfl rfl ?_
  refine Ew.op (st' := zi (nI 1) :: _) f249_381 rfl rfl ?_
  refine Ew.addn f249_382 rfl ?_
  refine Ew.ialdn f249_383 (by show (S 9 0 0).1 = _; rw [sN]) (by show _ < (S 9 0 0).2; rw [sN]; exact b1) (by show (S 9 0 0).2 < 5000; rw [sN]; omega) rfl ?_
  refine Ew.call0 (ls0 := [some (zr (some (0, 0, 0))), some (zi (I 9 0 0 (i + 1))), none]) f249_384 rfl (Nat.le_of_ble_eq_true rfl) rfl rfl (Nat.le_of_ble_eq_true rfl) rfl (Nat.le_of_ble_eq_true rfl) rfl rfl ?_
  exact h1
theorem g249_387 {d c s : Nat} {i N : Nat} {v : Int32} {I : zI} {L : zL} {P : zP} {S : zS} {top : Nat} {Q : Option zV → zM → Prop} (sN : S 9 0 0 = (20, N)) (hN : N ≤ 3072) 
    (b1 : i + 1 < N)
    (h1 : Ev d 0 0 208 0 [some (zr (some (1, 0, 0))), some (zi (I 9 0 0 (i + 1))), none, none, none] [] (I, L, zpj P, zsj S, top) (fun r M' => Ev (d + 1) c s 249 396 [some (zr (some (9, 0, 0))), some (zr (some (0, 0, 0))), some (zr (some (1, 0, 0))), some (zi (nI i))] (zpush r [zi v]) M' Q)) : Ev (d + 1) c s 249 387 [some (zr (some (9, 0, 0))), some (zr (some (0, 0, 0))), some (zr (some (1, 0, 0))), some (zi (nI i))] [zi v] (I, L, zpj P, zsj S, top) Q := by
  refine Ew.ld f249_387 rfl rfl rfl rfl ?_
  refine Ew.ld f249_388 rfl rfl rfl rfl ?_
  refine Ew.ld f249_389 rfl rfl rfl rfl ?_
  refine Ew.op (st' := zi (nI 1) :: _) f249_390 rfl rfl ?_
  refine Ew.addn f249_391 rfl ?_
  refine Ew.ialdn f249_392 (by show (S 9 0 0).1 = _; rw [sN]) (by show _ < (S 9 0 0).2; rw [sN]; exact b1) (by show (S 9 0 0).2 < 5000; rw [sN]; omega) rfl ?_
  refine Ew.call0 (ls0 := [some (zr (some (1, 0, 0))), some (zi (I 9 0 0 (i + 1))), none, none, none]) f249_393 rfl (Nat.le_of_ble_eq_true rfl) rfl rfl (Nat.le_of_ble_eq_true rfl) rfl (Nat.le_of_ble_eq_true rfl) rfl rfl ?_
  exact h1
theorem g249_396 {d c s : Nat} {i N : Nat} {v : Int32} {I : zI} {L : zL} {P : zP} {S : zS} {top : Nat} {Q : Option zV → zM → Prop} (sN : S 9 0 0 = (20, N)) (hN : N ≤ 3072) 
    (h1 : (v = v) → Ev d c s 249 1073 [some (zr (some (9, 0, 0))), some (zr (some (0, 0, 0))), some (zr (some (1, 0, 0))), some (zi (nI i))] [] (I, L, zpj P, zsj S, top) Q)
    (h2 : (¬ v = v) → Q (some (zi (nI 0))) (I, L, zpj P, zsj S, top)) : Ev d c s 249 396 [some (zr (some (9, 0, 0))), some (zr (some (0, 0, 0))), some (zr (some (1, 0, 0))), some (zi (nI i))] [zi v, zi v] (I, L, zpj P, zsj S, top) Q := by
  refine Ew.icmp f249_396 rfl rfl (fun c1 => ?_) (fun c1 => ?_)
  · exact h1 c1
  · refine Ew.op (st' := zi (nI 0) :: _) f249_399 rfl rfl ?_
    refine Ew.iretb f249_400 (Or.inl rfl) ?_
    exact h2 c1
theorem g249_401 {d c s : Nat} {i N : Nat} {I : zI} {L : zL} {P : zP} {S : zS} {top : Nat} {Q : Option zV → zM → Prop} (sN : S 9 0 0 = (20, N)) (hN : N ≤ 3072) 
    (h1 : Ev d 0 0 121 0 [some (zr (some (0, 0, 0)))] [] (I, L, zpj P, zsj S, top) (fun r M' => Ev (d + 1) c s 249 405 [some (zr (some (9, 0, 0))), some (zr (some (0, 0, 0))), some (zr (some (1, 0, 0))), some (zi (nI i))] (zpush r []) M' Q)) : Ev (d + 1) c s 249 401 [some (zr (some (9, 0, 0))), some (zr (some (0, 0, 0))), some (zr (some (1, 0, 0))), some (zi (nI i))] [] (I, L, zpj P, zsj S, top) Q := by
  refine Ew.ld f249_401 rfl rfl rfl rfl ?_
  refine Ew.call0 (ls0 := [some (zr (some (0, 0, 0)))]) f249_402 rfl (Nat.le_of_ble_eq_true rfl) rfl rfl (Nat.le_of_ble_eq_true rfl) rfl (Nat.le_of_ble_eq_true rfl) rfl rfl ?_
  exact h1
theorem g249_405 {d c s : Nat} {i N : Nat} {v : Int32} {I : zI} {L : zL} {P : zP} {S : zS} {top : Nat} {Q : Option zV → zM → Prop} (sN : S 9 0 0 = (20, N)) (hN : N ≤ 3072) 
    (h1 : Ev d 0 0 211 0 [some (zr (some (1, 0, 0))), none] [] (I, L, zpj P, zsj S, top) (fun r M' => Ev (d + 1) c s 249 409 [some (zr (some (9, 0, 0))), some (zr (some (0, 0, 0))), some (zr (some (1, 0, 0))), some (zi (nI i))] (zpush r [zi v]) M' Q)) : Ev (d + 1) c s 249 405 [some (zr (some (9, 0, 0))), some (zr (some (0, 0, 0))), some (zr (some (1, 0, 0))), some (zi (nI i))] [zi v] (I, L, zpj P, zsj S, top) Q := by
  refine Ew.ld f249_405 rfl rfl rfl rfl ?_
  refine Ew.call0 (ls0 := [some (zr (some (1, 0, 0))), none]) f249_406 rfl (Nat.le_of_ble_eq_true rfl) rfl rfl (Nat.le_of_ble_eq_true rfl) rfl (Nat.le_of_ble_eq_true rfl) rfl rfl ?_
  exact h1
theorem g249_409 {d c s : Nat} {i N : Nat} {v : Int32} {I : zI} {L : zL} {P : zP} {S : zS} {top : Nat} {Q : Option zV → zM → Prop} (sN : S 9 0 0 = (20, N)) (hN : N ≤ 3072) 
    (h1 : (v = v) → Ev d c s 249 1073 [some (zr (some (9, 0, 0))), some (zr (some (0, 0, 0))), some (zr (some (1, 0, 0))), some (zi (nI i))] [] (I, L, zpj P, zsj S, top) Q)
    (h2 : (¬ v = v) → Q (some (zi (nI 0))) (I, L, zpj P, zsj S, top)) : Ev d c s 249 409 [some (zr (some (9, 0, 0))), some (zr (some (0, 0, 0))), some (zr (some (1, 0, 0))), some (zi (nI i))] [zi v, zi v] (I, L, zpj P, zsj S, top) Q := by
  refine Ew.icmp f249_409 rfl rfl (fun c1 => ?_) (fun c1 => ?_)
  · exact h1 c1
  · refine Ew.op (st' := zi (nI 0) :: _) f249_412 rfl rfl ?_
    refine Ew.iretb f249_413 (Or.inl rfl) ?_
    exact h2 c1
theorem g249_414 {d c s : Nat} {i N : Nat} {I : zI} {L : zL} {P : zP} {S : zS} {top : Nat} {Q : Option zV → zM → Prop} (sN : S 9 0 0 = (20, N)) (hN : N ≤ 3072) 
    (b1 : i + 1 < N)
    (b2 : i + 2 < N)
    (h1 : Ev d 0 0 122 0 [some (zr (some (0, 0, 0))), some (zi (I 9 0 0 (i + 1))), some (zi (I 9 0 0 (i + 2)))] [] (I, L, zpj P, zsj S, top) (fun r M' => Ev (d + 1) c s 249 428 [some (zr (some (9, 0, 0))), some (zr (some (0, 0, 0))), some (zr (some (1, 0, 0))), some (zi (nI i))] (zpush r []) M' Q)) : Ev (d + 1) c s 249 414 [some (zr (some (9, 0, 0))), some (zr (some (0, 0, 0))), some (zr (some (1, 0, 0))), some (zi (nI i))] [] (I, L, zpj P, zsj S, top) Q := by
  refine Ew.ld f249_414 rfl rfl rfl rfl ?_
  refine Ew.ld f249_415 rfl rfl rfl rfl ?_
  refine Ew.ld f249_416 rfl rfl rfl rfl ?_
  refine Ew.op (st' := zi (nI 1) :: _) f249_417 rfl rfl ?_
  refine Ew.addn f249_418 rfl ?_
  refine Ew.ialdn f249_419 (by show (S 9 0 0).1 = _; rw [sN]) (by show _ < (S 9 0 0).2; rw [sN]; exact b1) (by show (S 9 0 0).2 < 5000; rw [sN]; omega) rfl ?_
  refine Ew.ld f249_420 rfl rfl rfl rfl ?_
  refine Ew.ld f249_421 rfl rfl rfl rfl ?_
  refine Ew.op (st' := zi (nI 2) :: _) f249_422 rfl rfl ?_
  refine Ew.addn f249_423 rfl ?_
  refine Ew.ialdn f249_424 (by show (S 9 0 0).1 = _; rw [sN]) (by show _ < (S 9 0 0).2; rw [sN]; exact b2) (by show (S 9 0 0).2 < 5000; rw [sN]; omega) rfl ?_
  refine Ew.call0 (ls0 := [some (zr (some (0, 0, 0))), some (zi (I 9 0 0 (i + 1))), some (zi (I 9 0 0 (i + 2)))]) f249_425 rfl (Nat.le_of_ble_eq_true rfl) rfl rfl (Nat.le_of_ble_eq_true rfl) rfl (Nat.le_of_ble_eq_true rfl) rfl rfl ?_
  exact h1
theorem g249_428 {d c s : Nat} {i N : Nat} {v : Int32} {I : zI} {L : zL} {P : zP} {S : zS} {top : Nat} {Q : Option zV → zM → Prop} (sN : S 9 0 0 = (20, N)) (hN : N ≤ 3072) 
    (b1 : i + 1 < N)
    (b2 : i + 2 < N)
    (h1 : Ev d 0 0 214 0 [some (zr (some (1, 0, 0))), some (zi (I 9 0 0 (i + 1))), some (zi (I 9 0 0 (i + 2))), none] [] (I, L, zpj P, zsj S, top) (fun r M' => Ev (d + 1) c s 249 442 [some (zr (some (9, 0, 0))), some (zr (some (0, 0, 0))), some (zr (some (1, 0, 0))), some (zi (nI i))] (zpush r [zi v]) M' Q)) : Ev (d + 1) c s 249 428 [some (zr (some (9, 0, 0))), some (zr (some (0, 0, 0))), some (zr (some (1, 0, 0))), some (zi (nI i))] [zi v] (I, L, zpj P, zsj S, top) Q := by
  refine Ew.ld f249_428 rfl rfl rfl rfl ?_
  refine Ew.ld f249_429 rfl rfl rfl rfl ?_
  refine Ew.ld f249_430 rfl rfl rfl rfl ?_
  refine Ew.op (st' := zi (nI 1) :: _) f249_431 rfl rfl ?_
  refine Ew.addn f249_432 rfl ?_
  refine Ew.ialdn f249_433 (by show (S 9 0 0).1 = _; rw [sN]) (by show _ < (S 9 0 0).2; rw [sN]; exact b1) (by show (S 9 0 0).2 < 5000; rw [sN]; omega) rfl ?_
  refine Ew.ld f249_434 rfl rfl rfl rfl ?_
  refine Ew.ld f249_435 rfl rfl rfl rfl ?_
  refine Ew.op (st' := zi (nI 2) :: _) f249_436 rfl rfl ?_
  refine Ew.addn f249_437 rfl ?_
  refine Ew.ialdn f249_438 (by show (S 9 0 0).1 = _; rw [sN]) (by show _ < (S 9 0 0).2; rw [sN]; exact b2) (by show (S 9 0 0).2 < 5000; rw [sN]; omega) rfl ?_
  refine Ew.call0 (ls0 := [some (zr (some (1, 0, 0))), some (zi (I 9 0 0 (i + 1))), some (zi (I 9 0 0 (i + 2))), none]) f249_439 rfl (Nat.le_of_ble_eq_true rfl) rfl rfl (Nat.le_of_ble_eq_true rfl) rfl (Nat.le_of_ble_eq_true rfl) rfl rfl ?_
  exact h1
theorem g249_442 {d c s : Nat} {i N : Nat} {v : Int32} {I : zI} {L : zL} {P : zP} {S : zS} {top : Nat} {Q : Option zV → zM → Prop} (sN : S 9 0 0 = (20, N)) (hN : N ≤ 3072) 
    (h1 : (v = v) → Ev d c s 249 1073 [some (zr (some (9, 0, 0))), some (zr (some (0, 0, 0))), some (zr (some (1, 0, 0))), some (zi (nI i))] [] (I, L, zpj P, zsj S, top) Q)
    (h2 : (¬ v = v) → Q (some (zi (nI 0))) (I, L, zpj P, zsj S, top)) : Ev d c s 249 442 [some (zr (some (9, 0, 0))), some (zr (some (0, 0, 0))), some (zr (some (1, 0, 0))), some (zi (nI i))] [zi v, zi v] (I, L, zpj P, zsj S, top) Q := by
  refine Ew.icmp f249_442 rfl rfl (fun c1 => ?_) (fun c1 => ?_)
  · exact h1 c1
  · refine Ew.op (st' := zi (nI 0) :: _) f249_445 rfl rfl ?_
    refine Ew.iretb f249_446 (Or.inl rfl) ?_
    exact h2 c1
theorem g249_447 {d c s : Nat} {i N : Nat} {I : zI} {L : zL} {P : zP} {S : zS} {top : Nat} {Q : Option zV → zM → Prop} (sN : S 9 0 0 = (20, N)) (hN : N ≤ 3072) 
    (b1 : i + 1 < N)
    (b2 : i + 2 < N)
    (h1 : Ev d 0 0 123 0 [some (zr (some (0, 0, 0))), some (zi (I 9 0 0 (i + 1))), some (zi (I 9 0 0 (i + 2)))] [] (I, L, zpj P, zsj S, top) (fun r M' => Ev (d + 1) c s 249 461 [some (zr (some (9, 0, 0))), some (zr (some (0, 0, 0))), some (zr (some (1, 0, 0))), some (zi (nI i))] (zpush r []) M' Q)) : Ev (d + 1) c s 249 447 [some (zr (some (9, 0, 0))), some (zr (some (0, 0, 0))), some (zr (some (1, 0, 0))), some (zi (nI i))] [] (I, L, zpj P, zsj S, top) Q := by
  refine Ew.ld f249_447 rfl rfl rfl rfl ?_
  refine Ew.ld f249_448 rfl rfl rfl rfl ?_
  refine Ew.ld f249_449 rfl rfl rfl rfl ?_
  refine Ew.op (st' := zi (nI 1) :: _) f249_450 rfl rfl ?_
  refine Ew.addn f249_451 rfl ?_
  refine Ew.ialdn f249_452 (by show (S 9 0 0).1 = _; rw [sN]) (by show _ < (S 9 0 0).2; rw [sN]; exact b1) (by show (S 9 0 0).2 < 5000; rw [sN]; omega) rfl ?_
  refine Ew.ld f249_453 rfl rfl rfl rfl ?_
  refine Ew.ld f249_454 rfl rfl rfl rfl ?_
  refine Ew.op (st' := zi (nI 2) :: _) f249_455 rfl rfl ?_
  refine Ew.addn f249_456 rfl ?_
  refine Ew.ialdn f249_457 (by show (S 9 0 0).1 = _; rw [sN]) (by show _ < (S 9 0 0).2; rw [sN]; exact b2) (by show (S 9 0 0).2 < 5000; rw [sN]; omega) rfl ?_
  refine Ew.call0 (ls0 := [some (zr (some (0, 0, 0))), some (zi (I 9 0 0 (i + 1))), some (zi (I 9 0 0 (i + 2)))]) f249_458 rfl (Nat.le_of_ble_eq_true rfl) rfl rfl (Nat.le_of_ble_eq_true rfl) rfl (Nat.le_of_ble_eq_true rfl) rfl rfl ?_
  exact h1
theorem g249_461 {d c s : Nat} {i N : Nat} {v : Int32} {I : zI} {L : zL} {P : zP} {S : zS} {top : Nat} {Q : Option zV → zM → Prop} (sN : S 9 0 0 = (20, N)) (hN : N ≤ 3072) 
    (b1 : i + 1 < N)
    (b2 : i + 2 < N)
    (h1 : Ev d 0 0 215 0 [some (zr (some (1, 0, 0))), some (zi (I 9 0 0 (i + 1))), some (zi (I 9 0 0 (i + 2)))] [] (I, L, zpj P, zsj S, top) (fun r M' => Ev (d + 1) c s 249 475 [some (zr (some (9, 0, 0))), some (zr (some (0, 0, 0))), some (zr (some (1, 0, 0))), some (zi (nI i))] (zpush r [zi v]) M' Q)) : Ev (d + 1) c s 249 461 [some (zr (some (9, 0, 0))), some (zr (some (0, 0, 0))), some (zr (some (1, 0, 0))), some (zi (nI i))] [zi v] (I, L, zpj P, zsj S, top) Q := by
  refine Ew.ld f249_461 rfl rfl rfl rfl ?_
  refine Ew.ld f249_462 rfl rfl rfl rfl ?_
  refine Ew.ld f249_463 rfl rfl rfl rfl ?_
  refine Ew.op (st' := zi (nI 1) :: _) f249_464 rfl rfl ?_
  refine Ew.addn f249_465 rfl ?_
  refine Ew.ialdn f249_466 (by show (S 9 0 0).1 = _; rw [sN]) (by show _ < (S 9 0 0).2; rw [sN]; exact b1) (by show (S 9 0 0).2 < 5000; rw [sN]; omega) rfl ?_
  refine Ew.ld f249_467 rfl rfl rfl rfl ?_
  refine Ew.ld f249_468 rfl rfl rfl rfl ?_
  refine Ew.op (st' := zi (nI 2) :: _) f249_469 rfl rfl ?_
  refine Ew.addn f249_470 rfl ?_
  refine Ew.ialdn f249_471 (by show (S 9 0 0).1 = _; rw [sN]) (by show _ < (S 9 0 0).2; rw [sN]; exact b2) (by show (S 9 0 0).2 < 5000; rw [sN]; omega) rfl ?_
  refine Ew.call0 (ls0 := [some (zr (some (1, 0, 0))), some (zi (I 9 0 0 (i + 1))), some (zi (I 9 0 0 (i + 2)))]) f249_472 rfl (Nat.le_of_ble_eq_true rfl) rfl rfl (Nat.le_of_ble_eq_true rfl) rfl (Nat.le_of_ble_eq_true rfl) rfl rfl ?_
  exact h1
theorem g249_475 {d c s : Nat} {i N : Nat} {v : Int32} {I : zI} {L : zL} {P : zP} {S : zS} {top : Nat} {Q : Option zV → zM → Prop} (sN : S 9 0 0 = (20, N)) (hN : N ≤ 3072) 
    (h1 : (v = v) → Ev d c s 249 1073 [some (zr (some (9, 0, 0))), some (zr (some (0, 0, 0))), some (zr (some (1, 0, 0))), some (zi (nI i))] [] (I, L, zpj P, zsj S, top) Q)
    (h2 : (¬ v = v) → Q (some (zi (nI 0))) (I, L, zpj P, zsj S, top)) : Ev d c s 249 475 [some (zr (some (9, 0, 0))), some (zr (some (0, 0, 0))), some (zr (some (1, 0, 0))), some (zi (nI i))] [zi v, zi v] (I, L, zpj P, zsj S, top) Q := by
  refine Ew.icmp f249_475 rfl rfl (fun c1 => ?_) (fun c1 => ?_)
  · exact h1 c1
  · refine Ew.op (st' := zi (nI 0) :: _) f249_478 rfl rfl ?_
    refine Ew.iretb f249_479 (Or.inl rfl) ?_
    exact h2 c1
theorem g249_480 {d c s : Nat} {i N : Nat} {I : zI} {L : zL} {P : zP} {S : zS} {top : Nat} {Q : Option zV → zM → Prop} (sN : S 9 0 0 = (20, N)) (hN : N ≤ 3072) 
    (b1 : i + 1 < N)
    (h1 : Ev d 0 0 124 0 [some (zr (some (0, 0, 0))), some (zi (I 9 0 0 (i + 1)))] [] (I, L, zpj P, zsj S, top) (fun r M' => Ev (d + 1) c s 249 489 [some (zr (some (9, 0, 0))), some (zr (some (0, 0, 0))), some (zr (some (1, 0, 0))), some (zi (nI i))] (zpush r []) M' Q)) : Ev (d + 1) c s 249 480 [some (zr (some (9, 0, 0))), some (zr (some (0, 0, 0))), some (zr (some (1, 0, 0))), some (zi (nI i))] [] (I, L, zpj P, zsj S, top) Q := by
  refine Ew.ld f249_480 rfl rfl rfl rfl ?_
  refine Ew.ld f249_481 rfl rfl rfl rfl ?_
  refine Ew.ld f249_482 rfl rfl rfl rfl ?_
  refine Ew.op (st' := zi (nI 1) :: _) f249_483 rfl rfl ?_
  refine Ew.addn f249_484 rfl ?_
  refine Ew.ialdn f249_485 (by show (S 9 0 0).1 = _; rw [sN]) (by show _ < (S 9 0 0).2; rw [sN]; exact b1) (by show (S 9 0 0).2 < 5000; rw [sN]; omega) rfl ?_
  refine Ew.call0 (ls0 := [some (zr (some (0, 0, 0))), some (zi (I 9 0 0 (i + 1)))]) f249_486 rfl (Nat.le_of_ble_eq_true rfl) rfl rfl (Nat.le_of_ble_eq_true rfl) rfl (Nat.le_of_ble_eq_true rfl) rfl rfl ?_
  exact h1
theorem g249_489 {d c s : Nat} {i N : Nat} {v : Int32} {I : zI} {L : zL} {P : zP} {S : zS} {top : Nat} {Q : Option zV → zM → Prop} (sN : S 9 0 0 = (20, N)) (hN : N ≤ 3072) 
    (b1 : i + 1 < N)
    (h1 : Ev d 0 0 218 0 [some (zr (some (1, 0, 0))), some (zi (I 9 0 0 (i + 1)))] [] (I, L, zpj P, zsj S, top) (fun r M' => Ev (d + 1) c s 249 498 [some (zr (some (9, 0, 0))), some (zr (some (0, 0, 0))), some (zr (some (1, 0, 0))), some (zi (nI i))] (zpush r [zi v]) M' Q)) : Ev (d + 1) c s 249 489 [some (zr (some (9, 0, 0))), some (zr (some (0, 0, 0))), some (zr (some (1, 0, 0))), some (zi (nI i))] [zi v] (I, L, zpj P, zsj S, top) Q := by
  refine Ew.ld f249_489 rfl rfl rfl rfl ?_
  refine Ew.ld f249_490 rfl rfl rfl rfl ?_
  refine Ew.ld f249_491 rfl rfl rfl rfl ?_
  refine Ew.op (st' := zi (nI 1) :: _) f249_492 rfl rfl ?_
  refine Ew.addn f249_493 rfl ?_
  refine Ew.ialdn f249_494 (by show (S 9 0 0).1 = _; rw [sN]) (by show _ < (S 9 0 0).2; rw [sN]; exact b1) (by show (S 9 0 0).2 < 5000; rw [sN]; omega) rfl ?_
  refine Ew.call0 (ls0 := [some (zr (some (1, 0, 0))), some (zi (I 9 0 0 (i + 1)))]) f249_495 rfl (Nat.le_of_ble_eq_true rfl) rfl rfl (Nat.le_of_ble_eq_true rfl) rfl (Nat.le_of_ble_eq_true rfl) rfl rfl ?_
  exact h1
theorem g249_498 {d c s : Nat} {i N : Nat} {v : Int32} {I : zI} {L : zL} {P : zP} {S : zS} {top : Nat} {Q : Option zV → zM → Prop} (sN : S 9 0 0 = (20, N)) (hN : N ≤ 3072) 
    (h1 : (v = v) → Ev d c s 249 1073 [some (zr (some (9, 0, 0))), some (zr (some (0, 0, 0))), some (zr (some (1, 0, 0))), some (zi (nI i))] [] (I, L, zpj P, zsj S, top) Q)
    (h2 : (¬ v = v) → Q (some (zi (nI 0))) (I, L, zpj P, zsj S, top)) : Ev d c s 249 498 [some (zr (some (9, 0, 0))), some (zr (some (0, 0, 0))), some (zr (some (1, 0, 0))), some (zi (nI i))] [zi v, zi v] (I, L, zpj P, zsj S, top) Q := by
  refine Ew.icmp f249_498 rfl rfl (fun c1 => ?_) (fun c1 => ?_)
  · exact h1 c1
  · refine Ew.op (st' := zi (nI 0) :: _) f249_501 rfl rfl ?_
    refine Ew.iretb f249_502 (Or.inl rfl) ?_
    exact h2 c1
theorem g249_503 {d c s : Nat} {i N : Nat} {I : zI} {L : zL} {P : zP} {S : zS} {top : Nat} {Q : Option zV → zM → Prop} (sN : S 9 0 0 = (20, N)) (hN : N ≤ 3072) 
    (b1 : i + 1 < N)
    (b2 : i + 2 < N)
    (h1 : Ev d 0 0 125 0 [some (zr (some (0, 0, 0))), some (zi (I 9 0 0 (i + 1))), some (zi (I 9 0 0 (i + 2)))] [] (I, L, zpj P, zsj S, top) (fun r M' => Ev (d + 1) c s 249 517 [some (zr (some (9, 0, 0))), some (zr (some (0, 0, 0))), some (zr (some (1, 0, 0))), some (zi (nI i))] (zpush r []) M' Q)) : Ev (d + 1) c s 249 503 [some (zr (some (9, 0, 0))), some (zr (some (0, 0, 0))), some (zr (some (1, 0, 0))), some (zi (nI i))] [] (I, L, zpj P, zsj S, top) Q := by
  refine Ew.ld f249_503 rfl rfl rfl rfl ?_
  refine Ew.ld f249_504 rfl rfl rfl rfl ?_
  refine Ew.ld f249_505 rfl rfl rfl rfl ?_
  refine Ew.op (st' := zi (nI 1) :: _) f249_506 rfl rfl ?_
  refine Ew.addn f249_507 rfl ?_
  refine Ew.ialdn f249_508 (by show (S 9 0 0).1 = _; rw [sN]) (by show _ < (S 9 0 0).2; rw [sN]; exact b1) (by show (S 9 0 0).2 < 5000; rw [sN]; omega) rfl ?_
  refine Ew.ld f249_509 rfl rfl rfl rfl ?_
  refine Ew.ld f249_510 rfl rfl rfl rfl ?_
  refine Ew.op (st' := zi (nI 2) :: _) f249_511 rfl rfl ?_
  refine Ew.addn f249_512 rfl ?_
  refine Ew.ialdn f249_513 (by show (S 9 0 0).1 = _; rw [sN]) (by show _ < (S 9 0 0).2; rw [sN]; exact b2) (by show (S 9 0 0).2 < 5000; rw [sN]; omega) rfl ?_
  refine Ew.call0 (ls0 := [some (zr (some (0, 0, 0))), some (zi (I 9 0 0 (i + 1))), some (zi (I 9 0 0 (i + 2)))]) f249_514 rfl (Nat.le_of_ble_eq_true rfl) rfl rfl (Nat.le_of_ble_eq_true rfl) rfl (Nat.le_of_ble_eq_true rfl) rfl rfl ?_
  exact h1
theorem g249_517 {d c s : Nat} {i N : Nat} {v : Int32} {I : zI} {L : zL} {P : zP} {S : zS} {top : Nat} {Q : Option zV → zM → Prop} (sN : S 9 0 0 = (20, N)) (hN : N ≤ 3072) 
    (b1 : i + 1 < N)
    (b2 : i + 2 < N)
    (h1 : Ev d 0 0 220 0 [some (zr (some (1, 0, 0))), some (zi (I 9 0 0 (i + 1))), some (zi (I 9 0 0 (i + 2)))] [] (I, L, zpj P, zsj S, top) (fun r M' => Ev (d + 1) c s 249 531 [some (zr (some (9, 0, 0))), some (zr (some (0, 0, 0))), some (zr (some (1, 0, 0))), some (zi (nI i))] (zpush r [zi v]) M' Q)) : Ev (d + 1) c s 249 517 [some (zr (some (9, 0, 0))), some (zr (some (0, 0, 0))), some (zr (some (1, 0, 0))), some (zi (nI i))] [zi v] (I, L, zpj P, zsj S, top) Q := by
  refine Ew.ld f249_517 rfl rfl rfl rfl ?_
  refine Ew.ld f249_518 rfl rfl rfl rfl ?_
  refine Ew.ld f249_519 rfl rfl rfl rfl ?_
  refine Ew.op (st' := zi (nI 1) :: _) f249_520 rfl rfl ?_
  refine Ew.addn f249_521 rfl ?_
  refine Ew.ialdn f249_522 (by show (S 9 0 0).1 = _; rw [sN]) (by show _ < (S 9 0 0).2; rw [sN]; exact b1) (by show (S 9 0 0).2 < 5000; rw [sN]; omega) rfl ?_
  refine Ew.ld f249_523 rfl rfl rfl rfl ?_
  refine Ew.ld f249_524 rfl rfl rfl rfl ?_
  refine Ew.op (st' := zi (nI 2) :: _) f249_525 rfl rfl ?_
  refine Ew.addn f249_526 rfl ?_
  refine Ew.ialdn f249_527 (by show (S 9 0 0).1 = _; rw [sN]) (by show _ < (S 9 0 0).2; rw [sN]; exact b2) (by show (S 9 0 0).2 < 5000; rw [sN]; omega) rfl ?_
  refine Ew.call0 (ls0 := [some (zr (some (1, 0, 0))), some (zi (I 9 0 0 (i + 1))), some (zi (I 9 0 0 (i + 2)))]) f249_528 rfl (Nat.le_of_ble_eq_true rfl) rfl rfl (Nat.le_of_ble_eq_true rfl) rfl (Nat.le_of_ble_eq_true rfl) rfl rfl ?_
  exact h1
theorem g249_531 {d c s : Nat} {i N : Nat} {v : Int32} {I : zI} {L : zL} {P : zP} {S : zS} {top : Nat} {Q : Option zV → zM → Prop} (sN : S 9 0 0 = (20, N)) (hN : N ≤ 3072) 
    (h1 : (v = v) → Ev d c s 249 1073 [some (zr (some (9, 0, 0))), some (zr (some (0, 0, 0))), some (zr (some (1, 0, 0))), some (zi (nI i))] [] (I, L, zpj P, zsj S, top) Q)
    (h2 : (¬ v = v) → Q (some (zi (nI 0))) (I, L, zpj P, zsj S, top)) : Ev d c s 249 531 [some (zr (some (9, 0, 0))), some (zr (some (0, 0, 0))), some (zr (some (1, 0, 0))), some (zi (nI i))] [zi v, zi v] (I, L, zpj P, zsj S, top) Q := by
  refine Ew.icmp f249_531 rfl rfl (fun c1 => ?_) (fun c1 => ?_)
  · exact h1 c1
  · refine Ew.op (st' := zi (nI 0) :: _) f249_534 rfl rfl ?_
    refine Ew.iretb f249_535 (Or.inl rfl) ?_
    exact h2 c1
theorem g249_536 {d c s : Nat} {i N : Nat} {I : zI} {L : zL} {P : zP} {S : zS} {top : Nat} {Q : Option zV → zM → Prop} (sN : S 9 0 0 = (20, N)) (hN : N ≤ 3072) 
    (b1 : i + 1 < N)
    (h1 : Ev d 0 0 126 0 [some (zr (some (0, 0, 0))), some (zi (I 9 0 0 (i + 1)))] [] (I, L, zpj P, zsj S, top) (fun r M' => Ev (d + 1) c s 249 545 [some (zr (some (9, 0, 0))), some (zr (some (0, 0, 0))), some (zr (some (1, 0, 0))), some (zi (nI i))] (zpush r []) M' Q)) : Ev (d + 1) c s 249 536 [some (zr (some (9, 0, 0))), some (zr (some (0, 0, 0))), some (zr (some (1, 0, 0))), some (zi (nI i))] [] (I, L, zpj P, zsj S, top) Q := by
  refine Ew.ld f249_536 rfl rfl rfl rfl ?_
  refine Ew.ld f249_537 rfl rfl rfl rfl ?_
  refine Ew.ld f249_538 rfl rfl rfl rfl ?_
  refine Ew.op (st' := zi (nI 1) :: _) f249_539 rfl rfl ?_
  refine Ew.addn f249_540 rfl ?_
  refine Ew.ialdn f249_541 (by show (S 9 0 0).1 = _; rw [sN]) (by show _ < (S 9 0 0).2; rw [sN]; exact b1) (by show (S 9 0 0).2 < 5000; rw [sN]; omega) rfl ?_
  refine Ew.call0 (ls0 := [some (zr (some (0, 0, 0))), some (zi (I 9 0 0 (i + 1)))]) f249_542 rfl (Nat.le_of_ble_eq_true rfl) rfl rfl (Nat.le_of_ble_eq_true rfl) rfl (Nat.le_of_ble_eq_true rfl) rfl rfl ?_
  exact h1
theorem g249_545 {d c s : Nat} {i N : Nat} {v : Int32} {I : zI} {L : zL} {P : zP} {S : zS} {top : Nat} {Q : Option zV → zM → Prop} (sN : S 9 0 0 = (20, N)) (hN : N ≤ 3072) 
    (b1 : i + 1 < N)
    (h1 : Ev d 0 0 222 0 [some (zr (some (1, 0, 0))), some (zi (I 9 0 0 (i + 1))), none, none, none, none] [] (I, L, zpj P, zsj S, top) (fun r M' => Ev (d + 1) c s 249 554 [some (zr (some (9, 0, 0))), some (zr (some (0, 0, 0))), some (zr (some (1, 0, 0))), some (zi (nI i))] (zpush r [zi v]) M' Q)) : Ev (d + 1) c s 249 545 [some (zr (some (9, 0, 0))), some (zr (some (0, 0, 0))), some (zr (some (1, 0, 0))), some (zi (nI i))] [zi v] (I, L, zpj P, zsj S, top) Q := by
  refine Ew.ld f249_545 rfl rfl rfl rfl ?_
  refine Ew.ld f249_546 rfl rfl rfl rfl ?_
  refine Ew.ld f249_547 rfl rfl rfl rfl ?_
  refine Ew.op (st' := zi (nI 1) :: _) f249_548 rfl rfl ?_
  refine Ew.addn f249_549 rfl ?_
  refine Ew.ialdn f249_550 (by show (S 9 0 0).1 = _; rw [sN]) (by show _ < (S 9 0 0).2; rw [sN]; exact b1) (by show (S 9 0 0).2 < 5000; rw [sN]; omega) rfl ?_
  refine Ew.call0 (ls0 := [some (zr (some (1, 0, 0))), some (zi (I 9 0 0 (i + 1))), none, none, none, none]) f249_551 rfl (Nat.le_of_ble_eq_true rfl) rfl rfl (Nat.le_of_ble_eq_true rfl) rfl (Nat.le_of_ble_eq_true rfl) rfl rfl ?_
  exact h1
theorem g249_554 {d c s : Nat} {i N : Nat} {v : Int32} {I : zI} {L : zL} {P : zP} {S : zS} {top : Nat} {Q : Option zV → zM → Prop} (sN : S 9 0 0 = (20, N)) (hN : N ≤ 3072) 
    (h1 : (v = v) → Ev d c s 249 1073 [some (zr (some (9, 0, 0))), some (zr (some (0, 0, 0))), some (zr (some (1, 0, 0))), some (zi (nI i))] [] (I, L, zpj P, zsj S, top) Q)
    (h2 : (¬ v = v) → Q (some (zi (nI 0))) (I, L, zpj P, zsj S, top)) : Ev d c s 249 554 [some (zr (some (9, 0, 0))), some (zr (some (0, 0, 0))), some (zr (some (1, 0, 0))), some (zi (nI i))] [zi v, zi v] (I, L, zpj P, zsj S, top) Q := by
  refine Ew.icmp f249_554 rfl rfl (fun c1 => ?_) (fun c1 => ?_)
  · exact h1 c1
  · refine Ew.op (st' := zi (nI 0) :: _) f249_557 rfl rfl ?_
    refine Ew.iretb f249_558 (Or.inl rfl) ?_
    exact h2 c1
theorem g249_559 {d c s : Nat} {i N : Nat} {I : zI} {L : zL} {P : zP} {S : zS} {top : Nat} {Q : Option zV → zM → Prop} (sN : S 9 0 0 = (20, N)) (hN : N ≤ 3072) 
    (b1 : i + 1 < N)
    (b2 : i + 2 < N)
    (b3 : i + 3 < N)
    (h1 : Ev d 0 0 127 0 [some (zr (some (0, 0, 0))), some (zi (I 9 0 0 (i + 1))), some (zi (I 9 0 0 (i + 2))), some (zi (I 9 0 0 (i + 3)))] [] (I, L, zpj P, zsj S, top) (fun r M' => Ev (d + 1) c s 249 578 [some (zr (some (9, 0, 0))), some (zr (some (0, 0, 0))), some (zr (some (1, 0, 0))), some (zi (nI i))] (zpush r []) M' Q)) : Ev (d + 1) c s 249 559 [some (zr (some (9, 0, 0))), some (zr (some (0, 0, 0))), some (zr (some (1, 0, 0))), some (zi (nI i))] [] (I, L, zpj P, zsj S, top) Q := by
  refine Ew.ld f249_559 rfl rfl rfl rfl ?_
  refine Ew.ld f249_560 rfl rfl rfl rfl ?_
  refine Ew.ld f249_561 rfl rfl rfl rfl ?_
  refine Ew.op (st' := zi (nI 1) :: _) f249_562 rfl rfl ?_
  refine Ew.addn f249_563 rfl ?_
  refine Ew.ialdn f249_564 (by show (S 9 0 0).1 = _; rw [sN]) (by show _ < (S 9 0 0).2; rw [sN]; exact b1) (by show (S 9 0 0).2 < 5000; rw [sN]; omega) rfl ?_
  refine Ew.ld f249_565 rfl rfl rfl rfl ?_
  refine Ew.ld f249_566 rfl rfl rfl rfl ?_
  refine Ew.op (st' := zi (nI 2) :: _) f249_567 rfl rfl ?_
  refine Ew.addn f249_568 rfl ?_
  refine Ew.ialdn f249_569 (by show (S 9 0 0).1 = _; rw [sN]) (by show _ < (S 9 0 0).2; rw [sN]; exact b2) (by show (S 9 0 0).2 < 5000; rw [sN]; omega) rfl ?_
  refine Ew.ld f249_570 rfl rfl rfl rfl ?_
  refine Ew.ld f249_571 rfl rfl rfl rfl ?_
  refine Ew.op (st' := zi (nI 3) :: _) f249_572 rfl rfl ?_
  refine Ew.addn f249_573 rfl ?_
  refine Ew.ialdn f249_574 (by show (S 9 0 0).1 = _; rw [sN]) (by show _ < (S 9 0 0).2; rw [sN]; exact b3) (by show (S 9 0 0).2 < 5000; rw [sN]; omega) rfl ?_
  refine Ew.call0 (ls0 := [some (zr (some (0, 0, 0))), some (zi (I 9 0 0 (i + 1))), some (zi (I 9 0 0 (i + 2))), some (zi (I 9 0 0 (i + 3)))]) f249_575 rfl (Nat.le_of_ble_eq_true rfl) rfl rfl (Nat.le_of_ble_eq_true rfl) rfl (Nat.le_of_ble_eq_true rfl) rfl rfl ?_
  exact h1
theorem g249_578 {d c s : Nat} {i N : Nat} {v : Int64} {I : zI} {L : zL} {P : zP} {S : zS} {top : Nat} {Q : Option zV → zM → Prop} (sN : S 9 0 0 = (20, N)) (hN : N ≤ 3072) 
    (b1 : i + 1 < N)
    (b2 : i + 2 < N)
    (b3 : i + 3 < N)
    (h1 : Ev d 0 0 227 0 [some (zr (some (1, 0, 0))), some (zi (I 9 0 0 (i + 1))), some (zi (I 9 0 0 (i + 2))), some (zi (I 9 0 0 (i + 3)))] [] (I, L, zpj P, zsj S, top) (fun r M' => Ev (d + 1) c s 249 597 [some (zr (some (9, 0, 0))), some (zr (some (0, 0, 0))), some (zr (some (1, 0, 0))), some (zi (nI i))] (zpush r [zl v]) M' Q)) : Ev (d + 1) c s 249 578 [some (zr (some (9, 0, 0))), some (zr (some (0, 0, 0))), some (zr (some (1, 0, 0))), some (zi (nI i))] [zl v] (I, L, zpj P, zsj S, top) Q := by
  refine Ew.ld f249_578 rfl rfl rfl rfl ?_
  refine Ew.ld f249_579 rfl rfl rfl rfl ?_
  refine Ew.ld f249_580 rfl rfl rfl rfl ?_
  refine Ew.op (st' := zi (nI 1) :: _) f249_581 rfl rfl ?_
  refine Ew.addn f249_582 rfl ?_
  refine Ew.ialdn f249_583 (by show (S 9 0 0).1 = _; rw [sN]) (by show _ < (S 9 0 0).2; rw [sN]; exact b1) (by show (S 9 0 0).2 < 5000; rw [sN]; omega) rfl ?_
  refine Ew.ld f249_584 rfl rfl rfl rfl ?_
  refine Ew.ld f249_585 rfl rfl rfl rfl ?_
  refine Ew.op (st' := zi (nI 2) :: _) f249_586 rfl rfl ?_
  refine Ew.addn f249_587 rfl ?_
  refine Ew.ialdn f249_588 (by show (S 9 0 0).1 = _; rw [sN]) (by show _ < (S 9 0 0).2; rw [sN]; exact b2) (by show (S 9 0 0).2 < 5000; rw [sN]; omega) rfl ?_
  refine Ew.ld f249_589 rfl rfl rfl rfl ?_
  refine Ew.ld f249_590 rfl rfl rfl rfl ?_
  refine Ew.op (st' := zi (nI 3) :: _) f249_591 rfl rfl ?_
  refine Ew.addn f249_592 rfl ?_
  refine Ew.ialdn f249_593 (by show (S 9 0 0).1 = _; rw [sN]) (by show _ < (S 9 0 0).2; rw [sN]; exact b3) (by show (S 9 0 0).2 < 5000; rw [sN]; omega) rfl ?_
  refine Ew.call0 (ls0 := [some (zr (some (1, 0, 0))), some (zi (I 9 0 0 (i + 1))), some (zi (I 9 0 0 (i + 2))), some (zi (I 9 0 0 (i + 3)))]) f249_594 rfl (Nat.le_of_ble_eq_true rfl) rfl rfl (Nat.le_of_ble_eq_true rfl) rfl (Nat.le_of_ble_eq_true rfl) rfl rfl ?_
  exact h1
theorem g249_597 {d c s : Nat} {i N : Nat} {v : Int64} {I : zI} {L : zL} {P : zP} {S : zS} {top : Nat} {Q : Option zV → zM → Prop} (sN : S 9 0 0 = (20, N)) (hN : N ≤ 3072) 
    (h1 : ((lg_cmp v v) = 0) → Ev d c s 249 1073 [some (zr (some (9, 0, 0))), some (zr (some (0, 0, 0))), some (zr (some (1, 0, 0))), some (zi (nI i))] [] (I, L, zpj P, zsj S, top) Q)
    (h2 : (¬ (lg_cmp v v) = 0) → Q (some (zi (nI 0))) (I, L, zpj P, zsj S, top)) : Ev d c s 249 597 [some (zr (some (9, 0, 0))), some (zr (some (0, 0, 0))), some (zr (some (1, 0, 0))), some (zi (nI i))] [zl v, zl v] (I, L, zpj P, zsj S, top) Q := by
  refine Ew.op (st' := zi (lg_cmp v v) :: _) f249_597 rfl rfl ?_
  refine Ew.ifc f249_598 rfl rfl (fun c1 => ?_) (fun c1 => ?_)
  · exact h1 c1
  · refine Ew.op (st' := zi (nI 0) :: _) f249_601 rfl rfl ?_
    refine Ew.iretb f249_602 (Or.inl rfl) ?_
    exact h2 c1
theorem g249_603 {d c s : Nat} {i N : Nat} {I : zI} {L : zL} {P : zP} {S : zS} {top : Nat} {Q : Option zV → zM → Prop} (sN : S 9 0 0 = (20, N)) (hN : N ≤ 3072) 
    (b1 : i + 1 < N)
    (b2 : i + 2 < N)
    (b3 : i + 3 < N)
    (h1 : Ev d 0 0 128 0 [some (zr (some (0, 0, 0))), some (zi (I 9 0 0 (i + 1))), some (zi (I 9 0 0 (i + 2))), some (zi (I 9 0 0 (i + 3)))] [] (I, L, zpj P, zsj S, top) (fun r M' => Ev (d + 1) c s 249 622 [some (zr (some (9, 0, 0))), some (zr (some (0, 0, 0))), some (zr (some (1, 0, 0))), some (zi (nI i))] (zpush r []) M' Q)) : Ev (d + 1) c s 249 603 [some (zr (some (9, 0, 0))), some (zr (some (0, 0, 0))), some (zr (some (1, 0, 0))), some (zi (nI i))] [] (I, L, zpj P, zsj S, top) Q := by
  refine Ew.ld f249_603 rfl rfl rfl rfl ?_
  refine Ew.ld f249_604 rfl rfl rfl rfl ?_
  refine Ew.ld f249_605 rfl rfl rfl rfl ?_
  refine Ew.op (st' := zi (nI 1) :: _) f249_606 rfl rfl ?_
  refine Ew.addn f249_607 rfl ?_
  refine Ew.ialdn f249_608 (by show (S 9 0 0).1 = _; rw [sN]) (by show _ < (S 9 0 0).2; rw [sN]; exact b1) (by show (S 9 0 0).2 < 5000; rw [sN]; omega) rfl ?_
  refine Ew.ld f249_609 rfl rfl rfl rfl ?_
  refine Ew.ld f249_610 rfl rfl rfl rfl ?_
  refine Ew.op (st' := zi (nI 2) :: _) f249_611 rfl rfl ?_
  refine Ew.addn f249_612 rfl ?_
  refine Ew.ialdn f249_613 (by show (S 9 0 0).1 = _; rw [sN]) (by show _ < (S 9 0 0).2; rw [sN]; exact b2) (by show (S 9 0 0).2 < 5000; rw [sN]; omega) rfl ?_
  refine Ew.ld f249_614 rfl rfl rfl rfl ?_
  refine Ew.ld f249_615 rfl rfl rfl rfl ?_
  refine Ew.op (st' := zi (nI 3) :: _) f249_616 rfl rfl ?_
  refine Ew.addn f249_617 rfl ?_
  refine Ew.ialdn f249_618 (by show (S 9 0 0).1 = _; rw [sN]) (by show _ < (S 9 0 0).2; rw [sN]; exact b3) (by show (S 9 0 0).2 < 5000; rw [sN]; omega) rfl ?_
  refine Ew.call0 (ls0 := [some (zr (some (0, 0, 0))), some (zi (I 9 0 0 (i + 1))), some (zi (I 9 0 0 (i + 2))), some (zi (I 9 0 0 (i + 3)))]) f249_619 rfl (Nat.le_of_ble_eq_true rfl) rfl rfl (Nat.le_of_ble_eq_true rfl) rfl (Nat.le_of_ble_eq_true rfl) rfl rfl ?_
  exact h1
theorem g249_622 {d c s : Nat} {i N : Nat} {v : Int64} {I : zI} {L : zL} {P : zP} {S : zS} {top : Nat} {Q : Option zV → zM → Prop} (sN : S 9 0 0 = (20, N)) (hN : N ≤ 3072) 
    (b1 : i + 1 < N)
    (b2 : i + 2 < N)
    (b3 : i + 3 < N)
    (h1 : Ev d 0 0 228 0 [some (zr (some (1, 0, 0))), some (zi (I 9 0 0 (i + 1))), some (zi (I 9 0 0 (i + 2))), some (zi (I 9 0 0 (i + 3))), none, none, none, none] [] (I, L, zpj P, zsj S, top) (fun r M' => Ev (d + 1) c s 249 641 [some (zr (some (9, 0, 0))), some (zr (some (0, 0, 0))), some (zr (some (1, 0, 0))), some (zi (nI i))] (zpush r [zl v]) M' Q)) : Ev (d + 1) c s 249 622 [some (zr (some (9, 0, 0))), some (zr (some (0, 0, 0))), some (zr (some (1, 0, 0))), some (zi (nI i))] [zl v] (I, L, zpj P, zsj S, top) Q := by
  refine Ew.ld f249_622 rfl rfl rfl rfl ?_
  refine Ew.ld f249_623 rfl rfl rfl rfl ?_
  refine Ew.ld f249_624 rfl rfl rfl rfl ?_
  refine Ew.op (st' := zi (nI 1) :: _) f249_625 rfl rfl ?_
  refine Ew.addn f249_626 rfl ?_
  refine Ew.ialdn f249_627 (by show (S 9 0 0).1 = _; rw [sN]) (by show _ < (S 9 0 0).2; rw [sN]; exact b1) (by show (S 9 0 0).2 < 5000; rw [sN]; omega) rfl ?_
  refine Ew.ld f249_628 rfl rfl rfl rfl ?_
  refine Ew.ld f249_629 rfl rfl rfl rfl ?_
  refine Ew.op (st' := zi (nI 2) :: _) f249_630 rfl rfl ?_
  refine Ew.addn f249_631 rfl ?_
  refine Ew.ialdn f249_632 (by show (S 9 0 0).1 = _; rw [sN]) (by show _ < (S 9 0 0).2; rw [sN]; exact b2) (by show (S 9 0 0).2 < 5000; rw [sN]; omega) rfl ?_
  refine Ew.ld f249_633 rfl rfl rfl rfl ?_
  refine Ew.ld f249_634 rfl rfl rfl rfl ?_
  refine Ew.op (st' := zi (nI 3) :: _) f249_635 rfl rfl ?_
  refine Ew.addn f249_636 rfl ?_
  refine Ew.ialdn f249_637 (by show (S 9 0 0).1 = _; rw [sN]) (by show _ < (S 9 0 0).2; rw [sN]; exact b3) (by show (S 9 0 0).2 < 5000; rw [sN]; omega) rfl ?_
  refine Ew.call0 (ls0 := [some (zr (some (1, 0, 0))), some (zi (I 9 0 0 (i + 1))), some (zi (I 9 0 0 (i + 2))), some (zi (I 9 0 0 (i + 3))), none, none, none, none]) f249_638 rfl (Nat.le_of_ble_eq_true rfl) rfl rfl (Nat.le_of_ble_eq_true rfl) rfl (Nat.le_of_ble_eq_true rfl) rfl rfl ?_
  exact h1
theorem g249_641 {d c s : Nat} {i N : Nat} {v : Int64} {I : zI} {L : zL} {P : zP} {S : zS} {top : Nat} {Q : Option zV → zM → Prop} (sN : S 9 0 0 = (20, N)) (hN : N ≤ 3072) 
    (h1 : ((lg_cmp v v) = 0) → Ev d c s 249 1073 [some (zr (some (9, 0, 0))), some (zr (some (0, 0, 0))), some (zr (some (1, 0, 0))), some (zi (nI i))] [] (I, L, zpj P, zsj S, top) Q)
    (h2 : (¬ (lg_cmp v v) = 0) → Q (some (zi (nI 0))) (I, L, zpj P, zsj S, top)) : Ev d c s 249 641 [some (zr (some (9, 0, 0))), some (zr (some (0, 0, 0))), some (zr (some (1, 0, 0))), some (zi (nI i))] [zl v, zl v] (I, L, zpj P, zsj S, top) Q := by
  refine Ew.op (st' := zi (lg_cmp v v) :: _) f249_641 rfl rfl ?_
  refine Ew.ifc f249_642 rfl rfl (fun c1 => ?_) (fun c1 => ?_)
  · exact h1 c1
  · refine Ew.op (st' := zi (nI 0) :: _) f249_645 rfl rfl ?_
    refine Ew.iretb f249_646 (Or.inl rfl) ?_
    exact h2 c1
theorem g249_647 {d c s : Nat} {i N : Nat} {I : zI} {L : zL} {P : zP} {S : zS} {top : Nat} {Q : Option zV → zM → Prop} (sN : S 9 0 0 = (20, N)) (hN : N ≤ 3072) 
    (b1 : i + 1 < N)
    (b2 : i + 2 < N)
    (h1 : Ev d 0 0 129 0 [some (zr (some (0, 0, 0))), some (zi (I 9 0 0 (i + 1))), some (zi (I 9 0 0 (i + 2)))] [] (I, L, zpj P, zsj S, top) (fun r M' => Ev (d + 1) c s 249 661 [some (zr (some (9, 0, 0))), some (zr (some (0, 0, 0))), some (zr (some (1, 0, 0))), some (zi (nI i))] (zpush r []) M' Q)) : Ev (d + 1) c s 249 647 [some (zr (some (9, 0, 0))), some (zr (some (0, 0, 0))), some (zr (some (1, 0, 0))), some (zi (nI i))] [] (I, L, zpj P, zsj S, top) Q := by
  refine Ew.ld f249_647 rfl rfl rfl rfl ?_
  refine Ew.ld f249_648 rfl rfl rfl rfl ?_
  refine Ew.ld f249_649 rfl rfl rfl rfl ?_
  refine Ew.op (st' := zi (nI 1) :: _) f249_650 rfl rfl ?_
  refine Ew.addn f249_651 rfl ?_
  refine Ew.ialdn f249_652 (by show (S 9 0 0).1 = _; rw [sN]) (by show _ < (S 9 0 0).2; rw [sN]; exact b1) (by show (S 9 0 0).2 < 5000; rw [sN]; omega) rfl ?_
  refine Ew.ld f249_653 rfl rfl rfl rfl ?_
  refine Ew.ld f249_654 rfl rfl rfl rfl ?_
  refine Ew.op (st' := zi (nI 2) :: _) f249_655 rfl rfl ?_
  refine Ew.addn f249_656 rfl ?_
  refine Ew.ialdn f249_657 (by show (S 9 0 0).1 = _; rw [sN]) (by show _ < (S 9 0 0).2; rw [sN]; exact b2) (by show (S 9 0 0).2 < 5000; rw [sN]; omega) rfl ?_
  refine Ew.call0 (ls0 := [some (zr (some (0, 0, 0))), some (zi (I 9 0 0 (i + 1))), some (zi (I 9 0 0 (i + 2)))]) f249_658 rfl (Nat.le_of_ble_eq_true rfl) rfl rfl (Nat.le_of_ble_eq_true rfl) rfl (Nat.le_of_ble_eq_true rfl) rfl rfl ?_
  exact h1
theorem g249_661 {d c s : Nat} {i N : Nat} {v : Int32} {I : zI} {L : zL} {P : zP} {S : zS} {top : Nat} {Q : Option zV → zM → Prop} (sN : S 9 0 0 = (20, N)) (hN : N ≤ 3072) 
    (b1 : i + 1 < N)
    (b2 : i + 2 < N)
    (h1 : Ev d 0 0 229 0 [some (zr (some (1, 0, 0))), some (zi (I 9 0 0 (i + 1))), some (zi (I 9 0 0 (i + 2)))] [] (I, L, zpj P, zsj S, top) (fun r M' => Ev (d + 1) c s 249 675 [some (zr (some (9, 0, 0))), some (zr (some (0, 0, 0))), some (zr (some (1, 0, 0))), some (zi (nI i))] (zpush r [zi v]) M' Q)) : Ev (d + 1) c s 249 661 [some (zr (some (9, 0, 0))), some (zr (some (0, 0, 0))), some (zr (some (1, 0, 0))), some (zi (nI i))] [zi v] (I, L, zpj P, zsj S, top) Q := by
  refine Ew.ld f249_661 rfl rfl rfl rfl ?_
  refine Ew.ld f249_662 rfl rfl rfl rfl ?_
  refine Ew.ld f249_663 rfl rfl rfl rfl ?_
  refine Ew.op (st' := zi (nI 1) :: _) f249_664 rfl rfl ?_
  refine Ew.addn f249_665 rfl ?_
  refine Ew.ialdn f249_666 (by show (S 9 0 0).1 = _; rw [sN]) (by show _ < (S 9 0 0).2; rw [sN]; exact b1) (by show (S 9 0 0).2 < 5000; rw [sN]; omega) rfl ?_
  refine Ew.ld f249_667 rfl rfl rfl rfl ?_
  refine Ew.ld f249_668 rfl rfl rfl rfl ?_
  refine Ew.op (st' := zi (nI 2) :: _) f249_669 rfl rfl ?_
  refine Ew.addn f249_670 rfl ?_
  refine Ew.ialdn f249_671 (by show (S 9 0 0).1 = _; rw [sN]) (by show _ < (S 9 0 0).2; rw [sN]; exact b2) (by show (S 9 0 0).2 < 5000; rw [sN]; omega) rfl ?_
  refine Ew.call0 (ls0 := [some (zr (some (1, 0, 0))), some (zi (I 9 0 0 (i + 1))), some (zi (I 9 0 0 (i + 2)))]) f249_672 rfl (Nat.le_of_ble_eq_true rfl) rfl rfl (Nat.le_of_ble_eq_true rfl) rfl (Nat.le_of_ble_eq_true rfl) rfl rfl ?_
  exact h1
theorem g249_675 {d c s : Nat} {i N : Nat} {v : Int32} {I : zI} {L : zL} {P : zP} {S : zS} {top : Nat} {Q : Option zV → zM → Prop} (sN : S 9 0 0 = (20, N)) (hN : N ≤ 3072) 
    (h1 : (v = v) → Ev d c s 249 1073 [some (zr (some (9, 0, 0))), some (zr (some (0, 0, 0))), some (zr (some (1, 0, 0))), some (zi (nI i))] [] (I, L, zpj P, zsj S, top) Q)
    (h2 : (¬ v = v) → Q (some (zi (nI 0))) (I, L, zpj P, zsj S, top)) : Ev d c s 249 675 [some (zr (some (9, 0, 0))), some (zr (some (0, 0, 0))), some (zr (some (1, 0, 0))), some (zi (nI i))] [zi v, zi v] (I, L, zpj P, zsj S, top) Q := by
  refine Ew.icmp f249_675 rfl rfl (fun c1 => ?_) (fun c1 => ?_)
  · exact h1 c1
  · refine Ew.op (st' := zi (nI 0) :: _) f249_678 rfl rfl ?_
    refine Ew.iretb f249_679 (Or.inl rfl) ?_
    exact h2 c1
theorem g249_680 {d c s : Nat} {i N : Nat} {I : zI} {L : zL} {P : zP} {S : zS} {top : Nat} {Q : Option zV → zM → Prop} (sN : S 9 0 0 = (20, N)) (hN : N ≤ 3072) 
    (b1 : i + 1 < N)
    (h1 : Ev d 0 0 130 0 [some (zr (some (0, 0, 0))), some (zi (I 9 0 0 (i + 1))), none] [] (I, L, zpj P, zsj S, top) (fun r M' => Ev (d + 1) c s 249 689 [some (zr (some (9, 0, 0))), some (zr (some (0, 0, 0))), some (zr (some (1, 0, 0))), some (zi (nI i))] (zpush r []) M' Q)) : Ev (d + 1) c s 249 680 [some (zr (some (9, 0, 0))), some (zr (some (0, 0, 0))), some (zr (some (1, 0, 0))), some (zi (nI i))] [] (I, L, zpj P, zsj S, top) Q := by
  refine Ew.ld f249_680 rfl rfl rfl rfl ?_
  refine Ew.ld f249_681 rfl rfl rfl rfl ?_
  refine Ew.ld f249_682 rfl rfl rfl rfl ?_
  refine Ew.op (st' := zi (nI 1) :: _) f249_683 rfl rfl ?_
  refine Ew.addn f249_684 rfl ?_
  refine Ew.ialdn f249_685 (by show (S 9 0 0).1 = _; rw [sN]) (by show _ < (S 9 0 0).2; rw [sN]; exact b1) (by show (S 9 0 0).2 < 5000; rw [sN]; omega) rfl ?_
  refine Ew.call0 (ls0 := [some (zr (some (0, 0, 0))), some (zi (I 9 0 0 (i + 1))), none]) f249_686 rfl (Nat.le_of_ble_eq_true rfl) rfl rfl (Nat.le_of_ble_eq_true rfl) rfl (Nat.le_of_ble_eq_true rfl) rfl rfl ?_
  exact h1
theorem g249_689 {d c s : Nat} {i N : Nat} {v : Int32} {I : zI} {L : zL} {P : zP} {S : zS} {top : Nat} {Q : Option zV → zM → Prop} (sN : S 9 0 0 = (20, N)) (hN : N ≤ 3072) 
    (b1 : i + 1 < N)
    (h1 : Ev d 0 0 230 0 [some (zr (some (1, 0, 0))), some (zi (I 9 0 0 (i + 1))), none, none, none, none] [] (I, L, zpj P, zsj S, top) (fun r M' => Ev (d + 1) c s 249 698 [some (zr (some (9, 0, 0))), some (zr (some (0, 0, 0))), some (zr (some (1, 0, 0))), some (zi (nI i))] (zpush r [zi v]) M' Q)) : Ev (d + 1) c s 249 689 [some (zr (some (9, 0, 0))), some (zr (some (0, 0, 0))), some (zr (some (1, 0, 0))), some (zi (nI i))] [zi v] (I, L, zpj P, zsj S, top) Q := by
  refine Ew.ld f249_689 rfl rfl rfl rfl ?_
  refine Ew.ld f249_690 rfl rfl rfl rfl ?_
  refine Ew.ld f249_691 rfl rfl rfl rfl ?_
  refine Ew.op (st' := zi (nI 1) :: _) f249_692 rfl rfl ?_
  refine Ew.addn f249_693 rfl ?_
  refine Ew.ialdn f249_694 (by show (S 9 0 0).1 = _; rw [sN]) (by show _ < (S 9 0 0).2; rw [sN]; exact b1) (by show (S 9 0 0).2 < 5000; rw [sN]; omega) rfl ?_
  refine Ew.call0 (ls0 := [some (zr (some (1, 0, 0))), some (zi (I 9 0 0 (i + 1))), none, none, none, none]) f249_695 rfl (Nat.le_of_ble_eq_true rfl) rfl rfl (Nat.le_of_ble_eq_true rfl) rfl (Nat.le_of_ble_eq_true rfl) rfl rfl ?_
  exact h1
theorem g249_698 {d c s : Nat} {i N : Nat} {v : Int32} {I : zI} {L : zL} {P : zP} {S : zS} {top : Nat} {Q : Option zV → zM → Prop} (sN : S 9 0 0 = (20, N)) (hN : N ≤ 3072) 
    (h1 : (v = v) → Ev d c s 249 1073 [some (zr (some (9, 0, 0))), some (zr (some (0, 0, 0))), some (zr (some (1, 0, 0))), some (zi (nI i))] [] (I, L, zpj P, zsj S, top) Q)
    (h2 : (¬ v = v) → Q (some (zi (nI 0))) (I, L, zpj P, zsj S, top)) : Ev d c s 249 698 [some (zr (some (9, 0, 0))), some (zr (some (0, 0, 0))), some (zr (some (1, 0, 0))), some (zi (nI i))] [zi v, zi v] (I, L, zpj P, zsj S, top) Q := by
  refine Ew.icmp f249_698 rfl rfl (fun c1 => ?_) (fun c1 => ?_)
  · exact h1 c1
  · refine Ew.op (st' := zi (nI 0) :: _) f249_701 rfl rfl ?_
    refine Ew.iretb f249_702 (Or.inl rfl) ?_
    exact h2 c1
theorem g249_703 {d c s : Nat} {i N : Nat} {I : zI} {L : zL} {P : zP} {S : zS} {top : Nat} {Q : Option zV → zM → Prop} (sN : S 9 0 0 = (20, N)) (hN : N ≤ 3072) 
    (h1 : Ev d 0 0 131 0 [some (zr (some (0, 0, 0)))] [] (I, L, zpj P, zsj S, top) (fun r M' => Ev (d + 1) c s 249 707 [some (zr (some (9, 0, 0))), some (zr (some (0, 0, 0))), some (zr (some (1, 0, 0))), some (zi (nI i))] (zpush r []) M' Q)) : Ev (d + 1) c s 249 703 [some (zr (some (9, 0, 0))), some (zr (some (0, 0, 0))), some (zr (some (1, 0, 0))), some (zi (nI i))] [] (I, L, zpj P, zsj S, top) Q := by
  refine Ew.ld f249_703 rfl rfl rfl rfl ?_
  refine Ew.call0 (ls0 := [some (zr (some (0, 0, 0)))]) f249_704 rfl (Nat.le_of_ble_eq_true rfl) rfl rfl (Nat.le_of_ble_eq_true rfl) rfl (Nat.le_of_ble_eq_true rfl) rfl rfl ?_
  exact h1
theorem g249_707 {d c s : Nat} {i N : Nat} {v : Int32} {I : zI} {L : zL} {P : zP} {S : zS} {top : Nat} {Q : Option zV → zM → Prop} (sN : S 9 0 0 = (20, N)) (hN : N ≤ 3072) 
    (h1 : Ev d 0 0 231 0 [some (zr (some (1, 0, 0))), none] [] (I, L, zpj P, zsj S, top) (fun r M' => Ev (d + 1) c s 249 711 [some (zr (some (9, 0, 0))), some (zr (some (0, 0, 0))), some (zr (some (1, 0, 0))), some (zi (nI i))] (zpush r [zi v]) M' Q)) : Ev (d + 1) c s 249 707 [some (zr (some (9, 0, 0))), some (zr (some (0, 0, 0))), some (zr (some (1, 0, 0))), some (zi (nI i))] [zi v] (I, L, zpj P, zsj S, top) Q := by
  refine Ew.ld f249_707 rfl rfl rfl rfl ?_
  refine Ew.call0 (ls0 := [some (zr (some (1, 0, 0))), none]) f249_708 rfl (Nat.le_of_ble_eq_true rfl) rfl rfl (Nat.le_of_ble_eq_true rfl) rfl (Nat.le_of_ble_eq_true rfl) rfl rfl ?_
  exact h1
theorem g249_711 {d c s : Nat} {i N : Nat} {v : Int32} {I : zI} {L : zL} {P : zP} {S : zS} {top : Nat} {Q : Option zV → zM → Prop} (sN : S 9 0 0 = (20, N)) (hN : N ≤ 3072) 
    (h1 : (v = v) → Ev d c s 249 1073 [some (zr (some (9, 0, 0))), some (zr (some (0, 0, 0))), some (zr (some (1, 0, 0))), some (zi (nI i))] [] (I, L, zpj P, zsj S, top) Q)
    (h2 : (¬ v = v) → Q (some (zi (nI 0))) (I, L, zpj P, zsj S, top)) : Ev d c s 249 711 [some (zr (some (9, 0, 0))), some (zr (some (0, 0, 0))), some (zr (some (1, 0, 0))), some (zi (nI i))] [zi v, zi v] (I, L, zpj P, zsj S, top) Q := by
  refine Ew.icmp f249_711 rfl rfl (fun c1 => ?_) (fun c1 => ?_)
  · exact h1 c1
  · refine Ew.op (st' := zi (nI 0) :: _) f249_714 rfl rfl ?_
    refine Ew.iretb f249_715 (Or.inl rfl) ?_
    exact h2 c1
theorem g249_716 {d c s : Nat} {i N : Nat} {I : zI} {L : zL} {P : zP} {S : zS} {top : Nat} {Q : Option zV → zM → Prop} (sN : S 9 0 0 = (20, N)) (hN : N ≤ 3072) 
    (b1 : i + 1 < N)
    (h1 : Ev d 0 0 132 0 [some (zr (some (0, 0, 0))), some (zi (I 9 0 0 (i + 1)))] [] (I, L, zpj P, zsj S, top) (fun r M' => Ev (d + 1) c s 249 725 [some (zr (some (9, 0, 0))), some (zr (some (0, 0, 0))), some (zr (some (1, 0, 0))), some (zi (nI i))] (zpush r []) M' Q)) : Ev (d + 1) c s 249 716 [some (zr (some (9, 0, 0))), some (zr (some (0, 0, 0))), some (zr (some (1, 0, 0))), some (zi (nI i))] [] (I, L, zpj P, zsj S, top) Q := by
  refine Ew.ld f249_716 rfl rfl rfl rfl ?_
  refine Ew.ld f249_717 rfl rfl rfl rfl ?_
  refine Ew.ld f249_718 rfl rfl rfl rfl ?_
  refine Ew.op (st' := zi (nI 1) :: _) f249_719 rfl rfl ?_
  refine Ew.addn f249_720 rfl ?_
  refine Ew.ialdn f249_721 (by show (S 9 0 0).1 = _; rw [sN]) (by show _ < (S 9 0 0).2; rw [sN]; exact b1) (by show (S 9 0 0).2 < 5000; rw [sN]; omega) rfl ?_
  refine Ew.call0 (ls0 := [some (zr (some (0, 0, 0))), some (zi (I 9 0 0 (i + 1)))]) f249_722 rfl (Nat.le_of_ble_eq_true rfl) rfl rfl (Nat.le_of_ble_eq_true rfl) rfl (Nat.le_of_ble_eq_true rfl) rfl rfl ?_
  exact h1
theorem g249_725 {d c s : Nat} {i N : Nat} {v : Int32} {I : zI} {L : zL} {P : zP} {S : zS} {top : Nat} {Q : Option zV → zM → Prop} (sN : S 9 0 0 = (20, N)) (hN : N ≤ 3072) 
    (b1 : i + 1 < N)
    (h1 : Ev d 0 0 232 0 [some (zr (some (1, 0, 0))), some (zi (I 9 0 0 (i + 1))), none] [] (I, L, zpj P, zsj S, top) (fun r M' => Ev (d + 1) c s 249 734 [some (zr (some (9, 0, 0))), some (zr (some (0, 0, 0))), some (zr (some (1, 0, 0))), some (zi (nI i))] (zpush r [zi v]) M' Q)) : Ev (d + 1) c s 249 725 [some (zr (some (9, 0, 0))), some (zr (some (0, 0, 0))), some (zr (some (1, 0, 0))), some (zi (nI i))] [zi v] (I, L, zpj P, zsj S, top) Q := by
  refine Ew.ld f249_725 rfl rfl rfl rfl ?_
  refine Ew.ld f249_726 rfl rfl rfl rfl ?_
  refine Ew.ld f249_727 rfl rfl rfl rfl ?_
  refine Ew.op (st' := zi (nI 1) :: _) f249_728 rfl rfl ?_
  refine Ew.addn f249_729 rfl ?_
  refine Ew.ialdn f249_730 (by show (S 9 0 0).1 = _; rw [sN]) (by show _ < (S 9 0 0).2; rw [sN]; exact b1) (by show (S 9 0 0).2 < 5000; rw [sN]; omega) rfl ?_
  refine Ew.call0 (ls0 := [some (zr (some (1, 0, 0))), some (zi (I 9 0 0 (i + 1))), none]) f249_731 rfl (Nat.le_of_ble_eq_true rfl) rfl rfl (Nat.le_of_ble_eq_true rfl) rfl (Nat.le_of_ble_eq_true rfl) rfl rfl ?_
  exact h1
theorem g249_734 {d c s : Nat} {i N : Nat} {v : Int32} {I : zI} {L : zL} {P : zP} {S : zS} {top : Nat} {Q : Option zV → zM → Prop} (sN : S 9 0 0 = (20, N)) (hN : N ≤ 3072) 
    (h1 : (v = v) → Ev d c s 249 1073 [some (zr (some (9, 0, 0))), some (zr (some (0, 0, 0))), some (zr (some (1, 0, 0))), some (zi (nI i))] [] (I, L, zpj P, zsj S, top) Q)
    (h2 : (¬ v = v) → Q (some (zi (nI 0))) (I, L, zpj P, zsj S, top)) : Ev d c s 249 734 [some (zr (some (9, 0, 0))), some (zr (some (0, 0, 0))), some (zr (some (1, 0, 0))), some (zi (nI i))] [zi v, zi v] (I, L, zpj P, zsj S, top) Q := by
  refine Ew.icmp f249_734 rfl rfl (fun c1 => ?_) (fun c1 => ?_)
  · exact h1 c1
  · refine Ew.op (st' := zi (nI 0) :: _) f249_737 rfl rfl ?_
    refine Ew.iretb f249_738 (Or.inl rfl) ?_
    exact h2 c1
theorem g249_739 {d c s : Nat} {i N : Nat} {I : zI} {L : zL} {P : zP} {S : zS} {top : Nat} {Q : Option zV → zM → Prop} (sN : S 9 0 0 = (20, N)) (hN : N ≤ 3072) 
    (h1 : Ev d 0 0 133 0 [some (zr (some (0, 0, 0)))] [] (I, L, zpj P, zsj S, top) (fun r M' => Ev (d + 1) c s 249 743 [some (zr (some (9, 0, 0))), some (zr (some (0, 0, 0))), some (zr (some (1, 0, 0))), some (zi (nI i))] (zpush r []) M' Q)) : Ev (d + 1) c s 249 739 [some (zr (some (9, 0, 0))), some (zr (some (0, 0, 0))), some (zr (some (1, 0, 0))), some (zi (nI i))] [] (I, L, zpj P, zsj S, top) Q := by
  refine Ew.ld f249_739 rfl rfl rfl rfl ?_
  refine Ew.call0 (ls0 := [some (zr (some (0, 0, 0)))]) f249_740 rfl (Nat.le_of_ble_eq_true rfl) rfl rfl (Nat.le_of_ble_eq_true rfl) rfl (Nat.le_of_ble_eq_true rfl) rfl rfl ?_
  exact h1
theorem g249_743 {d c s : Nat} {i N : Nat} {v : Int32} {I : zI} {L : zL} {P : zP} {S : zS} {top : Nat} {Q : Option zV → zM → Prop} (sN : S 9 0 0 = (20, N)) (hN : N ≤ 3072) 
    (h1 : Ev d 0 0 233 0 [some (zr (some (1, 0, 0))), none] [] (I, L, zpj P, zsj S, top) (fun r M' => Ev (d + 1) c s 249 747 [some (zr (some (9, 0, 0))), some (zr (some (0, 0, 0))), some (zr (some (1, 0, 0))), some (zi (nI i))] (zpush r [zi v]) M' Q)) : Ev (d + 1) c s 249 743 [some (zr (some (9, 0, 0))), some (zr (some (0, 0, 0))), some (zr (some (1, 0, 0))), some (zi (nI i))] [zi v] (I, L, zpj P, zsj S, top) Q := by
  refine Ew.ld f249_743 rfl rfl rfl rfl ?_
  refine Ew.call0 (ls0 := [some (zr (some (1, 0, 0))), none]) f249_744 rfl (Nat.le_of_ble_eq_true rfl) rfl rfl (Nat.le_of_ble_eq_true rfl) rfl (Nat.le_of_ble_eq_true rfl) rfl rfl ?_
  exact h1
theorem g249_747 {d c s : Nat} {i N : Nat} {v : Int32} {I : zI} {L : zL} {P : zP} {S : zS} {top : Nat} {Q : Option zV → zM → Prop} (sN : S 9 0 0 = (20, N)) (hN : N ≤ 3072) 
    (h1 : (v = v) → Ev d c s 249 1073 [some (zr (some (9, 0, 0))), some (zr (some (0, 0, 0))), some (zr (some (1, 0, 0))), some (zi (nI i))] [] (I, L, zpj P, zsj S, top) Q)
    (h2 : (¬ v = v) → Q (some (zi (nI 0))) (I, L, zpj P, zsj S, top)) : Ev d c s 249 747 [some (zr (some (9, 0, 0))), some (zr (some (0, 0, 0))), some (zr (some (1, 0, 0))), some (zi (nI i))] [zi v, zi v] (I, L, zpj P, zsj S, top) Q := by
  refine Ew.icmp f249_747 rfl rfl (fun c1 => ?_) (fun c1 => ?_)
  · exact h1 c1
  · refine Ew.op (st' := zi (nI 0) :: _) f249_750 rfl rfl ?_
    refine Ew.iretb f249_751 (Or.inl rfl) ?_
    exact h2 c1
theorem g249_752 {d c s : Nat} {i N : Nat} {I : zI} {L : zL} {P : zP} {S : zS} {top : Nat} {Q : Option zV → zM → Prop} (sN : S 9 0 0 = (20, N)) (hN : N ≤ 3072) 
    (h1 : Ev d 0 0 134 0 [some (zr (some (0, 0, 0)))] [] (I, L, zpj P, zsj S, top) (fun r M' => Ev (d + 1) c s 249 756 [some (zr (some (9, 0, 0))), some (zr (some (0, 0, 0))), some (zr (some (1, 0, 0))), some (zi (nI i))] (zpush r []) M' Q)) : Ev (d + 1) c s 249 752 [some (zr (some (9, 0, 0))), some (zr (some (0, 0, 0))), some (zr (some (1, 0, 0))), some (zi (nI i))] [] (I, L, zpj P, zsj S, top) Q := by
  refine Ew.ld f249_752 rfl rfl rfl rfl ?_
  refine Ew.call0 (ls0 := [some (zr (some (0, 0, 0)))]) f249_753 rfl (Nat.le_of_ble_eq_true rfl) rfl rfl (Nat.le_of_ble_eq_true rfl) rfl (Nat.le_of_ble_eq_true rfl) rfl rfl ?_
  exact h1
theorem g249_756 {d c s : Nat} {i N : Nat} {v : Int32} {I : zI} {L : zL} {P : zP} {S : zS} {top : Nat} {Q : Option zV → zM → Prop} (sN : S 9 0 0 = (20, N)) (hN : N ≤ 3072) 
    (h1 : Ev d 0 0 234 0 [some (zr (some (1, 0, 0))), none] [] (I, L, zpj P, zsj S, top) (fun r M' => Ev (d + 1) c s 249 760 [some (zr (some (9, 0, 0))), some (zr (some (0, 0, 0))), some (zr (some (1, 0, 0))), some (zi (nI i))] (zpush r [zi v]) M' Q)) : Ev (d + 1) c s 249 756 [some (zr (some (9, 0, 0))), some (zr (some (0, 0, 0))), some (zr (some (1, 0, 0))), some (zi (nI i))] [zi v] (I, L, zpj P, zsj S, top) Q := by
  refine Ew.ld f249_756 rfl rfl rfl rfl ?_
  refine Ew.call0 (ls0 := [some (zr (some (1, 0, 0))), none]) f249_757 rfl (Nat.le_of_ble_eq_true rfl) rfl rfl (Nat.le_of_ble_eq_true rfl) rfl (Nat.le_of_ble_eq_true rfl) rfl rfl ?_
  exact h1
theorem g249_760 {d c s : Nat} {i N : Nat} {v : Int32} {I : zI} {L : zL} {P : zP} {S : zS} {top : Nat} {Q : Option zV → zM → Prop} (sN : S 9 0 0 = (20, N)) (hN : N ≤ 3072) 
    (h1 : (v = v) → Ev d c s 249 1073 [some (zr (some (9, 0, 0))), some (zr (some (0, 0, 0))), some (zr (some (1, 0, 0))), some (zi (nI i))] [] (I, L, zpj P, zsj S, top) Q)
    (h2 : (¬ v = v) → Q (some (zi (nI 0))) (I, L, zpj P, zsj S, top)) : Ev d c s 249 760 [some (zr (some (9, 0, 0))), some (zr (some (0, 0, 0))), some (zr (some (1, 0, 0))), some (zi (nI i))] [zi v, zi v] (I, L, zpj P, zsj S, top) Q := by
  refine Ew.icmp f249_760 rfl rfl (fun c1 => ?_) (fun c1 => ?_)
  · exact h1 c1
  · refine Ew.op (st' := zi (nI 0) :: _) f249_763 rfl rfl ?_
    refine Ew.iretb f249_764 (Or.inl rfl) ?_
    exact h2 c1
theorem g249_765 {d c s : Nat} {i N : Nat} {I : zI} {L : zL} {P : zP} {S : zS} {top : Nat} {Q : Option zV → zM → Prop} (sN : S 9 0 0 = (20, N)) (hN : N ≤ 3072) 
    (b1 : i + 1 < N)
    (b2 : i + 2 < N)
    (b3 : i + 3 < N)
    (b4 : i + 4 < N)
    (h1 : Ev d 0 0 135 0 [some (zr (some (0, 0, 0))), some (zi (I 9 0 0 (i + 1))), some (zi (I 9 0 0 (i + 2))), some (zi (I 9 0 0 (i + 3))), some (zi (I 9 0 0 (i + 4))), none] [] (I, L, zpj P, zsj S, top) (fun r M' => Ev (d + 1) c s 249 789 [some (zr (some (9, 0, 0))), some (zr (some (0, 0, 0))), some (zr (some (1, 0, 0))), some (zi (nI i))] (zpush r []) M' Q)) : Ev (d + 1) c s 249 765 [some (zr (some (9, 0, 0))), some (zr (some (0, 0, 0))), some (zr (some (1, 0, 0))), some (zi (nI i))] [] (I, L, zpj P, zsj S, top) Q := by
  refine Ew.ld f249_765 rfl rfl rfl rfl ?_
  refine Ew.ld f249_766 rfl rfl rfl rfl ?_
  refine Ew.ld f249_767 rfl rfl rfl rfl ?_
  refine Ew.op (st' := zi (nI 1) :: _) f249_768 rfl rfl ?_
  refine Ew.addn f249_769 rfl ?_
  refine Ew.ialdn f249_770 (by show (S 9 0 0).1 = _; rw [sN]) (by show _ < (S 9 0 0).2; rw [sN]; exact b1) (by show (S 9 0 0).2 < 5000; rw [sN]; omega) rfl ?_
  refine Ew.ld f249_771 rfl rfl rfl rfl ?_
  refine Ew.ld f249_772 rfl rfl rfl rfl ?_
  refine Ew.op (st' := zi (nI 2) :: _) f249_773 rfl rfl ?_
  refine Ew.addn f249_774 rfl ?_
  refine Ew.ialdn f249_775 (by show (S 9 0 0).1 = _; rw [sN]) (by show _ < (S 9 0 0).2; rw [sN]; exact b2) (by show (S 9 0 0).2 < 5000; rw [sN]; omega) rfl ?_
  refine Ew.ld f249_776 rfl rfl rfl rfl ?_
  refine Ew.ld f249_777 rfl rfl rfl rfl ?_
  refine Ew.op (st' := zi (nI 3) :: _) f249_778 rfl rfl ?_
  refine Ew.addn f249_779 rfl ?_
  refine Ew.ialdn f249_780 (by show (S 9 0 0).1 = _; rw [sN]) (by show _ < (S 9 0 0).2; rw [sN]; exact b3) (by show (S 9 0 0).2 < 5000; rw [sN]; omega) rfl ?_
  refine Ew.ld f249_781 rfl rfl rfl rfl ?_
  refine Ew.ld f249_782 rfl rfl rfl rfl ?_
  refine Ew.op (st' := zi (nI 4) :: _) f249_783 rfl rfl ?_
  refine Ew.addn f249_784 rfl ?_
  refine Ew.ialdn f249_785 (by show (S 9 0 0).1 = _; rw [sN]) (by show _ < (S 9 0 0).2; rw [sN]; exact b4) (by show (S 9 0 0).2 < 5000; rw [sN]; omega) rfl ?_
  refine Ew.call0 (ls0 := [some (zr (some (0, 0, 0))), some (zi (I 9 0 0 (i + 1))), some (zi (I 9 0 0 (i + 2))), some (zi (I 9 0 0 (i + 3))), some (zi (I 9 0 0 (i + 4))), none]) f249_786 rfl (Nat.le_of_ble_eq_true rfl) rfl rfl (Nat.le_of_ble_eq_true rfl) rfl (Nat.le_of_ble_eq_true rfl) rfl rfl ?_
  exact h1
theorem g249_789 {d c s : Nat} {i N : Nat} {v : Int32} {I : zI} {L : zL} {P : zP} {S : zS} {top : Nat} {Q : Option zV → zM → Prop} (sN : S 9 0 0 = (20, N)) (hN : N ≤ 3072) 
    (b1 : i + 1 < N)
    (b2 : i + 2 < N)
    (b3 : i + 3 < N)
    (b4 : i + 4 < N)
    (h1 : Ev d 0 0 238 0 [some (zr (some (1, 0, 0))), some (zi (I 9 0 0 (i + 1))), some (zi (I 9 0 0 (i + 2))), some (zi (I 9 0 0 (i + 3))), some (zi (I 9 0 0 (i + 4))), none, none, none, none, none] [] (I, L, zpj P, zsj S, top) (fun r M' => Ev (d + 1) c s 249 813 [some (zr (some (9, 0, 0))), some (zr (some (0, 0, 0))), some (zr (some (1, 0, 0))), some (zi (nI i))] (zpush r [zi v]) M' Q)) : Ev (d + 1) c s 249 789 [some (zr (some (9, 0, 0))), some (zr (some (0, 0, 0))), some (zr (some (1, 0, 0))), some (zi (nI i))] [zi v] (I, L, zpj P, zsj S, top) Q := by
  refine Ew.ld f249_789 rfl rfl rfl rfl ?_
  refine Ew.ld f249_790 rfl rfl rfl rfl ?_
  refine Ew.ld f249_791 rfl rfl rfl rfl ?_
  refine Ew.op (st' := zi (nI 1) :: _) f249_792 rfl rfl ?_
  refine Ew.addn f249_793 rfl ?_
  refine Ew.ialdn f249_794 (by show (S 9 0 0).1 = _; rw [sN]) (by show _ < (S 9 0 0).2; rw [sN]; exact b1) (by show (S 9 0 0).2 < 5000; rw [sN]; omega) rfl ?_
  refine Ew.ld f249_795 rfl rfl rfl rfl ?_
  refine Ew.ld f249_796 rfl rfl rfl rfl ?_
  refine Ew.op (st' := zi (nI 2) :: _) f249_797 rfl rfl ?_
  refine Ew.addn f249_798 rfl ?_
  refine Ew.ialdn f249_799 (by show (S 9 0 0).1 = _; rw [sN]) (by show _ < (S 9 0 0).2; rw [sN]; exact b2) (by show (S 9 0 0).2 < 5000; rw [sN]; omega) rfl ?_
  refine Ew.ld f249_800 rfl rfl rfl rfl ?_
  refine Ew.ld f249_801 rfl rfl rfl rfl ?_
  refine Ew.op (st' := zi (nI 3) :: _) f249_802 rfl rfl ?_
  refine Ew.addn f249_803 rfl ?_
  refine Ew.ialdn f249_804 (by show (S 9 0 0).1 = _; rw [sN]) (by show _ < (S 9 0 0).2; rw [sN]; exact b3) (by show (S 9 0 0).2 < 5000; rw [sN]; omega) rfl ?_
  refine Ew.ld f249_805 rfl rfl rfl rfl ?_
  refine Ew.ld f249_806 rfl rfl rfl rfl ?_
  refine Ew.op (st' := zi (nI 4) :: _) f249_807 rfl rfl ?_
  refine Ew.addn f249_808 rfl ?_
  refine Ew.ialdn f249_809 (by show (S 9 0 0).1 = _; rw [sN]) (by show _ < (S 9 0 0).2; rw [sN]; exact b4) (by show (S 9 0 0).2 < 5000; rw [sN]; omega) rfl ?_
  refine Ew.call0 (ls0 := [some (zr (some (1, 0, 0))), some (zi (I 9 0 0 (i + 1))), some (zi (I 9 0 0 (i + 2))), some (zi (I 9 0 0 (i + 3))), some (zi (I 9 0 0 (i + 4))), none, none, none, none, none]) f249_810 rfl (Nat.le_of_ble_eq_true rfl) rfl rfl (Nat.le_of_ble_eq_true rfl) rfl (Nat.le_of_ble_eq_true rfl) rfl rfl ?_
  exact h1
theorem g249_813 {d c s : Nat} {i N : Nat} {v : Int32} {I : zI} {L : zL} {P : zP} {S : zS} {top : Nat} {Q : Option zV → zM → Prop} (sN : S 9 0 0 = (20, N)) (hN : N ≤ 3072) 
    (h1 : (v = v) → Ev d c s 249 1073 [some (zr (some (9, 0, 0))), some (zr (some (0, 0, 0))), some (zr (some (1, 0, 0))), some (zi (nI i))] [] (I, L, zpj P, zsj S, top) Q)
    (h2 : (¬ v = v) → Q (some (zi (nI 0))) (I, L, zpj P, zsj S, top)) : Ev d c s 249 813 [some (zr (some (9, 0, 0))), some (zr (some (0, 0, 0))), some (zr (some (1, 0, 0))), some (zi (nI i))] [zi v, zi v] (I, L, zpj P, zsj S, top) Q := by
  refine Ew.icmp f249_813 rfl rfl (fun c1 => ?_) (fun c1 => ?_)
  · exact h1 c1
  · refine Ew.op (st' := zi (nI 0) :: _) f249_816 rfl rfl ?_
    refine Ew.iretb f249_817 (Or.inl rfl) ?_
    exact h2 c1
theorem g249_818 {d c s : Nat} {i N : Nat} {I : zI} {L : zL} {P : zP} {S : zS} {top : Nat} {Q : Option zV → zM → Prop} (sN : S 9 0 0 = (20, N)) (hN : N ≤ 3072) 
    (b1 : i + 1 < N)
    (b2 : i + 2 < N)
    (b3 : i + 3 < N)
    (h1 : Ev d 0 0 136 0 [some (zr (some (0, 0, 0))), some (zi (I 9 0 0 (i + 1))), some (zi (I 9 0 0 (i + 2))), some (zi (I 9 0 0 (i + 3))), none, none] [] (I, L, zpj P, zsj S, top) (fun r M' => Ev (d + 1) c s 249 837 [some (zr (some (9, 0, 0))), some (zr (some (0, 0, 0))), some (zr (some (1, 0, 0))), some (zi (nI i))] (zpush r []) M' Q)) : Ev (d + 1) c s 249 818 [some (zr (some (9, 0, 0))), some (zr (some (0, 0, 0))), some (zr (some (1, 0, 0))), some (zi (nI i))] [] (I, L, zpj P, zsj S, top) Q := by
  refine Ew.ld f249_818 rfl rfl rfl rfl ?_
  refine Ew.ld f249_819 rfl rfl rfl rfl ?_
  refine Ew.ld f249_820 rfl rfl rfl rfl ?_
  refine Ew.op (st' := zi (nI 1) :: _) f249_821 rfl rfl ?_
  refine Ew.addn f249_822 rfl ?_
  refine Ew.ialdn f249_823 (by show (S 9 0 0).1 = _; rw [sN]) (by show _ < (S 9 0 0).2; rw [sN]; exact b1) (by show (S 9 0 0).2 < 5000; rw [sN]; omega) rfl ?_
  refine Ew.ld f249_824 rfl rfl rfl rfl ?_
  refine Ew.ld f249_825 rfl rfl rfl rfl ?_
  refine Ew.op (st' := zi (nI 2) :: _) f249_826 rfl rfl ?_
  refine Ew.addn f249_827 rfl ?_
  refine Ew.ialdn f249_828 (by show (S 9 0 0).1 = _; rw [sN]) (by show _ < (S 9 0 0).2; rw [sN]; exact b2) (by show (S 9 0 0).2 < 5000; rw [sN]; omega) rfl ?_
  refine Ew.ld f249_829 rfl rfl rfl rfl ?_
  refine Ew.ld f249_830 rfl rfl rfl rfl ?_
  refine Ew.op (st' := zi (nI 3) :: _) f249_831 rfl rfl ?_
  refine Ew.addn f249_832 rfl ?_
  refine Ew.ialdn f249_833 (by show (S 9 0 0).1 = _; rw [sN]) (by show _ < (S 9 0 0).2; rw [sN]; exact b3) (by show (S 9 0 0).2 < 5000; rw [sN]; omega) rfl ?_
  refine Ew.call0 (ls0 := [some (zr (some (0, 0, 0))), some (zi (I 9 0 0 (i + 1))), some (zi (I 9 0 0 (i + 2))), some (zi (I 9 0 0 (i + 3))), none, none]) f249_834 rfl (Nat.le_of_ble_eq_true rfl) rfl rfl (Nat.le_of_ble_eq_true rfl) rfl (Nat.le_of_ble_eq_true rfl) rfl rfl ?_
  exact h1
theorem g249_837 {d c s : Nat} {i N : Nat} {v : Int32} {I : zI} {L : zL} {P : zP} {S : zS} {top : Nat} {Q : Option zV → zM → Prop} (sN : S 9 0 0 = (20, N)) (hN : N ≤ 3072) 
    (b1 : i + 1 < N)
    (b2 : i + 2 < N)
    (b3 : i + 3 < N)
    (h1 : Ev d 0 0 239 0 [some (zr (some (1, 0, 0))), some (zi (I 9 0 0 (i + 1))), some (zi (I 9 0 0 (i + 2))), some (zi (I 9 0 0 (i + 3))), none, none] [] (I, L, zpj P, zsj S, top) (fun r M' => Ev (d + 1) c s 249 856 [some (zr (some (9, 0, 0))), some (zr (some (0, 0, 0))), some (zr (some (1, 0, 0))), some (zi (nI i))] (zpush r [zi v]) M' Q)) : Ev (d + 1) c s 249 837 [some (zr (some (9, 0, 0))), some (zr (some (0, 0, 0))), some (zr (some (1, 0, 0))), some (zi (nI i))] [zi v] (I, L, zpj P, zsj S, top) Q := by
  refine Ew.ld f249_837 rfl rfl rfl rfl ?_
  refine Ew.ld f249_838 rfl rfl rfl rfl ?_
  refine Ew.ld f249_839 rfl rfl rfl rfl ?_
  refine Ew.op (st' := zi (nI 1) :: _) f249_840 rfl rfl ?_
  refine Ew.addn f249_841 rfl ?_
  refine Ew.ialdn f249_842 (by show (S 9 0 0).1 = _; rw [sN]) (by show _ < (S 9 0 0).2; rw [sN]; exact b1) (by show (S 9 0 0).2 < 5000; rw [sN]; omega) rfl ?_
  refine Ew.ld f249_843 rfl rfl rfl rfl ?_
  refine Ew.ld f249_844 rfl rfl rfl rfl ?_
  refine Ew.op (st' := zi (nI 2) :: _) f249_845 rfl rfl ?_
  refine Ew.addn f249_846 rfl ?_
  refine Ew.ialdn f249_847 (by show (S 9 0 0).1 = _; rw [sN]) (by show _ < (S 9 0 0).2; rw [sN]; exact b2) (by show (S 9 0 0).2 < 5000; rw [sN]; omega) rfl ?_
  refine Ew.ld f249_848 rfl rfl rfl rfl ?_
  refine Ew.ld f249_849 rfl rfl rfl rfl ?_
  refine Ew.op (st' := zi (nI 3) :: _) f249_850 rfl rfl ?_
  refine Ew.addn f249_851 rfl ?_
  refine Ew.ialdn f249_852 (by show (S 9 0 0).1 = _; rw [sN]) (by show _ < (S 9 0 0).2; rw [sN]; exact b3) (by show (S 9 0 0).2 < 5000; rw [sN]; omega) rfl ?_
  refine Ew.call0 (ls0 := [some (zr (some (1, 0, 0))), some (zi (I 9 0 0 (i + 1))), some (zi (I 9 0 0 (i + 2))), some (zi (I 9 0 0 (i + 3))), none, none]) f249_853 rfl (Nat.le_of_ble_eq_true rfl) rfl rfl (Nat.le_of_ble_eq_true rfl) rfl (Nat.le_of_ble_eq_true rfl) rfl rfl ?_
  exact h1
theorem g249_856 {d c s : Nat} {i N : Nat} {v : Int32} {I : zI} {L : zL} {P : zP} {S : zS} {top : Nat} {Q : Option zV → zM → Prop} (sN : S 9 0 0 = (20, N)) (hN : N ≤ 3072) 
    (h1 : (v = v) → Ev d c s 249 1073 [some (zr (some (9, 0, 0))), some (zr (some (0, 0, 0))), some (zr (some (1, 0, 0))), some (zi (nI i))] [] (I, L, zpj P, zsj S, top) Q)
    (h2 : (¬ v = v) → Q (some (zi (nI 0))) (I, L, zpj P, zsj S, top)) : Ev d c s 249 856 [some (zr (some (9, 0, 0))), some (zr (some (0, 0, 0))), some (zr (some (1, 0, 0))), some (zi (nI i))] [zi v, zi v] (I, L, zpj P, zsj S, top) Q := by
  refine Ew.icmp f249_856 rfl rfl (fun c1 => ?_) (fun c1 => ?_)
  · exact h1 c1
  · refine Ew.op (st' := zi (nI 0) :: _) f249_859 rfl rfl ?_
    refine Ew.iretb f249_860 (Or.inl rfl) ?_
    exact h2 c1
theorem g249_861 {d c s : Nat} {i N : Nat} {I : zI} {L : zL} {P : zP} {S : zS} {top : Nat} {Q : Option zV → zM → Prop} (sN : S 9 0 0 = (20, N)) (hN : N ≤ 3072) 
    (b1 : i + 1 < N)
    (b2 : i + 2 < N)
    (b3 : i + 3 < N)
    (h1 : Ev d 0 0 137 0 [some (zr (some (0, 0, 0))), some (zi (I 9 0 0 (i + 1))), some (zi (I 9 0 0 (i + 2))), some (zi (I 9 0 0 (i + 3)))] [] (I, L, zpj P, zsj S, top) (fun r M' => Ev (d + 1) c s 249 880 [some (zr (some (9, 0, 0))), some (zr (some (0, 0, 0))), some (zr (some (1, 0, 0))), some (zi (nI i))] (zpush r []) M' Q)) : Ev (d + 1) c s 249 861 [some (zr (some (9, 0, 0))), some (zr (some (0, 0, 0))), some (zr (some (1, 0, 0))), some (zi (nI i))] [] (I, L, zpj P, zsj S, top) Q := by
  refine Ew.ld f249_861 rfl rfl rfl rfl ?_
  refine Ew.ld f249_862 rfl rfl rfl rfl ?_
  refine Ew.ld f249_863 rfl rfl rfl rfl ?_
  refine Ew.op (st' := zi (nI 1) :: _) f249_864 rfl rfl ?_
  refine Ew.addn f249_865 rfl ?_
  refine Ew.ialdn f249_866 (by show (S 9 0 0).1 = _; rw [sN]) (by show _ < (S 9 0 0).2; rw [sN]; exact b1) (by show (S 9 0 0).2 < 5000; rw [sN]; omega) rfl ?_
  refine Ew.ld f249_867 rfl rfl rfl rfl ?_
  refine Ew.ld f249_868 rfl rfl rfl rfl ?_
  refine Ew.op (st' := zi (nI 2) :: _) f249_869 rfl rfl ?_
  refine Ew.addn f249_870 rfl ?_
  refine Ew.ialdn f249_871 (by show (S 9 0 0).1 = _; rw [sN]) (by show _ < (S 9 0 0).2; rw [sN]; exact b2) (by show (S 9 0 0).2 < 5000; rw [sN]; omega) rfl ?_
  refine Ew.ld f249_872 rfl rfl rfl rfl ?_
  refine Ew.ld f249_873 rfl rfl rfl rfl ?_
  refine Ew.op (st' := zi (nI 3) :: _) f249_874 rfl rfl ?_
  refine Ew.addn f249_875 rfl ?_
  refine Ew.ialdn f249_876 (by show (S 9 0 0).1 = _; rw [sN]) (by show _ < (S 9 0 0).2; rw [sN]; exact b3) (by show (S 9 0 0).2 < 5000; rw [sN]; omega) rfl ?_
  refine Ew.call0 (ls0 := [some (zr (some (0, 0, 0))), some (zi (I 9 0 0 (i + 1))), some (zi (I 9 0 0 (i + 2))), some (zi (I 9 0 0 (i + 3)))]) f249_877 rfl (Nat.le_of_ble_eq_true rfl) rfl rfl (Nat.le_of_ble_eq_true rfl) rfl (Nat.le_of_ble_eq_true rfl) rfl rfl ?_
  exact h1
theorem g249_880 {d c s : Nat} {i N : Nat} {v : Int32} {I : zI} {L : zL} {P : zP} {S : zS} {top : Nat} {Q : Option zV → zM → Prop} (sN : S 9 0 0 = (20, N)) (hN : N ≤ 3072) 
    (b1 : i + 1 < N)
    (b2 : i + 2 < N)
    (b3 : i + 3 < N)
    (h1 : Ev d 0 0 240 0 [some (zr (some (1, 0, 0))), some (zi (I 9 0 0 (i + 1))), some (zi (I 9 0 0 (i + 2))), some (zi (I 9 0 0 (i + 3))), none] [] (I, L, zpj P, zsj S, top) (fun r M' => Ev (d + 1) c s 249 899 [some (zr (some (9, 0, 0))), some (zr (some (0, 0, 0))), some (zr (some (1, 0, 0))), some (zi (nI i))] (zpush r [zi v]) M' Q)) : Ev (d + 1) c s 249 880 [some (zr (some (9, 0, 0))), some (zr (some (0, 0, 0))), some (zr (some (1, 0, 0))), some (zi (nI i))] [zi v] (I, L, zpj P, zsj S, top) Q := by
  refine Ew.ld f249_880 rfl rfl rfl rfl ?_
  refine Ew.ld f249_881 rfl rfl rfl rfl ?_
  refine Ew.ld f249_882 rfl rfl rfl rfl ?_
  refine Ew.op (st' := zi (nI 1) :: _) f249_883 rfl rfl ?_
  refine Ew.addn f249_884 rfl ?_
  refine Ew.ialdn f249_885 (by show (S 9 0 0).1 = _; rw [sN]) (by show _ < (S 9 0 0).2; rw [sN]; exact b1) (by show (S 9 0 0).2 < 5000; rw [sN]; omega) rfl ?_
  refine Ew.ld f249_886 rfl rfl rfl rfl ?_
  refine Ew.ld f249_887 rfl rfl rfl rfl ?_
  refine Ew.op (st' := zi (nI 2) :: _) f249_888 rfl rfl ?_
  refine Ew.addn f249_889 rfl ?_
  refine Ew.ialdn f249_890 (by show (S 9 0 0).1 = _; rw [sN]) (by show _ < (S 9 0 0).2; rw [sN]; exact b2) (by show (S 9 0 0).2 < 5000; rw [sN]; omega) rfl ?_
  refine Ew.ld f249_891 rfl rfl rfl rfl ?_
  refine Ew.ld f249_892 rfl rfl rfl rfl ?_
  refine Ew.op (st' := zi (nI 3) :: _) f249_893 rfl rfl ?_
  refine Ew.addn f249_894 rfl ?_
  refine Ew.ialdn f249_895 (by show (S 9 0 0).1 = _; rw [sN]) (by show _ < (S 9 0 0).2; rw [sN]; exact b3) (by show (S 9 0 0).2 < 5000; rw [sN]; omega) rfl ?_
  refine Ew.call0 (ls0 := [some (zr (some (1, 0, 0))), some (zi (I 9 0 0 (i + 1))), some (zi (I 9 0 0 (i + 2))), some (zi (I 9 0 0 (i + 3))), none]) f249_896 rfl (Nat.le_of_ble_eq_true rfl) rfl rfl (Nat.le_of_ble_eq_true rfl) rfl (Nat.le_of_ble_eq_true rfl) rfl rfl ?_
  exact h1
theorem g249_899 {d c s : Nat} {i N : Nat} {v : Int32} {I : zI} {L : zL} {P : zP} {S : zS} {top : Nat} {Q : Option zV → zM → Prop} (sN : S 9 0 0 = (20, N)) (hN : N ≤ 3072) 
    (h1 : (v = v) → Ev d c s 249 1073 [some (zr (some (9, 0, 0))), some (zr (some (0, 0, 0))), some (zr (some (1, 0, 0))), some (zi (nI i))] [] (I, L, zpj P, zsj S, top) Q)
    (h2 : (¬ v = v) → Q (some (zi (nI 0))) (I, L, zpj P, zsj S, top)) : Ev d c s 249 899 [some (zr (some (9, 0, 0))), some (zr (some (0, 0, 0))), some (zr (some (1, 0, 0))), some (zi (nI i))] [zi v, zi v] (I, L, zpj P, zsj S, top) Q := by
  refine Ew.icmp f249_899 rfl rfl (fun c1 => ?_) (fun c1 => ?_)
  · exact h1 c1
  · refine Ew.op (st' := zi (nI 0) :: _) f249_902 rfl rfl ?_
    refine Ew.iretb f249_903 (Or.inl rfl) ?_
    exact h2 c1
theorem g249_904 {d c s : Nat} {i N : Nat} {I : zI} {L : zL} {P : zP} {S : zS} {top : Nat} {Q : Option zV → zM → Prop} (sN : S 9 0 0 = (20, N)) (hN : N ≤ 3072) 
    (b1 : i + 1 < N)
    (h1 : Ev d 0 0 138 0 [some (zr (some (0, 0, 0))), some (zi (I 9 0 0 (i + 1)))] [] (I, L, zpj P, zsj S, top) (fun r M' => Ev (d + 1) c s 249 913 [some (zr (some (9, 0, 0))), some (zr (some (0, 0, 0))), some (zr (some (1, 0, 0))), some (zi (nI i))] (zpush r []) M' Q)) : Ev (d + 1) c s 249 904 [some (zr (some (9, 0, 0))), some (zr (some (0, 0, 0))), some (zr (some (1, 0, 0))), some (zi (nI i))] [] (I, L, zpj P, zsj S, top) Q := by
  refine Ew.ld f249_904 rfl rfl rfl rfl ?_
  refine Ew.ld f249_905 rfl rfl rfl rfl ?_
  refine Ew.ld f249_906 rfl rfl rfl rfl ?_
  refine Ew.op (st' := zi (nI 1) :: _) f249_907 rfl rfl ?_
  refine Ew.addn f249_908 rfl ?_
  refine Ew.ialdn f249_909 (by show (S 9 0 0).1 = _; rw [sN]) (by show _ < (S 9 0 0).2; rw [sN]; exact b1) (by show (S 9 0 0).2 < 5000; rw [sN]; omega) rfl ?_
  refine Ew.call0 (ls0 := [some (zr (some (0, 0, 0))), some (zi (I 9 0 0 (i + 1)))]) f249_910 rfl (Nat.le_of_ble_eq_true rfl) rfl rfl (Nat.le_of_ble_eq_true rfl) rfl (Nat.le_of_ble_eq_true rfl) rfl rfl ?_
  exact h1
theorem g249_913 {d c s : Nat} {i N : Nat} {v : Int32} {I : zI} {L : zL} {P : zP} {S : zS} {top : Nat} {Q : Option zV → zM → Prop} (sN : S 9 0 0 = (20, N)) (hN : N ≤ 3072) 
    (b1 : i + 1 < N)
    (h1 : Ev d 0 0 241 0 [some (zr (some (1, 0, 0))), some (zi (I 9 0 0 (i + 1)))] [] (I, L, zpj P, zsj S, top) (fun r M' => Ev (d + 1) c s 249 922 [some (zr (some (9, 0, 0))), some (zr (some (0, 0, 0))), some (zr (some (1, 0, 0))), some (zi (nI i))] (zpush r [zi v]) M' Q)) : Ev (d + 1) c s 249 913 [some (zr (some (9, 0, 0))), some (zr (some (0, 0, 0))), some (zr (some (1, 0, 0))), some (zi (nI i))] [zi v] (I, L, zpj P, zsj S, top) Q := by
  refine Ew.ld f249_913 rfl rfl rfl rfl ?_
  refine Ew.ld f249_914 rfl rfl rfl rfl ?_
  refine Ew.ld f249_915 rfl rfl rfl rfl ?_
  refine Ew.op (st' := zi (nI 1) :: _) f249_916 rfl rfl ?_
  refine Ew.addn f249_917 rfl ?_
  refine Ew.ialdn f249_918 (by show (S 9 0 0).1 = _; rw [sN]) (by show _ < (S 9 0 0).2; rw [sN]; exact b1) (by show (S 9 0 0).2 < 5000; rw [sN]; omega) rfl ?_
  refine Ew.call0 (ls0 := [some (zr (some (1, 0, 0))), some (zi (I 9 0 0 (i + 1)))]) f249_919 rfl (Nat.le_of_ble_eq_true rfl) rfl rfl (Nat.le_of_ble_eq_true rfl) rfl (Nat.le_of_ble_eq_true rfl) rfl rfl ?_
  exact h1
theorem g249_922 {d c s : Nat} {i N : Nat} {v : Int32} {I : zI} {L : zL} {P : zP} {S : zS} {top : Nat} {Q : Option zV → zM → Prop} (sN : S 9 0 0 = (20, N)) (hN : N ≤ 3072) 
    (h1 : (v = v) → Ev d c s 249 1073 [some (zr (some (9, 0, 0))), some (zr (some (0, 0, 0))), some (zr (some (1, 0, 0))), some (zi (nI i))] [] (I, L, zpj P, zsj S, top) Q)
    (h2 : (¬ v = v) → Q (some (zi (nI 0))) (I, L, zpj P, zsj S, top)) : Ev d c s 249 922 [some (zr (some (9, 0, 0))), some (zr (some (0, 0, 0))), some (zr (some (1, 0, 0))), some (zi (nI i))] [zi v, zi v] (I, L, zpj P, zsj S, top) Q := by
  refine Ew.icmp f249_922 rfl rfl (fun c1 => ?_) (fun c1 => ?_)
  · exact h1 c1
  · refine Ew.op (st' := zi (nI 0) :: _) f249_925 rfl rfl ?_
    refine Ew.iretb f249_926 (Or.inl rfl) ?_
    exact h2 c1
theorem g249_927 {d c s : Nat} {i N : Nat} {I : zI} {L : zL} {P : zP} {S : zS} {top : Nat} {Q : Option zV → zM → Prop} (sN : S 9 0 0 = (20, N)) (hN : N ≤ 3072) 
    (b1 : i + 1 < N)
    (b2 : i + 2 < N)
    (b3 : i + 3 < N)
    (b4 : i + 4 < N)
    (b5 : i + 5 < N)
    (h1 : Ev d 0 0 139 0 [some (zr (some (0, 0, 0))), some (zi (I 9 0 0 (i + 1))), some (zi (I 9 0 0 (i + 2))), some (zi (I 9 0 0 (i + 3))), some (zl ((((I 9 0 0 (i + 4)).toInt64) <<< ((nI 32).toInt64 &&& 63)) ||| (((I 9 0 0 (i + 5)).toInt64) &&& ((4294967295))))), none, none] [] (I, L, zpj P, zsj S, top) (fun r M' => Ev (d + 1) c s 249 966 [some (zr (some (9, 0, 0))), some (zr (some (0, 0, 0))), some (zr (some (1, 0, 0))), some (zi (nI i))] (zpush r []) M' Q)) : Ev (d + 1) c s 249 927 [some (zr (some (9, 0, 0))), some (zr (some (0, 0, 0))), some (zr (some (1, 0, 0))), some (zi (nI i))] [] (I, L, zpj P, zsj S, top) Q := by
  refine Ew.ld f249_927 rfl rfl rfl rfl ?_
  refine Ew.ld f249_928 rfl rfl rfl rfl ?_
  refine Ew.ld f249_929 rfl rfl rfl rfl ?_
  refine Ew.op (st' := zi (nI 1) :: _) f249_930 rfl rfl ?_
  refine Ew.addn f249_931 rfl ?_
  refine Ew.ialdn f249_932 (by show (S 9 0 0).1 = _; rw [sN]) (by show _ < (S 9 0 0).2; rw [sN]; exact b1) (by show (S 9 0 0).2 < 5000; rw [sN]; omega) rfl ?_
  refine Ew.ld f249_933 rfl rfl rfl rfl ?_
  refine Ew.ld f249_934 rfl rfl rfl rfl ?_
  refine Ew.op (st' := zi (nI 2) :: _) f249_935 rfl rfl ?_
  refine Ew.addn f249_936 rfl ?_
  refine Ew.ialdn f249_937 (by show (S 9 0 0).1 = _; rw [sN]) (by show _ < (S 9 0 0).2; rw [sN]; exact b2) (by show (S 9 0 0).2 < 5000; rw [sN]; omega) rfl ?_
  refine Ew.ld f249_938 rfl rfl rfl rfl ?_
  refine Ew.ld f249_939 rfl rfl rfl rfl ?_
  refine Ew.op (st' := zi (nI 3) :: _) f249_940 rfl rfl ?_
  refine Ew.addn f249_941 rfl ?_
  refine Ew.ialdn f249_942 (by show (S 9 0 0).1 = _; rw [sN]) (by show _ < (S 9 0 0).2; rw [sN]; exact b3) (by show (S 9 0 0).2 < 5000; rw [sN]; omega) rfl ?_
  refine Ew.ld f249_943 rfl rfl rfl rfl ?_
  refine Ew.ld f249_944 rfl rfl rfl rfl ?_
  refine Ew.op (st' := zi (nI 4) :: _) f249_945 rfl rfl ?_
  refine Ew.addn f249_946 rfl ?_
  refine Ew.ialdn f249_947 (by show (S 9 0 0).1 = _; rw [sN]) (by show _ < (S 9 0 0).2; rw [sN]; exact b4) (by show (S 9 0 0).2 < 5000; rw [sN]; omega) rfl ?_
  refine Ew.op (st' := zl ((I 9 0 0 (i + 4)).toInt64) :: _) f249_948 rfl rfl ?_
  refine Ew.op (st' := zi (nI 32) :: _) f249_949 rfl rfl ?_
  refine Ew.op (st' := zl (((I 9 0 0 (i + 4)).toInt64) <<< ((nI 32).toInt64 &&& 63)) :: _) f249_951 rfl rfl ?_
  refine Ew.ld f249_952 rfl rfl rfl rfl ?_
  refine Ew.ld f249_953 rfl rfl rfl rfl ?_
  refine Ew.op (st' := zi (nI 5) :: _) f249_954 rfl rfl ?_
  refine Ew.addn f249_955 rfl ?_
  refine Ew.ialdn f249_956 (by show (S 9 0 0).1 = _; rw [sN]) (by show _ < (S 9 0 0).2; rw [sN]; exact b5) (by show (S 9 0 0).2 < 5000; rw [sN]; omega) rfl ?_
  refine Ew.op (st' := zl ((I 9 0 0 (i + 5)).toInt64) :: _) f249_957 rfl rfl ?_
  refine Ew.op (st' := zl ((4294967295)) :: _) f249_958 rfl rfl ?_
  refine Ew.op (st' := zl (((I 9 0 0 (i + 5)).toInt64) &&& ((4294967295))) :: _) f249_961 rfl rfl ?_
  refine Ew.op (st' := zl ((((I 9 0 0 (i + 4)).toInt64) <<< ((nI 32).toInt64 &&& 63)) ||| (((I 9 0 0 (i + 5)).toInt64) &&& ((4294967295)))) :: _) f249_962 rfl rfl ?_
  refine Ew.call0 (ls0 := [some (zr (some (0, 0, 0))), some (zi (I 9 0 0 (i + 1))), some (zi (I 9 0 0 (i + 2))), some (zi (I 9 0 0 (i + 3))), some (zl ((((I 9 0 0 (i + 4)).toInt64) <<< ((nI 32).toInt64 &&& 63)) ||| (((I 9 0 0 (i + 5)).toInt64) &&& ((4294967295))))), none, none]) f249_963 rfl (Nat.le_of_ble_eq_true rfl) rfl rfl (Nat.le_of_ble_eq_true rfl) rfl (Nat.le_of_ble_eq_true rfl) rfl rfl ?_
  exact h1
theorem g249_966 {d c s : Nat} {i N : Nat} {v : Int32} {I : zI} {L : zL} {P : zP} {S : zS} {top : Nat} {Q : Option zV → zM → Prop} (sN : S 9 0 0 = (20, N)) (hN : N ≤ 3072) 
    (b1 : i + 1 < N)
    (b2 : i + 2 < N)
    (b3 : i + 3 < N)
    (b4 : i + 4 < N)
    (b5 : i + 5 < N)
    (h1 : Ev d 0 0 242 0 [some (zr (some (1, 0, 0))), some (zi (I 9 0 0 (i + 1))), some (zi (I 9 0 0 (i + 2))), some (zi (I 9 0 0 (i + 3))), some (zl ((((I 9 0 0 (i + 4)).toInt64) <<< ((nI 32).toInt64 &&& 63)) ||| (((I 9 0 0 (i + 5)).toInt64) &&& ((4294967295))))), none, none] [] (I, L, zpj P, zsj S, top) (fun r M' => Ev (d + 1) c s 249 1005 [some (zr (some (9, 0, 0))), some (zr (some (0, 0, 0))), some (zr (some (1, 0, 0))), some (zi (nI i))] (zpush r [zi v]) M' Q)) : Ev (d + 1) c s 249 966 [some (zr (some (9, 0, 0))), some (zr (some (0, 0, 0))), some (zr (some (1, 0, 0))), some (zi (nI i))] [zi v] (I, L, zpj P, zsj S, top) Q := by
  refine Ew.ld f249_966 rfl rfl rfl rfl ?_
  refine Ew.ld f249_967 rfl rfl rfl rfl ?_
  refine Ew.ld f249_968 rfl rfl rfl rfl ?_
  refine Ew.op (st' := zi (nI 1) :: _) f249_969 rfl rfl ?_
  refine Ew.addn f249_970 rfl ?_
  refine Ew.ialdn f249_971 (by show (S 9 0 0).1 = _; rw [sN]) (by show _ < (S 9 0 0).2; rw [sN]; exact b1) (by show (S 9 0 0).2 < 5000; rw [sN]; omega) rfl ?_
  refine Ew.ld f249_972 rfl rfl rfl rfl ?_
  refine Ew.ld f249_973 rfl rfl rfl rfl ?_
  refine Ew.op (st' := zi (nI 2) :: _) f249_974 rfl rfl ?_
  refine Ew.addn f249_975 rfl ?_
  refine Ew.ialdn f249_976 (by show (S 9 0 0).1 = _; rw [sN]) (by show _ < (S 9 0 0).2; rw [sN]; exact b2) (by show (S 9 0 0).2 < 5000; rw [sN]; omega) rfl ?_
  refine Ew.ld f249_977 rfl rfl rfl rfl ?_
  refine Ew.ld f249_978 rfl rfl rfl rfl ?_
  refine Ew.op (st' := zi (nI 3) :: _) f249_979 rfl rfl ?_
  refine Ew.addn f249_980 rfl ?_
  refine Ew.ialdn f249_981 (by show (S 9 0 0).1 = _; rw [sN]) (by show _ < (S 9 0 0).2; rw [sN]; exact b3) (by show (S 9 0 0).2 < 5000; rw [sN]; omega) rfl ?_
  refine Ew.ld f249_982 rfl rfl rfl rfl ?_
  refine Ew.ld f249_983 rfl rfl rfl rfl ?_
  refine Ew.op (st' := zi (nI 4) :: _) f249_984 rfl rfl ?_
  refine Ew.addn f249_985 rfl ?_
  refine Ew.ialdn f249_986 (by show (S 9 0 0).1 = _; rw [sN]) (by show _ < (S 9 0 0).2; rw [sN]; exact b4) (by show (S 9 0 0).2 < 5000; rw [sN]; omega) rfl ?_
  refine Ew.op (st' := zl ((I 9 0 0 (i + 4)).toInt64) :: _) f249_987 rfl rfl ?_
  refine Ew.op (st' := zi (nI 32) :: _) f249_988 rfl rfl ?_
  refine Ew.op (st' := zl (((I 9 0 0 (i + 4)).toInt64) <<< ((nI 32).toInt64 &&& 63)) :: _) f249_990 rfl rfl ?_
  refine Ew.ld f249_991 rfl rfl rfl rfl ?_
  refine Ew.ld f249_992 rfl rfl rfl rfl ?_
  refine Ew.op (st' := zi (nI 5) :: _) f249_993 rfl rfl ?_
  refine Ew.addn f249_994 rfl ?_
  refine Ew.ialdn f249_995 (by show (S 9 0 0).1 = _; rw [sN]) (by show _ < (S 9 0 0).2; rw [sN]; exact b5) (by show (S 9 0 0).2 < 5000; rw [sN]; omega) rfl ?_
  refine Ew.op (st' := zl ((I 9 0 0 (i + 5)).toInt64) :: _) f249_996 rfl rfl ?_
  refine Ew.op (st' := zl ((4294967295)) :: _) f249_997 rfl rfl ?_
  refine Ew.op (st' := zl (((I 9 0 0 (i + 5)).toInt64) &&& ((4294967295))) :: _) f249_1000 rfl rfl ?_
  refine Ew.op (st' := zl ((((I 9 0 0 (i + 4)).toInt64) <<< ((nI 32).toInt64 &&& 63)) ||| (((I 9 0 0 (i + 5)).toInt64) &&& ((4294967295)))) :: _) f249_1001 rfl rfl ?_
  refine Ew.call0 (ls0 := [some (zr (some (1, 0, 0))), some (zi (I 9 0 0 (i + 1))), some (zi (I 9 0 0 (i + 2))), some (zi (I 9 0 0 (i + 3))), some (zl ((((I 9 0 0 (i + 4)).toInt64) <<< ((nI 32).toInt64 &&& 63)) ||| (((I 9 0 0 (i + 5)).toInt64) &&& ((4294967295))))), none, none]) f249_1002 rfl (Nat.le_of_ble_eq_true rfl) rfl rfl (Nat.le_of_ble_eq_true rfl) rfl (Nat.le_of_ble_eq_true rfl) rfl rfl ?_
  exact h1
theorem g249_1005 {d c s : Nat} {i N : Nat} {v : Int32} {I : zI} {L : zL} {P : zP} {S : zS} {top : Nat} {Q : Option zV → zM → Prop} (sN : S 9 0 0 = (20, N)) (hN : N ≤ 3072) 
    (h1 : (v = v) → Ev d c s 249 1073 [some (zr (some (9, 0, 0))), some (zr (some (0, 0, 0))), some (zr (some (1, 0, 0))), some (zi (nI i))] [] (I, L, zpj P, zsj S, top) Q)
    (h2 : (¬ v = v) → Q (some (zi (nI 0))) (I, L, zpj P, zsj S, top)) : Ev d c s 249 1005 [some (zr (some (9, 0, 0))), some (zr (some (0, 0, 0))), some (zr (some (1, 0, 0))), some (zi (nI i))] [zi v, zi v] (I, L, zpj P, zsj S, top) Q := by
  refine Ew.icmp f249_1005 rfl rfl (fun c1 => ?_) (fun c1 => ?_)
  · exact h1 c1
  · refine Ew.op (st' := zi (nI 0) :: _) f249_1008 rfl rfl ?_
    refine Ew.iretb f249_1009 (Or.inl rfl) ?_
    exact h2 c1
theorem g249_1010 {d c s : Nat} {i N : Nat} {I : zI} {L : zL} {P : zP} {S : zS} {top : Nat} {Q : Option zV → zM → Prop} (sN : S 9 0 0 = (20, N)) (hN : N ≤ 3072) 
    (b1 : i + 1 < N)
    (b2 : i + 2 < N)
    (b3 : i + 3 < N)
    (b4 : i + 4 < N)
    (b5 : i + 5 < N)
    (h1 : Ev d 0 0 140 0 [some (zr (some (0, 0, 0))), some (zi (I 9 0 0 (i + 1))), some (zi (I 9 0 0 (i + 2))), some (zi (I 9 0 0 (i + 3))), some (zi (I 9 0 0 (i + 4))), some (zi (I 9 0 0 (i + 5))), none, none] [] (I, L, zpj P, zsj S, top) (fun r M' => Ev (d + 1) c s 249 1039 [some (zr (some (9, 0, 0))), some (zr (some (0, 0, 0))), some (zr (some (1, 0, 0))), some (zi (nI i))] (zpush r []) M' Q)) : Ev (d + 1) c s 249 1010 [some (zr (some (9, 0, 0))), some (zr (some (0, 0, 0))), some (zr (some (1, 0, 0))), some (zi (nI i))] [] (I, L, zpj P, zsj S, top) Q := by
  refine Ew.ld f249_1010 rfl rfl rfl rfl ?_
  refine Ew.ld f249_1011 rfl rfl rfl rfl ?_
  refine Ew.ld f249_1012 rfl rfl rfl rfl ?_
  refine Ew.op (st' := zi (nI 1) :: _) f249_1013 rfl rfl ?_
  refine Ew.addn f249_1014 rfl ?_
  refine Ew.ialdn f249_1015 (by show (S 9 0 0).1 = _; rw [sN]) (by show _ < (S 9 0 0).2; rw [sN]; exact b1) (by show (S 9 0 0).2 < 5000; rw [sN]; omega) rfl ?_
  refine Ew.ld f249_1016 rfl rfl rfl rfl ?_
  refine Ew.ld f249_1017 rfl rfl rfl rfl ?_
  refine Ew.op (st' := zi (nI 2) :: _) f249_1018 rfl rfl ?_
  refine Ew.addn f249_1019 rfl ?_
  refine Ew.ialdn f249_1020 (by show (S 9 0 0).1 = _; rw [sN]) (by show _ < (S 9 0 0).2; rw [sN]; exact b2) (by show (S 9 0 0).2 < 5000; rw [sN]; omega) rfl ?_
  refine Ew.ld f249_1021 rfl rfl rfl rfl ?_
  refine Ew.ld f249_1022 rfl rfl rfl rfl ?_
  refine Ew.op (st' := zi (nI 3) :: _) f249_1023 rfl rfl ?_
  refine Ew.addn f249_1024 rfl ?_
  refine Ew.ialdn f249_1025 (by show (S 9 0 0).1 = _; rw [sN]) (by show _ < (S 9 0 0).2; rw [sN]; exact b3) (by show (S 9 0 0).2 < 5000; rw [sN]; omega) rfl ?_
  refine Ew.ld f249_1026 rfl rfl rfl rfl ?_
  refine Ew.ld f249_1027 rfl rfl rfl rfl ?_
  refine Ew.op (st' := zi (nI 4) :: _) f249_1028 rfl rfl ?_
  refine Ew.addn f249_1029 rfl ?_
  refine Ew.ialdn f249_1030 (by show (S 9 0 0).1 = _; rw [sN]) (by show _ < (S 9 0 0).2; rw [sN]; exact b4) (by show (S 9 0 0).2 < 5000; rw [sN]; omega) rfl ?_
  refine Ew.ld f249_1031 rfl rfl rfl rfl ?_
  refine Ew.ld f249_1032 rfl rfl rfl rfl ?_
  refine Ew.op (st' := zi (nI 5) :: _) f249_1033 rfl rfl ?_
  refine Ew.addn f249_1034 rfl ?_
  refine Ew.ialdn f249_1035 (by show (S 9 0 0).1 = _; rw [sN]) (by show _ < (S 9 0 0).2; rw [sN]; exact b5) (by show (S 9 0 0).2 < 5000; rw [sN]; omega) rfl ?_
  refine Ew.call0 (ls0 := [some (zr (some (0, 0, 0))), some (zi (I 9 0 0 (i + 1))), some (zi (I 9 0 0 (i + 2))), some (zi (I 9 0 0 (i + 3))), some (zi (I 9 0 0 (i + 4))), some (zi (I 9 0 0 (i + 5))), none, none]) f249_1036 rfl (Nat.le_of_ble_eq_true rfl) rfl rfl (Nat.le_of_ble_eq_true rfl) rfl (Nat.le_of_ble_eq_true rfl) rfl rfl ?_
  exact h1
theorem g249_1039 {d c s : Nat} {i N : Nat} {v : Int32} {I : zI} {L : zL} {P : zP} {S : zS} {top : Nat} {Q : Option zV → zM → Prop} (sN : S 9 0 0 = (20, N)) (hN : N ≤ 3072) 
    (b1 : i + 1 < N)
    (b2 : i + 2 < N)
    (b3 : i + 3 < N)
    (b4 : i + 4 < N)
    (b5 : i + 5 < N)
    (h1 : Ev d 0 0 243 0 [some (zr (some (1, 0, 0))), some (zi (I 9 0 0 (i + 1))), some (zi (I 9 0 0 (i + 2))), some (zi (I 9 0 0 (i + 3))), some (zi (I 9 0 0 (i + 4))), some (zi (I 9 0 0 (i + 5))), none] [] (I, L, zpj P, zsj S, top) (fun r M' => Ev (d + 1) c s 249 1068 [some (zr (some (9, 0, 0))), some (zr (some (0, 0, 0))), some (zr (some (1, 0, 0))), some (zi (nI i))] (zpush r [zi v]) M' Q)) : Ev (d + 1) c s 249 1039 [some (zr (some (9, 0, 0))), some (zr (some (0, 0, 0))), some (zr (some (1, 0, 0))), some (zi (nI i))] [zi v] (I, L, zpj P, zsj S, top) Q := by
  refine Ew.ld f249_1039 rfl rfl rfl rfl ?_
  refine Ew.ld f249_1040 rfl rfl rfl rfl ?_
  refine Ew.ld f249_1041 rfl rfl rfl rfl ?_
  refine Ew.op (st' := zi (nI 1) :: _) f249_1042 rfl rfl ?_
  refine Ew.addn f249_1043 rfl ?_
  refine Ew.ialdn f249_1044 (by show (S 9 0 0).1 = _; rw [sN]) (by show _ < (S 9 0 0).2; rw [sN]; exact b1) (by show (S 9 0 0).2 < 5000; rw [sN]; omega) rfl ?_
  refine Ew.ld f249_1045 rfl rfl rfl rfl ?_
  refine Ew.ld f249_1046 rfl rfl rfl rfl ?_
  refine Ew.op (st' := zi (nI 2) :: _) f249_1047 rfl rfl ?_
  refine Ew.addn f249_1048 rfl ?_
  refine Ew.ialdn f249_1049 (by show (S 9 0 0).1 = _; rw [sN]) (by show _ < (S 9 0 0).2; rw [sN]; exact b2) (by show (S 9 0 0).2 < 5000; rw [sN]; omega) rfl ?_
  refine Ew.ld f249_1050 rfl rfl rfl rfl ?_
  refine Ew.ld f249_1051 rfl rfl rfl rfl ?_
  refine Ew.op (st' := zi (nI 3) :: _) f249_1052 rfl rfl ?_
  refine Ew.addn f249_1053 rfl ?_
  refine Ew.ialdn f249_1054 (by show (S 9 0 0).1 = _; rw [sN]) (by show _ < (S 9 0 0).2; rw [sN]; exact b3) (by show (S 9 0 0).2 < 5000; rw [sN]; omega) rfl ?_
  refine Ew.ld f249_1055 rfl rfl rfl rfl ?_
  refine Ew.ld f249_1056 rfl rfl rfl rfl ?_
  refine Ew.op (st' := zi (nI 4) :: _) f249_1057 rfl rfl ?_
  refine Ew.addn f249_1058 rfl ?_
  refine Ew.ialdn f249_1059 (by show (S 9 0 0).1 = _; rw [sN]) (by show _ < (S 9 0 0).2; rw [sN]; exact b4) (by show (S 9 0 0).2 < 5000; rw [sN]; omega) rfl ?_
  refine Ew.ld f249_1060 rfl rfl rfl rfl ?_
  refine Ew.ld f249_1061 rfl rfl rfl rfl ?_
  refine Ew.op (st' := zi (nI 5) :: _) f249_1062 rfl rfl ?_
  refine Ew.addn f249_1063 rfl ?_
  refine Ew.ialdn f249_1064 (by show (S 9 0 0).1 = _; rw [sN]) (by show _ < (S 9 0 0).2; rw [sN]; exact b5) (by show (S 9 0 0).2 < 5000; rw [sN]; omega) rfl ?_
  refine Ew.call0 (ls0 := [some (zr (some (1, 0, 0))), some (zi (I 9 0 0 (i + 1))), some (zi (I 9 0 0 (i + 2))), some (zi (I 9 0 0 (i + 3))), some (zi (I 9 0 0 (i + 4))), some (zi (I 9 0 0 (i + 5))), none]) f249_1065 rfl (Nat.le_of_ble_eq_true rfl) rfl rfl (Nat.le_of_ble_eq_true rfl) rfl (Nat.le_of_ble_eq_true rfl) rfl rfl ?_
  exact h1
theorem g249_1068 {d c s : Nat} {i N : Nat} {v : Int32} {I : zI} {L : zL} {P : zP} {S : zS} {top : Nat} {Q : Option zV → zM → Prop} (sN : S 9 0 0 = (20, N)) (hN : N ≤ 3072) 
    (h1 : (v = v) → Ev d c s 249 1073 [some (zr (some (9, 0, 0))), some (zr (some (0, 0, 0))), some (zr (some (1, 0, 0))), some (zi (nI i))] [] (I, L, zpj P, zsj S, top) Q)
    (h2 : (¬ v = v) → Q (some (zi (nI 0))) (I, L, zpj P, zsj S, top)) : Ev d c s 249 1068 [some (zr (some (9, 0, 0))), some (zr (some (0, 0, 0))), some (zr (some (1, 0, 0))), some (zi (nI i))] [zi v, zi v] (I, L, zpj P, zsj S, top) Q := by
  refine Ew.icmp f249_1068 rfl rfl (fun c1 => ?_) (fun c1 => ?_)
  · exact h1 c1
  · refine Ew.op (st' := zi (nI 0) :: _) f249_1071 rfl rfl ?_
    refine Ew.iretb f249_1072 (Or.inl rfl) ?_
    exact h2 c1
