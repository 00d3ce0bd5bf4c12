/-! the class: tables, victims, rings, what they tell -/
theorem g244_0 {d c s : Nat} {x : Int32} {I : zI} {L : zL} {P : zP} {S : zS} {top : Nat} {Q : Option zV → zM → Prop}
    (h1 : Q (some (zi ((((((((x - (((x.toUInt32 >>> ((nI 1).toUInt32 &&& Int32.toUInt32 31)).toInt32) &&& (nI 1431655765))) &&& (nI 858993459)) + ((((x - (((x.toUInt32 >>> ((nI 1).toUInt32 &&& Int32.toUInt32 31)).toInt32) &&& (nI 1431655765))).toUInt32 >>> ((nI 2).toUInt32 &&& Int32.toUInt32 31)).toInt32) &&& (nI 858993459))) + (((((x - (((x.toUInt32 >>> ((nI 1).toUInt32 &&& Int32.toUInt32 31)).toInt32) &&& (nI 1431655765))) &&& (nI 858993459)) + ((((x - (((x.toUInt32 >>> ((nI 1).toUInt32 &&& Int32.toUInt32 31)).toInt32) &&& (nI 1431655765))).toUInt32 >>> ((nI 2).toUInt32 &&& Int32.toUInt32 31)).toInt32) &&& (nI 858993459))).toUInt32 >>> ((nI 4).toUInt32 &&& Int32.toUInt32 31)).toInt32)) &&& (nI 252645135)) + (((((((x - (((x.toUInt32 >>> ((nI 1).toUInt32 &&& Int32.toUInt32 31)).toInt32) &&& (nI 1431655765))) &&& (nI 858993459)) + ((((x - (((x.toUInt32 >>> ((nI 1).toUInt32 &&& Int32.toUInt32 31)).toInt32) &&& (nI 1431655765))).toUInt32 >>> ((nI 2).toUInt32 &&& Int32.toUInt32 31)).toInt32) &&& (nI 858993459))) + (((((x - (((x.toUInt32 >>> ((nI 1).toUInt32 &&& Int32.toUInt32 31)).toInt32) &&& (nI 1431655765))) &&& (nI 858993459)) + ((((x - (((x.toUInt32 >>> ((nI 1).toUInt32 &&& Int32.toUInt32 31)).toInt32) &&& (nI 1431655765))).toUInt32 >>> ((nI 2).toUInt32 &&& Int32.toUInt32 31)).toInt32) &&& (nI 858993459))).toUInt32 >>> ((nI 4).toUInt32 &&& Int32.toUInt32 31)).toInt32)) &&& (nI 252645135)).toUInt32 >>> ((nI 8).toUInt32 &&& Int32.toUInt32 31)).toInt32)) + ((((((((x - (((x.toUInt32 >>> ((nI 1).toUInt32 &&& Int32.toUInt32 31)).toInt32) &&& (nI 1431655765))) &&& (nI 858993459)) + ((((x - (((x.toUInt32 >>> ((nI 1).toUInt32 &&& Int32.toUInt32 31)).toInt32) &&& (nI 1431655765))).toUInt32 >>> ((nI 2).toUInt32 &&& Int32.toUInt32 31)).toInt32) &&& (nI 858993459))) + (((((x - (((x.toUInt32 >>> ((nI 1).toUInt32 &&& Int32.toUInt32 31)).toInt32) &&& (nI 1431655765))) &&& (nI 858993459)) + ((((x - (((x.toUInt32 >>> ((nI 1).toUInt32 &&& Int32.toUInt32 31)).toInt32) &&& (nI 1431655765))).toUInt32 >>> ((nI 2).toUInt32 &&& Int32.toUInt32 31)).toInt32) &&& (nI 858993459))).toUInt32 >>> ((nI 4).toUInt32 &&& Int32.toUInt32 31)).toInt32)) &&& (nI 252645135)) + (((((((x - (((x.toUInt32 >>> ((nI 1).toUInt32 &&& Int32.toUInt32 31)).toInt32) &&& (nI 1431655765))) &&& (nI 858993459)) + ((((x - (((x.toUInt32 >>> ((nI 1).toUInt32 &&& Int32.toUInt32 31)).toInt32) &&& (nI 1431655765))).toUInt32 >>> ((nI 2).toUInt32 &&& Int32.toUInt32 31)).toInt32) &&& (nI 858993459))) + (((((x - (((x.toUInt32 >>> ((nI 1).toUInt32 &&& Int32.toUInt32 31)).toInt32) &&& (nI 1431655765))) &&& (nI 858993459)) + ((((x - (((x.toUInt32 >>> ((nI 1).toUInt32 &&& Int32.toUInt32 31)).toInt32) &&& (nI 1431655765))).toUInt32 >>> ((nI 2).toUInt32 &&& Int32.toUInt32 31)).toInt32) &&& (nI 858993459))).toUInt32 >>> ((nI 4).toUInt32 &&& Int32.toUInt32 31)).toInt32)) &&& (nI 252645135)).toUInt32 >>> ((nI 8).toUInt32 &&& Int32.toUInt32 31)).toInt32)).toUInt32 >>> ((nI 16).toUInt32 &&& Int32.toUInt32 31)).toInt32)) &&& (nI 63)))) (I, L, zpj P, zsj S, top)) : Ev d c s 244 0 [some (zi x)] [] (I, L, zpj P, zsj S, top) Q := by
  refine Ew.ld f244_0 rfl rfl rfl rfl ?_
  refine Ew.ld f244_1 rfl rfl rfl rfl ?_
  refine Ew.op (st' := zi (nI 1) :: _) f244_2 rfl rfl ?_
  refine Ew.op (st' := zi ((x.toUInt32 >>> ((nI 1).toUInt32 &&& Int32.toUInt32 31)).toInt32) :: _) f244_3 rfl rfl ?_
  refine Ew.op (st' := zi (nI 1431655765) :: _) f244_4 rfl rfl ?_
  refine Ew.op (st' := zi (((x.toUInt32 >>> ((nI 1).toUInt32 &&& Int32.toUInt32 31)).toInt32) &&& (nI 1431655765)) :: _) f244_7 rfl rfl ?_
  refine Ew.op (st' := zi (x - (((x.toUInt32 >>> ((nI 1).toUInt32 &&& Int32.toUInt32 31)).toInt32) &&& (nI 1431655765))) :: _) f244_8 rfl rfl ?_
  refine Ew.sr (ls' := [some (zi (x - (((x.toUInt32 >>> ((nI 1).toUInt32 &&& Int32.toUInt32 31)).toInt32) &&& (nI 1431655765))))]) f244_9 rfl rfl (Nat.le_of_ble_eq_true rfl) rfl rfl ?_
  refine Ew.ld f244_10 rfl rfl rfl rfl ?_
  refine Ew.op (st' := zi (nI 858993459) :: _) f244_11 rfl rfl ?_
  refine Ew.op (st' := zi ((x - (((x.toUInt32 >>> ((nI 1).toUInt32 &&& Int32.toUInt32 31)).toInt32) &&& (nI 1431655765))) &&& (nI 858993459)) :: _) f244_14 rfl rfl ?_
  refine Ew.ld f244_15 rfl rfl rfl rfl ?_
  refine Ew.op (st' := zi (nI 2) :: _) f244_16 rfl rfl ?_
  refine Ew.op (st' := zi (((x - (((x.toUInt32 >>> ((nI 1).toUInt32 &&& Int32.toUInt32 31)).toInt32) &&& (nI 1431655765))).toUInt32 >>> ((nI 2).toUInt32 &&& Int32.toUInt32 31)).toInt32) :: _) f244_17 rfl rfl ?_
  refine Ew.op (st' := zi (nI 858993459) :: _) f244_18 rfl rfl ?_
  refine Ew.op (st' := zi ((((x - (((x.toUInt32 >>> ((nI 1).toUInt32 &&& Int32.toUInt32 31)).toInt32) &&& (nI 1431655765))).toUInt32 >>> ((nI 2).toUInt32 &&& Int32.toUInt32 31)).toInt32) &&& (nI 858993459)) :: _) f244_21 rfl rfl ?_
  refine Ew.op (st' := zi (((x - (((x.toUInt32 >>> ((nI 1).toUInt32 &&& Int32.toUInt32 31)).toInt32) &&& (nI 1431655765))) &&& (nI 858993459)) + ((((x - (((x.toUInt32 >>> ((nI 1).toUInt32 &&& Int32.toUInt32 31)).toInt32) &&& (nI 1431655765))).toUInt32 >>> ((nI 2).toUInt32 &&& Int32.toUInt32 31)).toInt32) &&& (nI 858993459))) :: _) f244_22 rfl rfl ?_
  refine Ew.sr (ls' := [some (zi (((x - (((x.toUInt32 >>> ((nI 1).toUInt32 &&& Int32.toUInt32 31)).toInt32) &&& (nI 1431655765))) &&& (nI 858993459)) + ((((x - (((x.toUInt32 >>> ((nI 1).toUInt32 &&& Int32.toUInt32 31)).toInt32) &&& (nI 1431655765))).toUInt32 >>> ((nI 2).toUInt32 &&& Int32.toUInt32 31)).toInt32) &&& (nI 858993459))))]) f244_23 rfl rfl (Nat.le_of_ble_eq_true rfl) rfl rfl ?_
  refine Ew.ld f244_24 rfl rfl rfl rfl ?_
  refine Ew.ld f244_25 rfl rfl rfl rfl ?_
  refine Ew.op (st' := zi (nI 4) :: _) f244_26 rfl rfl ?_
  refine Ew.op (st' := zi (((((x - (((x.toUInt32 >>> ((nI 1).toUInt32 &&& Int32.toUInt32 31)).toInt32) &&& (nI 1431655765))) &&& (nI 858993459)) + ((((x - (((x.toUInt32 >>> ((nI 1).toUInt32 &&& Int32.toUInt32 31)).toInt32) &&& (nI 1431655765))).toUInt32 >>> ((nI 2).toUInt32 &&& Int32.toUInt32 31)).toInt32) &&& (nI 858993459))).toUInt32 >>> ((nI 4).toUInt32 &&& Int32.toUInt32 31)).toInt32) :: _) f244_27 rfl rfl ?_
  refine Ew.op (st' := zi ((((x - (((x.toUInt32 >>> ((nI 1).toUInt32 &&& Int32.toUInt32 31)).toInt32) &&& (nI 1431655765))) &&& (nI 858993459)) + ((((x - (((x.toUInt32 >>> ((nI 1).toUInt32 &&& Int32.toUInt32 31)).toInt32) &&& (nI 1431655765))).toUInt32 >>> ((nI 2).toUInt32 &&& Int32.toUInt32 31)).toInt32) &&& (nI 858993459))) + (((((x - (((x.toUInt32 >>> ((nI 1).toUInt32 &&& Int32.toUInt32 31)).toInt32) &&& (nI 1431655765))) &&& (nI 858993459)) + ((((x - (((x.toUInt32 >>> ((nI 1).toUInt32 &&& Int32.toUInt32 31)).toInt32) &&& (nI 1431655765))).toUInt32 >>> ((nI 2).toUInt32 &&& Int32.toUInt32 31)).toInt32) &&& (nI 858993459))).toUInt32 >>> ((nI 4).toUInt32 &&& Int32.toUInt32 31)).toInt32)) :: _) f244_28 rfl rfl ?_
  refine Ew.op (st' := zi (nI 252645135) :: _) f244_29 rfl rfl ?_
  refine Ew.op (st' := zi (((((x - (((x.toUInt32 >>> ((nI 1).toUInt32 &&& Int32.toUInt32 31)).toInt32) &&& (nI 1431655765))) &&& (nI 858993459)) + ((((x - (((x.toUInt32 >>> ((nI 1).toUInt32 &&& Int32.toUInt32 31)).toInt32) &&& (nI 1431655765))).toUInt32 >>> ((nI 2).toUInt32 &&& Int32.toUInt32 31)).toInt32) &&& (nI 858993459))) + (((((x - (((x.toUInt32 >>> ((nI 1).toUInt32 &&& Int32.toUInt32 31)).toInt32) &&& (nI 1431655765))) &&& (nI 858993459)) + ((((x - (((x.toUInt32 >>> ((nI 1).toUInt32 &&& Int32.toUInt32 31)).toInt32) &&& (nI 1431655765))).toUInt32 >>> ((nI 2).toUInt32 &&& Int32.toUInt32 31)).toInt32) &&& (nI 858993459))).toUInt32 >>> ((nI 4).toUInt32 &&& Int32.toUInt32 31)).toInt32)) &&& (nI 252645135)) :: _) f244_32 rfl rfl ?_
  refine Ew.sr (ls' := [some (zi (((((x - (((x.toUInt32 >>> ((nI 1).toUInt32 &&& Int32.toUInt32 31)).toInt32) &&& (nI 1431655765))) &&& (nI 858993459)) + ((((x - (((x.toUInt32 >>> ((nI 1).toUInt32 &&& Int32.toUInt32 31)).toInt32) &&& (nI 1431655765))).toUInt32 >>> ((nI 2).toUInt32 &&& Int32.toUInt32 31)).toInt32) &&& (nI 858993459))) + (((((x - (((x.toUInt32 >>> ((nI 1).toUInt32 &&& Int32.toUInt32 31)).toInt32) &&& (nI 1431655765))) &&& (nI 858993459)) + ((((x - (((x.toUInt32 >>> ((nI 1).toUInt32 &&& Int32.toUInt32 31)).toInt32) &&& (nI 1431655765))).toUInt32 >>> ((nI 2).toUInt32 &&& Int32.toUInt32 31)).toInt32) &&& (nI 858993459))).toUInt32 >>> ((nI 4).toUInt32 &&& Int32.toUInt32 31)).toInt32)) &&& (nI 252645135)))]) f244_33 rfl rfl (Nat.le_of_ble_eq_true rfl) rfl rfl ?_
  refine Ew.ld f244_34 rfl rfl rfl rfl ?_
  refine Ew.ld f244_35 rfl rfl rfl rfl ?_
  refine Ew.op (st' := zi (nI 8) :: _) f244_36 rfl rfl ?_
  refine Ew.op (st' := zi (((((((x - (((x.toUInt32 >>> ((nI 1).toUInt32 &&& Int32.toUInt32 31)).toInt32) &&& (nI 1431655765))) &&& (nI 858993459)) + ((((x - (((x.toUInt32 >>> ((nI 1).toUInt32 &&& Int32.toUInt32 31)).toInt32) &&& (nI 1431655765))).toUInt32 >>> ((nI 2).toUInt32 &&& Int32.toUInt32 31)).toInt32) &&& (nI 858993459))) + (((((x - (((x.toUInt32 >>> ((nI 1).toUInt32 &&& Int32.toUInt32 31)).toInt32) &&& (nI 1431655765))) &&& (nI 858993459)) + ((((x - (((x.toUInt32 >>> ((nI 1).toUInt32 &&& Int32.toUInt32 31)).toInt32) &&& (nI 1431655765))).toUInt32 >>> ((nI 2).toUInt32 &&& Int32.toUInt32 31)).toInt32) &&& (nI 858993459))).toUInt32 >>> ((nI 4).toUInt32 &&& Int32.toUInt32 31)).toInt32)) &&& (nI 252645135)).toUInt32 >>> ((nI 8).toUInt32 &&& Int32.toUInt32 31)).toInt32) :: _) f244_38 rfl rfl ?_
  refine Ew.op (st' := zi ((((((x - (((x.toUInt32 >>> ((nI 1).toUInt32 &&& Int32.toUInt32 31)).toInt32) &&& (nI 1431655765))) &&& (nI 858993459)) + ((((x - (((x.toUInt32 >>> ((nI 1).toUInt32 &&& Int32.toUInt32 31)).toInt32) &&& (nI 1431655765))).toUInt32 >>> ((nI 2).toUInt32 &&& Int32.toUInt32 31)).toInt32) &&& (nI 858993459))) + (((((x - (((x.toUInt32 >>> ((nI 1).toUInt32 &&& Int32.toUInt32 31)).toInt32) &&& (nI 1431655765))) &&& (nI 858993459)) + ((((x - (((x.toUInt32 >>> ((nI 1).toUInt32 &&& Int32.toUInt32 31)).toInt32) &&& (nI 1431655765))).toUInt32 >>> ((nI 2).toUInt32 &&& Int32.toUInt32 31)).toInt32) &&& (nI 858993459))).toUInt32 >>> ((nI 4).toUInt32 &&& Int32.toUInt32 31)).toInt32)) &&& (nI 252645135)) + (((((((x - (((x.toUInt32 >>> ((nI 1).toUInt32 &&& Int32.toUInt32 31)).toInt32) &&& (nI 1431655765))) &&& (nI 858993459)) + ((((x - (((x.toUInt32 >>> ((nI 1).toUInt32 &&& Int32.toUInt32 31)).toInt32) &&& (nI 1431655765))).toUInt32 >>> ((nI 2).toUInt32 &&& Int32.toUInt32 31)).toInt32) &&& (nI 858993459))) + (((((x - (((x.toUInt32 >>> ((nI 1).toUInt32 &&& Int32.toUInt32 31)).toInt32) &&& (nI 1431655765))) &&& (nI 858993459)) + ((((x - (((x.toUInt32 >>> ((nI 1).toUInt32 &&& Int32.toUInt32 31)).toInt32) &&& (nI 1431655765))).toUInt32 >>> ((nI 2).toUInt32 &&& Int32.toUInt32 31)).toInt32) &&& (nI 858993459))).toUInt32 >>> ((nI 4).toUInt32 &&& Int32.toUInt32 31)).toInt32)) &&& (nI 252645135)).toUInt32 >>> ((nI 8).toUInt32 &&& Int32.toUInt32 31)).toInt32)) :: _) f244_39 rfl rfl ?_
  refine Ew.sr (ls' := [some (zi ((((((x - (((x.toUInt32 >>> ((nI 1).toUInt32 &&& Int32.toUInt32 31)).toInt32) &&& (nI 1431655765))) &&& (nI 858993459)) + ((((x - (((x.toUInt32 >>> ((nI 1).toUInt32 &&& Int32.toUInt32 31)).toInt32) &&& (nI 1431655765))).toUInt32 >>> ((nI 2).toUInt32 &&& Int32.toUInt32 31)).toInt32) &&& (nI 858993459))) + (((((x - (((x.toUInt32 >>> ((nI 1).toUInt32 &&& Int32.toUInt32 31)).toInt32) &&& (nI 1431655765))) &&& (nI 858993459)) + ((((x - (((x.toUInt32 >>> ((nI 1).toUInt32 &&& Int32.toUInt32 31)).toInt32) &&& (nI 1431655765))).toUInt32 >>> ((nI 2).toUInt32 &&& Int32.toUInt32 31)).toInt32) &&& (nI 858993459))).toUInt32 >>> ((nI 4).toUInt32 &&& Int32.toUInt32 31)).toInt32)) &&& (nI 252645135)) + (((((((x - (((x.toUInt32 >>> ((nI 1).toUInt32 &&& Int32.toUInt32 31)).toInt32) &&& (nI 1431655765))) &&& (nI 858993459)) + ((((x - (((x.toUInt32 >>> ((nI 1).toUInt32 &&& Int32.toUInt32 31)).toInt32) &&& (nI 1431655765))).toUInt32 >>> ((nI 2).toUInt32 &&& Int32.toUInt32 31)).toInt32) &&& (nI 858993459))) + (((((x - (((x.toUInt32 >>> ((nI 1).toUInt32 &&& Int32.toUInt32 31)).toInt32) &&& (nI 1431655765))) &&& (nI 858993459)) + ((((x - (((x.toUInt32 >>> ((nI 1).toUInt32 &&& Int32.toUInt32 31)).toInt32) &&& (nI 1431655765))).toUInt32 >>> ((nI 2).toUInt32 &&& Int32.toUInt32 31)).toInt32) &&& (nI 858993459))).toUInt32 >>> ((nI 4).toUInt32 &&& Int32.toUInt32 31)).toInt32)) &&& (nI 252645135)).toUInt32 >>> ((nI 8).toUInt32 &&& Int32.toUInt32 31)).toInt32)))]) f244_40 rfl rfl (Nat.le_of_ble_eq_true rfl) rfl rfl ?_
  refine Ew.ld f244_41 rfl rfl rfl rfl ?_
  refine Ew.ld f244_42 rfl rfl rfl rfl ?_
  refine Ew.op (st' := zi (nI 16) :: _) f244_43 rfl rfl ?_
  refine Ew.op (st' := zi ((((((((x - (((x.toUInt32 >>> ((nI 1).toUInt32 &&& Int32.toUInt32 31)).toInt32) &&& (nI 1431655765))) &&& (nI 858993459)) + ((((x - (((x.toUInt32 >>> ((nI 1).toUInt32 &&& Int32.toUInt32 31)).toInt32) &&& (nI 1431655765))).toUInt32 >>> ((nI 2).toUInt32 &&& Int32.toUInt32 31)).toInt32) &&& (nI 858993459))) + (((((x - (((x.toUInt32 >>> ((nI 1).toUInt32 &&& Int32.toUInt32 31)).toInt32) &&& (nI 1431655765))) &&& (nI 858993459)) + ((((x - (((x.toUInt32 >>> ((nI 1).toUInt32 &&& Int32.toUInt32 31)).toInt32) &&& (nI 1431655765))).toUInt32 >>> ((nI 2).toUInt32 &&& Int32.toUInt32 31)).toInt32) &&& (nI 858993459))).toUInt32 >>> ((nI 4).toUInt32 &&& Int32.toUInt32 31)).toInt32)) &&& (nI 252645135)) + (((((((x - (((x.toUInt32 >>> ((nI 1).toUInt32 &&& Int32.toUInt32 31)).toInt32) &&& (nI 1431655765))) &&& (nI 858993459)) + ((((x - (((x.toUInt32 >>> ((nI 1).toUInt32 &&& Int32.toUInt32 31)).toInt32) &&& (nI 1431655765))).toUInt32 >>> ((nI 2).toUInt32 &&& Int32.toUInt32 31)).toInt32) &&& (nI 858993459))) + (((((x - (((x.toUInt32 >>> ((nI 1).toUInt32 &&& Int32.toUInt32 31)).toInt32) &&& (nI 1431655765))) &&& (nI 858993459)) + ((((x - (((x.toUInt32 >>> ((nI 1).toUInt32 &&& Int32.toUInt32 31)).toInt32) &&& (nI 1431655765))).toUInt32 >>> ((nI 2).toUInt32 &&& Int32.toUInt32 31)).toInt32) &&& (nI 858993459))).toUInt32 >>> ((nI 4).toUInt32 &&& Int32.toUInt32 31)).toInt32)) &&& (nI 252645135)).toUInt32 >>> ((nI 8).toUInt32 &&& Int32.toUInt32 31)).toInt32)).toUInt32 >>> ((nI 16).toUInt32 &&& Int32.toUInt32 31)).toInt32) :: _) f244_45 rfl rfl ?_
  refine Ew.op (st' := zi (((((((x - (((x.toUInt32 >>> ((nI 1).toUInt32 &&& Int32.toUInt32 31)).toInt32) &&& (nI 1431655765))) &&& (nI 858993459)) + ((((x - (((x.toUInt32 >>> ((nI 1).toUInt32 &&& Int32.toUInt32 31)).toInt32) &&& (nI 1431655765))).toUInt32 >>> ((nI 2).toUInt32 &&& Int32.toUInt32 31)).toInt32) &&& (nI 858993459))) + (((((x - (((x.toUInt32 >>> ((nI 1).toUInt32 &&& Int32.toUInt32 31)).toInt32) &&& (nI 1431655765))) &&& (nI 858993459)) + ((((x - (((x.toUInt32 >>> ((nI 1).toUInt32 &&& Int32.toUInt32 31)).toInt32) &&& (nI 1431655765))).toUInt32 >>> ((nI 2).toUInt32 &&& Int32.toUInt32 31)).toInt32) &&& (nI 858993459))).toUInt32 >>> ((nI 4).toUInt32 &&& Int32.toUInt32 31)).toInt32)) &&& (nI 252645135)) + (((((((x - (((x.toUInt32 >>> ((nI 1).toUInt32 &&& Int32.toUInt32 31)).toInt32) &&& (nI 1431655765))) &&& (nI 858993459)) + ((((x - (((x.toUInt32 >>> ((nI 1).toUInt32 &&& Int32.toUInt32 31)).toInt32) &&& (nI 1431655765))).toUInt32 >>> ((nI 2).toUInt32 &&& Int32.toUInt32 31)).toInt32) &&& (nI 858993459))) + (((((x - (((x.toUInt32 >>> ((nI 1).toUInt32 &&& Int32.toUInt32 31)).toInt32) &&& (nI 1431655765))) &&& (nI 858993459)) + ((((x - (((x.toUInt32 >>> ((nI 1).toUInt32 &&& Int32.toUInt32 31)).toInt32) &&& (nI 1431655765))).toUInt32 >>> ((nI 2).toUInt32 &&& Int32.toUInt32 31)).toInt32) &&& (nI 858993459))).toUInt32 >>> ((nI 4).toUInt32 &&& Int32.toUInt32 31)).toInt32)) &&& (nI 252645135)).toUInt32 >>> ((nI 8).toUInt32 &&& Int32.toUInt32 31)).toInt32)) + ((((((((x - (((x.toUInt32 >>> ((nI 1).toUInt32 &&& Int32.toUInt32 31)).toInt32) &&& (nI 1431655765))) &&& (nI 858993459)) + ((((x - (((x.toUInt32 >>> ((nI 1).toUInt32 &&& Int32.toUInt32 31)).toInt32) &&& (nI 1431655765))).toUInt32 >>> ((nI 2).toUInt32 &&& Int32.toUInt32 31)).toInt32) &&& (nI 858993459))) + (((((x - (((x.toUInt32 >>> ((nI 1).toUInt32 &&& Int32.toUInt32 31)).toInt32) &&& (nI 1431655765))) &&& (nI 858993459)) + ((((x - (((x.toUInt32 >>> ((nI 1).toUInt32 &&& Int32.toUInt32 31)).toInt32) &&& (nI 1431655765))).toUInt32 >>> ((nI 2).toUInt32 &&& Int32.toUInt32 31)).toInt32) &&& (nI 858993459))).toUInt32 >>> ((nI 4).toUInt32 &&& Int32.toUInt32 31)).toInt32)) &&& (nI 252645135)) + (((((((x - (((x.toUInt32 >>> ((nI 1).toUInt32 &&& Int32.toUInt32 31)).toInt32) &&& (nI 1431655765))) &&& (nI 858993459)) + ((((x - (((x.toUInt32 >>> ((nI 1).toUInt32 &&& Int32.toUInt32 31)).toInt32) &&& (nI 1431655765))).toUInt32 >>> ((nI 2).toUInt32 &&& Int32.toUInt32 31)).toInt32) &&& (nI 858993459))) + (((((x - (((x.toUInt32 >>> ((nI 1).toUInt32 &&& Int32.toUInt32 31)).toInt32) &&& (nI 1431655765))) &&& (nI 858993459)) + ((((x - (((x.toUInt32 >>> ((nI 1).toUInt32 &&& Int32.toUInt32 31)).toInt32) &&& (nI 1431655765))).toUInt32 >>> ((nI 2).toUInt32 &&& Int32.toUInt32 31)).toInt32) &&& (nI 858993459))).toUInt32 >>> ((nI 4).toUInt32 &&& Int32.toUInt32 31)).toInt32)) &&& (nI 252645135)).toUInt32 >>> ((nI 8).toUInt32 &&& Int32.toUInt32 31)).toInt32)).toUInt32 >>> ((nI 16).toUInt32 &&& Int32.toUInt32 31)).toInt32)) :: _) f244_46 rfl rfl ?_
  refine Ew.sr (ls' := [some (zi (((((((x - (((x.toUInt32 >>> ((nI 1).toUInt32 &&& Int32.toUInt32 31)).toInt32) &&& (nI 1431655765))) &&& (nI 858993459)) + ((((x - (((x.toUInt32 >>> ((nI 1).toUInt32 &&& Int32.toUInt32 31)).toInt32) &&& (nI 1431655765))).toUInt32 >>> ((nI 2).toUInt32 &&& Int32.toUInt32 31)).toInt32) &&& (nI 858993459))) + (((((x - (((x.toUInt32 >>> ((nI 1).toUInt32 &&& Int32.toUInt32 31)).toInt32) &&& (nI 1431655765))) &&& (nI 858993459)) + ((((x - (((x.toUInt32 >>> ((nI 1).toUInt32 &&& Int32.toUInt32 31)).toInt32) &&& (nI 1431655765))).toUInt32 >>> ((nI 2).toUInt32 &&& Int32.toUInt32 31)).toInt32) &&& (nI 858993459))).toUInt32 >>> ((nI 4).toUInt32 &&& Int32.toUInt32 31)).toInt32)) &&& (nI 252645135)) + (((((((x - (((x.toUInt32 >>> ((nI 1).toUInt32 &&& Int32.toUInt32 31)).toInt32) &&& (nI 1431655765))) &&& (nI 858993459)) + ((((x - (((x.toUInt32 >>> ((nI 1).toUInt32 &&& Int32.toUInt32 31)).toInt32) &&& (nI 1431655765))).toUInt32 >>> ((nI 2).toUInt32 &&& Int32.toUInt32 31)).toInt32) &&& (nI 858993459))) + (((((x - (((x.toUInt32 >>> ((nI 1).toUInt32 &&& Int32.toUInt32 31)).toInt32) &&& (nI 1431655765))) &&& (nI 858993459)) + ((((x - (((x.toUInt32 >>> ((nI 1).toUInt32 &&& Int32.toUInt32 31)).toInt32) &&& (nI 1431655765))).toUInt32 >>> ((nI 2).toUInt32 &&& Int32.toUInt32 31)).toInt32) &&& (nI 858993459))).toUInt32 >>> ((nI 4).toUInt32 &&& Int32.toUInt32 31)).toInt32)) &&& (nI 252645135)).toUInt32 >>> ((nI 8).toUInt32 &&& Int32.toUInt32 31)).toInt32)) + ((((((((x - (((x.toUInt32 >>> ((nI 1).toUInt32 &&& Int32.toUInt32 31)).toInt32) &&& (nI 1431655765))) &&& (nI 858993459)) + ((((x - (((x.toUInt32 >>> ((nI 1).toUInt32 &&& Int32.toUInt32 31)).toInt32) &&& (nI 1431655765))).toUInt32 >>> ((nI 2).toUInt32 &&& Int32.toUInt32 31)).toInt32) &&& (nI 858993459))) + (((((x - (((x.toUInt32 >>> ((nI 1).toUInt32 &&& Int32.toUInt32 31)).toInt32) &&& (nI 1431655765))) &&& (nI 858993459)) + ((((x - (((x.toUInt32 >>> ((nI 1).toUInt32 &&& Int32.toUInt32 31)).toInt32) &&& (nI 1431655765))).toUInt32 >>> ((nI 2).toUInt32 &&& Int32.toUInt32 31)).toInt32) &&& (nI 858993459))).toUInt32 >>> ((nI 4).toUInt32 &&& Int32.toUInt32 31)).toInt32)) &&& (nI 252645135)) + (((((((x - (((x.toUInt32 >>> ((nI 1).toUInt32 &&& Int32.toUInt32 31)).toInt32) &&& (nI 1431655765))) &&& (nI 858993459)) + ((((x - (((x.toUInt32 >>> ((nI 1).toUInt32 &&& Int32.toUInt32 31)).toInt32) &&& (nI 1431655765))).toUInt32 >>> ((nI 2).toUInt32 &&& Int32.toUInt32 31)).toInt32) &&& (nI 858993459))) + (((((x - (((x.toUInt32 >>> ((nI 1).toUInt32 &&& Int32.toUInt32 31)).toInt32) &&& (nI 1431655765))) &&& (nI 858993459)) + ((((x - (((x.toUInt32 >>> ((nI 1).toUInt32 &&& Int32.toUInt32 31)).toInt32) &&& (nI 1431655765))).toUInt32 >>> ((nI 2).toUInt32 &&& Int32.toUInt32 31)).toInt32) &&& (nI 858993459))).toUInt32 >>> ((nI 4).toUInt32 &&& Int32.toUInt32 31)).toInt32)) &&& (nI 252645135)).toUInt32 >>> ((nI 8).toUInt32 &&& Int32.toUInt32 31)).toInt32)).toUInt32 >>> ((nI 16).toUInt32 &&& Int32.toUInt32 31)).toInt32)))]) f244_47 rfl rfl (Nat.le_of_ble_eq_true rfl) rfl rfl ?_
  refine Ew.ld f244_48 rfl rfl rfl rfl ?_
  refine Ew.op (st' := zi (nI 63) :: _) f244_49 rfl rfl ?_
  refine Ew.op (st' := zi ((((((((x - (((x.toUInt32 >>> ((nI 1).toUInt32 &&& Int32.toUInt32 31)).toInt32) &&& (nI 1431655765))) &&& (nI 858993459)) + ((((x - (((x.toUInt32 >>> ((nI 1).toUInt32 &&& Int32.toUInt32 31)).toInt32) &&& (nI 1431655765))).toUInt32 >>> ((nI 2).toUInt32 &&& Int32.toUInt32 31)).toInt32) &&& (nI 858993459))) + (((((x - (((x.toUInt32 >>> ((nI 1).toUInt32 &&& Int32.toUInt32 31)).toInt32) &&& (nI 1431655765))) &&& (nI 858993459)) + ((((x - (((x.toUInt32 >>> ((nI 1).toUInt32 &&& Int32.toUInt32 31)).toInt32) &&& (nI 1431655765))).toUInt32 >>> ((nI 2).toUInt32 &&& Int32.toUInt32 31)).toInt32) &&& (nI 858993459))).toUInt32 >>> ((nI 4).toUInt32 &&& Int32.toUInt32 31)).toInt32)) &&& (nI 252645135)) + (((((((x - (((x.toUInt32 >>> ((nI 1).toUInt32 &&& Int32.toUInt32 31)).toInt32) &&& (nI 1431655765))) &&& (nI 858993459)) + ((((x - (((x.toUInt32 >>> ((nI 1).toUInt32 &&& Int32.toUInt32 31)).toInt32) &&& (nI 1431655765))).toUInt32 >>> ((nI 2).toUInt32 &&& Int32.toUInt32 31)).toInt32) &&& (nI 858993459))) + (((((x - (((x.toUInt32 >>> ((nI 1).toUInt32 &&& Int32.toUInt32 31)).toInt32) &&& (nI 1431655765))) &&& (nI 858993459)) + ((((x - (((x.toUInt32 >>> ((nI 1).toUInt32 &&& Int32.toUInt32 31)).toInt32) &&& (nI 1431655765))).toUInt32 >>> ((nI 2).toUInt32 &&& Int32.toUInt32 31)).toInt32) &&& (nI 858993459))).toUInt32 >>> ((nI 4).toUInt32 &&& Int32.toUInt32 31)).toInt32)) &&& (nI 252645135)).toUInt32 >>> ((nI 8).toUInt32 &&& Int32.toUInt32 31)).toInt32)) + ((((((((x - (((x.toUInt32 >>> ((nI 1).toUInt32 &&& Int32.toUInt32 31)).toInt32) &&& (nI 1431655765))) &&& (nI 858993459)) + ((((x - (((x.toUInt32 >>> ((nI 1).toUInt32 &&& Int32.toUInt32 31)).toInt32) &&& (nI 1431655765))).toUInt32 >>> ((nI 2).toUInt32 &&& Int32.toUInt32 31)).toInt32) &&& (nI 858993459))) + (((((x - (((x.toUInt32 >>> ((nI 1).toUInt32 &&& Int32.toUInt32 31)).toInt32) &&& (nI 1431655765))) &&& (nI 858993459)) + ((((x - (((x.toUInt32 >>> ((nI 1).toUInt32 &&& Int32.toUInt32 31)).toInt32) &&& (nI 1431655765))).toUInt32 >>> ((nI 2).toUInt32 &&& Int32.toUInt32 31)).toInt32) &&& (nI 858993459))).toUInt32 >>> ((nI 4).toUInt32 &&& Int32.toUInt32 31)).toInt32)) &&& (nI 252645135)) + (((((((x - (((x.toUInt32 >>> ((nI 1).toUInt32 &&& Int32.toUInt32 31)).toInt32) &&& (nI 1431655765))) &&& (nI 858993459)) + ((((x - (((x.toUInt32 >>> ((nI 1).toUInt32 &&& Int32.toUInt32 31)).toInt32) &&& (nI 1431655765))).toUInt32 >>> ((nI 2).toUInt32 &&& Int32.toUInt32 31)).toInt32) &&& (nI 858993459))) + (((((x - (((x.toUInt32 >>> ((nI 1).toUInt32 &&& Int32.toUInt32 31)).toInt32) &&& (nI 1431655765))) &&& (nI 858993459)) + ((((x - (((x.toUInt32 >>> ((nI 1).toUInt32 &&& Int32.toUInt32 31)).toInt32) &&& (nI 1431655765))).toUInt32 >>> ((nI 2).toUInt32 &&& Int32.toUInt32 31)).toInt32) &&& (nI 858993459))).toUInt32 >>> ((nI 4).toUInt32 &&& Int32.toUInt32 31)).toInt32)) &&& (nI 252645135)).toUInt32 >>> ((nI 8).toUInt32 &&& Int32.toUInt32 31)).toInt32)).toUInt32 >>> ((nI 16).toUInt32 &&& Int32.toUInt32 31)).toInt32)) &&& (nI 63)) :: _) f244_51 rfl rfl ?_
  refine Ew.ireti f244_52 ?_
  exact h1
theorem sp_bc {d c s : Nat} {x : Int32} {I : zI} {L : zL} {P : zP} {S : zS} {top : Nat} {Q : Option zV → zM → Prop} (h : ∃ v, v < 64 ∧ x = nI v) (k : Q (some (zi (rSz x))) (I, L, zpj P, zsj S, top)) : Ev d c s 244 0 [some (zi x)] [] (I, L, zpj P, zsj S, top) Q := by
  obtain ⟨v, hv, rfl⟩ := h
  refine g244_0 (Eq.mp (congrArg (fun y => Q (some (zi y)) (I, L, zpj P, zsj S, top)) ?_) k)
  clear k
  revert v
  decide +kernel
theorem g85_0 {d c s : Nat} {j t : Nat} {τ : Nat → Nat → Int32} {w : Nat → Int32} {X : zM} {ρ : Nat → Nat → Int32} {l : Nat → Nat → Int64} {Q : Option zV → zM → Prop} (hj : j < 15)
    (b1 : ((ρ 0 3) = nI 1) → t < 4)
    (h1 : ((ρ 0 3) = nI 1) → Q (some (zi (ρ 9 t))) (OM X 2 j ρ l))
    (b2 : (¬ (ρ 0 3) = nI 1) → ((ρ 0 3) = nI 2) → t < 4)
    (h2 : (¬ (ρ 0 3) = nI 1) → ((ρ 0 3) = nI 2) → Q (some (zi (-(ρ 7 t)))) (OM X 2 j ρ l))
    (b3 : (¬ (ρ 0 3) = nI 1) → (¬ (ρ 0 3) = nI 2) → ((ρ 0 3) = nI 3) → t < 4)
    (b4 : (¬ (ρ 0 3) = nI 1) → (¬ (ρ 0 3) = nI 2) → ((ρ 0 3) = nI 3) → cTI τ ρ w)
    (b5 : (¬ (ρ 0 3) = nI 1) → (¬ (ρ 0 3) = nI 2) → ((ρ 0 3) = nI 3) → cUq τ w)
    (b6 : (¬ (ρ 0 3) = nI 1) → (¬ (ρ 0 3) = nI 2) → ((ρ 0 3) = nI 3) → ∃ v, v < 64 ∧ (rSet τ t (rD (zw τ w) t)) = nI v)
    (h3 : (¬ (ρ 0 3) = nI 1) → (¬ (ρ 0 3) = nI 2) → ((ρ 0 3) = nI 3) → Q (some (zi (-(rSz (rSet τ t (rD (zw τ w) t)))))) (OM X 2 j ρ l))
    (h4 : (¬ (ρ 0 3) = nI 1) → (¬ (ρ 0 3) = nI 2) → (¬ (ρ 0 3) = nI 3) → Q (some (zi (nI t))) (OM X 2 j ρ l)) : Ev (d + 1) c s 85 0 [some (zr (some (2, j, 0))), some (zi (nI t))] [] (OM X 2 j ρ l) Q := by
  refine Ew.ld f85_0 rfl rfl rfl rfl ?_
  refine Ew.getiO f85_1 (by rw [zsj2 _ hj]; rfl) rfl ?_
  by_cases c1 : (ρ 0 3) = nI 1
  · refine Ew.tsw (pc' := 32) (x := (ρ 0 3)) f85_4 (by rw [c1] <;> rfl) ?_
    refine Ew.ld f85_32 rfl rfl rfl rfl ?_
    refine Ew.getp (v := some (2, j, 9)) f85_33 (by rw [zsj2 _ hj]; rfl) rfl rfl ?_
    refine Ew.ld f85_36 rfl rfl rfl rfl ?_
    refine Ew.ialdnO f85_37 (by rw [zsj2 _ hj]; rfl) (by rw [zsj2 _ hj]; exact (b1 c1)) (by rw [zsj2 _ hj]; decide) rfl ?_
    refine Ew.ireti f85_38 ?_
    exact h1 c1
  by_cases c2 : (ρ 0 3) = nI 2
  · refine Ew.tsw (pc' := 39) (x := (ρ 0 3)) f85_4 (by rw [c2] <;> rfl) ?_
    refine Ew.ld f85_39 rfl rfl rfl rfl ?_
    refine Ew.getp (v := some (2, j, 7)) f85_40 (by rw [zsj2 _ hj]; rfl) rfl rfl ?_
    refine Ew.ld f85_43 rfl rfl rfl rfl ?_
    refine Ew.ialdnO f85_44 (by rw [zsj2 _ hj]; rfl) (by rw [zsj2 _ hj]; exact (b2 c1 c2)) (by rw [zsj2 _ hj]; decide) rfl ?_
    refine Ew.op (st' := zi (-(ρ 7 t)) :: _) f85_45 rfl rfl ?_
    refine Ew.ireti f85_46 ?_
    exact h2 c1 c2
  by_cases c3 : (ρ 0 3) = nI 3
  · refine Ew.tsw (pc' := 47) (x := (ρ 0 3)) f85_4 (by rw [c3] <;> rfl) ?_
    refine Ew.ld f85_47 rfl rfl rfl rfl ?_
    refine Ew.ld f85_48 rfl rfl rfl rfl ?_
    refine Ew.call0 (ls0 := [some (zr (some (2, j, 0))), some (zi (nI t)), none, none]) f85_49 rfl (Nat.le_of_ble_eq_true rfl) rfl rfl (Nat.le_of_ble_eq_true rfl) (by show (zsj X.2.2.2.1 2 j 0).1 = _; rw [zsj2 _ hj]; rfl) (Nat.le_of_ble_eq_true rfl) rfl rfl ?_
    refine sp_cHeld hj (b3 c1 c2 c3) (b4 c1 c2 c3) (b5 c1 c2 c3) ?_
    show Ev (d + 1) c s 85 52 [some (zr (some (2, j, 0))), some (zi (nI t))] [zi (rSet τ t (rD (zw τ w) t))] (OM X 2 j ρ l) Q
    refine Ew.call0 (ls0 := [some (zi (rSet τ t (rD (zw τ w) t)))]) f85_52 rfl (Nat.le_of_ble_eq_true rfl) rfl rfl (Nat.le_of_ble_eq_true rfl) trivial (Nat.le_of_ble_eq_true rfl) rfl rfl ?_
    refine sp_bc (b6 c1 c2 c3) ?_
    show Ev (d + 1) c s 85 55 [some (zr (some (2, j, 0))), some (zi (nI t))] [zi (rSz (rSet τ t (rD (zw τ w) t)))] (OM X 2 j ρ l) Q
    refine Ew.op (st' := zi (-(rSz (rSet τ t (rD (zw τ w) t)))) :: _) f85_55 rfl rfl ?_
    refine Ew.ireti f85_56 ?_
    exact h3 c1 c2 c3
  refine Ew.tsw (x := (ρ 0 3)) f85_4 (ztw_o (m := 1) (n := 3) (zno (by decide) (fun k hk => by rcases (show k = 0 ∨ k = 1 ∨ k = 2 by omega) with rfl | rfl | rfl <;> first | exact c1 | exact c2 | exact c3)) rfl rfl rfl) ?_
  refine Ew.ld f85_57 rfl rfl rfl rfl ?_
  refine Ew.ireti f85_58 ?_
  exact h4 c1 c2 c3
/-- how well a task stands against another -/
def cCl (τ : Nat → Nat → Int32) (w : Nat → Int32) (t : Nat) : Int32 := if w 1 = nI 1 then w (10 + 4 * t + 2) else if w 1 = nI 2 then -(w (10 + 4 * t + 1)) else if w 1 = nI 3 then -(rSz (rSet τ t (rD (zw τ w) t))) else nI t
section
variable {d c s j t : Nat} {x r : Int32} {τ : Nat → Nat → Int32} {w : Nat → Int32} {X : zM} {ρ : Nat → Nat → Int32} {l : Nat → Nat → Int64} {Q : Option zV → zM → Prop}
theorem sp_cClaim (hj : j < 15) (ht : t < 4) (h : cTI τ ρ w) (hu : cUq τ w) (k : Q (some (zi (cCl τ w t))) (OM X 2 j ρ l)) : Ev (d + 1) c s 85 0 [some (zr (some (2, j, 0))), some (zi (nI t))] [] (OM X 2 j ρ l) Q := by
  have e := h.2.2 t ht
  have e1 := h.1.2.1
  unfold cCl at k
  rw [← e1, ← e.2.2.2.1, ← e.2.1] at k
  refine g85_0 hj (fun _ => ht) (fun g => ?_) (fun _ _ => ht) (fun g g2 => ?_) (fun _ _ _ => ht) (fun _ _ _ => h) (fun _ _ _ => hu) (fun _ _ _ => rSetL_nat _ _ _ 6 (Nat.le_refl 6)) (fun g g2 g3 => ?_) (fun g g2 g3 => ?_)
  · rw [if_pos g] at k; exact k
  · rw [if_neg g, if_pos g2] at k; exact k
  · rw [if_neg g, if_neg g2, if_pos g3] at k; exact k
  · rw [if_neg g, if_neg g2, if_neg g3] at k; exact k
end
theorem zneg_lt {a b : Int32} (ha : ¬ a = Int32.minValue) (hb : ¬ b = Int32.minValue) : -a < -b ↔ b < a := by
  rw [Int32.lt_iff_toInt_lt, Int32.lt_iff_toInt_lt, Int32.toInt_neg, Int32.toInt_neg]
  have h1 := a.minValue_le_toInt
  have h2 := a.toInt_le
  have h3 := b.minValue_le_toInt
  have h4 := b.toInt_le
  have e1 : Int32.minValue.toInt = -2147483648 := by decide
  have e2 : Int32.maxValue.toInt = 2147483647 := by decide
  rw [e1] at h1 h3
  rw [e2] at h2 h4
  have h5 : ¬ a.toInt = -2147483648 := fun g => ha (Int32.toInt_inj.mp (g.trans e1.symm))
  have h6 : ¬ b.toInt = -2147483648 := fun g => hb (Int32.toInt_inj.mp (g.trans e1.symm))
  rw [Int.bmod_eq_of_le (by omega) (by omega), Int.bmod_eq_of_le (by omega) (by omega)]
  omega
/-- ages and steps are no least numbers -/
def cNm (w : Nat → Int32) : Prop := ∀ t, t < 4 → (¬ w (10 + 4 * t + 2) = Int32.minValue) ∧ ∃ D, D ≤ 30 ∧ w (10 + 4 * t + 1) = nI D
theorem znm {n : Nat} (h : n < 2 ^ 31) : ¬ nI n = Int32.minValue := by
  intro e
  have := nI_pos h
  rw [e] at this
  exact this (by decide)
theorem zneg_nm {n : Nat} (h : n ≤ 30) : ¬ -(nI n) = Int32.minValue := by
  have h' : n < 31 := by omega
  clear h
  revert n
  decide
theorem rSz_nat {x : Int32} (h : ∃ v, v < 64 ∧ x = nI v) : ∃ n, n ≤ 30 ∧ rSz x = nI n := by
  obtain ⟨v, hv, rfl⟩ := h
  refine ⟨rSzL 7 (nI v), ?_, rfl⟩
  revert v
  decide
theorem cCl_w {τ : Nat → Nat → Int32} {w : Nat → Int32} {t : Nat} (ht : t < 4) (hn : cNm w) : rWeight (zw τ w) t = -(cCl τ w t) ∧ ¬ cCl τ w t = Int32.minValue := by
  obtain ⟨h1, D, hD, h2⟩ := hn t ht
  unfold rWeight cCl
  rw [show zw τ w 1 1 = w 1 from rfl, show zw τ w 1 (10 + 4 * t + 2) = w (10 + 4 * t + 2) from rfl, show zw τ w 1 (10 + 4 * t + 1) = w (10 + 4 * t + 1) from rfl, show rSet (zw τ w) t (rD (zw τ w) t) = rSet τ t (rD (zw τ w) t) from rSetL_zw _ _ _ _ _]
  obtain ⟨n, hn, e⟩ := rSz_nat (rSetL_nat τ t (rD (zw τ w) t) 6 (Nat.le_refl 6))
  have e : rSz (rSet τ t (rD (zw τ w) t)) = nI n := e
  by_cases g1 : w 1 = nI 1
  · rw [if_pos g1, if_pos g1]; exact ⟨rfl, h1⟩
  · rw [if_neg g1, if_neg g1]
    by_cases g2 : w 1 = nI 2
    · rw [if_pos g2, if_pos g2, h2, Int32.neg_neg]; exact ⟨rfl, zneg_nm hD⟩
    · rw [if_neg g2, if_neg g2]
      by_cases g3 : w 1 = nI 3
      · rw [if_pos g3, if_pos g3, e, Int32.neg_neg]; exact ⟨rfl, zneg_nm hn⟩
      · rw [if_neg g3, if_neg g3]; exact ⟨rfl, znm (by omega)⟩
theorem cCl_lt {τ : Nat → Nat → Int32} {w : Nat → Int32} {t f : Nat} (ht : t < 4) (hf : f < 4) (hn : cNm w) : rWeight (zw τ w) t < rWeight (zw τ w) f ↔ cCl τ w f < cCl τ w t := by
  rw [(cCl_w ht hn).1, (cCl_w hf hn).1]
  exact zneg_lt (cCl_w ht hn).2 (cCl_w hf hn).2
theorem g84_0 {d c s : Nat} {j : Nat} {r : Int32} {X : zM} {ρ : Nat → Nat → Int32} {l : Nat → Nat → Int64} {Q : Option zV → zM → Prop} (hj : j < 15)
    (h1 : Ev d c s 84 5 [some (zr (some (2, j, 0))), some (zi r), some (zi ((-4))), some (zi (nI 0))] [] (OM X 2 j ρ l) Q) : Ev d c s 84 0 [some (zr (some (2, j, 0))), some (zi r), none, none] [] (OM X 2 j ρ l) Q := by
  refine Ew.op (st' := zi ((-4)) :: _) f84_0 rfl rfl ?_
  refine Ew.sr (ls' := [some (zr (some (2, j, 0))), some (zi r), some (zi ((-4))), none]) f84_2 rfl rfl (Nat.le_of_ble_eq_true rfl) rfl rfl ?_
  refine Ew.op (st' := zi (nI 0) :: _) f84_3 rfl rfl ?_
  refine Ew.sr (ls' := [some (zr (some (2, j, 0))), some (zi r), some (zi ((-4))), some (zi (nI 0))]) f84_4 rfl rfl (Nat.le_of_ble_eq_true rfl) rfl rfl ?_
  exact h1
theorem g84_5 {d c s : Nat} {j f t : Nat} {r : Int32} {τ : Nat → Nat → Int32} {w : Nat → Int32} {X : zM} {ρ : Nat → Nat → Int32} {l : Nat → Nat → Int64} {Q : Option zV → zM → Prop} (hj : j < 15) (nb_t : t < 5000)
    (h1 : (4 ≤ t) → Q (some (zi (nI f))) (OM X 2 j ρ l))
    (h2 : (t < 4) → (cHas r (nI t)) → ((nI f) = ((-4))) → Ev (d + 2) c s 84 5 [some (zr (some (2, j, 0))), some (zi r), some (zi (nI t)), some (zi (nI (t + 1)))] [] (OM X 2 j ρ l) Q)
    (b1 : (t < 4) → (cHas r (nI t)) → (¬ (nI f) = ((-4))) → t < 4)
    (b2 : (t < 4) → (cHas r (nI t)) → (¬ (nI f) = ((-4))) → cTI τ ρ w)
    (b3 : (t < 4) → (cHas r (nI t)) → (¬ (nI f) = ((-4))) → cUq τ w)
    (b4 : (t < 4) → (cHas r (nI t)) → (¬ (nI f) = ((-4))) → f < 4)
    (b5 : (t < 4) → (cHas r (nI t)) → (¬ (nI f) = ((-4))) → cTI τ ρ w)
    (b6 : (t < 4) → (cHas r (nI t)) → (¬ (nI f) = ((-4))) → cUq τ w)
    (h3 : (t < 4) → (cHas r (nI t)) → (¬ (nI f) = ((-4))) → ((cCl τ w t) ≤ (cCl τ w f)) → Ev (d + 2) c s 84 5 [some (zr (some (2, j, 0))), some (zi r), some (zi (nI f)), some (zi (nI (t + 1)))] [] (OM X 2 j ρ l) Q)
    (h4 : (t < 4) → (cHas r (nI t)) → (¬ (nI f) = ((-4))) → ((cCl τ w f) < (cCl τ w t)) → Ev (d + 2) c s 84 5 [some (zr (some (2, j, 0))), some (zi r), some (zi (nI t)), some (zi (nI (t + 1)))] [] (OM X 2 j ρ l) Q)
    (h5 : (t < 4) → (¬ (cHas r (nI t))) → Ev (d + 2) c s 84 5 [some (zr (some (2, j, 0))), some (zi r), some (zi (nI f)), some (zi (nI (t + 1)))] [] (OM X 2 j ρ l) Q) : Ev (d + 2) c s 84 5 [some (zr (some (2, j, 0))), some (zi r), some (zi (nI f)), some (zi (nI t))] [] (OM X 2 j ρ l) Q := by
  refine Ew.ld f84_5 rfl rfl rfl rfl ?_
  refine Ew.op (st' := zi (nI 4) :: _) f84_6 rfl rfl ?_
  refine Ew.icmp f84_7 rfl rfl (fun c1 => ?_) (fun c1 => ?_)
  · refine Ew.ld f84_45 rfl rfl rfl rfl ?_
    refine Ew.ireti f84_46 ?_
    exact h1 ((zle_iff (by decide) nb_t).mp c1)
  · refine Ew.ld f84_10 rfl rfl rfl rfl ?_
    refine Ew.ld f84_11 rfl rfl rfl rfl ?_
    refine Ew.call0 (ls0 := [some (zi r), some (zi (nI t))]) f84_12 rfl (Nat.le_of_ble_eq_true rfl) rfl rfl (Nat.le_of_ble_eq_true rfl) trivial (Nat.le_of_ble_eq_true rfl) rfl rfl ?_
    refine sp_cHas (fun c2 => ?_) (fun c2 => ?_)
    · refine Ew.ifc f84_15 rfl rfl (fun h => absurd h (show ¬ (((nI 1) : Int32) = 0) by decide)) (fun _ => ?_)
      refine Ew.ld f84_18 rfl rfl rfl rfl ?_
      refine Ew.op (st' := zi ((-4)) :: _) f84_19 rfl rfl ?_
      refine Ew.icmp f84_21 rfl rfl (fun c3 => ?_) (fun c3 => ?_)
      · refine Ew.ld f84_37 rfl rfl rfl rfl ?_
        refine Ew.sr (ls' := [some (zr (some (2, j, 0))), some (zi r), some (zi (nI t)), some (zi (nI t))]) f84_38 rfl rfl (Nat.le_of_ble_eq_true rfl) rfl rfl ?_
        refine Ew.iinc (v := nI (t + 1)) (ls' := [some (zr (some (2, j, 0))), some (zi r), some (zi (nI t)), some (zi (nI (t + 1)))]) f84_39 rfl (nI_1 _) rfl rfl ?_
        refine Ew.goto f84_42 rfl ?_
        exact h2 (Nat.not_le.mp fun e => c1 ((zle_iff (by decide) nb_t).mpr e)) c2 c3
      · refine Ew.ld f84_24 rfl rfl rfl rfl ?_
        refine Ew.ld f84_25 rfl rfl rfl rfl ?_
        refine Ew.call0 (ls0 := [some (zr (some (2, j, 0))), some (zi (nI t))]) f84_26 rfl (Nat.le_of_ble_eq_true rfl) rfl rfl (Nat.le_of_ble_eq_true rfl) (by show (zsj X.2.2.2.1 2 j 0).1 = _; rw [zsj2 _ hj]; rfl) (Nat.le_of_ble_eq_true rfl) rfl rfl ?_
        refine sp_cClaim hj (b1 (Nat.not_le.mp fun e => c1 ((zle_iff (by decide) nb_t).mpr e)) c2 c3) (b2 (Nat.not_le.mp fun e => c1 ((zle_iff (by decide) nb_t).mpr e)) c2 c3) (b3 (Nat.not_le.mp fun e => c1 ((zle_iff (by decide) nb_t).mpr e)) c2 c3) ?_
        show Ev (d + 2) c s 84 29 [some (zr (some (2, j, 0))), some (zi r), some (zi (nI f)), some (zi (nI t))] [zi (cCl τ w t)] (OM X 2 j ρ l) Q
        refine Ew.ld f84_29 rfl rfl rfl rfl ?_
        refine Ew.ld f84_30 rfl rfl rfl rfl ?_
        refine Ew.call0 (ls0 := [some (zr (some (2, j, 0))), some (zi (nI f))]) f84_31 rfl (Nat.le_of_ble_eq_true rfl) rfl rfl (Nat.le_of_ble_eq_true rfl) (by show (zsj X.2.2.2.1 2 j 0).1 = _; rw [zsj2 _ hj]; rfl) (Nat.le_of_ble_eq_true rfl) rfl rfl ?_
        refine sp_cClaim hj (b4 (Nat.not_le.mp fun e => c1 ((zle_iff (by decide) nb_t).mpr e)) c2 c3) (b5 (Nat.not_le.mp fun e => c1 ((zle_iff (by decide) nb_t).mpr e)) c2 c3) (b6 (Nat.not_le.mp fun e => c1 ((zle_iff (by decide) nb_t).mpr e)) c2 c3) ?_
        show Ev (d + 2) c s 84 34 [some (zr (some (2, j, 0))), some (zi r), some (zi (nI f)), some (zi (nI t))] [zi (cCl τ w f), zi (cCl τ w t)] (OM X 2 j ρ l) Q
        refine Ew.icmp f84_34 rfl rfl (fun c4 => ?_) (fun c4 => ?_)
        · refine Ew.iinc (v := nI (t + 1)) (ls' := [some (zr (some (2, j, 0))), some (zi r), some (zi (nI f)), some (zi (nI (t + 1)))]) f84_39 rfl (nI_1 _) rfl rfl ?_
          refine Ew.goto f84_42 rfl ?_
          exact h3 (Nat.not_le.mp fun e => c1 ((zle_iff (by decide) nb_t).mpr e)) c2 c3 c4
        · refine Ew.ld f84_37 rfl rfl rfl rfl ?_
          refine Ew.sr (ls' := [some (zr (some (2, j, 0))), some (zi r), some (zi (nI t)), some (zi (nI t))]) f84_38 rfl rfl (Nat.le_of_ble_eq_true rfl) rfl rfl ?_
          refine Ew.iinc (v := nI (t + 1)) (ls' := [some (zr (some (2, j, 0))), some (zi r), some (zi (nI t)), some (zi (nI (t + 1)))]) f84_39 rfl (nI_1 _) rfl rfl ?_
          refine Ew.goto f84_42 rfl ?_
          exact h4 (Nat.not_le.mp fun e => c1 ((zle_iff (by decide) nb_t).mpr e)) c2 c3 (Int32.not_le.mp c4)
    · refine Ew.ifc f84_15 rfl rfl (fun _ => ?_) (fun h => absurd (show ((nI 0) : Int32) = 0 by decide) h)
      refine Ew.iinc (v := nI (t + 1)) (ls' := [some (zr (some (2, j, 0))), some (zi r), some (zi (nI f)), some (zi (nI (t + 1)))]) f84_39 rfl (nI_1 _) rfl rfl ?_
      refine Ew.goto f84_42 rfl ?_
      exact h5 (Nat.not_le.mp fun e => c1 ((zle_iff (by decide) nb_t).mpr e)) c2
theorem g84_5m {d c s : Nat} {j t : Nat} {r : Int32} {τ : Nat → Nat → Int32} {w : Nat → Int32} {X : zM} {ρ : Nat → Nat → Int32} {l : Nat → Nat → Int64} {Q : Option zV → zM → Prop} (hj : j < 15) (nb_t : t < 5000)
    (h1 : (4 ≤ t) → Q (some (zi ((-4)))) (OM X 2 j ρ l))
    (h2 : (t < 4) → (cHas r (nI t)) → Ev (d + 1) c s 84 5 [some (zr (some (2, j, 0))), some (zi r), some (zi (nI t)), some (zi (nI (t + 1)))] [] (OM X 2 j ρ l) Q)
    (h3 : (t < 4) → (¬ (cHas r (nI t))) → Ev (d + 1) c s 84 5 [some (zr (some (2, j, 0))), some (zi r), some (zi ((-4))), some (zi (nI (t + 1)))] [] (OM X 2 j ρ l) Q) : Ev (d + 1) c s 84 5 [some (zr (some (2, j, 0))), some (zi r), some (zi ((-4))), some (zi (nI t))] [] (OM X 2 j ρ l) Q := by
  refine Ew.ld f84_5 rfl rfl rfl rfl ?_
  refine Ew.op (st' := zi (nI 4) :: _) f84_6 rfl rfl ?_
  refine Ew.icmp f84_7 rfl rfl (fun c1 => ?_) (fun c1 => ?_)
  · refine Ew.ld f84_45 rfl rfl rfl rfl ?_
    refine Ew.ireti f84_46 ?_
    exact h1 ((zle_iff (by decide) nb_t).mp c1)
  · refine Ew.ld f84_10 rfl rfl rfl rfl ?_
    refine Ew.ld f84_11 rfl rfl rfl rfl ?_
    refine Ew.call0 (ls0 := [some (zi r), some (zi (nI t))]) f84_12 rfl (Nat.le_of_ble_eq_true rfl) rfl rfl (Nat.le_of_ble_eq_true rfl) trivial (Nat.le_of_ble_eq_true rfl) rfl rfl ?_
    refine sp_cHas (fun c2 => ?_) (fun c2 => ?_)
    · refine Ew.ifc f84_15 rfl rfl (fun h => absurd h (show ¬ (((nI 1) : Int32) = 0) by decide)) (fun _ => ?_)
      refine Ew.ld f84_18 rfl rfl rfl rfl ?_
      refine Ew.op (st' := zi ((-4)) :: _) f84_19 rfl rfl ?_
      refine Ew.icmp f84_21 rfl rfl (fun _ => ?_) (fun h => absurd (show (((-4)) : Int32) = ((-4)) by decide) h)
      refine Ew.ld f84_37 rfl rfl rfl rfl ?_
      refine Ew.sr (ls' := [some (zr (some (2, j, 0))), some (zi r), some (zi (nI t)), some (zi (nI t))]) f84_38 rfl rfl (Nat.le_of_ble_eq_true rfl) rfl rfl ?_
      refine Ew.iinc (v := nI (t + 1)) (ls' := [some (zr (some (2, j, 0))), some (zi r), some (zi (nI t)), some (zi (nI (t + 1)))]) f84_39 rfl (nI_1 _) rfl rfl ?_
      refine Ew.goto f84_42 rfl ?_
      exact h2 (Nat.not_le.mp fun e => c1 ((zle_iff (by decide) nb_t).mpr e)) c2
    · refine Ew.ifc f84_15 rfl rfl (fun _ => ?_) (fun h => absurd (show ((nI 0) : Int32) = 0 by decide) h)
      refine Ew.iinc (v := nI (t + 1)) (ls' := [some (zr (some (2, j, 0))), some (zi r), some (zi ((-4))), some (zi (nI (t + 1)))]) f84_39 rfl (nI_1 _) rfl rfl ?_
      refine Ew.goto f84_42 rfl ?_
      exact h3 (Nat.not_le.mp fun e => c1 ((zle_iff (by decide) nb_t).mpr e)) c2
theorem cHas4 {r : Int32} (hr : ∃ v, v < 16 ∧ r = nI v) {t : Nat} (ht : t < 4) : ((r >>> (nI t &&& 31)) &&& nI 1 = nI 1) ↔ cHas r (nI t) := by
  obtain ⟨v, hv, rfl⟩ := hr
  exact (zhas4 ht hv).trans (cHas_bit (by omega) (by omega)).symm
theorem sp_cVic {d c s j : Nat} {r : Int32} {τ : Nat → Nat → Int32} {w : Nat → Int32} {X : zM} {ρ : Nat → Nat → Int32} {l : Nat → Nat → Int64} {Q : Option zV → zM → Prop} (hj : j < 15) (h : cTI τ ρ w) (hu : cUq τ w) (hn : cNm w) (hr : ∃ v, v < 16 ∧ r = nI v) (k : Q (some (zi (rVic (zw τ w) r))) (OM X 2 j ρ l)) : Ev (d + 2) c s 84 0 [some (zr (some (2, j, 0))), some (zi r), none, none] [] (OM X 2 j ρ l) Q := by
  refine g84_0 hj ?_
  refine loopN (fun t => Ev (d + 2) c s 84 5 [some (zr (some (2, j, 0))), some (zi r), some (zi (rVicL (zw τ w) r t)), some (zi (nI t))] [] (OM X 2 j ρ l) Q) 4 (fun t ht hE => ?_) ?_
  · unfold rVicL at hE
    rcases rVicL_cases (zw τ w) r t with e | ⟨f, hf, e⟩
    · rw [e, if_pos zm4] at hE
      rw [e]
      refine g84_5m (τ := τ) (w := w) hj (by omega) (fun g => by omega) (fun _ g => ?_) (fun _ g => ?_)
      · rw [if_pos ((cHas4 hr ht).mpr g)] at hE; exact hE
      · rw [if_neg (fun q => g ((cHas4 hr ht).mp q))] at hE; exact hE
    · rw [e, if_neg (nI_pos (by omega)), nI_clamp (by omega)] at hE
      rw [e]
      refine g84_5 (τ := τ) (w := w) hj (by omega) (fun g => by omega) (fun _ g q => ?_) (fun _ _ _ => ht) (fun _ _ _ => h) (fun _ _ _ => hu) (fun _ _ _ => by omega) (fun _ _ _ => h) (fun _ _ _ => hu) (fun _ g _ q => ?_) (fun _ g _ q => ?_) (fun _ g => ?_)
      · exact absurd q (by have := nI_pos (n := f) (by omega); intro e; rw [e] at this; exact this (by decide))
      · rw [if_pos ((cHas4 hr ht).mpr g), if_neg (fun e => Int32.not_lt.mpr q ((cCl_lt ht (by omega) hn).mp e))] at hE; exact hE
      · rw [if_pos ((cHas4 hr ht).mpr g), if_pos ((cCl_lt ht (by omega) hn).mpr q)] at hE; exact hE
      · rw [if_neg (fun q => g ((cHas4 hr ht).mp q))] at hE; exact hE
  · show Ev (d + 2) c s 84 5 [some (zr (some (2, j, 0))), some (zi r), some (zi (rVic (zw τ w) r)), some (zi (nI 4))] [] (OM X 2 j ρ l) Q
    rcases rVicL_cases (zw τ w) r 4 with e | ⟨f, hf, e⟩
    · have e : rVic (zw τ w) r = -4 := e
      rw [e] at k ⊢
      exact g84_5m (τ := τ) (w := w) hj (by omega) (fun _ => k) (fun g => by omega) (fun g => by omega)
    · have e : rVic (zw τ w) r = nI f := e
      rw [e] at k ⊢
      exact g84_5 (τ := τ) (w := w) hj (by omega) (fun _ => k) (fun g => by omega) (fun g => by omega) (fun g => by omega) (fun g => by omega) (fun g => by omega) (fun g => by omega) (fun g => by omega) (fun g => by omega) (fun g => by omega) (fun g => by omega)
theorem g69_0 {d c s : Nat} {j : Nat} {X : zM} {ρ : Nat → Nat → Int32} {l : Nat → Nat → Int64} {Q : Option zV → zM → Prop} (hj : j < 15)
    (h1 : Ev d c s 69 4 [some (zr (some (2, j, 0))), some (zi (nI 0)), some (zi (nI 0))] [] (OM X 2 j ρ l) Q) : Ev d c s 69 0 [some (zr (some (2, j, 0))), none, none] [] (OM X 2 j ρ l) Q := by
  refine Ew.op (st' := zi (nI 0) :: _) f69_0 rfl rfl ?_
  refine Ew.sr (ls' := [some (zr (some (2, j, 0))), some (zi (nI 0)), none]) f69_1 rfl rfl (Nat.le_of_ble_eq_true rfl) rfl rfl ?_
  refine Ew.op (st' := zi (nI 0) :: _) f69_2 rfl rfl ?_
  refine Ew.sr (ls' := [some (zr (some (2, j, 0))), some (zi (nI 0)), some (zi (nI 0))]) f69_3 rfl rfl (Nat.le_of_ble_eq_true rfl) rfl rfl ?_
  exact h1
theorem g69_4 {d c s : Nat} {j t : Nat} {z : Int32} {τ : Nat → Nat → Int32} {w : Nat → Int32} {X : zM} {ρ : Nat → Nat → Int32} {l : Nat → Nat → Int64} {Q : Option zV → zM → Prop} (hj : j < 15) (nb_t : t < 5000)
    (h1 : (4 ≤ t) → Q (some (zi z)) (OM X 2 j ρ l))
    (b1 : (t < 4) → t < 4)
    (b2 : (t < 4) → cTI τ ρ w)
    (b3 : (t < 4) → cWt τ w)
    (h2 : (t < 4) → Ev (d + 3) c s 69 4 [some (zr (some (2, j, 0))), some (zi (z ||| (rRing (zw τ w) t))), some (zi (nI (t + 1)))] [] (OM X 2 j ρ l) Q) : Ev (d + 3) c s 69 4 [some (zr (some (2, j, 0))), some (zi z), some (zi (nI t))] [] (OM X 2 j ρ l) Q := by
  refine Ew.ld f69_4 rfl rfl rfl rfl ?_
  refine Ew.op (st' := zi (nI 4) :: _) f69_5 rfl rfl ?_
  refine Ew.icmp f69_6 rfl rfl (fun c1 => ?_) (fun c1 => ?_)
  · refine Ew.ld f69_23 rfl rfl rfl rfl ?_
    refine Ew.ireti f69_24 ?_
    exact h1 ((zle_iff (by decide) nb_t).mp c1)
  · refine Ew.ld f69_9 rfl rfl rfl rfl ?_
    refine Ew.ld f69_10 rfl rfl rfl rfl ?_
    refine Ew.ld f69_11 rfl rfl rfl rfl ?_
    refine Ew.call0 (ls0 := [some (zr (some (2, j, 0))), some (zi (nI t)), none, none, none]) f69_12 rfl (Nat.le_of_ble_eq_true rfl) rfl rfl (Nat.le_of_ble_eq_true rfl) (by show (zsj X.2.2.2.1 2 j 0).1 = _; rw [zsj2 _ hj]; rfl) (Nat.le_of_ble_eq_true rfl) rfl rfl ?_
    refine sp_cRing hj (b1 (Nat.not_le.mp fun e => c1 ((zle_iff (by decide) nb_t).mpr e))) (b2 (Nat.not_le.mp fun e => c1 ((zle_iff (by decide) nb_t).mpr e))) (b3 (Nat.not_le.mp fun e => c1 ((zle_iff (by decide) nb_t).mpr e))) ?_
    show Ev (d + 3) c s 69 15 [some (zr (some (2, j, 0))), some (zi z), some (zi (nI t))] [zi (rRing (zw τ w) t), zi z] (OM X 2 j ρ l) Q
    refine Ew.op (st' := zi (z ||| (rRing (zw τ w) t)) :: _) f69_15 rfl rfl ?_
    refine Ew.sr (ls' := [some (zr (some (2, j, 0))), some (zi (z ||| (rRing (zw τ w) t))), some (zi (nI t))]) f69_16 rfl rfl (Nat.le_of_ble_eq_true rfl) rfl rfl ?_
    refine Ew.iinc (v := nI (t + 1)) (ls' := [some (zr (some (2, j, 0))), some (zi (z ||| (rRing (zw τ w) t))), some (zi (nI (t + 1)))]) f69_17 rfl (nI_1 _) rfl rfl ?_
    refine Ew.goto f69_20 rfl ?_
    exact h2 (Nat.not_le.mp fun e => c1 ((zle_iff (by decide) nb_t).mpr e))
/-- rings by who waits for whom -/
def fRingL (f : Nat → Int32) (t : Nat) : Nat → Int32 → Int32 → Int32
  | 0, _, _ => nI 0
  | n + 1, z, k => if k < 0 then nI 0 else if f k.toNatClampNeg = nI t then z ||| (nI 1 <<< (k &&& 31)) else fRingL f t n (z ||| (nI 1 <<< (k &&& 31))) (f k.toNatClampNeg)
def fRing (f : Nat → Int32) (t : Nat) : Int32 := fRingL f t 4 (nI 0) (nI t)
def fOrL (f : Nat → Int32) : Nat → Int32
  | 0 => nI 0
  | t + 1 => fOrL f t ||| fRing f t
def fRgdL (f : Nat → Int32) : Nat → Int32
  | 0 => nI 0
  | t + 1 => fRgdL f t ||| (if fRing f t = 0 then nI 0 else nI 1 <<< (nI t &&& 31))
def fOf (a b c d : Nat) : Nat → Int32
  | 0 => nI a - 4
  | 1 => nI b - 4
  | 2 => nI c - 4
  | 3 => nI d - 4
  | _ => -4
theorem fRings : ∀ a, a < 8 → ∀ b, b < 8 → ∀ c, c < 8 → ∀ d, d < 8 → fOrL (fOf a b c d) 4 = fRgdL (fOf a b c d) 4 := by decide +kernel
theorem fRing_of {f : Nat → Int32} {ρ : Nat → Nat → Int32} (h : ∀ t, t < 4 → f t = rNext ρ t) {t : Nat} (ht : t < 4) : fRing f t = rRing ρ t := by
  have key : ∀ n z x, (x = -4 ∨ ∃ u, u < 4 ∧ x = nI u) → fRingL f t n z x = rRingL ρ t n z x := by
    intro n
    induction n with
    | zero => intro z x _; rfl
    | succ n ih =>
      intro z x hx
      unfold fRingL rRingL
      rcases hx with rfl | ⟨u, hu, rfl⟩
      · rw [if_pos zm4, if_pos zm4]
      · rw [if_neg (nI_pos (by omega)), if_neg (nI_pos (by omega)), nI_clamp (by omega), h u hu, ih _ _ (rNext_cases ρ u)]
  exact key 4 _ _ (Or.inr ⟨t, ht, rfl⟩)
def cRgL (ρ : Nat → Nat → Int32) : Nat → Int32
  | 0 => nI 0
  | t + 1 => cRgL ρ t ||| rRing ρ t
theorem cRgL_eq (ρ : Nat → Nat → Int32) : cRgL ρ 4 = rRgdL ρ 4 := by
  have num : ∀ t, ∃ a, a < 8 ∧ rNext ρ t = nI a - 4 := by
    intro t
    rcases rNext_cases ρ t with e | ⟨u, hu, e⟩
    · exact ⟨0, by decide, by rw [e]; decide⟩
    · refine ⟨u + 4, by omega, ?_⟩
      rw [e]
      have key : ∀ u, u < 4 → nI u = nI (u + 4) - 4 := by decide
      exact key u hu
  obtain ⟨a, ha, ea⟩ := num 0
  obtain ⟨b, hb, eb⟩ := num 1
  obtain ⟨c, hc, ec⟩ := num 2
  obtain ⟨d, hd, ed⟩ := num 3
  have hf : ∀ t, t < 4 → fOf a b c d t = rNext ρ t := by
    intro t ht
    match t, ht with
    | 0, _ => exact ea.symm
    | 1, _ => exact eb.symm
    | 2, _ => exact ec.symm
    | 3, _ => exact ed.symm
  have r := fun t ht => fRing_of hf (t := t) ht
  have e := fRings a ha b hb c hc d hd
  simp only [fOrL, fRgdL, r 0 (by decide), r 1 (by decide), r 2 (by decide), r 3 (by decide)] at e
  exact e
theorem sp_cRgd {d c s j : Nat} {τ : Nat → Nat → Int32} {w : Nat → Int32} {X : zM} {ρ : Nat → Nat → Int32} {l : Nat → Nat → Int64} {Q : Option zV → zM → Prop} (hj : j < 15) (h : cTI τ ρ w) (hw : cWt τ w) (k : Q (some (zi (rRgdL (zw τ w) 4))) (OM X 2 j ρ l)) : Ev (d + 3) c s 69 0 [some (zr (some (2, j, 0))), none, none] [] (OM X 2 j ρ l) Q := by
  rw [← cRgL_eq] at k
  refine g69_0 hj ?_
  refine loopN (fun t => Ev (d + 3) c s 69 4 [some (zr (some (2, j, 0))), some (zi (cRgL (zw τ w) t)), some (zi (nI t))] [] (OM X 2 j ρ l) Q) 4 (fun t ht hE => ?_) ?_
  · exact g69_4 (τ := τ) (w := w) hj (by omega) (fun g => by omega) (fun _ => ht) (fun _ => h) (fun _ => hw) (fun _ => hE)
  · exact g69_4 (τ := τ) (w := w) hj (by omega) (fun _ => k) (fun g => by omega) (fun g => by omega) (fun g => by omega) (fun g => by omega)
theorem g66_0 {d c s : Nat} {j : Nat} {y : Int32} {τ : Nat → Nat → Int32} {w : Nat → Int32} {X : zM} {ρ : Nat → Nat → Int32} {l : Nat → Nat → Int64} {Q : Option zV → zM → Prop} (hj : j < 15)
    (h1 : (y = nI 0) → Q (some (zi (ρ 0 3))) (OM X 2 j ρ l))
    (b1 : (¬ y = nI 0) → (y = nI 1) → cTI τ ρ w)
    (h2 : (¬ y = nI 0) → (y = nI 1) → Q (some (zi (rThoseL (zw zO w) y 4))) (OM X 2 j ρ l))
    (b2 : (¬ y = nI 0) → (¬ y = nI 1) → (y = nI 2) → cTI τ ρ w)
    (h3 : (¬ y = nI 0) → (¬ y = nI 1) → (y = nI 2) → Q (some (zi (rThoseL (zw zO w) y 4))) (OM X 2 j ρ l))
    (b3 : (¬ y = nI 0) → (¬ y = nI 1) → (¬ y = nI 2) → (y = nI 3) → cTI τ ρ w)
    (h4 : (¬ y = nI 0) → (¬ y = nI 1) → (¬ y = nI 2) → (y = nI 3) → Q (some (zi (rThoseL (zw zO w) y 4))) (OM X 2 j ρ l))
    (b4 : (¬ y = nI 0) → (¬ y = nI 1) → (¬ y = nI 2) → (¬ y = nI 3) → (y = nI 4) → cTI τ ρ w)
    (h5 : (¬ y = nI 0) → (¬ y = nI 1) → (¬ y = nI 2) → (¬ y = nI 3) → (y = nI 4) → Q (some (zi (rThoseL (zw zO w) y 4))) (OM X 2 j ρ l))
    (b5 : (¬ y = nI 0) → (¬ y = nI 1) → (¬ y = nI 2) → (¬ y = nI 3) → (¬ y = nI 4) → (y = nI 5) → cTI τ ρ w)
    (b6 : (¬ y = nI 0) → (¬ y = nI 1) → (¬ y = nI 2) → (¬ y = nI 3) → (¬ y = nI 4) → (y = nI 5) → cWt τ w)
    (h6 : (¬ y = nI 0) → (¬ y = nI 1) → (¬ y = nI 2) → (¬ y = nI 3) → (¬ y = nI 4) → (y = nI 5) → Q (some (zi (rRgdL (zw τ w) 4))) (OM X 2 j ρ l))
    (h7 : (¬ y = nI 0) → (¬ y = nI 1) → (¬ y = nI 2) → (¬ y = nI 3) → (¬ y = nI 4) → (¬ y = nI 5) → (y = nI 6) → Q (some (zi (ρ 0 2))) (OM X 2 j ρ l))
    (h8 : (¬ y = nI 0) → (¬ y = nI 1) → (¬ y = nI 2) → (¬ y = nI 3) → (¬ y = nI 4) → (¬ y = nI 5) → (¬ y = nI 6) → (y = nI 7) → Q (some (zi (ρ 0 5))) (OM X 2 j ρ l))
    (h9 : (¬ y = nI 0) → (¬ y = nI 1) → (¬ y = nI 2) → (¬ y = nI 3) → (¬ y = nI 4) → (¬ y = nI 5) → (¬ y = nI 6) → (¬ y = nI 7) → Q (some (zi ((-1)))) (OM X 2 j ρ l)) : Ev (d + 4) c s 66 0 [some (zr (some (2, j, 0))), some (zi y)] [] (OM X 2 j ρ l) Q := by
  refine Ew.ld f66_0 rfl rfl rfl rfl ?_
  by_cases c1 : y = nI 0
  · refine Ew.tsw (pc' := 48) (x := y) f66_1 (by rw [c1] <;> rfl) ?_
    refine Ew.ld f66_48 rfl rfl rfl rfl ?_
    refine Ew.getiO f66_49 (by rw [zsj2 _ hj]; rfl) rfl ?_
    refine Ew.ireti f66_52 ?_
    exact h1 c1
  by_cases c2 : y = nI 1
  · refine Ew.tsw (pc' := 53) (x := y) f66_1 (by rw [c2] <;> rfl) ?_
    refine Ew.ld f66_53 rfl rfl rfl rfl ?_
    refine Ew.ld f66_54 rfl rfl rfl rfl ?_
    refine Ew.call0 (ls0 := [some (zr (some (2, j, 0))), some (zi y), none, none]) f66_55 rfl (Nat.le_of_ble_eq_true rfl) rfl rfl (Nat.le_of_ble_eq_true rfl) (by show (zsj X.2.2.2.1 2 j 0).1 = _; rw [zsj2 _ hj]; rfl) (Nat.le_of_ble_eq_true rfl) rfl rfl ?_
    refine sp_cAre hj (b1 c1 c2) ?_
    show Ev (d + 4) c s 66 58 [some (zr (some (2, j, 0))), some (zi y)] [zi (rThoseL (zw zO w) y 4)] (OM X 2 j ρ l) Q
    refine Ew.ireti f66_58 ?_
    exact h2 c1 c2
  by_cases c3 : y = nI 2
  · refine Ew.tsw (pc' := 53) (x := y) f66_1 (by rw [c3] <;> rfl) ?_
    refine Ew.ld f66_53 rfl rfl rfl rfl ?_
    refine Ew.ld f66_54 rfl rfl rfl rfl ?_
    refine Ew.call0 (ls0 := [some (zr (some (2, j, 0))), some (zi y), none, none]) f66_55 rfl (Nat.le_of_ble_eq_true rfl) rfl rfl (Nat.le_of_ble_eq_true rfl) (by show (zsj X.2.2.2.1 2 j 0).1 = _; rw [zsj2 _ hj]; rfl) (Nat.le_of_ble_eq_true rfl) rfl rfl ?_
    refine sp_cAre hj (b2 c1 c2 c3) ?_
    show Ev (d + 4) c s 66 58 [some (zr (some (2, j, 0))), some (zi y)] [zi (rThoseL (zw zO w) y 4)] (OM X 2 j ρ l) Q
    refine Ew.ireti f66_58 ?_
    exact h3 c1 c2 c3
  by_cases c4 : y = nI 3
  · refine Ew.tsw (pc' := 53) (x := y) f66_1 (by rw [c4] <;> rfl) ?_
    refine Ew.ld f66_53 rfl rfl rfl rfl ?_
    refine Ew.ld f66_54 rfl rfl rfl rfl ?_
    refine Ew.call0 (ls0 := [some (zr (some (2, j, 0))), some (zi y), none, none]) f66_55 rfl (Nat.le_of_ble_eq_true rfl) rfl rfl (Nat.le_of_ble_eq_true rfl) (by show (zsj X.2.2.2.1 2 j 0).1 = _; rw [zsj2 _ hj]; rfl) (Nat.le_of_ble_eq_true rfl) rfl rfl ?_
    refine sp_cAre hj (b3 c1 c2 c3 c4) ?_
    show Ev (d + 4) c s 66 58 [some (zr (some (2, j, 0))), some (zi y)] [zi (rThoseL (zw zO w) y 4)] (OM X 2 j ρ l) Q
    refine Ew.ireti f66_58 ?_
    exact h4 c1 c2 c3 c4
  by_cases c5 : y = nI 4
  · refine Ew.tsw (pc' := 53) (x := y) f66_1 (by rw [c5] <;> rfl) ?_
    refine Ew.ld f66_53 rfl rfl rfl rfl ?_
    refine Ew.ld f66_54 rfl rfl rfl rfl ?_
    refine Ew.call0 (ls0 := [some (zr (some (2, j, 0))), some (zi y), none, none]) f66_55 rfl (Nat.le_of_ble_eq_true rfl) rfl rfl (Nat.le_of_ble_eq_true rfl) (by show (zsj X.2.2.2.1 2 j 0).1 = _; rw [zsj2 _ hj]; rfl) (Nat.le_of_ble_eq_true rfl) rfl rfl ?_
    refine sp_cAre hj (b4 c1 c2 c3 c4 c5) ?_
    show Ev (d + 4) c s 66 58 [some (zr (some (2, j, 0))), some (zi y)] [zi (rThoseL (zw zO w) y 4)] (OM X 2 j ρ l) Q
    refine Ew.ireti f66_58 ?_
    exact h5 c1 c2 c3 c4 c5
  by_cases c6 : y = nI 5
  · refine Ew.tsw (pc' := 59) (x := y) f66_1 (by rw [c6] <;> rfl) ?_
    refine Ew.ld f66_59 rfl rfl rfl rfl ?_
    refine Ew.call0 (ls0 := [some (zr (some (2, j, 0))), none, none]) f66_60 rfl (Nat.le_of_ble_eq_true rfl) rfl rfl (Nat.le_of_ble_eq_true rfl) (by show (zsj X.2.2.2.1 2 j 0).1 = _; rw [zsj2 _ hj]; rfl) (Nat.le_of_ble_eq_true rfl) rfl rfl ?_
    refine sp_cRgd hj (b5 c1 c2 c3 c4 c5 c6) (b6 c1 c2 c3 c4 c5 c6) ?_
    show Ev (d + 4) c s 66 63 [some (zr (some (2, j, 0))), some (zi y)] [zi (rRgdL (zw τ w) 4)] (OM X 2 j ρ l) Q
    refine Ew.ireti f66_63 ?_
    exact h6 c1 c2 c3 c4 c5 c6
  by_cases c7 : y = nI 6
  · refine Ew.tsw (pc' := 64) (x := y) f66_1 (by rw [c7] <;> rfl) ?_
    refine Ew.ld f66_64 rfl rfl rfl rfl ?_
    refine Ew.getiO f66_65 (by rw [zsj2 _ hj]; rfl) rfl ?_
    refine Ew.ireti f66_68 ?_
    exact h7 c1 c2 c3 c4 c5 c6 c7
  by_cases c8 : y = nI 7
  · refine Ew.tsw (pc' := 69) (x := y) f66_1 (by rw [c8] <;> rfl) ?_
    refine Ew.ld f66_69 rfl rfl rfl rfl ?_
    refine Ew.getiO f66_70 (by rw [zsj2 _ hj]; rfl) rfl ?_
    refine Ew.ireti f66_73 ?_
    exact h8 c1 c2 c3 c4 c5 c6 c7 c8
  refine Ew.tsw (x := y) f66_1 (ztw_o (m := 0) (n := 8) (zno (by decide) (fun k hk => by rcases (show k = 0 ∨ k = 1 ∨ k = 2 ∨ k = 3 ∨ k = 4 ∨ k = 5 ∨ k = 6 ∨ k = 7 by omega) with rfl | rfl | rfl | rfl | rfl | rfl | rfl | rfl <;> first | exact c1 | exact c2 | exact c3 | exact c4 | exact c5 | exact c6 | exact c7 | exact c8)) rfl rfl rfl) ?_
  refine Ew.op (st' := zi ((-1)) :: _) f66_74 rfl rfl ?_
  refine Ew.ireti f66_75 ?_
  exact h9 c1 c2 c3 c4 c5 c6 c7 c8
theorem g64_0 {d c s : Nat} {j g : Nat} {y : Int32} {τ : Nat → Nat → Int32} {w : Nat → Int32} {X : zM} {ρ : Nat → Nat → Int32} {l : Nat → Nat → Int64} {Q : Option zV → zM → Prop} (hj : j < 15)
    (b1 : (y = nI 0) → g < 6)
    (h1 : (y = nI 0) → Q (some (zi ((ρ 3 g) + (nI 1000000)))) (OM X 2 j ρ l))
    (b2 : (¬ y = nI 0) → (y = nI 1) → g < 6)
    (h2 : (¬ y = nI 0) → (y = nI 1) → Q (some (zi (ρ 4 g))) (OM X 2 j ρ l))
    (b3 : (¬ y = nI 0) → (¬ y = nI 1) → (y = nI 2) → g < 6)
    (h3 : (¬ y = nI 0) → (¬ y = nI 1) → (y = nI 2) → Q (some (zi (ρ 5 g))) (OM X 2 j ρ l))
    (h4 : (¬ y = nI 0) → (¬ y = nI 1) → (¬ y = nI 2) → (y = nI 3) → (cHas (ρ 0 2) (nI g)) → Q (some (zi (nI 1))) (OM X 2 j ρ l))
    (h5 : (¬ y = nI 0) → (¬ y = nI 1) → (¬ y = nI 2) → (y = nI 3) → (¬ (cHas (ρ 0 2) (nI g))) → Q (some (zi (nI 0))) (OM X 2 j ρ l))
    (b4 : (¬ y = nI 0) → (¬ y = nI 1) → (¬ y = nI 2) → (¬ y = nI 3) → (y = nI 4) → cTI τ ρ w)
    (h6 : (¬ y = nI 0) → (¬ y = nI 1) → (¬ y = nI 2) → (¬ y = nI 3) → (y = nI 4) → Q (some (zi (rWtrL (zw τ w) (nI g) 4))) (OM X 2 j ρ l))
    (h7 : (¬ y = nI 0) → (¬ y = nI 1) → (¬ y = nI 2) → (¬ y = nI 3) → (¬ y = nI 4) → Q (some (zi ((-1)))) (OM X 2 j ρ l)) : Ev (d + 2) c s 64 0 [some (zr (some (2, j, 0))), some (zi (nI g)), some (zi y)] [] (OM X 2 j ρ l) Q := by
  refine Ew.ld f64_0 rfl rfl rfl rfl ?_
  by_cases c1 : y = nI 0
  · refine Ew.tsw (pc' := 36) (x := y) f64_1 (by rw [c1] <;> rfl) ?_
    refine Ew.ld f64_36 rfl rfl rfl rfl ?_
    refine Ew.getp (v := some (2, j, 3)) f64_37 (by rw [zsj2 _ hj]; rfl) rfl rfl ?_
    refine Ew.ld f64_40 rfl rfl rfl rfl ?_
    refine Ew.ialdnO f64_41 (by rw [zsj2 _ hj]; rfl) (by rw [zsj2 _ hj]; exact (b1 c1)) (by rw [zsj2 _ hj]; decide) rfl ?_
    refine Ew.op (st' := zi (nI 1000000) :: _) f64_42 rfl rfl ?_
    refine Ew.op (st' := zi ((ρ 3 g) + (nI 1000000)) :: _) f64_44 rfl rfl ?_
    refine Ew.ireti f64_45 ?_
    exact h1 c1
  by_cases c2 : y = nI 1
  · refine Ew.tsw (pc' := 46) (x := y) f64_1 (by rw [c2] <;> rfl) ?_
    refine Ew.ld f64_46 rfl rfl rfl rfl ?_
    refine Ew.getp (v := some (2, j, 4)) f64_47 (by rw [zsj2 _ hj]; rfl) rfl rfl ?_
    refine Ew.ld f64_50 rfl rfl rfl rfl ?_
    refine Ew.ialdnO f64_51 (by rw [zsj2 _ hj]; rfl) (by rw [zsj2 _ hj]; exact (b2 c1 c2)) (by rw [zsj2 _ hj]; decide) rfl ?_
    refine Ew.ireti f64_52 ?_
    exact h2 c1 c2
  by_cases c3 : y = nI 2
  · refine Ew.tsw (pc' := 53) (x := y) f64_1 (by rw [c3] <;> rfl) ?_
    refine Ew.ld f64_53 rfl rfl rfl rfl ?_
    refine Ew.getp (v := some (2, j, 5)) f64_54 (by rw [zsj2 _ hj]; rfl) rfl rfl ?_
    refine Ew.ld f64_57 rfl rfl rfl rfl ?_
    refine Ew.ialdnO f64_58 (by rw [zsj2 _ hj]; rfl) (by rw [zsj2 _ hj]; exact (b3 c1 c2 c3)) (by rw [zsj2 _ hj]; decide) rfl ?_
    refine Ew.ireti f64_59 ?_
    exact h3 c1 c2 c3
  by_cases c4 : y = nI 3
  · refine Ew.tsw (pc' := 60) (x := y) f64_1 (by rw [c4] <;> rfl) ?_
    refine Ew.ld f64_60 rfl rfl rfl rfl ?_
    refine Ew.getiO f64_61 (by rw [zsj2 _ hj]; rfl) rfl ?_
    refine Ew.ld f64_64 rfl rfl rfl rfl ?_
    refine Ew.call0 (ls0 := [some (zi (ρ 0 2)), some (zi (nI g))]) f64_65 rfl (Nat.le_of_ble_eq_true rfl) rfl rfl (Nat.le_of_ble_eq_true rfl) trivial (Nat.le_of_ble_eq_true rfl) rfl rfl ?_
    refine sp_cHas (fun c5 => ?_) (fun c5 => ?_)
    · refine Ew.ifc f64_68 rfl rfl (fun h => absurd h (show ¬ (((nI 1) : Int32) = 0) by decide)) (fun _ => ?_)
      refine Ew.op (st' := zi (nI 1) :: _) f64_71 rfl rfl ?_
      refine Ew.goto f64_72 rfl ?_
      refine Ew.ireti f64_76 ?_
      exact h4 c1 c2 c3 c4 c5
    · refine Ew.ifc f64_68 rfl rfl (fun _ => ?_) (fun h => absurd (show ((nI 0) : Int32) = 0 by decide) h)
      refine Ew.op (st' := zi (nI 0) :: _) f64_75 rfl rfl ?_
      refine Ew.ireti f64_76 ?_
      exact h5 c1 c2 c3 c4 c5
  by_cases c6 : y = nI 4
  · refine Ew.tsw (pc' := 77) (x := y) f64_1 (by rw [c6] <;> rfl) ?_
    refine Ew.ld f64_77 rfl rfl rfl rfl ?_
    refine Ew.ld f64_78 rfl rfl rfl rfl ?_
    refine Ew.call0 (ls0 := [some (zr (some (2, j, 0))), some (zi (nI g)), none, none]) f64_79 rfl (Nat.le_of_ble_eq_true rfl) rfl rfl (Nat.le_of_ble_eq_true rfl) (by show (zsj X.2.2.2.1 2 j 0).1 = _; rw [zsj2 _ hj]; rfl) (Nat.le_of_ble_eq_true rfl) rfl rfl ?_
    refine sp_cWtr hj (b4 c1 c2 c3 c4 c6) ?_
    show Ev (d + 2) c s 64 82 [some (zr (some (2, j, 0))), some (zi (nI g)), some (zi y)] [zi (rWtrL (zw τ w) (nI g) 4)] (OM X 2 j ρ l) Q
    refine Ew.ireti f64_82 ?_
    exact h6 c1 c2 c3 c4 c6
  refine Ew.tsw (x := y) f64_1 (ztw_o (m := 0) (n := 5) (zno (by decide) (fun k hk => by rcases (show k = 0 ∨ k = 1 ∨ k = 2 ∨ k = 3 ∨ k = 4 by omega) with rfl | rfl | rfl | rfl | rfl <;> first | exact c1 | exact c2 | exact c3 | exact c4 | exact c6)) rfl rfl rfl) ?_
  refine Ew.op (st' := zi ((-1)) :: _) f64_83 rfl rfl ?_
  refine Ew.ireti f64_84 ?_
  exact h7 c1 c2 c3 c4 c6
theorem g65_0 {d c s : Nat} {j t : Nat} {y : Int32} {τ : Nat → Nat → Int32} {w : Nat → Int32} {X : zM} {ρ : Nat → Nat → Int32} {l : Nat → Nat → Int64} {Q : Option zV → zM → Prop} (hj : j < 15)
    (b1 : (y = nI 0) → t < 4)
    (h1 : (y = nI 0) → Q (some (zi (ρ 6 t))) (OM X 2 j ρ l))
    (b2 : (¬ y = nI 0) → (y = nI 1) → t < 4)
    (h2 : (¬ y = nI 0) → (y = nI 1) → Q (some (zi (ρ 7 t))) (OM X 2 j ρ l))
    (b3 : (¬ y = nI 0) → (¬ y = nI 1) → (y = nI 2) → t < 4)
    (b4 : (¬ y = nI 0) → (¬ y = nI 1) → (y = nI 2) → cTI τ ρ w)
    (b5 : (¬ y = nI 0) → (¬ y = nI 1) → (y = nI 2) → cUq τ w)
    (h3 : (¬ y = nI 0) → (¬ y = nI 1) → (y = nI 2) → Q (some (zi (rSet τ t (rD (zw τ w) t)))) (OM X 2 j ρ l))
    (b6 : (¬ y = nI 0) → (¬ y = nI 1) → (¬ y = nI 2) → (y = nI 3) → t < 4)
    (h4 : (¬ y = nI 0) → (¬ y = nI 1) → (¬ y = nI 2) → (y = nI 3) → Q (some (zi (ρ 8 t))) (OM X 2 j ρ l))
    (b7 : (¬ y = nI 0) → (¬ y = nI 1) → (¬ y = nI 2) → (¬ y = nI 3) → (y = nI 4) → t < 4)
    (h5 : (¬ y = nI 0) → (¬ y = nI 1) → (¬ y = nI 2) → (¬ y = nI 3) → (y = nI 4) → Q (some (zi (ρ 9 t))) (OM X 2 j ρ l))
    (b8 : (¬ y = nI 0) → (¬ y = nI 1) → (¬ y = nI 2) → (¬ y = nI 3) → (¬ y = nI 4) → (y = nI 5) → t < 4)
    (h6 : (¬ y = nI 0) → (¬ y = nI 1) → (¬ y = nI 2) → (¬ y = nI 3) → (¬ y = nI 4) → (y = nI 5) → Q (some (zi (ρ 10 t))) (OM X 2 j ρ l))
    (b9 : (¬ y = nI 0) → (¬ y = nI 1) → (¬ y = nI 2) → (¬ y = nI 3) → (¬ y = nI 4) → (¬ y = nI 5) → (y = nI 6) → t < 4)
    (b10 : (¬ y = nI 0) → (¬ y = nI 1) → (¬ y = nI 2) → (¬ y = nI 3) → (¬ y = nI 4) → (¬ y = nI 5) → (y = nI 6) → cTI τ ρ w)
    (b11 : (¬ y = nI 0) → (¬ y = nI 1) → (¬ y = nI 2) → (¬ y = nI 3) → (¬ y = nI 4) → (¬ y = nI 5) → (y = nI 6) → cWt τ w)
    (h7 : (¬ y = nI 0) → (¬ y = nI 1) → (¬ y = nI 2) → (¬ y = nI 3) → (¬ y = nI 4) → (¬ y = nI 5) → (y = nI 6) → ((rRing (zw τ w) t) = 0) → Q (some (zi (nI 0))) (OM X 2 j ρ l))
    (h8 : (¬ y = nI 0) → (¬ y = nI 1) → (¬ y = nI 2) → (¬ y = nI 3) → (¬ y = nI 4) → (¬ y = nI 5) → (y = nI 6) → (¬ (rRing (zw τ w) t) = 0) → Q (some (zi (nI 1))) (OM X 2 j ρ l))
    (h9 : (¬ y = nI 0) → (¬ y = nI 1) → (¬ y = nI 2) → (¬ y = nI 3) → (¬ y = nI 4) → (¬ y = nI 5) → (¬ y = nI 6) → Q (some (zi ((-1)))) (OM X 2 j ρ l)) : Ev (d + 3) c s 65 0 [some (zr (some (2, j, 0))), some (zi (nI t)), some (zi y)] [] (OM X 2 j ρ l) Q := by
  refine Ew.ld f65_0 rfl rfl rfl rfl ?_
  by_cases c1 : y = nI 0
  · refine Ew.tsw (pc' := 44) (x := y) f65_1 (by rw [c1] <;> rfl) ?_
    refine Ew.ld f65_44 rfl rfl rfl rfl ?_
    refine Ew.getp (v := some (2, j, 6)) f65_45 (by rw [zsj2 _ hj]; rfl) rfl rfl ?_
    refine Ew.ld f65_48 rfl rfl rfl rfl ?_
    refine Ew.ialdnO f65_49 (by rw [zsj2 _ hj]; rfl) (by rw [zsj2 _ hj]; exact (b1 c1)) (by rw [zsj2 _ hj]; decide) rfl ?_
    refine Ew.ireti f65_50 ?_
    exact h1 c1
  by_cases c2 : y = nI 1
  · refine Ew.tsw (pc' := 51) (x := y) f65_1 (by rw [c2] <;> rfl) ?_
    refine Ew.ld f65_51 rfl rfl rfl rfl ?_
    refine Ew.getp (v := some (2, j, 7)) f65_52 (by rw [zsj2 _ hj]; rfl) rfl rfl ?_
    refine Ew.ld f65_55 rfl rfl rfl rfl ?_
    refine Ew.ialdnO f65_56 (by rw [zsj2 _ hj]; rfl) (by rw [zsj2 _ hj]; exact (b2 c1 c2)) (by rw [zsj2 _ hj]; decide) rfl ?_
    refine Ew.ireti f65_57 ?_
    exact h2 c1 c2
  by_cases c3 : y = nI 2
  · refine Ew.tsw (pc' := 58) (x := y) f65_1 (by rw [c3] <;> rfl) ?_
    refine Ew.ld f65_58 rfl rfl rfl rfl ?_
    refine Ew.ld f65_59 rfl rfl rfl rfl ?_
    refine Ew.call0 (ls0 := [some (zr (some (2, j, 0))), some (zi (nI t)), none, none]) f65_60 rfl (Nat.le_of_ble_eq_true rfl) rfl rfl (Nat.le_of_ble_eq_true rfl) (by show (zsj X.2.2.2.1 2 j 0).1 = _; rw [zsj2 _ hj]; rfl) (Nat.le_of_ble_eq_true rfl) rfl rfl ?_
    refine sp_cHeld hj (b3 c1 c2 c3) (b4 c1 c2 c3) (b5 c1 c2 c3) ?_
    show Ev (d + 3) c s 65 63 [some (zr (some (2, j, 0))), some (zi (nI t)), some (zi y)] [zi (rSet τ t (rD (zw τ w) t))] (OM X 2 j ρ l) Q
    refine Ew.ireti f65_63 ?_
    exact h3 c1 c2 c3
  by_cases c4 : y = nI 3
  · refine Ew.tsw (pc' := 64) (x := y) f65_1 (by rw [c4] <;> rfl) ?_
    refine Ew.ld f65_64 rfl rfl rfl rfl ?_
    refine Ew.getp (v := some (2, j, 8)) f65_65 (by rw [zsj2 _ hj]; rfl) rfl rfl ?_
    refine Ew.ld f65_68 rfl rfl rfl rfl ?_
    refine Ew.ialdnO f65_69 (by rw [zsj2 _ hj]; rfl) (by rw [zsj2 _ hj]; exact (b6 c1 c2 c3 c4)) (by rw [zsj2 _ hj]; decide) rfl ?_
    refine Ew.ireti f65_70 ?_
    exact h4 c1 c2 c3 c4
  by_cases c5 : y = nI 4
  · refine Ew.tsw (pc' := 71) (x := y) f65_1 (by rw [c5] <;> rfl) ?_
    refine Ew.ld f65_71 rfl rfl rfl rfl ?_
    refine Ew.getp (v := some (2, j, 9)) f65_72 (by rw [zsj2 _ hj]; rfl) rfl rfl ?_
    refine Ew.ld f65_75 rfl rfl rfl rfl ?_
    refine Ew.ialdnO f65_76 (by rw [zsj2 _ hj]; rfl) (by rw [zsj2 _ hj]; exact (b7 c1 c2 c3 c4 c5)) (by rw [zsj2 _ hj]; decide) rfl ?_
    refine Ew.ireti f65_77 ?_
    exact h5 c1 c2 c3 c4 c5
  by_cases c6 : y = nI 5
  · refine Ew.tsw (pc' := 78) (x := y) f65_1 (by rw [c6] <;> rfl) ?_
    refine Ew.ld f65_78 rfl rfl rfl rfl ?_
    refine Ew.getp (v := some (2, j, 10)) f65_79 (by rw [zsj2 _ hj]; rfl) rfl rfl ?_
    refine Ew.ld f65_82 rfl rfl rfl rfl ?_
    refine Ew.ialdnO f65_83 (by rw [zsj2 _ hj]; rfl) (by rw [zsj2 _ hj]; exact (b8 c1 c2 c3 c4 c5 c6)) (by rw [zsj2 _ hj]; decide) rfl ?_
    refine Ew.ireti f65_84 ?_
    exact h6 c1 c2 c3 c4 c5 c6
  by_cases c7 : y = nI 6
  · refine Ew.tsw (pc' := 85) (x := y) f65_1 (by rw [c7] <;> rfl) ?_
    refine Ew.ld f65_85 rfl rfl rfl rfl ?_
    refine Ew.ld f65_86 rfl rfl rfl rfl ?_
    refine Ew.call0 (ls0 := [some (zr (some (2, j, 0))), some (zi (nI t)), none, none, none]) f65_87 rfl (Nat.le_of_ble_eq_true rfl) rfl rfl (Nat.le_of_ble_eq_true rfl) (by show (zsj X.2.2.2.1 2 j 0).1 = _; rw [zsj2 _ hj]; rfl) (Nat.le_of_ble_eq_true rfl) rfl rfl ?_
    refine sp_cRing hj (b9 c1 c2 c3 c4 c5 c6 c7) (b10 c1 c2 c3 c4 c5 c6 c7) (b11 c1 c2 c3 c4 c5 c6 c7) ?_
    show Ev (d + 3) c s 65 90 [some (zr (some (2, j, 0))), some (zi (nI t)), some (zi y)] [zi (rRing (zw τ w) t)] (OM X 2 j ρ l) Q
    refine Ew.ifc f65_90 rfl rfl (fun c8 => ?_) (fun c8 => ?_)
    · refine Ew.op (st' := zi (nI 0) :: _) f65_97 rfl rfl ?_
      refine Ew.ireti f65_98 ?_
      exact h7 c1 c2 c3 c4 c5 c6 c7 c8
    · refine Ew.op (st' := zi (nI 1) :: _) f65_93 rfl rfl ?_
      refine Ew.goto f65_94 rfl ?_
      refine Ew.ireti f65_98 ?_
      exact h8 c1 c2 c3 c4 c5 c6 c7 c8
  refine Ew.tsw (x := y) f65_1 (ztw_o (m := 0) (n := 7) (zno (by decide) (fun k hk => by rcases (show k = 0 ∨ k = 1 ∨ k = 2 ∨ k = 3 ∨ k = 4 ∨ k = 5 ∨ k = 6 by omega) with rfl | rfl | rfl | rfl | rfl | rfl | rfl <;> first | exact c1 | exact c2 | exact c3 | exact c4 | exact c5 | exact c6 | exact c7)) rfl rfl rfl) ?_
  refine Ew.op (st' := zi ((-1)) :: _) f65_99 rfl rfl ?_
  refine Ew.ireti f65_100 ?_
  exact h9 c1 c2 c3 c4 c5 c6 c7
