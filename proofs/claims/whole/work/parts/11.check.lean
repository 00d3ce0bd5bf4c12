/-! every instruction's links stand in the claim's tables -/
def zTs : List Jvm.Cond := lw_tbl.filter goodWord
def zNw : List Jvm.Cond := (zfN.map (fun y => Jvm.Cond.fieldLinkNest (zcn y.1) y.2.1 ((zcl y.2.2.1).2.1 y.2.2.2.1).1 ((zcl y.2.2.1).2.1 y.2.2.2.1).2.1 ((zcl y.2.2.1).2.1 y.2.2.2.1).2.2.1 y.2.2.2.2.2)) ++ (zmN.map (fun y => Jvm.Cond.methodLinkNest (zcn y.1) y.2.1 (zY y.2.2.1) y.2.2.2.2)) ++ [Jvm.Cond.castable "[I" "java/lang/Cloneable"]
def zAO : List String := ["GateTable$Script", "GateTable$Trace", "GateTable$Table", "GateTable$Sheet"]
theorem zIn {w : Jvm.Cond} (p : Nat) (h : lw_tbl[p]? = some w) (g : goodWord w = true) : w ∈ zTs := List.mem_filter.mpr ⟨List.mem_of_getElem? h, g⟩
theorem zTs_good : ∀ w ∈ zTs, (w.onTables && w.keeps) = true ∨ ∃ ty, w = .arrayClass ty := fun w h => good_of_word (List.mem_filter.mp h).2
theorem zTs_in : ∀ w ∈ zTs, w ∈ lw_tbl := fun w h => (List.mem_filter.mp h).1
theorem zNw_ok : ∀ w ∈ zNw, znw w := by
  intro w h
  rcases List.mem_append.mp h with h | h
  · rcases List.mem_append.mp h with h | h
    · obtain ⟨y, -, rfl⟩ := List.mem_map.mp h
      exact Or.inl ⟨_, _, _, _, _, _, rfl⟩
    · obtain ⟨y, -, rfl⟩ := List.mem_map.mp h
      exact Or.inr (Or.inl ⟨_, _, _, _, rfl⟩)
  · exact Or.inr (Or.inr ⟨_, _, List.mem_singleton.mp h⟩)
set_option maxRecDepth 100000 in
theorem zfL_c : zfL.all (fun y => decide (lw_tbl[y.2.2.2.2]? = some (Jvm.Cond.fieldLink (zcn y.1) y.2.1 ((zcl y.2.2.1).2.1 y.2.2.2.1).1 ((zcl y.2.2.1).2.1 y.2.2.2.1).2.1 ((zcl y.2.2.1).2.1 y.2.2.2.1).2.2.1))) = true := by decide +kernel
set_option maxRecDepth 100000 in
theorem zfN_c : zfN.all (fun y => decide (lw_tbl[y.2.2.2.2.1]? = some (Jvm.Cond.fieldLinkNest (zcn y.1) y.2.1 ((zcl y.2.2.1).2.1 y.2.2.2.1).1 ((zcl y.2.2.1).2.1 y.2.2.2.1).2.1 ((zcl y.2.2.1).2.1 y.2.2.2.1).2.2.1 y.2.2.2.2.2))) = true := by decide +kernel
set_option maxRecDepth 100000 in
theorem zmL_c : zmL.all (fun y => decide (lw_tbl[y.2.2.2]? = some (Jvm.Cond.methodLink (zcn y.1) y.2.1 (zY y.2.2.1)))) = true := by decide +kernel
set_option maxRecDepth 100000 in
theorem zmN_c : zmN.all (fun y => decide (lw_tbl[y.2.2.2.1]? = some (Jvm.Cond.methodLinkNest (zcn y.1) y.2.1 (zY y.2.2.1) y.2.2.2.2))) = true := by decide +kernel
set_option maxRecDepth 100000 in
theorem zcC_c : zcC.all (fun y => decide (lw_tbl[y.2.2.2]? = some (Jvm.Cond.classLink (zcn y.1) y.2.1 (zcl y.2.2.1).1))) = true := by decide +kernel
def zaC (tag : Nat) : String := (zcl (zel tag - 1)).1
set_option maxRecDepth 100000 in
theorem zcR_c : zcR.all (fun y => decide (lw_tbl[y.2.2.2]? = some (Jvm.Cond.classLink (zcn y.1) y.2.1 (zaC y.2.2.1))) && decide (0 < zel y.2.2.1) && decide (zaC y.2.2.1 ∈ zAO)) = true := by decide +kernel
set_option maxRecDepth 100000 in
theorem zcA_c : zcA.all (fun y => decide (lw_tbl[y.2.2.2]? = some (Jvm.Cond.classLink (zcn y.1) y.2.1 ("[" ++ (zaf y.2.2.1).toString))) && decide (y.2.2.1 = 20 ∨ y.2.2.1 = 22)) = true := by decide +kernel
set_option maxRecDepth 100000 in
theorem zkI_c : zkI.all (fun y => decide (lw_tbl[y.2.2.2]? = some (Jvm.Cond.constant (zcn y.1) y.2.1 (Int32.ofInt y.2.2.1)))) = true := by decide +kernel
set_option maxRecDepth 100000 in
theorem zkL_c : zkL.all (fun y => decide (lw_tbl[y.2.2.2]? = some (Jvm.Cond.constantLong (zcn y.1) y.2.1 (Int64.ofInt y.2.2.1)))) = true := by decide +kernel
/-- method facts: the code, its class initialised, static or not, selected, its parameters -/
def zmf (y : Nat × Nat × Nat × Nat × Nat × Nat × Nat) : Bool := Nat.beq y.2.2.1 (zpl y.1) && (match lw_tbl[zpl y.1]? with | some (.code m _ n t) => decide (m = zY y.1) && decide (n = zX y.1) && decide (t = zT y.1) | _ => false) && decide (lw_tbl[y.2.2.2.1]? = some (Jvm.Cond.initialized (zY y.1).cls)) && decide (lw_tbl[y.2.2.2.2.1]? = some (if y.2.1 = 1 then Jvm.Cond.static (zY y.1) else Jvm.Cond.instanceMethod (zY y.1))) && (decide (y.2.2.2.2.2.1 = 99999) || decide (lw_tbl[y.2.2.2.2.2.1]? = some (Jvm.Cond.selects (zY y.1).cls (zY y.1) (zY y.1)))) && decide ((zY y.1).cls ≠ "java/lang/invoke/MethodHandle" ∧ (zY y.1).cls ≠ "java/lang/invoke/VarHandle") && decide ((parseMethodDescriptor (zY y.1).desc).map (fun d => d.parameters.length) = some y.2.2.2.2.2.2) && plainName (zY y.1).cls && decide (zX y.1 ≤ 40)
