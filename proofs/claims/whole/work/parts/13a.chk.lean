/-! every method is checked -/
def zkk (m : Nat) : Bool := decide ((zY m).cls = zcn (zo m)) && (zC m).all (zck m)
set_option maxRecDepth 1000000 in
theorem zkc0 : (List.range' 0 25).all zkk = true := by decide +kernel
set_option maxRecDepth 1000000 in
theorem zkc1 : (List.range' 25 25).all zkk = true := by decide +kernel
set_option maxRecDepth 1000000 in
theorem zkc2 : (List.range' 50 29).all zkk = true := by decide +kernel
set_option maxRecDepth 1000000 in
theorem zkc3 : (List.range' 79 19).all zkk = true := by decide +kernel
