/-! every method is checked (3) -/
set_option maxRecDepth 1000000 in
theorem zkc8 : (List.range' 188 20).all zkk = true := by decide +kernel
set_option maxRecDepth 1000000 in
theorem zkc9 : (List.range' 208 16).all zkk = true := by decide +kernel
set_option maxRecDepth 1000000 in
theorem zkc10 : (List.range' 224 14).all zkk = true := by decide +kernel
set_option maxRecDepth 1000000 in
theorem zkc11 : (List.range' 238 12).all zkk = true := by decide +kernel
