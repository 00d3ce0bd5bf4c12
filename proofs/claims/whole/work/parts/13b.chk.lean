/-! every method is checked (2) -/
set_option maxRecDepth 1000000 in
theorem zkc4 : (List.range' 98 29).all zkk = true := by decide +kernel
set_option maxRecDepth 1000000 in
theorem zkc5 : (List.range' 127 24).all zkk = true := by decide +kernel
set_option maxRecDepth 1000000 in
theorem zkc6 : (List.range' 151 17).all zkk = true := by decide +kernel
set_option maxRecDepth 1000000 in
theorem zkc7 : (List.range' 168 20).all zkk = true := by decide +kernel
