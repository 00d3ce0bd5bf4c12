/-! the law is checked (1) -/
set_option maxRecDepth 1000000 in
theorem zkl0 : ((zc250.drop 0).take 64).all (zck 250) = true := by decide +kernel
set_option maxRecDepth 1000000 in
theorem zkl1 : ((zc250.drop 64).take 64).all (zck 250) = true := by decide +kernel
set_option maxRecDepth 1000000 in
theorem zkl2 : ((zc250.drop 128).take 64).all (zck 250) = true := by decide +kernel
set_option maxRecDepth 1000000 in
theorem zkl3 : ((zc250.drop 192).take 64).all (zck 250) = true := by decide +kernel
set_option maxRecDepth 1000000 in
theorem zkl4 : ((zc250.drop 256).take 64).all (zck 250) = true := by decide +kernel
set_option maxRecDepth 1000000 in
theorem zkl5 : ((zc250.drop 320).take 64).all (zck 250) = true := by decide +kernel
