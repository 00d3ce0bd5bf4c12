/-! the law is checked (2) -/
set_option maxRecDepth 1000000 in
theorem zkl6 : ((zc250.drop 384).take 64).all (zck 250) = true := by decide +kernel
set_option maxRecDepth 1000000 in
theorem zkl7 : ((zc250.drop 448).take 64).all (zck 250) = true := by decide +kernel
set_option maxRecDepth 1000000 in
theorem zkl8 : ((zc250.drop 512).take 64).all (zck 250) = true := by decide +kernel
set_option maxRecDepth 1000000 in
theorem zkl9 : ((zc250.drop 576).take 64).all (zck 250) = true := by decide +kernel
set_option maxRecDepth 1000000 in
theorem zkl10 : ((zc250.drop 640).take 64).all (zck 250) = true := by decide +kernel
set_option maxRecDepth 1000000 in
theorem zkl11 : ((zc250.drop 704).take 64).all (zck 250) = true := by decide +kernel
