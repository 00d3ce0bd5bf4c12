/-! the law is checked (2) -/
set_option maxRecDepth 1000000 in
theorem zkl6 : ((zc249.drop 384).take 64).all (zck 249) = true := by decide +kernel
set_option maxRecDepth 1000000 in
theorem zkl7 : ((zc249.drop 448).take 64).all (zck 249) = true := by decide +kernel
set_option maxRecDepth 1000000 in
theorem zkl8 : ((zc249.drop 512).take 64).all (zck 249) = true := by decide +kernel
set_option maxRecDepth 1000000 in
theorem zkl9 : ((zc249.drop 576).take 64).all (zck 249) = true := by decide +kernel
set_option maxRecDepth 1000000 in
theorem zkl10 : ((zc249.drop 640).take 64).all (zck 249) = true := by decide +kernel
set_option maxRecDepth 1000000 in
theorem zkl11 : ((zc249.drop 704).take 64).all (zck 249) = true := by decide +kernel
