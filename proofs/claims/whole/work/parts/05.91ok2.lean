set_option maxRecDepth 100000 in
theorem sm_mk_10 : sm_mka 100 ((((((((((((sm_mkl.drop 10).drop 10).drop 10).drop 10).drop 10).drop 10).drop 10).drop 10).drop 10).drop 10)).take 10) sm_mk = true := by decide +kernel
set_option maxRecDepth 100000 in
theorem sm_mk_11 : sm_mka 110 (((((((((((((sm_mkl.drop 10).drop 10).drop 10).drop 10).drop 10).drop 10).drop 10).drop 10).drop 10).drop 10).drop 10)).take 10) sm_mk = true := by decide +kernel
set_option maxRecDepth 100000 in
theorem sm_mk_12 : sm_mka 120 ((((((((((((((sm_mkl.drop 10).drop 10).drop 10).drop 10).drop 10).drop 10).drop 10).drop 10).drop 10).drop 10).drop 10).drop 10)).take 10) sm_mk = true := by decide +kernel
set_option maxRecDepth 100000 in
theorem sm_mk_13 : sm_mka 130 (((((((((((((((sm_mkl.drop 10).drop 10).drop 10).drop 10).drop 10).drop 10).drop 10).drop 10).drop 10).drop 10).drop 10).drop 10).drop 10)).take 10) sm_mk = true := by decide +kernel
set_option maxRecDepth 100000 in
theorem sm_mk_14 : sm_mka 140 ((((((((((((((((sm_mkl.drop 10).drop 10).drop 10).drop 10).drop 10).drop 10).drop 10).drop 10).drop 10).drop 10).drop 10).drop 10).drop 10).drop 10)).take 10) sm_mk = true := by decide +kernel
