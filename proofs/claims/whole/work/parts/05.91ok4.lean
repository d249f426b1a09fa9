set_option maxRecDepth 100000 in
theorem sm_mk_20 : sm_mka 200 ((((((((((((((((((((((sm_mkl.drop 10).drop 10).drop 10).drop 10).drop 10).drop 10).drop 10).drop 10).drop 10).drop 10).drop 10).drop 10).drop 10).drop 10).drop 10).drop 10).drop 10).drop 10).drop 10).drop 10)).take 10) sm_mk = true := by decide +kernel
set_option maxRecDepth 100000 in
theorem sm_mk_21 : sm_mka 210 (((((((((((((((((((((((sm_mkl.drop 10).drop 10).drop 10).drop 10).drop 10).drop 10).drop 10).drop 10).drop 10).drop 10).drop 10).drop 10).drop 10).drop 10).drop 10).drop 10).drop 10).drop 10).drop 10).drop 10).drop 10)).take 10) sm_mk = true := by decide +kernel
set_option maxRecDepth 100000 in
theorem sm_mk_22 : sm_mka 220 ((((((((((((((((((((((((sm_mkl.drop 10).drop 10).drop 10).drop 10).drop 10).drop 10).drop 10).drop 10).drop 10).drop 10).drop 10).drop 10).drop 10).drop 10).drop 10).drop 10).drop 10).drop 10).drop 10).drop 10).drop 10).drop 10)).take 10) sm_mk = true := by decide +kernel
set_option maxRecDepth 100000 in
theorem sm_mk_23 : sm_mka 230 (((((((((((((((((((((((((sm_mkl.drop 10).drop 10).drop 10).drop 10).drop 10).drop 10).drop 10).drop 10).drop 10).drop 10).drop 10).drop 10).drop 10).drop 10).drop 10).drop 10).drop 10).drop 10).drop 10).drop 10).drop 10).drop 10).drop 10)).take 10) sm_mk = true := by decide +kernel
set_option maxRecDepth 100000 in
theorem sm_mk_24 : sm_mka 240 (((((((((((((((((((((((((sm_mkl.drop 10).drop 10).drop 10).drop 10).drop 10).drop 10).drop 10).drop 10).drop 10).drop 10).drop 10).drop 10).drop 10).drop 10).drop 10).drop 10).drop 10).drop 10).drop 10).drop 10).drop 10).drop 10).drop 10).drop 10)) sm_mk = true := by decide +kernel
