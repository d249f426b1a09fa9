set_option maxRecDepth 100000 in
theorem sm_mk_0 : sm_mka 0 ((sm_mkl).take 10) sm_mk = true := by decide +kernel
set_option maxRecDepth 100000 in
theorem sm_mk_1 : sm_mka 10 (((sm_mkl.drop 10)).take 10) sm_mk = true := by decide +kernel
set_option maxRecDepth 100000 in
theorem sm_mk_2 : sm_mka 20 ((((sm_mkl.drop 10).drop 10)).take 10) sm_mk = true := by decide +kernel
set_option maxRecDepth 100000 in
theorem sm_mk_3 : sm_mka 30 (((((sm_mkl.drop 10).drop 10).drop 10)).take 10) sm_mk = true := by decide +kernel
set_option maxRecDepth 100000 in
theorem sm_mk_4 : sm_mka 40 ((((((sm_mkl.drop 10).drop 10).drop 10).drop 10)).take 10) sm_mk = true := by decide +kernel
