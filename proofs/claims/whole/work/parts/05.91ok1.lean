set_option maxRecDepth 100000 in
theorem sm_mk_5 : sm_mka 50 (((((((sm_mkl.drop 10).drop 10).drop 10).drop 10).drop 10)).take 10) sm_mk = true := by decide +kernel
set_option maxRecDepth 100000 in
theorem sm_mk_6 : sm_mka 60 ((((((((sm_mkl.drop 10).drop 10).drop 10).drop 10).drop 10).drop 10)).take 10) sm_mk = true := by decide +kernel
set_option maxRecDepth 100000 in
theorem sm_mk_7 : sm_mka 70 (((((((((sm_mkl.drop 10).drop 10).drop 10).drop 10).drop 10).drop 10).drop 10)).take 10) sm_mk = true := by decide +kernel
set_option maxRecDepth 100000 in
theorem sm_mk_8 : sm_mka 80 ((((((((((sm_mkl.drop 10).drop 10).drop 10).drop 10).drop 10).drop 10).drop 10).drop 10)).take 10) sm_mk = true := by decide +kernel
set_option maxRecDepth 100000 in
theorem sm_mk_9 : sm_mka 90 (((((((((((sm_mkl.drop 10).drop 10).drop 10).drop 10).drop 10).drop 10).drop 10).drop 10).drop 10)).take 10) sm_mk = true := by decide +kernel
