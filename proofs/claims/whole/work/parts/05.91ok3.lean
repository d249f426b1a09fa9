set_option maxRecDepth 100000 in
theorem sm_mk_15 : sm_mka 150 (((((((((((((((((sm_mkl.drop 10).drop 10).drop 10).drop 10).drop 10).drop 10).drop 10).drop 10).drop 10).drop 10).drop 10).drop 10).drop 10).drop 10).drop 10)).take 10) sm_mk = true := by decide +kernel
set_option maxRecDepth 100000 in
theorem sm_mk_16 : sm_mka 160 ((((((((((((((((((sm_mkl.drop 10).drop 10).drop 10).drop 10).drop 10).drop 10).drop 10).drop 10).drop 10).drop 10).drop 10).drop 10).drop 10).drop 10).drop 10).drop 10)).take 10) sm_mk = true := by decide +kernel
set_option maxRecDepth 100000 in
theorem sm_mk_17 : sm_mka 170 (((((((((((((((((((sm_mkl.drop 10).drop 10).drop 10).drop 10).drop 10).drop 10).drop 10).drop 10).drop 10).drop 10).drop 10).drop 10).drop 10).drop 10).drop 10).drop 10).drop 10)).take 10) sm_mk = true := by decide +kernel
set_option maxRecDepth 100000 in
theorem sm_mk_18 : sm_mka 180 ((((((((((((((((((((sm_mkl.drop 10).drop 10).drop 10).drop 10).drop 10).drop 10).drop 10).drop 10).drop 10).drop 10).drop 10).drop 10).drop 10).drop 10).drop 10).drop 10).drop 10).drop 10)).take 10) sm_mk = true := by decide +kernel
set_option maxRecDepth 100000 in
theorem sm_mk_19 : sm_mka 190 (((((((((((((((((((((sm_mkl.drop 10).drop 10).drop 10).drop 10).drop 10).drop 10).drop 10).drop 10).drop 10).drop 10).drop 10).drop 10).drop 10).drop 10).drop 10).drop 10).drop 10).drop 10).drop 10)).take 10) sm_mk = true := by decide +kernel
