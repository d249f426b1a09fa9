set_option maxRecDepth 100000 in
theorem sm_ok241_0 : sm_cka 241 ((sm_o241).take 120) = true := by decide +kernel
set_option maxRecDepth 100000 in
theorem sm_ok241_1 : sm_cka 241 (((sm_o241.drop 120)).take 120) = true := by decide +kernel
set_option maxRecDepth 100000 in
theorem sm_ok241_2 : sm_cka 241 ((((sm_o241.drop 120).drop 120)).take 120) = true := by decide +kernel
set_option maxRecDepth 100000 in
theorem sm_ok241_3 : sm_cka 241 (((((sm_o241.drop 120).drop 120).drop 120)).take 120) = true := by decide +kernel
set_option maxRecDepth 100000 in
theorem sm_ok241_4 : sm_cka 241 ((((((sm_o241.drop 120).drop 120).drop 120).drop 120)).take 120) = true := by decide +kernel
set_option maxRecDepth 100000 in
theorem sm_ok241_5 : sm_cka 241 (((((((sm_o241.drop 120).drop 120).drop 120).drop 120).drop 120)).take 120) = true := by decide +kernel
set_option maxRecDepth 100000 in
theorem sm_ok241_6 : sm_cka 241 ((((((((sm_o241.drop 120).drop 120).drop 120).drop 120).drop 120).drop 120)).take 120) = true := by decide +kernel
theorem sm_ok241 : sm_cka 241 sm_o241 = true := sm_cka_cut 241 _ 120 (sm_ok241_0) (sm_cka_cut 241 _ 120 (sm_ok241_1) (sm_cka_cut 241 _ 120 (sm_ok241_2) (sm_cka_cut 241 _ 120 (sm_ok241_3) (sm_cka_cut 241 _ 120 (sm_ok241_4) (sm_cka_cut 241 _ 120 (sm_ok241_5) (sm_cka_end 241 _ 120 sm_ok241_6 (by decide +kernel)))))))
