set_option maxRecDepth 100000 in
theorem sm_ok123_0 : sm_cka 123 ((sm_o123).take 120) = true := by decide +kernel
set_option maxRecDepth 100000 in
theorem sm_ok123_1 : sm_cka 123 (((sm_o123.drop 120)).take 120) = true := by decide +kernel
set_option maxRecDepth 100000 in
theorem sm_ok123_2 : sm_cka 123 ((((sm_o123.drop 120).drop 120)).take 120) = true := by decide +kernel
theorem sm_ok123 : sm_cka 123 sm_o123 = true := sm_cka_cut 123 _ 120 (sm_ok123_0) (sm_cka_cut 123 _ 120 (sm_ok123_1) (sm_cka_end 123 _ 120 sm_ok123_2 (by decide +kernel)))
