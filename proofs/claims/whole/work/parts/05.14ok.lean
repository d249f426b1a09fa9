set_option maxRecDepth 100000 in
theorem sm_ok182_0 : sm_cka 182 ((sm_o182).take 120) = true := by decide +kernel
set_option maxRecDepth 100000 in
theorem sm_ok182_1 : sm_cka 182 (((sm_o182.drop 120)).take 120) = true := by decide +kernel
theorem sm_ok182 : sm_cka 182 sm_o182 = true := sm_cka_cut 182 _ 120 (sm_ok182_0) (sm_cka_end 182 _ 120 sm_ok182_1 (by decide +kernel))
