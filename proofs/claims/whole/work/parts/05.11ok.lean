set_option maxRecDepth 100000 in
theorem sm_ok154_0 : sm_cka 154 ((sm_o154).take 120) = true := by decide +kernel
set_option maxRecDepth 100000 in
theorem sm_ok154_1 : sm_cka 154 (((sm_o154.drop 120)).take 120) = true := by decide +kernel
theorem sm_ok154 : sm_cka 154 sm_o154 = true := sm_cka_cut 154 _ 120 (sm_ok154_0) (sm_cka_end 154 _ 120 sm_ok154_1 (by decide +kernel))
