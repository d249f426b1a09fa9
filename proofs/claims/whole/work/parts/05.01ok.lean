set_option maxRecDepth 100000 in
theorem sm_ok0 : sm_cka 0 sm_o0 = true := by decide +kernel
set_option maxRecDepth 100000 in
theorem sm_ok1 : sm_cka 1 sm_o1 = true := by decide +kernel
set_option maxRecDepth 100000 in
theorem sm_ok2 : sm_cka 2 sm_o2 = true := by decide +kernel
set_option maxRecDepth 100000 in
theorem sm_ok3 : sm_cka 3 sm_o3 = true := by decide +kernel
set_option maxRecDepth 100000 in
theorem sm_ok4 : sm_cka 4 sm_o4 = true := by decide +kernel
set_option maxRecDepth 100000 in
theorem sm_ok5 : sm_cka 5 sm_o5 = true := by decide +kernel
set_option maxRecDepth 100000 in
theorem sm_ok6 : sm_cka 6 sm_o6 = true := by decide +kernel
set_option maxRecDepth 100000 in
theorem sm_ok7 : sm_cka 7 sm_o7 = true := by decide +kernel
set_option maxRecDepth 100000 in
theorem sm_ok8 : sm_cka 8 sm_o8 = true := by decide +kernel
set_option maxRecDepth 100000 in
theorem sm_ok9 : sm_cka 9 sm_o9 = true := by decide +kernel
set_option maxRecDepth 100000 in
theorem sm_ok10 : sm_cka 10 sm_o10 = true := by decide +kernel
set_option maxRecDepth 100000 in
theorem sm_ok11 : sm_cka 11 sm_o11 = true := by decide +kernel
set_option maxRecDepth 100000 in
theorem sm_ok12 : sm_cka 12 sm_o12 = true := by decide +kernel
set_option maxRecDepth 100000 in
theorem sm_ok13 : sm_cka 13 sm_o13 = true := by decide +kernel
set_option maxRecDepth 100000 in
theorem sm_ok14 : sm_cka 14 sm_o14 = true := by decide +kernel
