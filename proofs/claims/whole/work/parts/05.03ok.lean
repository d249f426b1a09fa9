set_option maxRecDepth 100000 in
theorem sm_ok33 : sm_cka 33 sm_o33 = true := by decide +kernel
set_option maxRecDepth 100000 in
theorem sm_ok34 : sm_cka 34 sm_o34 = true := by decide +kernel
set_option maxRecDepth 100000 in
theorem sm_ok35 : sm_cka 35 sm_o35 = true := by decide +kernel
set_option maxRecDepth 100000 in
theorem sm_ok36 : sm_cka 36 sm_o36 = true := by decide +kernel
set_option maxRecDepth 100000 in
theorem sm_ok37 : sm_cka 37 sm_o37 = true := by decide +kernel
set_option maxRecDepth 100000 in
theorem sm_ok38 : sm_cka 38 sm_o38 = true := by decide +kernel
set_option maxRecDepth 100000 in
theorem sm_ok39 : sm_cka 39 sm_o39 = true := by decide +kernel
set_option maxRecDepth 100000 in
theorem sm_ok40 : sm_cka 40 sm_o40 = true := by decide +kernel
set_option maxRecDepth 100000 in
theorem sm_ok41 : sm_cka 41 sm_o41 = true := by decide +kernel
set_option maxRecDepth 100000 in
theorem sm_ok42 : sm_cka 42 sm_o42 = true := by decide +kernel
set_option maxRecDepth 100000 in
theorem sm_ok43 : sm_cka 43 sm_o43 = true := by decide +kernel
set_option maxRecDepth 100000 in
theorem sm_ok44 : sm_cka 44 sm_o44 = true := by decide +kernel
set_option maxRecDepth 100000 in
theorem sm_ok45 : sm_cka 45 sm_o45 = true := by decide +kernel
set_option maxRecDepth 100000 in
theorem sm_ok46 : sm_cka 46 sm_o46 = true := by decide +kernel
set_option maxRecDepth 100000 in
theorem sm_ok47 : sm_cka 47 sm_o47 = true := by decide +kernel
