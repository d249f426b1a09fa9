set_option maxRecDepth 100000 in
theorem sm_ok109 : sm_cka 109 sm_o109 = true := by decide +kernel
set_option maxRecDepth 100000 in
theorem sm_ok110 : sm_cka 110 sm_o110 = true := by decide +kernel
set_option maxRecDepth 100000 in
theorem sm_ok111 : sm_cka 111 sm_o111 = true := by decide +kernel
set_option maxRecDepth 100000 in
theorem sm_ok112 : sm_cka 112 sm_o112 = true := by decide +kernel
set_option maxRecDepth 100000 in
theorem sm_ok113 : sm_cka 113 sm_o113 = true := by decide +kernel
set_option maxRecDepth 100000 in
theorem sm_ok114 : sm_cka 114 sm_o114 = true := by decide +kernel
set_option maxRecDepth 100000 in
theorem sm_ok115 : sm_cka 115 sm_o115 = true := by decide +kernel
set_option maxRecDepth 100000 in
theorem sm_ok116 : sm_cka 116 sm_o116 = true := by decide +kernel
set_option maxRecDepth 100000 in
theorem sm_ok117 : sm_cka 117 sm_o117 = true := by decide +kernel
set_option maxRecDepth 100000 in
theorem sm_ok118 : sm_cka 118 sm_o118 = true := by decide +kernel
set_option maxRecDepth 100000 in
theorem sm_ok119 : sm_cka 119 sm_o119 = true := by decide +kernel
set_option maxRecDepth 100000 in
theorem sm_ok120 : sm_cka 120 sm_o120 = true := by decide +kernel
set_option maxRecDepth 100000 in
theorem sm_ok121 : sm_cka 121 sm_o121 = true := by decide +kernel
set_option maxRecDepth 100000 in
theorem sm_ok122 : sm_cka 122 sm_o122 = true := by decide +kernel
