set_option maxRecDepth 100000 in
theorem sm_ok147 : sm_cka 147 sm_o147 = true := by decide +kernel
set_option maxRecDepth 100000 in
theorem sm_ok148 : sm_cka 148 sm_o148 = true := by decide +kernel
set_option maxRecDepth 100000 in
theorem sm_ok149 : sm_cka 149 sm_o149 = true := by decide +kernel
set_option maxRecDepth 100000 in
theorem sm_ok150 : sm_cka 150 sm_o150 = true := by decide +kernel
set_option maxRecDepth 100000 in
theorem sm_ok151 : sm_cka 151 sm_o151 = true := by decide +kernel
set_option maxRecDepth 100000 in
theorem sm_ok152 : sm_cka 152 sm_o152 = true := by decide +kernel
set_option maxRecDepth 100000 in
theorem sm_ok153 : sm_cka 153 sm_o153 = true := by decide +kernel
