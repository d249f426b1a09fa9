set_option maxRecDepth 100000 in
theorem sm_ok176 : sm_cka 176 sm_o176 = true := by decide +kernel
set_option maxRecDepth 100000 in
theorem sm_ok177 : sm_cka 177 sm_o177 = true := by decide +kernel
set_option maxRecDepth 100000 in
theorem sm_ok178 : sm_cka 178 sm_o178 = true := by decide +kernel
set_option maxRecDepth 100000 in
theorem sm_ok179 : sm_cka 179 sm_o179 = true := by decide +kernel
set_option maxRecDepth 100000 in
theorem sm_ok180 : sm_cka 180 sm_o180 = true := by decide +kernel
set_option maxRecDepth 100000 in
theorem sm_ok181 : sm_cka 181 sm_o181 = true := by decide +kernel
