set_option maxRecDepth 100000 in
theorem sm_ok230 : sm_cka 230 sm_o230 = true := by decide +kernel
set_option maxRecDepth 100000 in
theorem sm_ok231 : sm_cka 231 sm_o231 = true := by decide +kernel
set_option maxRecDepth 100000 in
theorem sm_ok232 : sm_cka 232 sm_o232 = true := by decide +kernel
set_option maxRecDepth 100000 in
theorem sm_ok233 : sm_cka 233 sm_o233 = true := by decide +kernel
set_option maxRecDepth 100000 in
theorem sm_ok234 : sm_cka 234 sm_o234 = true := by decide +kernel
set_option maxRecDepth 100000 in
theorem sm_ok235 : sm_cka 235 sm_o235 = true := by decide +kernel
set_option maxRecDepth 100000 in
theorem sm_ok236 : sm_cka 236 sm_o236 = true := by decide +kernel
set_option maxRecDepth 100000 in
theorem sm_ok237 : sm_cka 237 sm_o237 = true := by decide +kernel
set_option maxRecDepth 100000 in
theorem sm_ok238 : sm_cka 238 sm_o238 = true := by decide +kernel
set_option maxRecDepth 100000 in
theorem sm_ok239 : sm_cka 239 sm_o239 = true := by decide +kernel
set_option maxRecDepth 100000 in
theorem sm_ok240 : sm_cka 240 sm_o240 = true := by decide +kernel
