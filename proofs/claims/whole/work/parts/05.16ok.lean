set_option maxRecDepth 100000 in
theorem sm_ok205 : sm_cka 205 sm_o205 = true := by decide +kernel
set_option maxRecDepth 100000 in
theorem sm_ok206 : sm_cka 206 sm_o206 = true := by decide +kernel
set_option maxRecDepth 100000 in
theorem sm_ok207 : sm_cka 207 sm_o207 = true := by decide +kernel
set_option maxRecDepth 100000 in
theorem sm_ok208 : sm_cka 208 sm_o208 = true := by decide +kernel
set_option maxRecDepth 100000 in
theorem sm_ok209 : sm_cka 209 sm_o209 = true := by decide +kernel
set_option maxRecDepth 100000 in
theorem sm_ok210 : sm_cka 210 sm_o210 = true := by decide +kernel
set_option maxRecDepth 100000 in
theorem sm_ok211 : sm_cka 211 sm_o211 = true := by decide +kernel
set_option maxRecDepth 100000 in
theorem sm_ok212 : sm_cka 212 sm_o212 = true := by decide +kernel
set_option maxRecDepth 100000 in
theorem sm_ok213 : sm_cka 213 sm_o213 = true := by decide +kernel
set_option maxRecDepth 100000 in
theorem sm_ok214 : sm_cka 214 sm_o214 = true := by decide +kernel
set_option maxRecDepth 100000 in
theorem sm_ok215 : sm_cka 215 sm_o215 = true := by decide +kernel
set_option maxRecDepth 100000 in
theorem sm_ok216 : sm_cka 216 sm_o216 = true := by decide +kernel
set_option maxRecDepth 100000 in
theorem sm_ok217 : sm_cka 217 sm_o217 = true := by decide +kernel
