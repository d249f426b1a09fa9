set_option maxRecDepth 100000 in
theorem sm_ok218 : sm_cka 218 sm_o218 = true := by decide +kernel
set_option maxRecDepth 100000 in
theorem sm_ok219 : sm_cka 219 sm_o219 = true := by decide +kernel
set_option maxRecDepth 100000 in
theorem sm_ok220 : sm_cka 220 sm_o220 = true := by decide +kernel
set_option maxRecDepth 100000 in
theorem sm_ok221 : sm_cka 221 sm_o221 = true := by decide +kernel
set_option maxRecDepth 100000 in
theorem sm_ok222 : sm_cka 222 sm_o222 = true := by decide +kernel
set_option maxRecDepth 100000 in
theorem sm_ok223 : sm_cka 223 sm_o223 = true := by decide +kernel
set_option maxRecDepth 100000 in
theorem sm_ok224 : sm_cka 224 sm_o224 = true := by decide +kernel
set_option maxRecDepth 100000 in
theorem sm_ok225 : sm_cka 225 sm_o225 = true := by decide +kernel
set_option maxRecDepth 100000 in
theorem sm_ok226 : sm_cka 226 sm_o226 = true := by decide +kernel
set_option maxRecDepth 100000 in
theorem sm_ok227 : sm_cka 227 sm_o227 = true := by decide +kernel
set_option maxRecDepth 100000 in
theorem sm_ok228 : sm_cka 228 sm_o228 = true := by decide +kernel
set_option maxRecDepth 100000 in
theorem sm_ok229 : sm_cka 229 sm_o229 = true := by decide +kernel
