set_option maxRecDepth 100000 in
theorem sm_ok15 : sm_cka 15 sm_o15 = true := by decide +kernel
set_option maxRecDepth 100000 in
theorem sm_ok16 : sm_cka 16 sm_o16 = true := by decide +kernel
set_option maxRecDepth 100000 in
theorem sm_ok17 : sm_cka 17 sm_o17 = true := by decide +kernel
set_option maxRecDepth 100000 in
theorem sm_ok18 : sm_cka 18 sm_o18 = true := by decide +kernel
set_option maxRecDepth 100000 in
theorem sm_ok19 : sm_cka 19 sm_o19 = true := by decide +kernel
set_option maxRecDepth 100000 in
theorem sm_ok20 : sm_cka 20 sm_o20 = true := by decide +kernel
set_option maxRecDepth 100000 in
theorem sm_ok21 : sm_cka 21 sm_o21 = true := by decide +kernel
set_option maxRecDepth 100000 in
theorem sm_ok22 : sm_cka 22 sm_o22 = true := by decide +kernel
set_option maxRecDepth 100000 in
theorem sm_ok23 : sm_cka 23 sm_o23 = true := by decide +kernel
set_option maxRecDepth 100000 in
theorem sm_ok24 : sm_cka 24 sm_o24 = true := by decide +kernel
set_option maxRecDepth 100000 in
theorem sm_ok25 : sm_cka 25 sm_o25 = true := by decide +kernel
set_option maxRecDepth 100000 in
theorem sm_ok26 : sm_cka 26 sm_o26 = true := by decide +kernel
set_option maxRecDepth 100000 in
theorem sm_ok27 : sm_cka 27 sm_o27 = true := by decide +kernel
set_option maxRecDepth 100000 in
theorem sm_ok28 : sm_cka 28 sm_o28 = true := by decide +kernel
set_option maxRecDepth 100000 in
theorem sm_ok29 : sm_cka 29 sm_o29 = true := by decide +kernel
set_option maxRecDepth 100000 in
theorem sm_ok30 : sm_cka 30 sm_o30 = true := by decide +kernel
set_option maxRecDepth 100000 in
theorem sm_ok31 : sm_cka 31 sm_o31 = true := by decide +kernel
set_option maxRecDepth 100000 in
theorem sm_ok32 : sm_cka 32 sm_o32 = true := by decide +kernel
