set_option maxRecDepth 100000 in
theorem sm_ok90 : sm_cka 90 sm_o90 = true := by decide +kernel
set_option maxRecDepth 100000 in
theorem sm_ok91 : sm_cka 91 sm_o91 = true := by decide +kernel
set_option maxRecDepth 100000 in
theorem sm_ok92 : sm_cka 92 sm_o92 = true := by decide +kernel
set_option maxRecDepth 100000 in
theorem sm_ok93 : sm_cka 93 sm_o93 = true := by decide +kernel
set_option maxRecDepth 100000 in
theorem sm_ok94 : sm_cka 94 sm_o94 = true := by decide +kernel
set_option maxRecDepth 100000 in
theorem sm_ok95 : sm_cka 95 sm_o95 = true := by decide +kernel
set_option maxRecDepth 100000 in
theorem sm_ok96 : sm_cka 96 sm_o96 = true := by decide +kernel
set_option maxRecDepth 100000 in
theorem sm_ok97 : sm_cka 97 sm_o97 = true := by decide +kernel
set_option maxRecDepth 100000 in
theorem sm_ok98 : sm_cka 98 sm_o98 = true := by decide +kernel
set_option maxRecDepth 100000 in
theorem sm_ok99 : sm_cka 99 sm_o99 = true := by decide +kernel
set_option maxRecDepth 100000 in
theorem sm_ok100 : sm_cka 100 sm_o100 = true := by decide +kernel
set_option maxRecDepth 100000 in
theorem sm_ok101 : sm_cka 101 sm_o101 = true := by decide +kernel
set_option maxRecDepth 100000 in
theorem sm_ok102 : sm_cka 102 sm_o102 = true := by decide +kernel
set_option maxRecDepth 100000 in
theorem sm_ok103 : sm_cka 103 sm_o103 = true := by decide +kernel
set_option maxRecDepth 100000 in
theorem sm_ok104 : sm_cka 104 sm_o104 = true := by decide +kernel
set_option maxRecDepth 100000 in
theorem sm_ok105 : sm_cka 105 sm_o105 = true := by decide +kernel
set_option maxRecDepth 100000 in
theorem sm_ok106 : sm_cka 106 sm_o106 = true := by decide +kernel
set_option maxRecDepth 100000 in
theorem sm_ok107 : sm_cka 107 sm_o107 = true := by decide +kernel
set_option maxRecDepth 100000 in
theorem sm_ok108 : sm_cka 108 sm_o108 = true := by decide +kernel
