set_option maxRecDepth 100000 in
theorem sm_ok68 : sm_cka 68 sm_o68 = true := by decide +kernel
set_option maxRecDepth 100000 in
theorem sm_ok69 : sm_cka 69 sm_o69 = true := by decide +kernel
set_option maxRecDepth 100000 in
theorem sm_ok70 : sm_cka 70 sm_o70 = true := by decide +kernel
set_option maxRecDepth 100000 in
theorem sm_ok71 : sm_cka 71 sm_o71 = true := by decide +kernel
set_option maxRecDepth 100000 in
theorem sm_ok72 : sm_cka 72 sm_o72 = true := by decide +kernel
set_option maxRecDepth 100000 in
theorem sm_ok73 : sm_cka 73 sm_o73 = true := by decide +kernel
set_option maxRecDepth 100000 in
theorem sm_ok74 : sm_cka 74 sm_o74 = true := by decide +kernel
set_option maxRecDepth 100000 in
theorem sm_ok75 : sm_cka 75 sm_o75 = true := by decide +kernel
set_option maxRecDepth 100000 in
theorem sm_ok76 : sm_cka 76 sm_o76 = true := by decide +kernel
set_option maxRecDepth 100000 in
theorem sm_ok77 : sm_cka 77 sm_o77 = true := by decide +kernel
set_option maxRecDepth 100000 in
theorem sm_ok78 : sm_cka 78 sm_o78 = true := by decide +kernel
set_option maxRecDepth 100000 in
theorem sm_ok79 : sm_cka 79 sm_o79 = true := by decide +kernel
set_option maxRecDepth 100000 in
theorem sm_ok80 : sm_cka 80 sm_o80 = true := by decide +kernel
set_option maxRecDepth 100000 in
theorem sm_ok81 : sm_cka 81 sm_o81 = true := by decide +kernel
set_option maxRecDepth 100000 in
theorem sm_ok82 : sm_cka 82 sm_o82 = true := by decide +kernel
set_option maxRecDepth 100000 in
theorem sm_ok83 : sm_cka 83 sm_o83 = true := by decide +kernel
set_option maxRecDepth 100000 in
theorem sm_ok84 : sm_cka 84 sm_o84 = true := by decide +kernel
set_option maxRecDepth 100000 in
theorem sm_ok85 : sm_cka 85 sm_o85 = true := by decide +kernel
set_option maxRecDepth 100000 in
theorem sm_ok86 : sm_cka 86 sm_o86 = true := by decide +kernel
set_option maxRecDepth 100000 in
theorem sm_ok87 : sm_cka 87 sm_o87 = true := by decide +kernel
set_option maxRecDepth 100000 in
theorem sm_ok88 : sm_cka 88 sm_o88 = true := by decide +kernel
set_option maxRecDepth 100000 in
theorem sm_ok89 : sm_cka 89 sm_o89 = true := by decide +kernel
