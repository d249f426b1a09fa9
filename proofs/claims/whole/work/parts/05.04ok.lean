set_option maxRecDepth 100000 in
theorem sm_ok48 : sm_cka 48 sm_o48 = true := by decide +kernel
set_option maxRecDepth 100000 in
theorem sm_ok49 : sm_cka 49 sm_o49 = true := by decide +kernel
set_option maxRecDepth 100000 in
theorem sm_ok50 : sm_cka 50 sm_o50 = true := by decide +kernel
set_option maxRecDepth 100000 in
theorem sm_ok51 : sm_cka 51 sm_o51 = true := by decide +kernel
set_option maxRecDepth 100000 in
theorem sm_ok52 : sm_cka 52 sm_o52 = true := by decide +kernel
set_option maxRecDepth 100000 in
theorem sm_ok53 : sm_cka 53 sm_o53 = true := by decide +kernel
set_option maxRecDepth 100000 in
theorem sm_ok54 : sm_cka 54 sm_o54 = true := by decide +kernel
set_option maxRecDepth 100000 in
theorem sm_ok55 : sm_cka 55 sm_o55 = true := by decide +kernel
set_option maxRecDepth 100000 in
theorem sm_ok56 : sm_cka 56 sm_o56 = true := by decide +kernel
set_option maxRecDepth 100000 in
theorem sm_ok57 : sm_cka 57 sm_o57 = true := by decide +kernel
set_option maxRecDepth 100000 in
theorem sm_ok58 : sm_cka 58 sm_o58 = true := by decide +kernel
set_option maxRecDepth 100000 in
theorem sm_ok59 : sm_cka 59 sm_o59 = true := by decide +kernel
set_option maxRecDepth 100000 in
theorem sm_ok60 : sm_cka 60 sm_o60 = true := by decide +kernel
set_option maxRecDepth 100000 in
theorem sm_ok61 : sm_cka 61 sm_o61 = true := by decide +kernel
set_option maxRecDepth 100000 in
theorem sm_ok62 : sm_cka 62 sm_o62 = true := by decide +kernel
set_option maxRecDepth 100000 in
theorem sm_ok63 : sm_cka 63 sm_o63 = true := by decide +kernel
set_option maxRecDepth 100000 in
theorem sm_ok64 : sm_cka 64 sm_o64 = true := by decide +kernel
set_option maxRecDepth 100000 in
theorem sm_ok65 : sm_cka 65 sm_o65 = true := by decide +kernel
set_option maxRecDepth 100000 in
theorem sm_ok66 : sm_cka 66 sm_o66 = true := by decide +kernel
set_option maxRecDepth 100000 in
theorem sm_ok67 : sm_cka 67 sm_o67 = true := by decide +kernel
