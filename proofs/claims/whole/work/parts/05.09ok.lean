set_option maxRecDepth 100000 in
theorem sm_ok124 : sm_cka 124 sm_o124 = true := by decide +kernel
set_option maxRecDepth 100000 in
theorem sm_ok125 : sm_cka 125 sm_o125 = true := by decide +kernel
set_option maxRecDepth 100000 in
theorem sm_ok126 : sm_cka 126 sm_o126 = true := by decide +kernel
set_option maxRecDepth 100000 in
theorem sm_ok127 : sm_cka 127 sm_o127 = true := by decide +kernel
set_option maxRecDepth 100000 in
theorem sm_ok128 : sm_cka 128 sm_o128 = true := by decide +kernel
set_option maxRecDepth 100000 in
theorem sm_ok129 : sm_cka 129 sm_o129 = true := by decide +kernel
set_option maxRecDepth 100000 in
theorem sm_ok130 : sm_cka 130 sm_o130 = true := by decide +kernel
set_option maxRecDepth 100000 in
theorem sm_ok131 : sm_cka 131 sm_o131 = true := by decide +kernel
set_option maxRecDepth 100000 in
theorem sm_ok132 : sm_cka 132 sm_o132 = true := by decide +kernel
set_option maxRecDepth 100000 in
theorem sm_ok133 : sm_cka 133 sm_o133 = true := by decide +kernel
set_option maxRecDepth 100000 in
theorem sm_ok134 : sm_cka 134 sm_o134 = true := by decide +kernel
set_option maxRecDepth 100000 in
theorem sm_ok135 : sm_cka 135 sm_o135 = true := by decide +kernel
set_option maxRecDepth 100000 in
theorem sm_ok136 : sm_cka 136 sm_o136 = true := by decide +kernel
set_option maxRecDepth 100000 in
theorem sm_ok137 : sm_cka 137 sm_o137 = true := by decide +kernel
set_option maxRecDepth 100000 in
theorem sm_ok138 : sm_cka 138 sm_o138 = true := by decide +kernel
set_option maxRecDepth 100000 in
theorem sm_ok139 : sm_cka 139 sm_o139 = true := by decide +kernel
set_option maxRecDepth 100000 in
theorem sm_ok140 : sm_cka 140 sm_o140 = true := by decide +kernel
set_option maxRecDepth 100000 in
theorem sm_ok141 : sm_cka 141 sm_o141 = true := by decide +kernel
set_option maxRecDepth 100000 in
theorem sm_ok142 : sm_cka 142 sm_o142 = true := by decide +kernel
set_option maxRecDepth 100000 in
theorem sm_ok143 : sm_cka 143 sm_o143 = true := by decide +kernel
set_option maxRecDepth 100000 in
theorem sm_ok144 : sm_cka 144 sm_o144 = true := by decide +kernel
set_option maxRecDepth 100000 in
theorem sm_ok145 : sm_cka 145 sm_o145 = true := by decide +kernel
set_option maxRecDepth 100000 in
theorem sm_ok146 : sm_cka 146 sm_o146 = true := by decide +kernel
