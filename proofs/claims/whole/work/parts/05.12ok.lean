set_option maxRecDepth 100000 in
theorem sm_ok155 : sm_cka 155 sm_o155 = true := by decide +kernel
set_option maxRecDepth 100000 in
theorem sm_ok156 : sm_cka 156 sm_o156 = true := by decide +kernel
set_option maxRecDepth 100000 in
theorem sm_ok157 : sm_cka 157 sm_o157 = true := by decide +kernel
set_option maxRecDepth 100000 in
theorem sm_ok158 : sm_cka 158 sm_o158 = true := by decide +kernel
set_option maxRecDepth 100000 in
theorem sm_ok159 : sm_cka 159 sm_o159 = true := by decide +kernel
set_option maxRecDepth 100000 in
theorem sm_ok160 : sm_cka 160 sm_o160 = true := by decide +kernel
set_option maxRecDepth 100000 in
theorem sm_ok161 : sm_cka 161 sm_o161 = true := by decide +kernel
set_option maxRecDepth 100000 in
theorem sm_ok162 : sm_cka 162 sm_o162 = true := by decide +kernel
set_option maxRecDepth 100000 in
theorem sm_ok163 : sm_cka 163 sm_o163 = true := by decide +kernel
set_option maxRecDepth 100000 in
theorem sm_ok164 : sm_cka 164 sm_o164 = true := by decide +kernel
set_option maxRecDepth 100000 in
theorem sm_ok165 : sm_cka 165 sm_o165 = true := by decide +kernel
set_option maxRecDepth 100000 in
theorem sm_ok166 : sm_cka 166 sm_o166 = true := by decide +kernel
set_option maxRecDepth 100000 in
theorem sm_ok167 : sm_cka 167 sm_o167 = true := by decide +kernel
set_option maxRecDepth 100000 in
theorem sm_ok168 : sm_cka 168 sm_o168 = true := by decide +kernel
set_option maxRecDepth 100000 in
theorem sm_ok169 : sm_cka 169 sm_o169 = true := by decide +kernel
set_option maxRecDepth 100000 in
theorem sm_ok170 : sm_cka 170 sm_o170 = true := by decide +kernel
set_option maxRecDepth 100000 in
theorem sm_ok171 : sm_cka 171 sm_o171 = true := by decide +kernel
set_option maxRecDepth 100000 in
theorem sm_ok172 : sm_cka 172 sm_o172 = true := by decide +kernel
set_option maxRecDepth 100000 in
theorem sm_ok173 : sm_cka 173 sm_o173 = true := by decide +kernel
set_option maxRecDepth 100000 in
theorem sm_ok174 : sm_cka 174 sm_o174 = true := by decide +kernel
set_option maxRecDepth 100000 in
theorem sm_ok175 : sm_cka 175 sm_o175 = true := by decide +kernel
