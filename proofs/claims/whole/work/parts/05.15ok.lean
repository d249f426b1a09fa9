set_option maxRecDepth 100000 in
theorem sm_ok183 : sm_cka 183 sm_o183 = true := by decide +kernel
set_option maxRecDepth 100000 in
theorem sm_ok184 : sm_cka 184 sm_o184 = true := by decide +kernel
set_option maxRecDepth 100000 in
theorem sm_ok185 : sm_cka 185 sm_o185 = true := by decide +kernel
set_option maxRecDepth 100000 in
theorem sm_ok186 : sm_cka 186 sm_o186 = true := by decide +kernel
set_option maxRecDepth 100000 in
theorem sm_ok187 : sm_cka 187 sm_o187 = true := by decide +kernel
set_option maxRecDepth 100000 in
theorem sm_ok188 : sm_cka 188 sm_o188 = true := by decide +kernel
set_option maxRecDepth 100000 in
theorem sm_ok189 : sm_cka 189 sm_o189 = true := by decide +kernel
set_option maxRecDepth 100000 in
theorem sm_ok190 : sm_cka 190 sm_o190 = true := by decide +kernel
set_option maxRecDepth 100000 in
theorem sm_ok191 : sm_cka 191 sm_o191 = true := by decide +kernel
set_option maxRecDepth 100000 in
theorem sm_ok192 : sm_cka 192 sm_o192 = true := by decide +kernel
set_option maxRecDepth 100000 in
theorem sm_ok193 : sm_cka 193 sm_o193 = true := by decide +kernel
set_option maxRecDepth 100000 in
theorem sm_ok194 : sm_cka 194 sm_o194 = true := by decide +kernel
set_option maxRecDepth 100000 in
theorem sm_ok195 : sm_cka 195 sm_o195 = true := by decide +kernel
set_option maxRecDepth 100000 in
theorem sm_ok196 : sm_cka 196 sm_o196 = true := by decide +kernel
set_option maxRecDepth 100000 in
theorem sm_ok197 : sm_cka 197 sm_o197 = true := by decide +kernel
set_option maxRecDepth 100000 in
theorem sm_ok198 : sm_cka 198 sm_o198 = true := by decide +kernel
set_option maxRecDepth 100000 in
theorem sm_ok199 : sm_cka 199 sm_o199 = true := by decide +kernel
set_option maxRecDepth 100000 in
theorem sm_ok200 : sm_cka 200 sm_o200 = true := by decide +kernel
set_option maxRecDepth 100000 in
theorem sm_ok201 : sm_cka 201 sm_o201 = true := by decide +kernel
set_option maxRecDepth 100000 in
theorem sm_ok202 : sm_cka 202 sm_o202 = true := by decide +kernel
set_option maxRecDepth 100000 in
theorem sm_ok203 : sm_cka 203 sm_o203 = true := by decide +kernel
set_option maxRecDepth 100000 in
theorem sm_ok204 : sm_cka 204 sm_o204 = true := by decide +kernel
