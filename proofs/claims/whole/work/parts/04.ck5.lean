set_option maxRecDepth 100000 in
theorem ck_198 : sm_ckm 198 = true := by decide +kernel
set_option maxRecDepth 100000 in
theorem ck_199 : sm_ckm 199 = true := by decide +kernel
set_option maxRecDepth 100000 in
theorem ck_200 : sm_ckm 200 = true := by decide +kernel
set_option maxRecDepth 100000 in
theorem ck_201 : sm_ckm 201 = true := by decide +kernel
