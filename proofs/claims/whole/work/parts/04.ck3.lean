set_option maxRecDepth 100000 in
theorem ck_160 : sm_ckm 160 = true := by decide +kernel
set_option maxRecDepth 100000 in
theorem ck_161 : sm_ckm 161 = true := by decide +kernel
set_option maxRecDepth 100000 in
theorem ck_162 : sm_ckm 162 = true := by decide +kernel
set_option maxRecDepth 100000 in
theorem ck_163 : sm_ckm 163 = true := by decide +kernel
set_option maxRecDepth 100000 in
theorem ck_164 : sm_ckm 164 = true := by decide +kernel
set_option maxRecDepth 100000 in
theorem ck_165 : sm_ckm 165 = true := by decide +kernel
