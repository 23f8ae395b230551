set_option maxRecDepth 100000 in
theorem ck_130 : sm_ckm 130 = true := by decide +kernel
set_option maxRecDepth 100000 in
theorem ck_131 : sm_ckm 131 = true := by decide +kernel
set_option maxRecDepth 100000 in
theorem ck_132 : sm_ckm 132 = true := by decide +kernel
set_option maxRecDepth 100000 in
theorem ck_133 : sm_ckm 133 = true := by decide +kernel
set_option maxRecDepth 100000 in
theorem ck_134 : sm_ckm 134 = true := by decide +kernel
set_option maxRecDepth 100000 in
theorem ck_135 : sm_ckm 135 = true := by decide +kernel
set_option maxRecDepth 100000 in
theorem ck_136 : sm_ckm 136 = true := by decide +kernel
set_option maxRecDepth 100000 in
theorem ck_137 : sm_ckm 137 = true := by decide +kernel
set_option maxRecDepth 100000 in
theorem ck_138 : sm_ckm 138 = true := by decide +kernel
set_option maxRecDepth 100000 in
theorem ck_139 : sm_ckm 139 = true := by decide +kernel
set_option maxRecDepth 100000 in
theorem ck_140 : sm_ckm 140 = true := by decide +kernel
set_option maxRecDepth 100000 in
theorem ck_141 : sm_ckm 141 = true := by decide +kernel
set_option maxRecDepth 100000 in
theorem ck_142 : sm_ckm 142 = true := by decide +kernel
set_option maxRecDepth 100000 in
theorem ck_143 : sm_ckm 143 = true := by decide +kernel
set_option maxRecDepth 100000 in
theorem ck_144 : sm_ckm 144 = true := by decide +kernel
set_option maxRecDepth 100000 in
theorem ck_145 : sm_ckm 145 = true := by decide +kernel
set_option maxRecDepth 100000 in
theorem ck_146 : sm_ckm 146 = true := by decide +kernel
set_option maxRecDepth 100000 in
theorem ck_147 : sm_ckm 147 = true := by decide +kernel
set_option maxRecDepth 100000 in
theorem ck_148 : sm_ckm 148 = true := by decide +kernel
set_option maxRecDepth 100000 in
theorem ck_149 : sm_ckm 149 = true := by decide +kernel
set_option maxRecDepth 100000 in
theorem ck_150 : sm_ckm 150 = true := by decide +kernel
set_option maxRecDepth 100000 in
theorem ck_151 : sm_ckm 151 = true := by decide +kernel
set_option maxRecDepth 100000 in
theorem ck_152 : sm_ckm 152 = true := by decide +kernel
set_option maxRecDepth 100000 in
theorem ck_153 : sm_ckm 153 = true := by decide +kernel
set_option maxRecDepth 100000 in
theorem ck_154 : sm_ckm 154 = true := by decide +kernel
set_option maxRecDepth 100000 in
theorem ck_155 : sm_ckm 155 = true := by decide +kernel
set_option maxRecDepth 100000 in
theorem ck_156 : sm_ckm 156 = true := by decide +kernel
set_option maxRecDepth 100000 in
theorem ck_157 : sm_ckm 157 = true := by decide +kernel
set_option maxRecDepth 100000 in
theorem ck_158 : sm_ckm 158 = true := by decide +kernel
set_option maxRecDepth 100000 in
theorem ck_159 : sm_ckm 159 = true := by decide +kernel
