set_option maxRecDepth 100000 in
theorem ck_166 : sm_ckm 166 = true := by decide +kernel
set_option maxRecDepth 100000 in
theorem ck_167 : sm_ckm 167 = true := by decide +kernel
set_option maxRecDepth 100000 in
theorem ck_168 : sm_ckm 168 = true := by decide +kernel
set_option maxRecDepth 100000 in
theorem ck_169 : sm_ckm 169 = true := by decide +kernel
set_option maxRecDepth 100000 in
theorem ck_170 : sm_ckm 170 = true := by decide +kernel
set_option maxRecDepth 100000 in
theorem ck_171 : sm_ckm 171 = true := by decide +kernel
set_option maxRecDepth 100000 in
theorem ck_172 : sm_ckm 172 = true := by decide +kernel
set_option maxRecDepth 100000 in
theorem ck_173 : sm_ckm 173 = true := by decide +kernel
set_option maxRecDepth 100000 in
theorem ck_174 : sm_ckm 174 = true := by decide +kernel
set_option maxRecDepth 100000 in
theorem ck_175 : sm_ckm 175 = true := by decide +kernel
set_option maxRecDepth 100000 in
theorem ck_176 : sm_ckm 176 = true := by decide +kernel
set_option maxRecDepth 100000 in
theorem ck_177 : sm_ckm 177 = true := by decide +kernel
set_option maxRecDepth 100000 in
theorem ck_178 : sm_ckm 178 = true := by decide +kernel
set_option maxRecDepth 100000 in
theorem ck_179 : sm_ckm 179 = true := by decide +kernel
set_option maxRecDepth 100000 in
theorem ck_180 : sm_ckm 180 = true := by decide +kernel
set_option maxRecDepth 100000 in
theorem ck_181 : sm_ckm 181 = true := by decide +kernel
set_option maxRecDepth 100000 in
theorem ck_182 : sm_ckm 182 = true := by decide +kernel
set_option maxRecDepth 100000 in
theorem ck_183 : sm_ckm 183 = true := by decide +kernel
set_option maxRecDepth 100000 in
theorem ck_184 : sm_ckm 184 = true := by decide +kernel
set_option maxRecDepth 100000 in
theorem ck_185 : sm_ckm 185 = true := by decide +kernel
set_option maxRecDepth 100000 in
theorem ck_186 : sm_ckm 186 = true := by decide +kernel
set_option maxRecDepth 100000 in
theorem ck_187 : sm_ckm 187 = true := by decide +kernel
set_option maxRecDepth 100000 in
theorem ck_188 : sm_ckm 188 = true := by decide +kernel
set_option maxRecDepth 100000 in
theorem ck_189 : sm_ckm 189 = true := by decide +kernel
set_option maxRecDepth 100000 in
theorem ck_190 : sm_ckm 190 = true := by decide +kernel
set_option maxRecDepth 100000 in
theorem ck_191 : sm_ckm 191 = true := by decide +kernel
set_option maxRecDepth 100000 in
theorem ck_192 : sm_ckm 192 = true := by decide +kernel
set_option maxRecDepth 100000 in
theorem ck_193 : sm_ckm 193 = true := by decide +kernel
set_option maxRecDepth 100000 in
theorem ck_194 : sm_ckm 194 = true := by decide +kernel
set_option maxRecDepth 100000 in
theorem ck_195 : sm_ckm 195 = true := by decide +kernel
set_option maxRecDepth 100000 in
theorem ck_196 : sm_ckm 196 = true := by decide +kernel
