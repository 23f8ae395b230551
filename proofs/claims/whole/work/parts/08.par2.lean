set_option maxRecDepth 100000 in
theorem mp_140 : (parseMethodDescriptor (sm_mi 140).1.desc).map (fun d => d.parameters.length) = some (sm_np.getD 140 0) := by decide +kernel
set_option maxRecDepth 100000 in
theorem mp_141 : (parseMethodDescriptor (sm_mi 141).1.desc).map (fun d => d.parameters.length) = some (sm_np.getD 141 0) := by decide +kernel
set_option maxRecDepth 100000 in
theorem mp_142 : (parseMethodDescriptor (sm_mi 142).1.desc).map (fun d => d.parameters.length) = some (sm_np.getD 142 0) := by decide +kernel
set_option maxRecDepth 100000 in
theorem mp_143 : (parseMethodDescriptor (sm_mi 143).1.desc).map (fun d => d.parameters.length) = some (sm_np.getD 143 0) := by decide +kernel
set_option maxRecDepth 100000 in
theorem mp_144 : (parseMethodDescriptor (sm_mi 144).1.desc).map (fun d => d.parameters.length) = some (sm_np.getD 144 0) := by decide +kernel
set_option maxRecDepth 100000 in
theorem mp_145 : (parseMethodDescriptor (sm_mi 145).1.desc).map (fun d => d.parameters.length) = some (sm_np.getD 145 0) := by decide +kernel
set_option maxRecDepth 100000 in
theorem mp_146 : (parseMethodDescriptor (sm_mi 146).1.desc).map (fun d => d.parameters.length) = some (sm_np.getD 146 0) := by decide +kernel
set_option maxRecDepth 100000 in
theorem mp_147 : (parseMethodDescriptor (sm_mi 147).1.desc).map (fun d => d.parameters.length) = some (sm_np.getD 147 0) := by decide +kernel
set_option maxRecDepth 100000 in
theorem mp_148 : (parseMethodDescriptor (sm_mi 148).1.desc).map (fun d => d.parameters.length) = some (sm_np.getD 148 0) := by decide +kernel
set_option maxRecDepth 100000 in
theorem mp_149 : (parseMethodDescriptor (sm_mi 149).1.desc).map (fun d => d.parameters.length) = some (sm_np.getD 149 0) := by decide +kernel
set_option maxRecDepth 100000 in
theorem mp_150 : (parseMethodDescriptor (sm_mi 150).1.desc).map (fun d => d.parameters.length) = some (sm_np.getD 150 0) := by decide +kernel
set_option maxRecDepth 100000 in
theorem mp_151 : (parseMethodDescriptor (sm_mi 151).1.desc).map (fun d => d.parameters.length) = some (sm_np.getD 151 0) := by decide +kernel
set_option maxRecDepth 100000 in
theorem mp_152 : (parseMethodDescriptor (sm_mi 152).1.desc).map (fun d => d.parameters.length) = some (sm_np.getD 152 0) := by decide +kernel
set_option maxRecDepth 100000 in
theorem mp_153 : (parseMethodDescriptor (sm_mi 153).1.desc).map (fun d => d.parameters.length) = some (sm_np.getD 153 0) := by decide +kernel
set_option maxRecDepth 100000 in
theorem mp_154 : (parseMethodDescriptor (sm_mi 154).1.desc).map (fun d => d.parameters.length) = some (sm_np.getD 154 0) := by decide +kernel
set_option maxRecDepth 100000 in
theorem mp_155 : (parseMethodDescriptor (sm_mi 155).1.desc).map (fun d => d.parameters.length) = some (sm_np.getD 155 0) := by decide +kernel
set_option maxRecDepth 100000 in
theorem mp_156 : (parseMethodDescriptor (sm_mi 156).1.desc).map (fun d => d.parameters.length) = some (sm_np.getD 156 0) := by decide +kernel
set_option maxRecDepth 100000 in
theorem mp_157 : (parseMethodDescriptor (sm_mi 157).1.desc).map (fun d => d.parameters.length) = some (sm_np.getD 157 0) := by decide +kernel
set_option maxRecDepth 100000 in
theorem mp_158 : (parseMethodDescriptor (sm_mi 158).1.desc).map (fun d => d.parameters.length) = some (sm_np.getD 158 0) := by decide +kernel
set_option maxRecDepth 100000 in
theorem mp_159 : (parseMethodDescriptor (sm_mi 159).1.desc).map (fun d => d.parameters.length) = some (sm_np.getD 159 0) := by decide +kernel
set_option maxRecDepth 100000 in
theorem mp_160 : (parseMethodDescriptor (sm_mi 160).1.desc).map (fun d => d.parameters.length) = some (sm_np.getD 160 0) := by decide +kernel
set_option maxRecDepth 100000 in
theorem mp_161 : (parseMethodDescriptor (sm_mi 161).1.desc).map (fun d => d.parameters.length) = some (sm_np.getD 161 0) := by decide +kernel
set_option maxRecDepth 100000 in
theorem mp_162 : (parseMethodDescriptor (sm_mi 162).1.desc).map (fun d => d.parameters.length) = some (sm_np.getD 162 0) := by decide +kernel
set_option maxRecDepth 100000 in
theorem mp_163 : (parseMethodDescriptor (sm_mi 163).1.desc).map (fun d => d.parameters.length) = some (sm_np.getD 163 0) := by decide +kernel
set_option maxRecDepth 100000 in
theorem mp_164 : (parseMethodDescriptor (sm_mi 164).1.desc).map (fun d => d.parameters.length) = some (sm_np.getD 164 0) := by decide +kernel
set_option maxRecDepth 100000 in
theorem mp_165 : (parseMethodDescriptor (sm_mi 165).1.desc).map (fun d => d.parameters.length) = some (sm_np.getD 165 0) := by decide +kernel
set_option maxRecDepth 100000 in
theorem mp_166 : (parseMethodDescriptor (sm_mi 166).1.desc).map (fun d => d.parameters.length) = some (sm_np.getD 166 0) := by decide +kernel
set_option maxRecDepth 100000 in
theorem mp_167 : (parseMethodDescriptor (sm_mi 167).1.desc).map (fun d => d.parameters.length) = some (sm_np.getD 167 0) := by decide +kernel
set_option maxRecDepth 100000 in
theorem mp_168 : (parseMethodDescriptor (sm_mi 168).1.desc).map (fun d => d.parameters.length) = some (sm_np.getD 168 0) := by decide +kernel
set_option maxRecDepth 100000 in
theorem mp_169 : (parseMethodDescriptor (sm_mi 169).1.desc).map (fun d => d.parameters.length) = some (sm_np.getD 169 0) := by decide +kernel
set_option maxRecDepth 100000 in
theorem mp_170 : (parseMethodDescriptor (sm_mi 170).1.desc).map (fun d => d.parameters.length) = some (sm_np.getD 170 0) := by decide +kernel
set_option maxRecDepth 100000 in
theorem mp_171 : (parseMethodDescriptor (sm_mi 171).1.desc).map (fun d => d.parameters.length) = some (sm_np.getD 171 0) := by decide +kernel
set_option maxRecDepth 100000 in
theorem mp_172 : (parseMethodDescriptor (sm_mi 172).1.desc).map (fun d => d.parameters.length) = some (sm_np.getD 172 0) := by decide +kernel
set_option maxRecDepth 100000 in
theorem mp_173 : (parseMethodDescriptor (sm_mi 173).1.desc).map (fun d => d.parameters.length) = some (sm_np.getD 173 0) := by decide +kernel
set_option maxRecDepth 100000 in
theorem mp_174 : (parseMethodDescriptor (sm_mi 174).1.desc).map (fun d => d.parameters.length) = some (sm_np.getD 174 0) := by decide +kernel
set_option maxRecDepth 100000 in
theorem mp_175 : (parseMethodDescriptor (sm_mi 175).1.desc).map (fun d => d.parameters.length) = some (sm_np.getD 175 0) := by decide +kernel
set_option maxRecDepth 100000 in
theorem mp_176 : (parseMethodDescriptor (sm_mi 176).1.desc).map (fun d => d.parameters.length) = some (sm_np.getD 176 0) := by decide +kernel
set_option maxRecDepth 100000 in
theorem mp_177 : (parseMethodDescriptor (sm_mi 177).1.desc).map (fun d => d.parameters.length) = some (sm_np.getD 177 0) := by decide +kernel
set_option maxRecDepth 100000 in
theorem mp_178 : (parseMethodDescriptor (sm_mi 178).1.desc).map (fun d => d.parameters.length) = some (sm_np.getD 178 0) := by decide +kernel
set_option maxRecDepth 100000 in
theorem mp_179 : (parseMethodDescriptor (sm_mi 179).1.desc).map (fun d => d.parameters.length) = some (sm_np.getD 179 0) := by decide +kernel
set_option maxRecDepth 100000 in
theorem mp_180 : (parseMethodDescriptor (sm_mi 180).1.desc).map (fun d => d.parameters.length) = some (sm_np.getD 180 0) := by decide +kernel
set_option maxRecDepth 100000 in
theorem mp_181 : (parseMethodDescriptor (sm_mi 181).1.desc).map (fun d => d.parameters.length) = some (sm_np.getD 181 0) := by decide +kernel
set_option maxRecDepth 100000 in
theorem mp_182 : (parseMethodDescriptor (sm_mi 182).1.desc).map (fun d => d.parameters.length) = some (sm_np.getD 182 0) := by decide +kernel
set_option maxRecDepth 100000 in
theorem mp_183 : (parseMethodDescriptor (sm_mi 183).1.desc).map (fun d => d.parameters.length) = some (sm_np.getD 183 0) := by decide +kernel
set_option maxRecDepth 100000 in
theorem mp_184 : (parseMethodDescriptor (sm_mi 184).1.desc).map (fun d => d.parameters.length) = some (sm_np.getD 184 0) := by decide +kernel
set_option maxRecDepth 100000 in
theorem mp_185 : (parseMethodDescriptor (sm_mi 185).1.desc).map (fun d => d.parameters.length) = some (sm_np.getD 185 0) := by decide +kernel
set_option maxRecDepth 100000 in
theorem mp_186 : (parseMethodDescriptor (sm_mi 186).1.desc).map (fun d => d.parameters.length) = some (sm_np.getD 186 0) := by decide +kernel
set_option maxRecDepth 100000 in
theorem mp_187 : (parseMethodDescriptor (sm_mi 187).1.desc).map (fun d => d.parameters.length) = some (sm_np.getD 187 0) := by decide +kernel
set_option maxRecDepth 100000 in
theorem mp_188 : (parseMethodDescriptor (sm_mi 188).1.desc).map (fun d => d.parameters.length) = some (sm_np.getD 188 0) := by decide +kernel
set_option maxRecDepth 100000 in
theorem mp_189 : (parseMethodDescriptor (sm_mi 189).1.desc).map (fun d => d.parameters.length) = some (sm_np.getD 189 0) := by decide +kernel
set_option maxRecDepth 100000 in
theorem mp_190 : (parseMethodDescriptor (sm_mi 190).1.desc).map (fun d => d.parameters.length) = some (sm_np.getD 190 0) := by decide +kernel
set_option maxRecDepth 100000 in
theorem mp_191 : (parseMethodDescriptor (sm_mi 191).1.desc).map (fun d => d.parameters.length) = some (sm_np.getD 191 0) := by decide +kernel
set_option maxRecDepth 100000 in
theorem mp_192 : (parseMethodDescriptor (sm_mi 192).1.desc).map (fun d => d.parameters.length) = some (sm_np.getD 192 0) := by decide +kernel
set_option maxRecDepth 100000 in
theorem mp_193 : (parseMethodDescriptor (sm_mi 193).1.desc).map (fun d => d.parameters.length) = some (sm_np.getD 193 0) := by decide +kernel
set_option maxRecDepth 100000 in
theorem mp_194 : (parseMethodDescriptor (sm_mi 194).1.desc).map (fun d => d.parameters.length) = some (sm_np.getD 194 0) := by decide +kernel
set_option maxRecDepth 100000 in
theorem mp_195 : (parseMethodDescriptor (sm_mi 195).1.desc).map (fun d => d.parameters.length) = some (sm_np.getD 195 0) := by decide +kernel
set_option maxRecDepth 100000 in
theorem mp_196 : (parseMethodDescriptor (sm_mi 196).1.desc).map (fun d => d.parameters.length) = some (sm_np.getD 196 0) := by decide +kernel
set_option maxRecDepth 100000 in
theorem mp_197 : (parseMethodDescriptor (sm_mi 197).1.desc).map (fun d => d.parameters.length) = some (sm_np.getD 197 0) := by decide +kernel
set_option maxRecDepth 100000 in
theorem mp_198 : (parseMethodDescriptor (sm_mi 198).1.desc).map (fun d => d.parameters.length) = some (sm_np.getD 198 0) := by decide +kernel
set_option maxRecDepth 100000 in
theorem mp_199 : (parseMethodDescriptor (sm_mi 199).1.desc).map (fun d => d.parameters.length) = some (sm_np.getD 199 0) := by decide +kernel
set_option maxRecDepth 100000 in
theorem mp_200 : (parseMethodDescriptor (sm_mi 200).1.desc).map (fun d => d.parameters.length) = some (sm_np.getD 200 0) := by decide +kernel
set_option maxRecDepth 100000 in
theorem mp_201 : (parseMethodDescriptor (sm_mi 201).1.desc).map (fun d => d.parameters.length) = some (sm_np.getD 201 0) := by decide +kernel
