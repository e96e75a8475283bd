/-! the checks of methods 179 to 206 -/
set_option maxRecDepth 100000 in
theorem ck_179 : (tab 179).all (chE 179) = true := by decide +kernel
theorem cm_179 : chM 179 = true := by decide +kernel
set_option maxRecDepth 100000 in
theorem ck_180 : (tab 180).all (chE 180) = true := by decide +kernel
theorem cm_180 : chM 180 = true := by decide +kernel
set_option maxRecDepth 100000 in
theorem ck_181 : (tab 181).all (chE 181) = true := by decide +kernel
theorem cm_181 : chM 181 = true := by decide +kernel
set_option maxRecDepth 100000 in
theorem ck_182 : (tab 182).all (chE 182) = true := by decide +kernel
theorem cm_182 : chM 182 = true := by decide +kernel
set_option maxRecDepth 100000 in
theorem ck_183 : (tab 183).all (chE 183) = true := by decide +kernel
theorem cm_183 : chM 183 = true := by decide +kernel
set_option maxRecDepth 100000 in
theorem ck_184 : (tab 184).all (chE 184) = true := by decide +kernel
theorem cm_184 : chM 184 = true := by decide +kernel
set_option maxRecDepth 100000 in
theorem ck_185 : (tab 185).all (chE 185) = true := by decide +kernel
theorem cm_185 : chM 185 = true := by decide +kernel
set_option maxRecDepth 100000 in
theorem ck_186 : (tab 186).all (chE 186) = true := by decide +kernel
theorem cm_186 : chM 186 = true := by decide +kernel
set_option maxRecDepth 100000 in
theorem ck_187 : (tab 187).all (chE 187) = true := by decide +kernel
theorem cm_187 : chM 187 = true := by decide +kernel
set_option maxRecDepth 100000 in
theorem ck_188 : (tab 188).all (chE 188) = true := by decide +kernel
theorem cm_188 : chM 188 = true := by decide +kernel
set_option maxRecDepth 100000 in
theorem ck_189 : (tab 189).all (chE 189) = true := by decide +kernel
theorem cm_189 : chM 189 = true := by decide +kernel
set_option maxRecDepth 100000 in
theorem ck_190 : (tab 190).all (chE 190) = true := by decide +kernel
theorem cm_190 : chM 190 = true := by decide +kernel
set_option maxRecDepth 100000 in
theorem ck_191 : (tab 191).all (chE 191) = true := by decide +kernel
theorem cm_191 : chM 191 = true := by decide +kernel
set_option maxRecDepth 100000 in
theorem ck_192 : (tab 192).all (chE 192) = true := by decide +kernel
theorem cm_192 : chM 192 = true := by decide +kernel
set_option maxRecDepth 100000 in
theorem ck_193 : (tab 193).all (chE 193) = true := by decide +kernel
theorem cm_193 : chM 193 = true := by decide +kernel
set_option maxRecDepth 100000 in
theorem ck_194 : (tab 194).all (chE 194) = true := by decide +kernel
theorem cm_194 : chM 194 = true := by decide +kernel
set_option maxRecDepth 100000 in
theorem ck_195 : (tab 195).all (chE 195) = true := by decide +kernel
theorem cm_195 : chM 195 = true := by decide +kernel
set_option maxRecDepth 100000 in
theorem ck_196 : (tab 196).all (chE 196) = true := by decide +kernel
theorem cm_196 : chM 196 = true := by decide +kernel
set_option maxRecDepth 100000 in
theorem ck_197 : (tab 197).all (chE 197) = true := by decide +kernel
theorem cm_197 : chM 197 = true := by decide +kernel
set_option maxRecDepth 100000 in
theorem ck_198 : (tab 198).all (chE 198) = true := by decide +kernel
theorem cm_198 : chM 198 = true := by decide +kernel
set_option maxRecDepth 100000 in
theorem ck_199 : (tab 199).all (chE 199) = true := by decide +kernel
theorem cm_199 : chM 199 = true := by decide +kernel
set_option maxRecDepth 100000 in
theorem ck_200 : (tab 200).all (chE 200) = true := by decide +kernel
theorem cm_200 : chM 200 = true := by decide +kernel
set_option maxRecDepth 100000 in
theorem ck_201 : (tab 201).all (chE 201) = true := by decide +kernel
theorem cm_201 : chM 201 = true := by decide +kernel
set_option maxRecDepth 100000 in
theorem ck_202 : (tab 202).all (chE 202) = true := by decide +kernel
theorem cm_202 : chM 202 = true := by decide +kernel
set_option maxRecDepth 100000 in
theorem ck_203 : (tab 203).all (chE 203) = true := by decide +kernel
theorem cm_203 : chM 203 = true := by decide +kernel
set_option maxRecDepth 100000 in
theorem ck_204 : (tab 204).all (chE 204) = true := by decide +kernel
theorem cm_204 : chM 204 = true := by decide +kernel
set_option maxRecDepth 100000 in
theorem ck_205 : (tab 205).all (chE 205) = true := by decide +kernel
theorem cm_205 : chM 205 = true := by decide +kernel
set_option maxRecDepth 100000 in
theorem ck_206 : (tab 206).all (chE 206) = true := by decide +kernel
theorem cm_206 : chM 206 = true := by decide +kernel
