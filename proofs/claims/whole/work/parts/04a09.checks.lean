/-! the checks of methods 207 to 224 -/
set_option maxRecDepth 100000 in
theorem ck_207 : (tab 207).all (chE 207) = true := by decide +kernel
theorem cm_207 : chM 207 = true := by decide +kernel
set_option maxRecDepth 100000 in
theorem ck_208 : (tab 208).all (chE 208) = true := by decide +kernel
theorem cm_208 : chM 208 = true := by decide +kernel
set_option maxRecDepth 100000 in
theorem ck_209 : (tab 209).all (chE 209) = true := by decide +kernel
theorem cm_209 : chM 209 = true := by decide +kernel
set_option maxRecDepth 100000 in
theorem ck_210 : (tab 210).all (chE 210) = true := by decide +kernel
theorem cm_210 : chM 210 = true := by decide +kernel
set_option maxRecDepth 100000 in
theorem ck_211 : (tab 211).all (chE 211) = true := by decide +kernel
theorem cm_211 : chM 211 = true := by decide +kernel
set_option maxRecDepth 100000 in
theorem ck_212 : (tab 212).all (chE 212) = true := by decide +kernel
theorem cm_212 : chM 212 = true := by decide +kernel
set_option maxRecDepth 100000 in
theorem ck_213 : (tab 213).all (chE 213) = true := by decide +kernel
theorem cm_213 : chM 213 = true := by decide +kernel
set_option maxRecDepth 100000 in
theorem ck_214 : (tab 214).all (chE 214) = true := by decide +kernel
theorem cm_214 : chM 214 = true := by decide +kernel
set_option maxRecDepth 100000 in
theorem ck_215 : (tab 215).all (chE 215) = true := by decide +kernel
theorem cm_215 : chM 215 = true := by decide +kernel
set_option maxRecDepth 100000 in
theorem ck_216 : (tab 216).all (chE 216) = true := by decide +kernel
theorem cm_216 : chM 216 = true := by decide +kernel
set_option maxRecDepth 100000 in
theorem ck_217 : (tab 217).all (chE 217) = true := by decide +kernel
theorem cm_217 : chM 217 = true := by decide +kernel
set_option maxRecDepth 100000 in
theorem ck_218 : (tab 218).all (chE 218) = true := by decide +kernel
theorem cm_218 : chM 218 = true := by decide +kernel
set_option maxRecDepth 100000 in
theorem ck_219 : (tab 219).all (chE 219) = true := by decide +kernel
theorem cm_219 : chM 219 = true := by decide +kernel
set_option maxRecDepth 100000 in
theorem ck_220 : (tab 220).all (chE 220) = true := by decide +kernel
theorem cm_220 : chM 220 = true := by decide +kernel
set_option maxRecDepth 100000 in
theorem ck_221 : (tab 221).all (chE 221) = true := by decide +kernel
theorem cm_221 : chM 221 = true := by decide +kernel
set_option maxRecDepth 100000 in
theorem ck_222 : (tab 222).all (chE 222) = true := by decide +kernel
theorem cm_222 : chM 222 = true := by decide +kernel
set_option maxRecDepth 100000 in
theorem ck_223 : (tab 223).all (chE 223) = true := by decide +kernel
theorem cm_223 : chM 223 = true := by decide +kernel
set_option maxRecDepth 100000 in
theorem ck_224 : (tab 224).all (chE 224) = true := by decide +kernel
theorem cm_224 : chM 224 = true := by decide +kernel
