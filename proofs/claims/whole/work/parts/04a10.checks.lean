/-- as chM, for a member that the machine has no entry for -/
def chF (y : Nat) : Bool := eqW (spP y) (.code (spN y) (spB y) (spL y) (spR y)) && plainFor (spN y) && decide ((spN y).cls ≠ "java/lang/invoke/MethodHandle") && decide ((spN y).cls ≠ "java/lang/invoke/VarHandle") && decide (spL y ≤ 40) && decide (mdO y = (mdN y).cls)
theorem chF_of {y : Nat} (h : chM y = true) : chF y = true := by
  unfold chM at h
  unfold chF
  simp only [Bool.and_eq_true] at h ⊢
  exact ⟨⟨⟨⟨⟨h.1.1.1.1.1, plainFor_of_name h.1.1.1.1.2⟩, h.1.1.1.2⟩, h.1.1.2⟩, h.1.2⟩, h.2⟩
/-! the checks of methods 225 to 244 -/
set_option maxRecDepth 100000 in
theorem ck_225 : (tab 225).all (chE 225) = true := by decide +kernel
theorem cm_225 : chM 225 = true := by decide +kernel
set_option maxRecDepth 100000 in
theorem ck_226 : (tab 226).all (chE 226) = true := by decide +kernel
theorem cm_226 : chM 226 = true := by decide +kernel
set_option maxRecDepth 100000 in
theorem ck_227 : (tab 227).all (chE 227) = true := by decide +kernel
theorem cm_227 : chM 227 = true := by decide +kernel
set_option maxRecDepth 100000 in
theorem ck_228 : (tab 228).all (chE 228) = true := by decide +kernel
theorem cm_228 : chM 228 = true := by decide +kernel
set_option maxRecDepth 100000 in
theorem ck_229 : (tab 229).all (chE 229) = true := by decide +kernel
theorem cm_229 : chM 229 = true := by decide +kernel
set_option maxRecDepth 100000 in
theorem ck_230 : (tab 230).all (chE 230) = true := by decide +kernel
theorem cm_230 : chM 230 = true := by decide +kernel
set_option maxRecDepth 100000 in
theorem ck_231 : (tab 231).all (chE 231) = true := by decide +kernel
theorem cm_231 : chM 231 = true := by decide +kernel
set_option maxRecDepth 100000 in
theorem ck_232 : (tab 232).all (chE 232) = true := by decide +kernel
theorem cm_232 : chM 232 = true := by decide +kernel
set_option maxRecDepth 100000 in
theorem ck_233 : (tab 233).all (chE 233) = true := by decide +kernel
theorem cm_233 : chM 233 = true := by decide +kernel
set_option maxRecDepth 100000 in
theorem ck_234 : (tab 234).all (chE 234) = true := by decide +kernel
theorem cm_234 : chM 234 = true := by decide +kernel
set_option maxRecDepth 100000 in
theorem ck_235 : (tab 235).all (chE 235) = true := by decide +kernel
theorem cm_235 : chM 235 = true := by decide +kernel
set_option maxRecDepth 100000 in
theorem ck_236 : (tab 236).all (chE 236) = true := by decide +kernel
theorem cm_236 : chM 236 = true := by decide +kernel
set_option maxRecDepth 100000 in
theorem ck_237 : (tab 237).all (chE 237) = true := by decide +kernel
theorem cm_237 : chM 237 = true := by decide +kernel
set_option maxRecDepth 100000 in
theorem ck_238 : (tab 238).all (chE 238) = true := by decide +kernel
theorem cm_238 : chM 238 = true := by decide +kernel
set_option maxRecDepth 100000 in
theorem ck_239 : (tab 239).all (chE 239) = true := by decide +kernel
theorem cm_239 : chM 239 = true := by decide +kernel
set_option maxRecDepth 100000 in
theorem ck_240 : (tab 240).all (chE 240) = true := by decide +kernel
theorem cm_240 : chM 240 = true := by decide +kernel
set_option maxRecDepth 100000 in
theorem ck_241 : (tab 241).all (chE 241) = true := by decide +kernel
theorem cm_241 : chM 241 = true := by decide +kernel
set_option maxRecDepth 100000 in
theorem ck_242 : (tab 242).all (chE 242) = true := by decide +kernel
theorem cm_242 : chM 242 = true := by decide +kernel
set_option maxRecDepth 100000 in
theorem ck_243 : (tab 243).all (chE 243) = true := by decide +kernel
theorem cf_243 : chF 243 = true := by decide +kernel
set_option maxRecDepth 100000 in
theorem ck_244 : (tab 244).all (chE 244) = true := by decide +kernel
theorem cf_244 : chF 244 = true := by decide +kernel
