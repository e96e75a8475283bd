/-! the checks of methods 158 to 178 -/
set_option maxRecDepth 100000 in
theorem ck_158 : (tab 158).all (chE 158) = true := by decide +kernel
theorem cm_158 : chM 158 = true := by decide +kernel
set_option maxRecDepth 100000 in
theorem ck_159 : (tab 159).all (chE 159) = true := by decide +kernel
theorem cm_159 : chM 159 = true := by decide +kernel
set_option maxRecDepth 100000 in
theorem ck_160 : (tab 160).all (chE 160) = true := by decide +kernel
theorem cm_160 : chM 160 = true := by decide +kernel
set_option maxRecDepth 100000 in
theorem ck_161 : (tab 161).all (chE 161) = true := by decide +kernel
theorem cm_161 : chM 161 = true := by decide +kernel
set_option maxRecDepth 100000 in
theorem ck_162 : (tab 162).all (chE 162) = true := by decide +kernel
theorem cm_162 : chM 162 = true := by decide +kernel
set_option maxRecDepth 100000 in
theorem ck_163 : (tab 163).all (chE 163) = true := by decide +kernel
theorem cm_163 : chM 163 = true := by decide +kernel
set_option maxRecDepth 100000 in
theorem ck_164 : (tab 164).all (chE 164) = true := by decide +kernel
theorem cm_164 : chM 164 = true := by decide +kernel
set_option maxRecDepth 100000 in
theorem ck_165 : (tab 165).all (chE 165) = true := by decide +kernel
theorem cm_165 : chM 165 = true := by decide +kernel
set_option maxRecDepth 100000 in
theorem ck_166 : (tab 166).all (chE 166) = true := by decide +kernel
theorem cm_166 : chM 166 = true := by decide +kernel
set_option maxRecDepth 100000 in
theorem ck_167 : (tab 167).all (chE 167) = true := by decide +kernel
theorem cm_167 : chM 167 = true := by decide +kernel
set_option maxRecDepth 100000 in
theorem ck_168 : (tab 168).all (chE 168) = true := by decide +kernel
theorem cm_168 : chM 168 = true := by decide +kernel
set_option maxRecDepth 100000 in
theorem ck_169 : (tab 169).all (chE 169) = true := by decide +kernel
theorem cm_169 : chM 169 = true := by decide +kernel
set_option maxRecDepth 100000 in
theorem ck_170 : (tab 170).all (chE 170) = true := by decide +kernel
theorem cm_170 : chM 170 = true := by decide +kernel
set_option maxRecDepth 100000 in
theorem ck_171 : (tab 171).all (chE 171) = true := by decide +kernel
theorem cm_171 : chM 171 = true := by decide +kernel
set_option maxRecDepth 100000 in
theorem ck_172 : (tab 172).all (chE 172) = true := by decide +kernel
theorem cm_172 : chM 172 = true := by decide +kernel
set_option maxRecDepth 100000 in
theorem ck_173 : (tab 173).all (chE 173) = true := by decide +kernel
theorem cm_173 : chM 173 = true := by decide +kernel
set_option maxRecDepth 100000 in
theorem ck_174 : (tab 174).all (chE 174) = true := by decide +kernel
theorem cm_174 : chM 174 = true := by decide +kernel
set_option maxRecDepth 100000 in
theorem ck_175 : (tab 175).all (chE 175) = true := by decide +kernel
theorem cm_175 : chM 175 = true := by decide +kernel
set_option maxRecDepth 100000 in
theorem ck_176 : (tab 176).all (chE 176) = true := by decide +kernel
theorem cm_176 : chM 176 = true := by decide +kernel
set_option maxRecDepth 100000 in
theorem ck_177 : (tab 177).all (chE 177) = true := by decide +kernel
theorem cm_177 : chM 177 = true := by decide +kernel
set_option maxRecDepth 100000 in
theorem ck_178 : (tab 178).all (chE 178) = true := by decide +kernel
theorem cm_178 : chM 178 = true := by decide +kernel
