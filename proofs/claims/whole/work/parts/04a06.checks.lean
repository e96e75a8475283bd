/-! the checks of methods 135 to 157 -/
set_option maxRecDepth 100000 in
theorem ck_135 : (tab 135).all (chE 135) = true := by decide +kernel
theorem cm_135 : chM 135 = true := by decide +kernel
set_option maxRecDepth 100000 in
theorem ck_136 : (tab 136).all (chE 136) = true := by decide +kernel
theorem cm_136 : chM 136 = true := by decide +kernel
set_option maxRecDepth 100000 in
theorem ck_137 : (tab 137).all (chE 137) = true := by decide +kernel
theorem cm_137 : chM 137 = true := by decide +kernel
set_option maxRecDepth 100000 in
theorem ck_138 : (tab 138).all (chE 138) = true := by decide +kernel
theorem cm_138 : chM 138 = true := by decide +kernel
set_option maxRecDepth 100000 in
theorem ck_139 : (tab 139).all (chE 139) = true := by decide +kernel
theorem cm_139 : chM 139 = true := by decide +kernel
set_option maxRecDepth 100000 in
theorem ck_140 : (tab 140).all (chE 140) = true := by decide +kernel
theorem cm_140 : chM 140 = true := by decide +kernel
set_option maxRecDepth 100000 in
theorem ck_141 : (tab 141).all (chE 141) = true := by decide +kernel
theorem cm_141 : chM 141 = true := by decide +kernel
set_option maxRecDepth 100000 in
theorem ck_142 : (tab 142).all (chE 142) = true := by decide +kernel
theorem cm_142 : chM 142 = true := by decide +kernel
set_option maxRecDepth 100000 in
theorem ck_143 : (tab 143).all (chE 143) = true := by decide +kernel
theorem cm_143 : chM 143 = true := by decide +kernel
set_option maxRecDepth 100000 in
theorem ck_144 : (tab 144).all (chE 144) = true := by decide +kernel
theorem cm_144 : chM 144 = true := by decide +kernel
set_option maxRecDepth 100000 in
theorem ck_145 : (tab 145).all (chE 145) = true := by decide +kernel
theorem cm_145 : chM 145 = true := by decide +kernel
set_option maxRecDepth 100000 in
theorem ck_146 : (tab 146).all (chE 146) = true := by decide +kernel
theorem cm_146 : chM 146 = true := by decide +kernel
set_option maxRecDepth 100000 in
theorem ck_147 : (tab 147).all (chE 147) = true := by decide +kernel
theorem cm_147 : chM 147 = true := by decide +kernel
set_option maxRecDepth 100000 in
theorem ck_148 : (tab 148).all (chE 148) = true := by decide +kernel
theorem cm_148 : chM 148 = true := by decide +kernel
set_option maxRecDepth 100000 in
theorem ck_149 : (tab 149).all (chE 149) = true := by decide +kernel
theorem cm_149 : chM 149 = true := by decide +kernel
set_option maxRecDepth 100000 in
theorem ck_150 : (tab 150).all (chE 150) = true := by decide +kernel
theorem cm_150 : chM 150 = true := by decide +kernel
set_option maxRecDepth 100000 in
theorem ck_151 : (tab 151).all (chE 151) = true := by decide +kernel
theorem cm_151 : chM 151 = true := by decide +kernel
set_option maxRecDepth 100000 in
theorem ck_152 : (tab 152).all (chE 152) = true := by decide +kernel
theorem cm_152 : chM 152 = true := by decide +kernel
set_option maxRecDepth 100000 in
theorem ck_153 : (tab 153).all (chE 153) = true := by decide +kernel
theorem cm_153 : chM 153 = true := by decide +kernel
set_option maxRecDepth 100000 in
theorem ck_154 : (tab 154).all (chE 154) = true := by decide +kernel
theorem cm_154 : chM 154 = true := by decide +kernel
set_option maxRecDepth 100000 in
theorem ck_155 : (tab 155).all (chE 155) = true := by decide +kernel
theorem cm_155 : chM 155 = true := by decide +kernel
set_option maxRecDepth 100000 in
theorem ck_156 : (tab 156).all (chE 156) = true := by decide +kernel
theorem cm_156 : chM 156 = true := by decide +kernel
set_option maxRecDepth 100000 in
theorem ck_157 : (tab 157).all (chE 157) = true := by decide +kernel
theorem cm_157 : chM 157 = true := by decide +kernel
