/-! the checks of methods 108 to 134 -/
set_option maxRecDepth 100000 in
theorem ck_108 : (tab 108).all (chE 108) = true := by decide +kernel
theorem cm_108 : chM 108 = true := by decide +kernel
set_option maxRecDepth 100000 in
theorem ck_109 : (tab 109).all (chE 109) = true := by decide +kernel
theorem cm_109 : chM 109 = true := by decide +kernel
set_option maxRecDepth 100000 in
theorem ck_110 : (tab 110).all (chE 110) = true := by decide +kernel
theorem cm_110 : chM 110 = true := by decide +kernel
set_option maxRecDepth 100000 in
theorem ck_111 : (tab 111).all (chE 111) = true := by decide +kernel
theorem cm_111 : chM 111 = true := by decide +kernel
set_option maxRecDepth 100000 in
theorem ck_112 : (tab 112).all (chE 112) = true := by decide +kernel
theorem cm_112 : chM 112 = true := by decide +kernel
set_option maxRecDepth 100000 in
theorem ck_113 : (tab 113).all (chE 113) = true := by decide +kernel
theorem cm_113 : chM 113 = true := by decide +kernel
set_option maxRecDepth 100000 in
theorem ck_114 : (tab 114).all (chE 114) = true := by decide +kernel
theorem cm_114 : chM 114 = true := by decide +kernel
set_option maxRecDepth 100000 in
theorem ck_115 : (tab 115).all (chE 115) = true := by decide +kernel
theorem cm_115 : chM 115 = true := by decide +kernel
set_option maxRecDepth 100000 in
theorem ck_116 : (tab 116).all (chE 116) = true := by decide +kernel
theorem cm_116 : chM 116 = true := by decide +kernel
set_option maxRecDepth 100000 in
theorem ck_117 : (tab 117).all (chE 117) = true := by decide +kernel
theorem cm_117 : chM 117 = true := by decide +kernel
set_option maxRecDepth 100000 in
theorem ck_118 : (tab 118).all (chE 118) = true := by decide +kernel
theorem cm_118 : chM 118 = true := by decide +kernel
set_option maxRecDepth 100000 in
theorem ck_119 : (tab 119).all (chE 119) = true := by decide +kernel
theorem cm_119 : chM 119 = true := by decide +kernel
set_option maxRecDepth 100000 in
theorem ck_120 : (tab 120).all (chE 120) = true := by decide +kernel
theorem cm_120 : chM 120 = true := by decide +kernel
set_option maxRecDepth 100000 in
theorem ck_121 : (tab 121).all (chE 121) = true := by decide +kernel
theorem cm_121 : chM 121 = true := by decide +kernel
set_option maxRecDepth 100000 in
theorem ck_122 : (tab 122).all (chE 122) = true := by decide +kernel
theorem cm_122 : chM 122 = true := by decide +kernel
set_option maxRecDepth 100000 in
theorem ck_123 : (tab 123).all (chE 123) = true := by decide +kernel
theorem cm_123 : chM 123 = true := by decide +kernel
set_option maxRecDepth 100000 in
theorem ck_124 : (tab 124).all (chE 124) = true := by decide +kernel
theorem cm_124 : chM 124 = true := by decide +kernel
set_option maxRecDepth 100000 in
theorem ck_125 : (tab 125).all (chE 125) = true := by decide +kernel
theorem cm_125 : chM 125 = true := by decide +kernel
set_option maxRecDepth 100000 in
theorem ck_126 : (tab 126).all (chE 126) = true := by decide +kernel
theorem cm_126 : chM 126 = true := by decide +kernel
set_option maxRecDepth 100000 in
theorem ck_127 : (tab 127).all (chE 127) = true := by decide +kernel
theorem cm_127 : chM 127 = true := by decide +kernel
set_option maxRecDepth 100000 in
theorem ck_128 : (tab 128).all (chE 128) = true := by decide +kernel
theorem cm_128 : chM 128 = true := by decide +kernel
set_option maxRecDepth 100000 in
theorem ck_129 : (tab 129).all (chE 129) = true := by decide +kernel
theorem cm_129 : chM 129 = true := by decide +kernel
set_option maxRecDepth 100000 in
theorem ck_130 : (tab 130).all (chE 130) = true := by decide +kernel
theorem cm_130 : chM 130 = true := by decide +kernel
set_option maxRecDepth 100000 in
theorem ck_131 : (tab 131).all (chE 131) = true := by decide +kernel
theorem cm_131 : chM 131 = true := by decide +kernel
set_option maxRecDepth 100000 in
theorem ck_132 : (tab 132).all (chE 132) = true := by decide +kernel
theorem cm_132 : chM 132 = true := by decide +kernel
set_option maxRecDepth 100000 in
theorem ck_133 : (tab 133).all (chE 133) = true := by decide +kernel
theorem cm_133 : chM 133 = true := by decide +kernel
set_option maxRecDepth 100000 in
theorem ck_134 : (tab 134).all (chE 134) = true := by decide +kernel
theorem cm_134 : chM 134 = true := by decide +kernel
