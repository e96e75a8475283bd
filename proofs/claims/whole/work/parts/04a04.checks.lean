/-! the checks of methods 86 to 107 -/
set_option maxRecDepth 100000 in
theorem ck_86 : (tab 86).all (chE 86) = true := by decide +kernel
theorem cm_86 : chM 86 = true := by decide +kernel
set_option maxRecDepth 100000 in
theorem ck_87 : (tab 87).all (chE 87) = true := by decide +kernel
theorem cm_87 : chM 87 = true := by decide +kernel
set_option maxRecDepth 100000 in
theorem ck_88 : (tab 88).all (chE 88) = true := by decide +kernel
theorem cm_88 : chM 88 = true := by decide +kernel
set_option maxRecDepth 100000 in
theorem ck_89 : (tab 89).all (chE 89) = true := by decide +kernel
theorem cm_89 : chM 89 = true := by decide +kernel
set_option maxRecDepth 100000 in
theorem ck_90 : (tab 90).all (chE 90) = true := by decide +kernel
theorem cm_90 : chM 90 = true := by decide +kernel
set_option maxRecDepth 100000 in
theorem ck_91 : (tab 91).all (chE 91) = true := by decide +kernel
theorem cm_91 : chM 91 = true := by decide +kernel
set_option maxRecDepth 100000 in
theorem ck_92 : (tab 92).all (chE 92) = true := by decide +kernel
theorem cm_92 : chM 92 = true := by decide +kernel
set_option maxRecDepth 100000 in
theorem ck_93 : (tab 93).all (chE 93) = true := by decide +kernel
theorem cm_93 : chM 93 = true := by decide +kernel
set_option maxRecDepth 100000 in
theorem ck_94 : (tab 94).all (chE 94) = true := by decide +kernel
theorem cm_94 : chM 94 = true := by decide +kernel
set_option maxRecDepth 100000 in
theorem ck_95 : (tab 95).all (chE 95) = true := by decide +kernel
theorem cm_95 : chM 95 = true := by decide +kernel
set_option maxRecDepth 100000 in
theorem ck_96 : (tab 96).all (chE 96) = true := by decide +kernel
theorem cm_96 : chM 96 = true := by decide +kernel
set_option maxRecDepth 100000 in
theorem ck_97 : (tab 97).all (chE 97) = true := by decide +kernel
theorem cm_97 : chM 97 = true := by decide +kernel
set_option maxRecDepth 100000 in
theorem ck_98 : (tab 98).all (chE 98) = true := by decide +kernel
theorem cm_98 : chM 98 = true := by decide +kernel
set_option maxRecDepth 100000 in
theorem ck_99 : (tab 99).all (chE 99) = true := by decide +kernel
theorem cm_99 : chM 99 = true := by decide +kernel
set_option maxRecDepth 100000 in
theorem ck_100 : (tab 100).all (chE 100) = true := by decide +kernel
theorem cm_100 : chM 100 = true := by decide +kernel
set_option maxRecDepth 100000 in
theorem ck_101 : (tab 101).all (chE 101) = true := by decide +kernel
theorem cm_101 : chM 101 = true := by decide +kernel
set_option maxRecDepth 100000 in
theorem ck_102 : (tab 102).all (chE 102) = true := by decide +kernel
theorem cm_102 : chM 102 = true := by decide +kernel
set_option maxRecDepth 100000 in
theorem ck_103 : (tab 103).all (chE 103) = true := by decide +kernel
theorem cm_103 : chM 103 = true := by decide +kernel
set_option maxRecDepth 100000 in
theorem ck_104 : (tab 104).all (chE 104) = true := by decide +kernel
theorem cm_104 : chM 104 = true := by decide +kernel
set_option maxRecDepth 100000 in
theorem ck_105 : (tab 105).all (chE 105) = true := by decide +kernel
theorem cm_105 : chM 105 = true := by decide +kernel
set_option maxRecDepth 100000 in
theorem ck_106 : (tab 106).all (chE 106) = true := by decide +kernel
theorem cm_106 : chM 106 = true := by decide +kernel
set_option maxRecDepth 100000 in
theorem ck_107 : (tab 107).all (chE 107) = true := by decide +kernel
theorem cm_107 : chM 107 = true := by decide +kernel
