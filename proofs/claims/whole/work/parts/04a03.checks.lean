/-! the checks of methods 64 to 85 -/
set_option maxRecDepth 100000 in
theorem ck_64 : (tab 64).all (chE 64) = true := by decide +kernel
theorem cm_64 : chM 64 = true := by decide +kernel
set_option maxRecDepth 100000 in
theorem ck_65 : (tab 65).all (chE 65) = true := by decide +kernel
theorem cm_65 : chM 65 = true := by decide +kernel
set_option maxRecDepth 100000 in
theorem ck_66 : (tab 66).all (chE 66) = true := by decide +kernel
theorem cm_66 : chM 66 = true := by decide +kernel
set_option maxRecDepth 100000 in
theorem ck_67 : (tab 67).all (chE 67) = true := by decide +kernel
theorem cm_67 : chM 67 = true := by decide +kernel
set_option maxRecDepth 100000 in
theorem ck_68 : (tab 68).all (chE 68) = true := by decide +kernel
theorem cm_68 : chM 68 = true := by decide +kernel
set_option maxRecDepth 100000 in
theorem ck_69 : (tab 69).all (chE 69) = true := by decide +kernel
theorem cm_69 : chM 69 = true := by decide +kernel
set_option maxRecDepth 100000 in
theorem ck_70 : (tab 70).all (chE 70) = true := by decide +kernel
theorem cm_70 : chM 70 = true := by decide +kernel
set_option maxRecDepth 100000 in
theorem ck_71 : (tab 71).all (chE 71) = true := by decide +kernel
theorem cm_71 : chM 71 = true := by decide +kernel
set_option maxRecDepth 100000 in
theorem ck_72 : (tab 72).all (chE 72) = true := by decide +kernel
theorem cm_72 : chM 72 = true := by decide +kernel
set_option maxRecDepth 100000 in
theorem ck_73 : (tab 73).all (chE 73) = true := by decide +kernel
theorem cm_73 : chM 73 = true := by decide +kernel
set_option maxRecDepth 100000 in
theorem ck_74 : (tab 74).all (chE 74) = true := by decide +kernel
theorem cm_74 : chM 74 = true := by decide +kernel
set_option maxRecDepth 100000 in
theorem ck_75 : (tab 75).all (chE 75) = true := by decide +kernel
theorem cm_75 : chM 75 = true := by decide +kernel
set_option maxRecDepth 100000 in
theorem ck_76 : (tab 76).all (chE 76) = true := by decide +kernel
theorem cm_76 : chM 76 = true := by decide +kernel
set_option maxRecDepth 100000 in
theorem ck_77 : (tab 77).all (chE 77) = true := by decide +kernel
theorem cm_77 : chM 77 = true := by decide +kernel
set_option maxRecDepth 100000 in
theorem ck_78 : (tab 78).all (chE 78) = true := by decide +kernel
theorem cm_78 : chM 78 = true := by decide +kernel
set_option maxRecDepth 100000 in
theorem ck_79 : (tab 79).all (chE 79) = true := by decide +kernel
theorem cm_79 : chM 79 = true := by decide +kernel
set_option maxRecDepth 100000 in
theorem ck_80 : (tab 80).all (chE 80) = true := by decide +kernel
theorem cm_80 : chM 80 = true := by decide +kernel
set_option maxRecDepth 100000 in
theorem ck_81 : (tab 81).all (chE 81) = true := by decide +kernel
theorem cm_81 : chM 81 = true := by decide +kernel
set_option maxRecDepth 100000 in
theorem ck_82 : (tab 82).all (chE 82) = true := by decide +kernel
theorem cm_82 : chM 82 = true := by decide +kernel
set_option maxRecDepth 100000 in
theorem ck_83 : (tab 83).all (chE 83) = true := by decide +kernel
theorem cm_83 : chM 83 = true := by decide +kernel
set_option maxRecDepth 100000 in
theorem ck_84 : (tab 84).all (chE 84) = true := by decide +kernel
theorem cm_84 : chM 84 = true := by decide +kernel
set_option maxRecDepth 100000 in
theorem ck_85 : (tab 85).all (chE 85) = true := by decide +kernel
theorem cm_85 : chM 85 = true := by decide +kernel
