/-! the checks of methods 34 to 63 -/
set_option maxRecDepth 100000 in
theorem ck_34 : (tab 34).all (chE 34) = true := by decide +kernel
theorem cm_34 : chM 34 = true := by decide +kernel
set_option maxRecDepth 100000 in
theorem ck_35 : (tab 35).all (chE 35) = true := by decide +kernel
theorem cm_35 : chM 35 = true := by decide +kernel
set_option maxRecDepth 100000 in
theorem ck_36 : (tab 36).all (chE 36) = true := by decide +kernel
theorem cm_36 : chM 36 = true := by decide +kernel
set_option maxRecDepth 100000 in
theorem ck_37 : (tab 37).all (chE 37) = true := by decide +kernel
theorem cm_37 : chM 37 = true := by decide +kernel
set_option maxRecDepth 100000 in
theorem ck_38 : (tab 38).all (chE 38) = true := by decide +kernel
theorem cm_38 : chM 38 = true := by decide +kernel
set_option maxRecDepth 100000 in
theorem ck_39 : (tab 39).all (chE 39) = true := by decide +kernel
theorem cm_39 : chM 39 = true := by decide +kernel
set_option maxRecDepth 100000 in
theorem ck_40 : (tab 40).all (chE 40) = true := by decide +kernel
theorem cm_40 : chM 40 = true := by decide +kernel
set_option maxRecDepth 100000 in
theorem ck_41 : (tab 41).all (chE 41) = true := by decide +kernel
theorem cm_41 : chM 41 = true := by decide +kernel
set_option maxRecDepth 100000 in
theorem ck_42 : (tab 42).all (chE 42) = true := by decide +kernel
theorem cm_42 : chM 42 = true := by decide +kernel
set_option maxRecDepth 100000 in
theorem ck_43 : (tab 43).all (chE 43) = true := by decide +kernel
theorem cm_43 : chM 43 = true := by decide +kernel
set_option maxRecDepth 100000 in
theorem ck_44 : (tab 44).all (chE 44) = true := by decide +kernel
theorem cm_44 : chM 44 = true := by decide +kernel
set_option maxRecDepth 100000 in
theorem ck_45 : (tab 45).all (chE 45) = true := by decide +kernel
theorem cm_45 : chM 45 = true := by decide +kernel
set_option maxRecDepth 100000 in
theorem ck_46 : (tab 46).all (chE 46) = true := by decide +kernel
theorem cm_46 : chM 46 = true := by decide +kernel
set_option maxRecDepth 100000 in
theorem ck_47 : (tab 47).all (chE 47) = true := by decide +kernel
theorem cm_47 : chM 47 = true := by decide +kernel
set_option maxRecDepth 100000 in
theorem ck_48 : (tab 48).all (chE 48) = true := by decide +kernel
theorem cm_48 : chM 48 = true := by decide +kernel
set_option maxRecDepth 100000 in
theorem ck_49 : (tab 49).all (chE 49) = true := by decide +kernel
theorem cm_49 : chM 49 = true := by decide +kernel
set_option maxRecDepth 100000 in
theorem ck_50 : (tab 50).all (chE 50) = true := by decide +kernel
theorem cm_50 : chM 50 = true := by decide +kernel
set_option maxRecDepth 100000 in
theorem ck_51 : (tab 51).all (chE 51) = true := by decide +kernel
theorem cm_51 : chM 51 = true := by decide +kernel
set_option maxRecDepth 100000 in
theorem ck_52 : (tab 52).all (chE 52) = true := by decide +kernel
theorem cm_52 : chM 52 = true := by decide +kernel
set_option maxRecDepth 100000 in
theorem ck_53 : (tab 53).all (chE 53) = true := by decide +kernel
theorem cm_53 : chM 53 = true := by decide +kernel
set_option maxRecDepth 100000 in
theorem ck_54 : (tab 54).all (chE 54) = true := by decide +kernel
theorem cm_54 : chM 54 = true := by decide +kernel
set_option maxRecDepth 100000 in
theorem ck_55 : (tab 55).all (chE 55) = true := by decide +kernel
theorem cm_55 : chM 55 = true := by decide +kernel
set_option maxRecDepth 100000 in
theorem ck_56 : (tab 56).all (chE 56) = true := by decide +kernel
theorem cm_56 : chM 56 = true := by decide +kernel
set_option maxRecDepth 100000 in
theorem ck_57 : (tab 57).all (chE 57) = true := by decide +kernel
theorem cm_57 : chM 57 = true := by decide +kernel
set_option maxRecDepth 100000 in
theorem ck_58 : (tab 58).all (chE 58) = true := by decide +kernel
theorem cm_58 : chM 58 = true := by decide +kernel
set_option maxRecDepth 100000 in
theorem ck_59 : (tab 59).all (chE 59) = true := by decide +kernel
theorem cm_59 : chM 59 = true := by decide +kernel
set_option maxRecDepth 100000 in
theorem ck_60 : (tab 60).all (chE 60) = true := by decide +kernel
theorem cm_60 : chM 60 = true := by decide +kernel
set_option maxRecDepth 100000 in
theorem ck_61 : (tab 61).all (chE 61) = true := by decide +kernel
theorem cm_61 : chM 61 = true := by decide +kernel
set_option maxRecDepth 100000 in
theorem ck_62 : (tab 62).all (chE 62) = true := by decide +kernel
theorem cm_62 : chM 62 = true := by decide +kernel
set_option maxRecDepth 100000 in
theorem ck_63 : (tab 63).all (chE 63) = true := by decide +kernel
theorem cm_63 : chM 63 = true := by decide +kernel
