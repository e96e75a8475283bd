/-! the checks of methods 1 to 33 -/
set_option maxRecDepth 100000 in
theorem ck_1 : (tab 1).all (chE 1) = true := by decide +kernel
theorem cm_1 : chM 1 = true := by decide +kernel
set_option maxRecDepth 100000 in
theorem ck_2 : (tab 2).all (chE 2) = true := by decide +kernel
theorem cm_2 : chM 2 = true := by decide +kernel
set_option maxRecDepth 100000 in
theorem ck_3 : (tab 3).all (chE 3) = true := by decide +kernel
theorem cm_3 : chM 3 = true := by decide +kernel
set_option maxRecDepth 100000 in
theorem ck_4 : (tab 4).all (chE 4) = true := by decide +kernel
theorem cm_4 : chM 4 = true := by decide +kernel
set_option maxRecDepth 100000 in
theorem ck_5 : (tab 5).all (chE 5) = true := by decide +kernel
theorem cm_5 : chM 5 = true := by decide +kernel
set_option maxRecDepth 100000 in
theorem ck_6 : (tab 6).all (chE 6) = true := by decide +kernel
theorem cm_6 : chM 6 = true := by decide +kernel
set_option maxRecDepth 100000 in
theorem ck_7 : (tab 7).all (chE 7) = true := by decide +kernel
theorem cm_7 : chM 7 = true := by decide +kernel
set_option maxRecDepth 100000 in
theorem ck_8 : (tab 8).all (chE 8) = true := by decide +kernel
theorem cm_8 : chM 8 = true := by decide +kernel
set_option maxRecDepth 100000 in
theorem ck_9 : (tab 9).all (chE 9) = true := by decide +kernel
theorem cm_9 : chM 9 = true := by decide +kernel
set_option maxRecDepth 100000 in
theorem ck_10 : (tab 10).all (chE 10) = true := by decide +kernel
theorem cm_10 : chM 10 = true := by decide +kernel
set_option maxRecDepth 100000 in
theorem ck_11 : (tab 11).all (chE 11) = true := by decide +kernel
theorem cm_11 : chM 11 = true := by decide +kernel
set_option maxRecDepth 100000 in
theorem ck_12 : (tab 12).all (chE 12) = true := by decide +kernel
theorem cm_12 : chM 12 = true := by decide +kernel
set_option maxRecDepth 100000 in
theorem ck_13 : (tab 13).all (chE 13) = true := by decide +kernel
theorem cm_13 : chM 13 = true := by decide +kernel
set_option maxRecDepth 100000 in
theorem ck_14 : (tab 14).all (chE 14) = true := by decide +kernel
theorem cm_14 : chM 14 = true := by decide +kernel
set_option maxRecDepth 100000 in
theorem ck_15 : (tab 15).all (chE 15) = true := by decide +kernel
theorem cm_15 : chM 15 = true := by decide +kernel
set_option maxRecDepth 100000 in
theorem ck_16 : (tab 16).all (chE 16) = true := by decide +kernel
theorem cm_16 : chM 16 = true := by decide +kernel
set_option maxRecDepth 100000 in
theorem ck_17 : (tab 17).all (chE 17) = true := by decide +kernel
theorem cm_17 : chM 17 = true := by decide +kernel
set_option maxRecDepth 100000 in
theorem ck_18 : (tab 18).all (chE 18) = true := by decide +kernel
theorem cm_18 : chM 18 = true := by decide +kernel
set_option maxRecDepth 100000 in
theorem ck_19 : (tab 19).all (chE 19) = true := by decide +kernel
theorem cm_19 : chM 19 = true := by decide +kernel
set_option maxRecDepth 100000 in
theorem ck_20 : (tab 20).all (chE 20) = true := by decide +kernel
theorem cm_20 : chM 20 = true := by decide +kernel
set_option maxRecDepth 100000 in
theorem ck_21 : (tab 21).all (chE 21) = true := by decide +kernel
theorem cm_21 : chM 21 = true := by decide +kernel
set_option maxRecDepth 100000 in
theorem ck_22 : (tab 22).all (chE 22) = true := by decide +kernel
theorem cm_22 : chM 22 = true := by decide +kernel
set_option maxRecDepth 100000 in
theorem ck_23 : (tab 23).all (chE 23) = true := by decide +kernel
theorem cm_23 : chM 23 = true := by decide +kernel
set_option maxRecDepth 100000 in
theorem ck_24 : (tab 24).all (chE 24) = true := by decide +kernel
theorem cm_24 : chM 24 = true := by decide +kernel
set_option maxRecDepth 100000 in
theorem ck_25 : (tab 25).all (chE 25) = true := by decide +kernel
theorem cm_25 : chM 25 = true := by decide +kernel
set_option maxRecDepth 100000 in
theorem ck_26 : (tab 26).all (chE 26) = true := by decide +kernel
theorem cm_26 : chM 26 = true := by decide +kernel
set_option maxRecDepth 100000 in
theorem ck_27 : (tab 27).all (chE 27) = true := by decide +kernel
theorem cm_27 : chM 27 = true := by decide +kernel
set_option maxRecDepth 100000 in
theorem ck_28 : (tab 28).all (chE 28) = true := by decide +kernel
theorem cm_28 : chM 28 = true := by decide +kernel
set_option maxRecDepth 100000 in
theorem ck_29 : (tab 29).all (chE 29) = true := by decide +kernel
theorem cm_29 : chM 29 = true := by decide +kernel
set_option maxRecDepth 100000 in
theorem ck_30 : (tab 30).all (chE 30) = true := by decide +kernel
theorem cm_30 : chM 30 = true := by decide +kernel
set_option maxRecDepth 100000 in
theorem ck_31 : (tab 31).all (chE 31) = true := by decide +kernel
theorem cm_31 : chM 31 = true := by decide +kernel
set_option maxRecDepth 100000 in
theorem ck_32 : (tab 32).all (chE 32) = true := by decide +kernel
theorem cm_32 : chM 32 = true := by decide +kernel
set_option maxRecDepth 100000 in
theorem ck_33 : (tab 33).all (chE 33) = true := by decide +kernel
theorem cm_33 : chM 33 = true := by decide +kernel
