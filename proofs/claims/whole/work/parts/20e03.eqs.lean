variable {cf : Nat → List Value → AM → Option AR} {L st : List Value} {M : AM} {x y : Int32} {p q : Int64} {a b : Nat} {v w : Value} {o : Option Nat} {v0 v1 v2 v3 v4 v5 v6 v7 v8 v9 v10 v11 v12 v13 v14 v15 v16 v17 v18 v19 v20 w1 w2 w3 w4 w5 w6 : Value}
/-! yX2_passWeek -/
theorem l_46_0 : look (tab 46) 0 = some (.aload_n 0, 1, [], uu) := by decide +kernel
theorem e_46_0 : den cf 46 0 [.ref a, v1, v2, v3, v4, v5, v6, v7] st M = den cf 46 1 [.ref a, v1, v2, v3, v4, v5, v6, v7] (.ref a :: st) M := den_go l_46_0 rfl
theorem l_46_1 : look (tab 46) 1 = some (.dup, 1, [], uu) := by decide +kernel
theorem e_46_1 : den cf 46 1 L (.ref a :: st) M = den cf 46 2 L (.ref a :: .ref a :: st) M := den_go l_46_1 rfl
theorem e_46_1_i : den cf 46 1 L (.int x :: st) M = den cf 46 2 L (.int x :: .int x :: st) M := den_go l_46_1 rfl
theorem l_46_2 : look (tab 46) 2 = some (.getfield 33, 3, [2, 5, 46], uu) := by decide +kernel
theorem e_46_2 : den cf 46 2 L (.ref a :: st) M = oK (gfA (M.2.2 a) 2 5) (fun v => den cf 46 5 L (v :: st) M) := den_gf l_46_2
theorem l_46_5 : look (tab 46) 5 = some (.iconst 1, 1, [], .int (zI 1)) := by decide +kernel
theorem e_46_5 : den cf 46 5 L st M = den cf 46 6 L (.int (zI 1) :: st) M := den_go l_46_5 rfl
theorem l_46_6 : look (tab 46) 6 = some (.iadd, 1, [], uu) := by decide +kernel
theorem e_46_6 : den cf 46 6 L (.int y :: .int x :: st) M = den cf 46 7 L (.int (x + y) :: st) M := den_go l_46_6 rfl
theorem l_46_7 : look (tab 46) 7 = some (.putfield 33, 3, [2, 5, 0, 46, 0], uu) := by decide +kernel
theorem e_46_7 : den cf 46 7 L (.int x :: .ref a :: st) M = oK (pfA (M.2.2 a) 2 5 (.int x)) (fun c => den cf 46 10 L st (mU M a c)) := den_pf0 l_46_7
theorem l_46_10 : look (tab 46) 10 = some (.iconst 0, 1, [], .int (zI 0)) := by decide +kernel
theorem e_46_10 : den cf 46 10 L st M = den cf 46 11 L (.int (zI 0) :: st) M := den_go l_46_10 rfl
theorem l_46_11 : look (tab 46) 11 = some (.istore_n 1, 1, [], uu) := by decide +kernel
theorem e_46_11 : den cf 46 11 [v0, v1, v2, v3, v4, v5, v6, v7] (.int x :: st) M = den cf 46 12 [kq v0, .int x, v2, v3, v4, v5, v6, v7] st M := den_st (k := 1) (v := .int x) l_46_11 rfl
theorem l_46_12 : look (tab 46) 12 = some (.aload_n 0, 1, [], uu) := by decide +kernel
theorem e_46_12 : den cf 46 12 [.ref a, v1, v2, v3, v4, v5, v6, v7] st M = den cf 46 13 [.ref a, v1, v2, v3, v4, v5, v6, v7] (.ref a :: st) M := den_go l_46_12 rfl
theorem l_46_13 : look (tab 46) 13 = some (.getfield 11, 3, [2, 0, 39], uu) := by decide +kernel
theorem e_46_13 : den cf 46 13 L (.ref a :: st) M = oK (gfA (M.2.2 a) 2 0) (fun v => den cf 46 16 L (v :: st) M) := den_gf l_46_13
theorem l_46_16 : look (tab 46) 16 = some (.astore_n 2, 1, [], uu) := by decide +kernel
theorem e_46_16 : den cf 46 16 [v0, v1, v2, v3, v4, v5, v6, v7] (v :: st) M = if isRf v = true then den cf 46 17 [v0, kq v1, v, v3, v4, v5, v6, v7] st M else none := den_as (k := 2) (v := v) l_46_16 rfl (Nat.le_of_ble_eq_true rfl)
theorem l_46_17 : look (tab 46) 17 = some (.aload_n 2, 1, [], uu) := by decide +kernel
theorem e_46_17 : den cf 46 17 [v0, v1, v2, v3, v4, v5, v6, v7] st M = if isRf v2 = true then den cf 46 18 [v0, v1, v2, v3, v4, v5, v6, v7] (v2 :: st) M else none := den_g l_46_17 rfl
theorem l_46_18 : look (tab 46) 18 = some (.arraylength, 1, [], uu) := by decide +kernel
theorem e_46_18 : den cf 46 18 L (.ref a :: st) M = oK (lenA (M.2.2 a)) (fun n => den cf 46 19 L (.int (zI n) :: st) M) := den_len l_46_18
theorem l_46_19 : look (tab 46) 19 = some (.istore_n 3, 1, [], uu) := by decide +kernel
theorem e_46_19 : den cf 46 19 [v0, v1, v2, v3, v4, v5, v6, v7] (.int x :: st) M = den cf 46 20 [v0, v1, kq v2, .int x, v4, v5, v6, v7] st M := den_st (k := 3) (v := .int x) l_46_19 rfl
theorem l_46_20 : look (tab 46) 20 = some (.iconst 0, 1, [], .int (zI 0)) := by decide +kernel
theorem e_46_20 : den cf 46 20 L st M = den cf 46 21 L (.int (zI 0) :: st) M := den_go l_46_20 rfl
theorem l_46_21 : look (tab 46) 21 = some (.istore 4, 2, [], uu) := by decide +kernel
theorem e_46_21 : den cf 46 21 [v0, v1, v2, v3, v4, v5, v6, v7] (.int x :: st) M = den cf 46 23 [v0, v1, v2, kq v3, .int x, v5, v6, v7] st M := den_st (k := 4) (v := .int x) l_46_21 rfl
theorem l_46_23 : look (tab 46) 23 = some (.iload 4, 2, [], uu) := by decide +kernel
theorem e_46_23 : den cf 46 23 [v0, v1, v2, v3, .int x, v5, v6, v7] st M = den cf 46 25 [v0, v1, v2, v3, .int x, v5, v6, v7] (.int x :: st) M := den_go l_46_23 rfl
theorem l_46_25 : look (tab 46) 25 = some (.iload_n 3, 1, [], uu) := by decide +kernel
theorem e_46_25 : den cf 46 25 [v0, v1, v2, .int x, v4, v5, v6, v7] st M = den cf 46 26 [v0, v1, v2, .int x, v4, v5, v6, v7] (.int x :: st) M := den_go l_46_25 rfl
theorem l_46_26 : look (tab 46) 26 = some (.if_icmp .ge 105, 3, [131], uu) := by decide +kernel
theorem e_46_26 : den cf 46 26 L (.int y :: .int x :: st) M = if x < y then den cf 46 29 L st M else den cf 46 131 L st M := den_ic_ge l_46_26
theorem l_46_29 : look (tab 46) 29 = some (.aload_n 2, 1, [], uu) := by decide +kernel
theorem e_46_29 : den cf 46 29 [v0, v1, v2, v3, v4, v5, v6, v7] st M = if isRf v2 = true then den cf 46 30 [v0, v1, v2, v3, v4, v5, v6, v7] (v2 :: st) M else none := den_g l_46_29 rfl
theorem l_46_30 : look (tab 46) 30 = some (.iload 4, 2, [], uu) := by decide +kernel
theorem e_46_30 : den cf 46 30 [v0, v1, v2, v3, .int x, v5, v6, v7] st M = den cf 46 32 [v0, v1, v2, v3, .int x, v5, v6, v7] (.int x :: st) M := den_go l_46_30 rfl
theorem l_46_32 : look (tab 46) 32 = some (.aaload, 1, [], uu) := by decide +kernel
theorem e_46_32 : den cf 46 32 L (.int x :: .ref a :: st) M = oK (ldQ (M.2.2 a) x) (fun v => den cf 46 33 L (v :: st) M) := den_al (g := ldQ) l_46_32 rfl
theorem l_46_33 : look (tab 46) 33 = some (.astore 5, 2, [], uu) := by decide +kernel
theorem e_46_33 : den cf 46 33 [v0, v1, v2, v3, v4, v5, v6, v7] (v :: st) M = if isRf v = true then den cf 46 35 [v0, v1, v2, v3, kq v4, v, v6, v7] st M else none := den_as (k := 5) (v := v) l_46_33 rfl (Nat.le_of_ble_eq_true rfl)
theorem l_46_35 : look (tab 46) 35 = some (.aload 5, 2, [], uu) := by decide +kernel
theorem e_46_35 : den cf 46 35 [v0, v1, v2, v3, v4, v5, v6, v7] st M = if isRf v5 = true then den cf 46 37 [v0, v1, v2, v3, v4, v5, v6, v7] (v5 :: st) M else none := den_g l_46_35 rfl
theorem l_46_37 : look (tab 46) 37 = some (.invokevirtual 103, 3, [1, 16, 1, 864, 865, 866, 41], uu) := by decide +kernel
theorem e_46_37 : den cf 46 37 L (.ref a :: st) M = if rcv M 1 [.ref a] = true ∧ st.length ≤ 4 then rK (cf 16 [.ref a] M) (fun v M' => den cf 46 40 L (pR v st) M') else none := den_iv [] l_46_37 rfl
theorem l_46_40 : look (tab 46) 40 = some (.ifCond .eq 11, 3, [51], uu) := by decide +kernel
theorem e_46_40 : den cf 46 40 L (.int x :: st) M = if x = zI 0 then den cf 46 51 L st M else den cf 46 43 L st M := den_if_eq l_46_40
theorem l_46_43 : look (tab 46) 43 = some (.aload 5, 2, [], uu) := by decide +kernel
theorem e_46_43 : den cf 46 43 [v0, v1, v2, v3, v4, v5, v6, v7] st M = if isRf v5 = true then den cf 46 45 [v0, v1, v2, v3, v4, v5, v6, v7] (v5 :: st) M else none := den_g l_46_43 rfl
theorem l_46_45 : look (tab 46) 45 = some (.invokevirtual 95, 3, [1, 19, 1, 665, 666, 667, 41], uu) := by decide +kernel
theorem e_46_45 : den cf 46 45 L (.ref a :: st) M = if rcv M 1 [.ref a] = true ∧ st.length ≤ 4 then rK (cf 19 [.ref a] M) (fun v M' => den cf 46 48 L (pR v st) M') else none := den_iv [] l_46_45 rfl
theorem l_46_48 : look (tab 46) 48 = some (.goto 4, 3, [52], uu) := by decide +kernel
theorem e_46_48 : den cf 46 48 L st M = den cf 46 52 L st M := den_go l_46_48 rfl
theorem l_46_51 : look (tab 46) 51 = some (.aconst_null, 1, [], uu) := by decide +kernel
theorem e_46_51 : den cf 46 51 L st M = den cf 46 52 L (.null :: st) M := den_go l_46_51 rfl
theorem l_46_52 : look (tab 46) 52 = some (.astore 6, 2, [], uu) := by decide +kernel
theorem e_46_52 : den cf 46 52 [v0, v1, v2, v3, v4, v5, v6, v7] (v :: st) M = if isRf v = true then den cf 46 54 [v0, v1, v2, v3, v4, kq v5, v, v7] st M else none := den_as (k := 6) (v := v) l_46_52 rfl (Nat.le_of_ble_eq_true rfl)
theorem l_46_54 : look (tab 46) 54 = some (.aload 6, 2, [], uu) := by decide +kernel
theorem e_46_54 : den cf 46 54 [v0, v1, v2, v3, v4, v5, v6, v7] st M = if isRf v6 = true then den cf 46 56 [v0, v1, v2, v3, v4, v5, v6, v7] (v6 :: st) M else none := den_g l_46_54 rfl
theorem l_46_56 : look (tab 46) 56 = some (.ifnull 69, 3, [125], uu) := by decide +kernel
theorem e_46_56 : den cf 46 56 L (va_rf o :: st) M = oN o (den cf 46 125 L st M) (den cf 46 59 L st M) := den_nu l_46_56
theorem e_46_56_n : den cf 46 56 L (.null :: st) M = den cf 46 125 L st M := den_go l_46_56 rfl
theorem e_46_56_r : den cf 46 56 L (.ref a :: st) M = den cf 46 59 L st M := den_go l_46_56 rfl
theorem l_46_59 : look (tab 46) 59 = some (.aload_n 0, 1, [], uu) := by decide +kernel
theorem e_46_59 : den cf 46 59 [.ref a, v1, v2, v3, v4, v5, v6, v7] st M = den cf 46 60 [.ref a, v1, v2, v3, v4, v5, v6, v7] (.ref a :: st) M := den_go l_46_59 rfl
theorem l_46_60 : look (tab 46) 60 = some (.invokevirtual 145, 3, [2, 47, 1, 1160, 1161, 1162, 15], uu) := by decide +kernel
theorem e_46_60 : den cf 46 60 L (.ref a :: st) M = if rcv M 2 [.ref a] = true ∧ st.length ≤ 4 then rK (cf 47 [.ref a] M) (fun v M' => den cf 46 63 L (pR v st) M') else none := den_iv [] l_46_60 rfl
theorem l_46_63 : look (tab 46) 63 = some (.aload_n 0, 1, [], uu) := by decide +kernel
theorem e_46_63 : den cf 46 63 [.ref a, v1, v2, v3, v4, v5, v6, v7] st M = den cf 46 64 [.ref a, v1, v2, v3, v4, v5, v6, v7] (.ref a :: st) M := den_go l_46_63 rfl
theorem l_46_64 : look (tab 46) 64 = some (.aload 6, 2, [], uu) := by decide +kernel
theorem e_46_64 : den cf 46 64 [v0, v1, v2, v3, v4, v5, v6, v7] st M = if isRf v6 = true then den cf 46 66 [v0, v1, v2, v3, v4, v5, v6, v7] (v6 :: st) M else none := den_g l_46_64 rfl
theorem l_46_66 : look (tab 46) 66 = some (.aload 6, 2, [], uu) := by decide +kernel
theorem e_46_66 : den cf 46 66 [v0, v1, v2, v3, v4, v5, v6, v7] st M = if isRf v6 = true then den cf 46 68 [v0, v1, v2, v3, v4, v5, v6, v7] (v6 :: st) M else none := den_g l_46_66 rfl
theorem l_46_68 : look (tab 46) 68 = some (.getfield 47, 3, [1, 6, 432], uu) := by decide +kernel
theorem e_46_68 : den cf 46 68 L (.ref a :: st) M = oK (gfA (M.2.2 a) 1 6) (fun v => den cf 46 71 L (v :: st) M) := den_gf l_46_68
theorem l_46_71 : look (tab 46) 71 = some (.invokevirtual 99, 3, [2, 27, 3, 669, 242, 243, 15], uu) := by decide +kernel
theorem e_46_71 : den cf 46 71 L (w2 :: w1 :: .ref a :: st) M = if rcv M 2 [.ref a, w1, w2] = true ∧ st.length ≤ 4 then rK (cf 27 [.ref a, w1, w2] M) (fun v M' => den cf 46 74 L (pR v st) M') else none := den_iv [w1, w2] l_46_71 rfl
theorem l_46_74 : look (tab 46) 74 = some (.if_icmp .lt 12, 3, [86], uu) := by decide +kernel
theorem e_46_74 : den cf 46 74 L (.int y :: .int x :: st) M = if x < y then den cf 46 86 L st M else den cf 46 77 L st M := den_ic_lt l_46_74
theorem l_46_77 : look (tab 46) 77 = some (.aload_n 0, 1, [], uu) := by decide +kernel
theorem e_46_77 : den cf 46 77 [.ref a, v1, v2, v3, v4, v5, v6, v7] st M = den cf 46 78 [.ref a, v1, v2, v3, v4, v5, v6, v7] (.ref a :: st) M := den_go l_46_77 rfl
theorem l_46_78 : look (tab 46) 78 = some (.aload 6, 2, [], uu) := by decide +kernel
theorem e_46_78 : den cf 46 78 [v0, v1, v2, v3, v4, v5, v6, v7] st M = if isRf v6 = true then den cf 46 80 [v0, v1, v2, v3, v4, v5, v6, v7] (v6 :: st) M else none := den_g l_46_78 rfl
theorem l_46_80 : look (tab 46) 80 = some (.invokevirtual 138, 3, [2, 31, 2, 1070, 1071, 1072, 15], uu) := by decide +kernel
theorem e_46_80 : den cf 46 80 L (w1 :: .ref a :: st) M = if rcv M 2 [.ref a, w1] = true ∧ st.length ≤ 4 then rK (cf 31 [.ref a, w1] M) (fun v M' => den cf 46 83 L (pR v st) M') else none := den_iv [w1] l_46_80 rfl
theorem l_46_83 : look (tab 46) 83 = some (.goto 42, 3, [125], uu) := by decide +kernel
theorem e_46_83 : den cf 46 83 L st M = den cf 46 125 L st M := den_go l_46_83 rfl
theorem l_46_86 : look (tab 46) 86 = some (.aload_n 0, 1, [], uu) := by decide +kernel
theorem e_46_86 : den cf 46 86 [.ref a, v1, v2, v3, v4, v5, v6, v7] st M = den cf 46 87 [.ref a, v1, v2, v3, v4, v5, v6, v7] (.ref a :: st) M := den_go l_46_86 rfl
theorem l_46_87 : look (tab 46) 87 = some (.invokevirtual 145, 3, [2, 47, 1, 1160, 1161, 1162, 15], uu) := by decide +kernel
theorem e_46_87 : den cf 46 87 L (.ref a :: st) M = if rcv M 2 [.ref a] = true ∧ st.length ≤ 4 then rK (cf 47 [.ref a] M) (fun v M' => den cf 46 90 L (pR v st) M') else none := den_iv [] l_46_87 rfl
theorem l_46_90 : look (tab 46) 90 = some (.aload_n 0, 1, [], uu) := by decide +kernel
theorem e_46_90 : den cf 46 90 [.ref a, v1, v2, v3, v4, v5, v6, v7] st M = den cf 46 91 [.ref a, v1, v2, v3, v4, v5, v6, v7] (.ref a :: st) M := den_go l_46_90 rfl
theorem l_46_91 : look (tab 46) 91 = some (.getfield 24, 3, [2, 2, 43], uu) := by decide +kernel
theorem e_46_91 : den cf 46 91 L (.ref a :: st) M = oK (gfA (M.2.2 a) 2 2) (fun v => den cf 46 94 L (v :: st) M) := den_gf l_46_91
theorem l_46_94 : look (tab 46) 94 = some (.if_icmp .lt 7, 3, [101], uu) := by decide +kernel
theorem e_46_94 : den cf 46 94 L (.int y :: .int x :: st) M = if x < y then den cf 46 101 L st M else den cf 46 97 L st M := den_ic_lt l_46_94
theorem l_46_97 : look (tab 46) 97 = some (.iconst 1, 1, [], .int (zI 1)) := by decide +kernel
theorem e_46_97 : den cf 46 97 L st M = den cf 46 98 L (.int (zI 1) :: st) M := den_go l_46_97 rfl
theorem l_46_98 : look (tab 46) 98 = some (.goto 4, 3, [102], uu) := by decide +kernel
theorem e_46_98 : den cf 46 98 L st M = den cf 46 102 L st M := den_go l_46_98 rfl
theorem l_46_101 : look (tab 46) 101 = some (.iconst 0, 1, [], .int (zI 0)) := by decide +kernel
theorem e_46_101 : den cf 46 101 L st M = den cf 46 102 L (.int (zI 0) :: st) M := den_go l_46_101 rfl
theorem l_46_102 : look (tab 46) 102 = some (.istore 7, 2, [], uu) := by decide +kernel
theorem e_46_102 : den cf 46 102 [v0, v1, v2, v3, v4, v5, v6, v7] (.int x :: st) M = den cf 46 104 [v0, v1, v2, v3, v4, v5, kq v6, .int x] st M := den_st (k := 7) (v := .int x) l_46_102 rfl
theorem l_46_104 : look (tab 46) 104 = some (.aload_n 0, 1, [], uu) := by decide +kernel
theorem e_46_104 : den cf 46 104 [.ref a, v1, v2, v3, v4, v5, v6, v7] st M = den cf 46 105 [.ref a, v1, v2, v3, v4, v5, v6, v7] (.ref a :: st) M := den_go l_46_104 rfl
theorem l_46_105 : look (tab 46) 105 = some (.aload 6, 2, [], uu) := by decide +kernel
theorem e_46_105 : den cf 46 105 [v0, v1, v2, v3, v4, v5, v6, v7] st M = if isRf v6 = true then den cf 46 107 [v0, v1, v2, v3, v4, v5, v6, v7] (v6 :: st) M else none := den_g l_46_105 rfl
theorem l_46_107 : look (tab 46) 107 = some (.iload 7, 2, [], uu) := by decide +kernel
theorem e_46_107 : den cf 46 107 [v0, v1, v2, v3, v4, v5, v6, .int x] st M = den cf 46 109 [v0, v1, v2, v3, v4, v5, v6, .int x] (.int x :: st) M := den_go l_46_107 rfl
theorem l_46_109 : look (tab 46) 109 = some (.invokevirtual 134, 3, [2, 30, 3, 1069, 1013, 1014, 15], uu) := by decide +kernel
theorem e_46_109 : den cf 46 109 L (w2 :: w1 :: .ref a :: st) M = if rcv M 2 [.ref a, w1, w2] = true ∧ st.length ≤ 4 then rK (cf 30 [.ref a, w1, w2] M) (fun v M' => den cf 46 112 L (pR v st) M') else none := den_iv [w1, w2] l_46_109 rfl
theorem l_46_112 : look (tab 46) 112 = some (.iload_n 1, 1, [], uu) := by decide +kernel
theorem e_46_112 : den cf 46 112 [v0, .int x, v2, v3, v4, v5, v6, v7] st M = den cf 46 113 [v0, .int x, v2, v3, v4, v5, v6, v7] (.int x :: st) M := den_go l_46_112 rfl
theorem l_46_113 : look (tab 46) 113 = some (.iload 7, 2, [], uu) := by decide +kernel
theorem e_46_113 : den cf 46 113 [v0, v1, v2, v3, v4, v5, v6, .int x] st M = den cf 46 115 [v0, v1, v2, v3, v4, v5, v6, .int x] (.int x :: st) M := den_go l_46_113 rfl
theorem l_46_115 : look (tab 46) 115 = some (.ifCond .eq 7, 3, [122], uu) := by decide +kernel
theorem e_46_115 : den cf 46 115 L (.int x :: st) M = if x = zI 0 then den cf 46 122 L st M else den cf 46 118 L st M := den_if_eq l_46_115
theorem l_46_118 : look (tab 46) 118 = some (.iconst 1, 1, [], .int (zI 1)) := by decide +kernel
theorem e_46_118 : den cf 46 118 L st M = den cf 46 119 L (.int (zI 1) :: st) M := den_go l_46_118 rfl
theorem l_46_119 : look (tab 46) 119 = some (.goto 4, 3, [123], uu) := by decide +kernel
theorem e_46_119 : den cf 46 119 L st M = den cf 46 123 L st M := den_go l_46_119 rfl
theorem l_46_122 : look (tab 46) 122 = some (.iconst 0, 1, [], .int (zI 0)) := by decide +kernel
theorem e_46_122 : den cf 46 122 L st M = den cf 46 123 L (.int (zI 0) :: st) M := den_go l_46_122 rfl
theorem l_46_123 : look (tab 46) 123 = some (.iadd, 1, [], uu) := by decide +kernel
theorem e_46_123 : den cf 46 123 L (.int y :: .int x :: st) M = den cf 46 124 L (.int (x + y) :: st) M := den_go l_46_123 rfl
theorem l_46_124 : look (tab 46) 124 = some (.istore_n 1, 1, [], uu) := by decide +kernel
theorem e_46_124 : den cf 46 124 [v0, v1, v2, v3, v4, v5, v6, v7] (.int x :: st) M = den cf 46 125 [kq v0, .int x, v2, v3, v4, v5, v6, v7] st M := den_st (k := 1) (v := .int x) l_46_124 rfl
theorem l_46_125 : look (tab 46) 125 = some (.iinc 4 1, 3, [], .int (zI 1)) := by decide +kernel
theorem e_46_125 : den cf 46 125 [v0, v1, v2, v3, .int x, v5, v6, v7] st M = den cf 46 128 [v0, v1, v2, kq v3, .int (x + (zI 1)), v5, v6, v7] st M := den_st (k := 4) (v := .int (x + (zI 1))) l_46_125 rfl
theorem l_46_128 : look (tab 46) 128 = some (.goto (-105), 3, [23], uu) := by decide +kernel
theorem e_46_128 : den cf 46 128 L st M = den cf 46 23 L st M := den_go l_46_128 rfl
theorem l_46_131 : look (tab 46) 131 = some (.iload_n 1, 1, [], uu) := by decide +kernel
theorem e_46_131 : den cf 46 131 [v0, .int x, v2, v3, v4, v5, v6, v7] st M = den cf 46 132 [v0, .int x, v2, v3, v4, v5, v6, v7] (.int x :: st) M := den_go l_46_131 rfl
theorem l_46_132 : look (tab 46) 132 = some (.ireturn, 1, [0], uu) := by decide +kernel
theorem e_46_132 : den cf 46 132 L [.int x] M = some (some (.int x), M) := den_e0 l_46_132
/-! yX2_drawWay -/
theorem l_47_0 : look (tab 47) 0 = some (.aload_n 0, 1, [], uu) := by decide +kernel
theorem e_47_0 : den cf 47 0 [.ref a] st M = den cf 47 1 [.ref a] (.ref a :: st) M := den_go l_47_0 rfl
theorem l_47_1 : look (tab 47) 1 = some (.aload_n 0, 1, [], uu) := by decide +kernel
theorem e_47_1 : den cf 47 1 [.ref a] st M = den cf 47 2 [.ref a] (.ref a :: st) M := den_go l_47_1 rfl
theorem l_47_2 : look (tab 47) 2 = some (.getfield 36, 3, [2, 6, 47], uu) := by decide +kernel
theorem e_47_2 : den cf 47 2 L (.ref a :: st) M = oK (gfA (M.2.2 a) 2 6) (fun v => den cf 47 5 L (v :: st) M) := den_gf l_47_2
theorem l_47_5 : look (tab 47) 5 = some (.ldc 149, 2, [1164], .int (zI 1103515245)) := by decide +kernel
theorem e_47_5 : den cf 47 5 L st M = den cf 47 7 L (.int (zI 1103515245) :: st) M := den_go l_47_5 rfl
theorem l_47_7 : look (tab 47) 7 = some (.imul, 1, [], uu) := by decide +kernel
theorem e_47_7 : den cf 47 7 L (.int y :: .int x :: st) M = den cf 47 8 L (.int (x * y) :: st) M := den_go l_47_7 rfl
theorem l_47_8 : look (tab 47) 8 = some (.sipush 12345, 3, [], .int (zI 12345)) := by decide +kernel
theorem e_47_8 : den cf 47 8 L st M = den cf 47 11 L (.int (zI 12345) :: st) M := den_go l_47_8 rfl
theorem l_47_11 : look (tab 47) 11 = some (.iadd, 1, [], uu) := by decide +kernel
theorem e_47_11 : den cf 47 11 L (.int y :: .int x :: st) M = den cf 47 12 L (.int (x + y) :: st) M := den_go l_47_11 rfl
theorem l_47_12 : look (tab 47) 12 = some (.putfield 36, 3, [2, 6, 0, 47, 0], uu) := by decide +kernel
theorem e_47_12 : den cf 47 12 L (.int x :: .ref a :: st) M = oK (pfA (M.2.2 a) 2 6 (.int x)) (fun c => den cf 47 15 L st (mU M a c)) := den_pf0 l_47_12
theorem l_47_15 : look (tab 47) 15 = some (.aload_n 0, 1, [], uu) := by decide +kernel
theorem e_47_15 : den cf 47 15 [.ref a] st M = den cf 47 16 [.ref a] (.ref a :: st) M := den_go l_47_15 rfl
theorem l_47_16 : look (tab 47) 16 = some (.getfield 36, 3, [2, 6, 47], uu) := by decide +kernel
theorem e_47_16 : den cf 47 16 L (.ref a :: st) M = oK (gfA (M.2.2 a) 2 6) (fun v => den cf 47 19 L (v :: st) M) := den_gf l_47_16
theorem l_47_19 : look (tab 47) 19 = some (.bipush 16, 2, [], .int (zI 16)) := by decide +kernel
theorem e_47_19 : den cf 47 19 L st M = den cf 47 21 L (.int (zI 16) :: st) M := den_go l_47_19 rfl
theorem l_47_21 : look (tab 47) 21 = some (.iushr, 1, [], uu) := by decide +kernel
theorem e_47_21 : den cf 47 21 L (.int y :: .int x :: st) M = den cf 47 22 L (.int ((x.toUInt32 >>> (y.toUInt32 &&& Int32.toUInt32 31)).toInt32) :: st) M := den_go l_47_21 rfl
theorem l_47_22 : look (tab 47) 22 = some (.bipush 12, 2, [], .int (zI 12)) := by decide +kernel
theorem e_47_22 : den cf 47 22 L st M = den cf 47 24 L (.int (zI 12) :: st) M := den_go l_47_22 rfl
theorem l_47_24 : look (tab 47) 24 = some (.irem, 1, [], uu) := by decide +kernel
theorem e_47_24 : den cf 47 24 L (.int y :: .int x :: st) M = if y = zI 0 then none else den cf 47 25 L (.int (x - x / y * y) :: st) M := den_dv (f := fun x y => x - x / y * y) l_47_24 rfl
theorem l_47_25 : look (tab 47) 25 = some (.ireturn, 1, [0], uu) := by decide +kernel
theorem e_47_25 : den cf 47 25 L [.int x] M = some (some (.int x), M) := den_e0 l_47_25
/-! yX3_init -/
theorem l_48_0 : look (tab 48) 0 = some (.aload_n 0, 1, [], uu) := by decide +kernel
theorem e_48_0 : den cf 48 0 [.ref a] st M = den cf 48 1 [.ref a] (.ref a :: st) M := den_go l_48_0 rfl
theorem l_48_1 : look (tab 48) 1 = some (.invokespecial 3, 3, [0, 65, 11, 12], uu) := by decide +kernel
theorem e_48_1 : den cf 48 1 L (.ref a :: st) M = if st.length ≤ 4 then den cf 48 4 L st M else none := den_g l_48_1 rfl
theorem l_48_4 : look (tab 48) 4 = some (.aload_n 0, 1, [], uu) := by decide +kernel
theorem e_48_4 : den cf 48 4 [.ref a] st M = den cf 48 5 [.ref a] (.ref a :: st) M := den_go l_48_4 rfl
theorem l_48_5 : look (tab 48) 5 = some (.iconst 0, 1, [], .int (zI 0)) := by decide +kernel
theorem e_48_5 : den cf 48 5 L st M = den cf 48 6 L (.int (zI 0) :: st) M := den_go l_48_5 rfl
theorem l_48_6 : look (tab 48) 6 = some (.putfield 11, 3, [3, 0, 0, 66, 0], uu) := by decide +kernel
theorem e_48_6 : den cf 48 6 L (.int x :: .ref a :: st) M = oK (pfA (M.2.2 a) 3 0 (.int x)) (fun c => den cf 48 9 L st (mU M a c)) := den_pf0 l_48_6
theorem l_48_9 : look (tab 48) 9 = some (.aload_n 0, 1, [], uu) := by decide +kernel
theorem e_48_9 : den cf 48 9 [.ref a] st M = den cf 48 10 [.ref a] (.ref a :: st) M := den_go l_48_9 rfl
theorem l_48_10 : look (tab 48) 10 = some (.bipush 40, 2, [], .int (zI 40)) := by decide +kernel
theorem e_48_10 : den cf 48 10 L st M = den cf 48 12 L (.int (zI 40) :: st) M := den_go l_48_10 rfl
theorem l_48_12 : look (tab 48) 12 = some (.newarray .long, 2, [67], uu) := by decide +kernel
theorem e_48_12 : den cf 48 12 L (.int x :: st) M = if M.1 < 600000 ∧ 0 ≤ x.toInt ∧ x.toInt < 100000 then den cf 48 14 L (.ref M.1 :: st) (mN M x.toNatClampNeg (nwA 1 x.toNatClampNeg)) else none := den_g l_48_12 rfl
theorem l_48_14 : look (tab 48) 14 = some (.putfield 15, 3, [3, 4, 2, 68, 1], uu) := by decide +kernel
theorem e_48_14 : den cf 48 14 L (v :: .ref a :: st) M = if okv 2 v = true then oK (pfA (M.2.2 a) 3 4 v) (fun c => den cf 48 17 L st (mU M a c)) else none := den_pf l_48_14
theorem l_48_17 : look (tab 48) 17 = some (.return_, 1, [], uu) := by decide +kernel
theorem e_48_17 : den cf 48 17 L [] M = some (none, M) := den_e4 l_48_17
/-! yX3_clear -/
theorem l_49_0 : look (tab 49) 0 = some (.aload_n 0, 1, [], uu) := by decide +kernel
theorem e_49_0 : den cf 49 0 [.ref a] st M = den cf 49 1 [.ref a] (.ref a :: st) M := den_go l_49_0 rfl
theorem l_49_1 : look (tab 49) 1 = some (.iconst 0, 1, [], .int (zI 0)) := by decide +kernel
theorem e_49_1 : den cf 49 1 L st M = den cf 49 2 L (.int (zI 0) :: st) M := den_go l_49_1 rfl
theorem l_49_2 : look (tab 49) 2 = some (.putfield 11, 3, [3, 0, 0, 66, 0], uu) := by decide +kernel
theorem e_49_2 : den cf 49 2 L (.int x :: .ref a :: st) M = oK (pfA (M.2.2 a) 3 0 (.int x)) (fun c => den cf 49 5 L st (mU M a c)) := den_pf0 l_49_2
theorem l_49_5 : look (tab 49) 5 = some (.return_, 1, [], uu) := by decide +kernel
theorem e_49_5 : den cf 49 5 L [] M = some (none, M) := den_e4 l_49_5
/-! yX3_putPupil -/
theorem l_50_0 : look (tab 50) 0 = some (.aload_n 0, 1, [], uu) := by decide +kernel
theorem e_50_0 : den cf 50 0 [.ref a, v1] st M = den cf 50 1 [.ref a, v1] (.ref a :: st) M := den_go l_50_0 rfl
theorem l_50_1 : look (tab 50) 1 = some (.iconst 2, 1, [], .int (zI 2)) := by decide +kernel
theorem e_50_1 : den cf 50 1 L st M = den cf 50 2 L (.int (zI 2) :: st) M := den_go l_50_1 rfl
theorem l_50_2 : look (tab 50) 2 = some (.putfield 11, 3, [3, 0, 0, 66, 0], uu) := by decide +kernel
theorem e_50_2 : den cf 50 2 L (.int x :: .ref a :: st) M = oK (pfA (M.2.2 a) 3 0 (.int x)) (fun c => den cf 50 5 L st (mU M a c)) := den_pf0 l_50_2
theorem l_50_5 : look (tab 50) 5 = some (.aload_n 0, 1, [], uu) := by decide +kernel
theorem e_50_5 : den cf 50 5 [.ref a, v1] st M = den cf 50 6 [.ref a, v1] (.ref a :: st) M := den_go l_50_5 rfl
theorem l_50_6 : look (tab 50) 6 = some (.iload_n 1, 1, [], uu) := by decide +kernel
theorem e_50_6 : den cf 50 6 [v0, .int x] st M = den cf 50 7 [v0, .int x] (.int x :: st) M := den_go l_50_6 rfl
theorem l_50_7 : look (tab 50) 7 = some (.putfield 19, 3, [3, 1, 0, 221, 0], uu) := by decide +kernel
theorem e_50_7 : den cf 50 7 L (.int x :: .ref a :: st) M = oK (pfA (M.2.2 a) 3 1 (.int x)) (fun c => den cf 50 10 L st (mU M a c)) := den_pf0 l_50_7
theorem l_50_10 : look (tab 50) 10 = some (.return_, 1, [], uu) := by decide +kernel
theorem e_50_10 : den cf 50 10 L [] M = some (none, M) := den_e4 l_50_10
/-! yX3_putRow -/
theorem l_51_0 : look (tab 51) 0 = some (.aload_n 0, 1, [], uu) := by decide +kernel
theorem e_51_0 : den cf 51 0 [.ref a, v1, v2, v3] st M = den cf 51 1 [.ref a, v1, v2, v3] (.ref a :: st) M := den_go l_51_0 rfl
theorem l_51_1 : look (tab 51) 1 = some (.iconst 1, 1, [], .int (zI 1)) := by decide +kernel
theorem e_51_1 : den cf 51 1 L st M = den cf 51 2 L (.int (zI 1) :: st) M := den_go l_51_1 rfl
theorem l_51_2 : look (tab 51) 2 = some (.putfield 11, 3, [3, 0, 0, 66, 0], uu) := by decide +kernel
theorem e_51_2 : den cf 51 2 L (.int x :: .ref a :: st) M = oK (pfA (M.2.2 a) 3 0 (.int x)) (fun c => den cf 51 5 L st (mU M a c)) := den_pf0 l_51_2
theorem l_51_5 : look (tab 51) 5 = some (.aload_n 0, 1, [], uu) := by decide +kernel
theorem e_51_5 : den cf 51 5 [.ref a, v1, v2, v3] st M = den cf 51 6 [.ref a, v1, v2, v3] (.ref a :: st) M := den_go l_51_5 rfl
theorem l_51_6 : look (tab 51) 6 = some (.iload_n 1, 1, [], uu) := by decide +kernel
theorem e_51_6 : den cf 51 6 [v0, .int x, v2, v3] st M = den cf 51 7 [v0, .int x, v2, v3] (.int x :: st) M := den_go l_51_6 rfl
theorem l_51_7 : look (tab 51) 7 = some (.putfield 22, 3, [3, 2, 0, 121, 0], uu) := by decide +kernel
theorem e_51_7 : den cf 51 7 L (.int x :: .ref a :: st) M = oK (pfA (M.2.2 a) 3 2 (.int x)) (fun c => den cf 51 10 L st (mU M a c)) := den_pf0 l_51_7
theorem l_51_10 : look (tab 51) 10 = some (.aload_n 0, 1, [], uu) := by decide +kernel
theorem e_51_10 : den cf 51 10 [.ref a, v1, v2, v3] st M = den cf 51 11 [.ref a, v1, v2, v3] (.ref a :: st) M := den_go l_51_10 rfl
theorem l_51_11 : look (tab 51) 11 = some (.iload_n 2, 1, [], uu) := by decide +kernel
theorem e_51_11 : den cf 51 11 [v0, v1, .int x, v3] st M = den cf 51 12 [v0, v1, .int x, v3] (.int x :: st) M := den_go l_51_11 rfl
theorem l_51_12 : look (tab 51) 12 = some (.putfield 25, 3, [3, 3, 0, 122, 0], uu) := by decide +kernel
theorem e_51_12 : den cf 51 12 L (.int x :: .ref a :: st) M = oK (pfA (M.2.2 a) 3 3 (.int x)) (fun c => den cf 51 15 L st (mU M a c)) := den_pf0 l_51_12
theorem l_51_15 : look (tab 51) 15 = some (.iconst 0, 1, [], .int (zI 0)) := by decide +kernel
theorem e_51_15 : den cf 51 15 L st M = den cf 51 16 L (.int (zI 0) :: st) M := den_go l_51_15 rfl
theorem l_51_16 : look (tab 51) 16 = some (.istore_n 3, 1, [], uu) := by decide +kernel
theorem e_51_16 : den cf 51 16 [v0, v1, v2, v3] (.int x :: st) M = den cf 51 17 [v0, v1, kq v2, .int x] st M := den_st (k := 3) (v := .int x) l_51_16 rfl
theorem l_51_17 : look (tab 51) 17 = some (.iload_n 3, 1, [], uu) := by decide +kernel
theorem e_51_17 : den cf 51 17 [v0, v1, v2, .int x] st M = den cf 51 18 [v0, v1, v2, .int x] (.int x :: st) M := den_go l_51_17 rfl
theorem l_51_18 : look (tab 51) 18 = some (.bipush 40, 2, [], .int (zI 40)) := by decide +kernel
theorem e_51_18 : den cf 51 18 L st M = den cf 51 20 L (.int (zI 40) :: st) M := den_go l_51_18 rfl
theorem l_51_20 : look (tab 51) 20 = some (.if_icmp .ge 16, 3, [36], uu) := by decide +kernel
theorem e_51_20 : den cf 51 20 L (.int y :: .int x :: st) M = if x < y then den cf 51 23 L st M else den cf 51 36 L st M := den_ic_ge l_51_20
theorem l_51_23 : look (tab 51) 23 = some (.aload_n 0, 1, [], uu) := by decide +kernel
theorem e_51_23 : den cf 51 23 [.ref a, v1, v2, v3] st M = den cf 51 24 [.ref a, v1, v2, v3] (.ref a :: st) M := den_go l_51_23 rfl
theorem l_51_24 : look (tab 51) 24 = some (.getfield 15, 3, [3, 4, 68], uu) := by decide +kernel
theorem e_51_24 : den cf 51 24 L (.ref a :: st) M = oK (gfA (M.2.2 a) 3 4) (fun v => den cf 51 27 L (v :: st) M) := den_gf l_51_24
theorem l_51_27 : look (tab 51) 27 = some (.iload_n 3, 1, [], uu) := by decide +kernel
theorem e_51_27 : den cf 51 27 [v0, v1, v2, .int x] st M = den cf 51 28 [v0, v1, v2, .int x] (.int x :: st) M := den_go l_51_27 rfl
theorem l_51_28 : look (tab 51) 28 = some (.lconst 0, 1, [], .long (zJ 0)) := by decide +kernel
theorem e_51_28 : den cf 51 28 L st M = den cf 51 29 L (.long (zJ 0) :: st) M := den_go l_51_28 rfl
theorem l_51_29 : look (tab 51) 29 = some (.lastore, 1, [], uu) := by decide +kernel
theorem e_51_29 : den cf 51 29 L (.long p :: .int y :: .ref a :: st) M = oK (stJ (M.2.2 a) y p) (fun c => den cf 51 30 L st (mU M a c)) := den_js l_51_29
theorem l_51_30 : look (tab 51) 30 = some (.iinc 3 1, 3, [], .int (zI 1)) := by decide +kernel
theorem e_51_30 : den cf 51 30 [v0, v1, v2, .int x] st M = den cf 51 33 [v0, v1, kq v2, .int (x + (zI 1))] st M := den_st (k := 3) (v := .int (x + (zI 1))) l_51_30 rfl
theorem l_51_33 : look (tab 51) 33 = some (.goto (-16), 3, [17], uu) := by decide +kernel
theorem e_51_33 : den cf 51 33 L st M = den cf 51 17 L st M := den_go l_51_33 rfl
theorem l_51_36 : look (tab 51) 36 = some (.return_, 1, [], uu) := by decide +kernel
theorem e_51_36 : den cf 51 36 L [] M = some (none, M) := den_e4 l_51_36
/-! yX3_noRow -/
theorem l_52_0 : look (tab 52) 0 = some (.aload_n 0, 1, [], uu) := by decide +kernel
theorem e_52_0 : den cf 52 0 [.ref a] st M = den cf 52 1 [.ref a] (.ref a :: st) M := den_go l_52_0 rfl
theorem l_52_1 : look (tab 52) 1 = some (.getfield 11, 3, [3, 0, 66], uu) := by decide +kernel
theorem e_52_1 : den cf 52 1 L (.ref a :: st) M = oK (gfA (M.2.2 a) 3 0) (fun v => den cf 52 4 L (v :: st) M) := den_gf l_52_1
theorem l_52_4 : look (tab 52) 4 = some (.iconst 2, 1, [], .int (zI 2)) := by decide +kernel
theorem e_52_4 : den cf 52 4 L st M = den cf 52 5 L (.int (zI 2) :: st) M := den_go l_52_4 rfl
theorem l_52_5 : look (tab 52) 5 = some (.if_icmp .ne 8, 3, [13], uu) := by decide +kernel
theorem e_52_5 : den cf 52 5 L (.int y :: .int x :: st) M = if x = y then den cf 52 8 L st M else den cf 52 13 L st M := den_ic_ne l_52_5
theorem l_52_8 : look (tab 52) 8 = some (.bipush (-3), 2, [], .int (zI (-3))) := by decide +kernel
theorem e_52_8 : den cf 52 8 L st M = den cf 52 10 L (.int (zI (-3)) :: st) M := den_go l_52_8 rfl
theorem l_52_10 : look (tab 52) 10 = some (.goto 5, 3, [15], uu) := by decide +kernel
theorem e_52_10 : den cf 52 10 L st M = den cf 52 15 L st M := den_go l_52_10 rfl
theorem l_52_13 : look (tab 52) 13 = some (.bipush (-4), 2, [], .int (zI (-4))) := by decide +kernel
theorem e_52_13 : den cf 52 13 L st M = den cf 52 15 L (.int (zI (-4)) :: st) M := den_go l_52_13 rfl
theorem l_52_15 : look (tab 52) 15 = some (.ireturn, 1, [0], uu) := by decide +kernel
theorem e_52_15 : den cf 52 15 L [.int x] M = some (some (.int x), M) := den_e0 l_52_15
/-! yX3_hasPlaces -/
theorem l_53_0 : look (tab 53) 0 = some (.iload_n 1, 1, [], uu) := by decide +kernel
theorem e_53_0 : den cf 53 0 [v0, .int x, v2] st M = den cf 53 1 [v0, .int x, v2] (.int x :: st) M := den_go l_53_0 rfl
theorem l_53_1 : look (tab 53) 1 = some (.ifCond .lt 25, 3, [26], uu) := by decide +kernel
theorem e_53_1 : den cf 53 1 L (.int x :: st) M = if x < zI 0 then den cf 53 26 L st M else den cf 53 4 L st M := den_if_lt l_53_1
theorem l_53_4 : look (tab 53) 4 = some (.iload_n 2, 1, [], uu) := by decide +kernel
theorem e_53_4 : den cf 53 4 [v0, v1, .int x] st M = den cf 53 5 [v0, v1, .int x] (.int x :: st) M := den_go l_53_4 rfl
theorem l_53_5 : look (tab 53) 5 = some (.ifCond .lt 21, 3, [26], uu) := by decide +kernel
theorem e_53_5 : den cf 53 5 L (.int x :: st) M = if x < zI 0 then den cf 53 26 L st M else den cf 53 8 L st M := den_if_lt l_53_5
theorem l_53_8 : look (tab 53) 8 = some (.iload_n 1, 1, [], uu) := by decide +kernel
theorem e_53_8 : den cf 53 8 [v0, .int x, v2] st M = den cf 53 9 [v0, .int x, v2] (.int x :: st) M := den_go l_53_8 rfl
theorem l_53_9 : look (tab 53) 9 = some (.i2l, 1, [], uu) := by decide +kernel
theorem e_53_9 : den cf 53 9 L (.int x :: st) M = den cf 53 10 L (.long x.toInt64 :: st) M := den_go l_53_9 rfl
theorem l_53_10 : look (tab 53) 10 = some (.iload_n 2, 1, [], uu) := by decide +kernel
theorem e_53_10 : den cf 53 10 [v0, v1, .int x] st M = den cf 53 11 [v0, v1, .int x] (.int x :: st) M := den_go l_53_10 rfl
theorem l_53_11 : look (tab 53) 11 = some (.i2l, 1, [], uu) := by decide +kernel
theorem e_53_11 : den cf 53 11 L (.int x :: st) M = den cf 53 12 L (.long x.toInt64 :: st) M := den_go l_53_11 rfl
theorem l_53_12 : look (tab 53) 12 = some (.ladd, 1, [], uu) := by decide +kernel
theorem e_53_12 : den cf 53 12 L (.long q :: .long p :: st) M = den cf 53 13 L (.long (p + q) :: st) M := den_go l_53_12 rfl
theorem l_53_13 : look (tab 53) 13 = some (.aload_n 0, 1, [], uu) := by decide +kernel
theorem e_53_13 : den cf 53 13 [.ref a, v1, v2] st M = den cf 53 14 [.ref a, v1, v2] (.ref a :: st) M := den_go l_53_13 rfl
theorem l_53_14 : look (tab 53) 14 = some (.getfield 25, 3, [3, 3, 122], uu) := by decide +kernel
theorem e_53_14 : den cf 53 14 L (.ref a :: st) M = oK (gfA (M.2.2 a) 3 3) (fun v => den cf 53 17 L (v :: st) M) := den_gf l_53_14
theorem l_53_17 : look (tab 53) 17 = some (.i2l, 1, [], uu) := by decide +kernel
theorem e_53_17 : den cf 53 17 L (.int x :: st) M = den cf 53 18 L (.long x.toInt64 :: st) M := den_go l_53_17 rfl
theorem l_53_18 : look (tab 53) 18 = some (.lcmp, 1, [], uu) := by decide +kernel
theorem e_53_18 : den cf 53 18 L (.long q :: .long p :: st) M = den cf 53 19 L (.int (lg_cmp p q) :: st) M := den_go l_53_18 rfl
theorem l_53_19 : look (tab 53) 19 = some (.ifCond .gt 7, 3, [26], uu) := by decide +kernel
theorem e_53_19 : den cf 53 19 L (.int x :: st) M = if zI 0 < x then den cf 53 26 L st M else den cf 53 22 L st M := den_if_gt l_53_19
theorem l_53_22 : look (tab 53) 22 = some (.iconst 1, 1, [], .int (zI 1)) := by decide +kernel
theorem e_53_22 : den cf 53 22 L st M = den cf 53 23 L (.int (zI 1) :: st) M := den_go l_53_22 rfl
theorem l_53_23 : look (tab 53) 23 = some (.goto 4, 3, [27], uu) := by decide +kernel
theorem e_53_23 : den cf 53 23 L st M = den cf 53 27 L st M := den_go l_53_23 rfl
theorem l_53_26 : look (tab 53) 26 = some (.iconst 0, 1, [], .int (zI 0)) := by decide +kernel
theorem e_53_26 : den cf 53 26 L st M = den cf 53 27 L (.int (zI 0) :: st) M := den_go l_53_26 rfl
theorem l_53_27 : look (tab 53) 27 = some (.ireturn, 1, [1], uu) := by decide +kernel
theorem e_53_27 : den cf 53 27 L [.int x] M = if x = zI 0 ∨ x = zI 1 then some (some (.int x), M) else none := den_e1 l_53_27
/-! yX3_unfitFor -/
theorem l_54_0 : look (tab 54) 0 = some (.aload_n 0, 1, [], uu) := by decide +kernel
theorem e_54_0 : den cf 54 0 [.ref a, v1] st M = den cf 54 1 [.ref a, v1] (.ref a :: st) M := den_go l_54_0 rfl
theorem l_54_1 : look (tab 54) 1 = some (.getfield 11, 3, [3, 0, 66], uu) := by decide +kernel
theorem e_54_1 : den cf 54 1 L (.ref a :: st) M = oK (gfA (M.2.2 a) 3 0) (fun v => den cf 54 4 L (v :: st) M) := den_gf l_54_1
theorem l_54_4 : look (tab 54) 4 = some (.iconst 1, 1, [], .int (zI 1)) := by decide +kernel
theorem e_54_4 : den cf 54 4 L st M = den cf 54 5 L (.int (zI 1) :: st) M := den_go l_54_4 rfl
theorem l_54_5 : look (tab 54) 5 = some (.if_icmp .eq 8, 3, [13], uu) := by decide +kernel
theorem e_54_5 : den cf 54 5 L (.int y :: .int x :: st) M = if x = y then den cf 54 13 L st M else den cf 54 8 L st M := den_ic_eq l_54_5
theorem l_54_8 : look (tab 54) 8 = some (.aload_n 0, 1, [], uu) := by decide +kernel
theorem e_54_8 : den cf 54 8 [.ref a, v1] st M = den cf 54 9 [.ref a, v1] (.ref a :: st) M := den_go l_54_8 rfl
theorem l_54_9 : look (tab 54) 9 = some (.invokevirtual 28, 3, [3, 52, 1, 1058, 144, 145, 27], uu) := by decide +kernel
theorem e_54_9 : den cf 54 9 L (.ref a :: st) M = if rcv M 3 [.ref a] = true ∧ st.length ≤ 4 then rK (cf 52 [.ref a] M) (fun v M' => den cf 54 12 L (pR v st) M') else none := den_iv [] l_54_9 rfl
theorem l_54_12 : look (tab 54) 12 = some (.ireturn, 1, [0], uu) := by decide +kernel
theorem e_54_12 : den cf 54 12 L [.int x] M = some (some (.int x), M) := den_e0 l_54_12
theorem l_54_13 : look (tab 54) 13 = some (.iload_n 1, 1, [], uu) := by decide +kernel
theorem e_54_13 : den cf 54 13 [v0, .int x] st M = den cf 54 14 [v0, .int x] (.int x :: st) M := den_go l_54_13 rfl
theorem l_54_14 : look (tab 54) 14 = some (.aload_n 0, 1, [], uu) := by decide +kernel
theorem e_54_14 : den cf 54 14 [.ref a, v1] st M = den cf 54 15 [.ref a, v1] (.ref a :: st) M := den_go l_54_14 rfl
theorem l_54_15 : look (tab 54) 15 = some (.getfield 25, 3, [3, 3, 122], uu) := by decide +kernel
theorem e_54_15 : den cf 54 15 L (.ref a :: st) M = oK (gfA (M.2.2 a) 3 3) (fun v => den cf 54 18 L (v :: st) M) := den_gf l_54_15
theorem l_54_18 : look (tab 54) 18 = some (.if_icmp .le 8, 3, [26], uu) := by decide +kernel
theorem e_54_18 : den cf 54 18 L (.int y :: .int x :: st) M = if y < x then den cf 54 21 L st M else den cf 54 26 L st M := den_ic_le l_54_18
theorem l_54_21 : look (tab 54) 21 = some (.bipush (-2), 2, [], .int (zI (-2))) := by decide +kernel
theorem e_54_21 : den cf 54 21 L st M = den cf 54 23 L (.int (zI (-2)) :: st) M := den_go l_54_21 rfl
theorem l_54_23 : look (tab 54) 23 = some (.goto 4, 3, [27], uu) := by decide +kernel
theorem e_54_23 : den cf 54 23 L st M = den cf 54 27 L st M := den_go l_54_23 rfl
theorem l_54_26 : look (tab 54) 26 = some (.iconst 0, 1, [], .int (zI 0)) := by decide +kernel
theorem e_54_26 : den cf 54 26 L st M = den cf 54 27 L (.int (zI 0) :: st) M := den_go l_54_26 rfl
theorem l_54_27 : look (tab 54) 27 = some (.ireturn, 1, [0], uu) := by decide +kernel
theorem e_54_27 : den cf 54 27 L [.int x] M = some (some (.int x), M) := den_e0 l_54_27
/-! yX3_isYesNo -/
theorem l_55_0 : look (tab 55) 0 = some (.iconst 0, 1, [], .int (zI 0)) := by decide +kernel
theorem e_55_0 : den cf 55 0 L st M = den cf 55 1 L (.int (zI 0) :: st) M := den_go l_55_0 rfl
theorem l_55_1 : look (tab 55) 1 = some (.istore_n 2, 1, [], uu) := by decide +kernel
theorem e_55_1 : den cf 55 1 [v0, v1, v2] (.int x :: st) M = den cf 55 2 [v0, kq v1, .int x] st M := den_st (k := 2) (v := .int x) l_55_1 rfl
theorem l_55_2 : look (tab 55) 2 = some (.iload_n 2, 1, [], uu) := by decide +kernel
theorem e_55_2 : den cf 55 2 [v0, v1, .int x] st M = den cf 55 3 [v0, v1, .int x] (.int x :: st) M := den_go l_55_2 rfl
theorem l_55_3 : look (tab 55) 3 = some (.iload_n 1, 1, [], uu) := by decide +kernel
theorem e_55_3 : den cf 55 3 [v0, .int x, v2] st M = den cf 55 4 [v0, .int x, v2] (.int x :: st) M := den_go l_55_3 rfl
theorem l_55_4 : look (tab 55) 4 = some (.if_icmp .ge 31, 3, [35], uu) := by decide +kernel
theorem e_55_4 : den cf 55 4 L (.int y :: .int x :: st) M = if x < y then den cf 55 7 L st M else den cf 55 35 L st M := den_ic_ge l_55_4
theorem l_55_7 : look (tab 55) 7 = some (.aload_n 0, 1, [], uu) := by decide +kernel
theorem e_55_7 : den cf 55 7 [.ref a, v1, v2] st M = den cf 55 8 [.ref a, v1, v2] (.ref a :: st) M := den_go l_55_7 rfl
theorem l_55_8 : look (tab 55) 8 = some (.iload_n 2, 1, [], uu) := by decide +kernel
theorem e_55_8 : den cf 55 8 [v0, v1, .int x] st M = den cf 55 9 [v0, v1, .int x] (.int x :: st) M := den_go l_55_8 rfl
theorem l_55_9 : look (tab 55) 9 = some (.invokevirtual 32, 3, [3, 56, 2, 1063, 189, 190, 27], uu) := by decide +kernel
theorem e_55_9 : den cf 55 9 L (w1 :: .ref a :: st) M = if rcv M 3 [.ref a, w1] = true ∧ st.length ≤ 4 then rK (cf 56 [.ref a, w1] M) (fun v M' => den cf 55 12 L (pR v st) M') else none := den_iv [w1] l_55_9 rfl
theorem l_55_12 : look (tab 55) 12 = some (.lconst 0, 1, [], .long (zJ 0)) := by decide +kernel
theorem e_55_12 : den cf 55 12 L st M = den cf 55 13 L (.long (zJ 0) :: st) M := den_go l_55_12 rfl
theorem l_55_13 : look (tab 55) 13 = some (.lcmp, 1, [], uu) := by decide +kernel
theorem e_55_13 : den cf 55 13 L (.long q :: .long p :: st) M = den cf 55 14 L (.int (lg_cmp p q) :: st) M := den_go l_55_13 rfl
theorem l_55_14 : look (tab 55) 14 = some (.ifCond .eq 15, 3, [29], uu) := by decide +kernel
theorem e_55_14 : den cf 55 14 L (.int x :: st) M = if x = zI 0 then den cf 55 29 L st M else den cf 55 17 L st M := den_if_eq l_55_14
theorem l_55_17 : look (tab 55) 17 = some (.aload_n 0, 1, [], uu) := by decide +kernel
theorem e_55_17 : den cf 55 17 [.ref a, v1, v2] st M = den cf 55 18 [.ref a, v1, v2] (.ref a :: st) M := den_go l_55_17 rfl
theorem l_55_18 : look (tab 55) 18 = some (.iload_n 2, 1, [], uu) := by decide +kernel
theorem e_55_18 : den cf 55 18 [v0, v1, .int x] st M = den cf 55 19 [v0, v1, .int x] (.int x :: st) M := den_go l_55_18 rfl
theorem l_55_19 : look (tab 55) 19 = some (.invokevirtual 32, 3, [3, 56, 2, 1063, 189, 190, 27], uu) := by decide +kernel
theorem e_55_19 : den cf 55 19 L (w1 :: .ref a :: st) M = if rcv M 3 [.ref a, w1] = true ∧ st.length ≤ 4 then rK (cf 56 [.ref a, w1] M) (fun v M' => den cf 55 22 L (pR v st) M') else none := den_iv [w1] l_55_19 rfl
theorem l_55_22 : look (tab 55) 22 = some (.lconst 1, 1, [], .long (zJ 1)) := by decide +kernel
theorem e_55_22 : den cf 55 22 L st M = den cf 55 23 L (.long (zJ 1) :: st) M := den_go l_55_22 rfl
theorem l_55_23 : look (tab 55) 23 = some (.lcmp, 1, [], uu) := by decide +kernel
theorem e_55_23 : den cf 55 23 L (.long q :: .long p :: st) M = den cf 55 24 L (.int (lg_cmp p q) :: st) M := den_go l_55_23 rfl
theorem l_55_24 : look (tab 55) 24 = some (.ifCond .eq 5, 3, [29], uu) := by decide +kernel
theorem e_55_24 : den cf 55 24 L (.int x :: st) M = if x = zI 0 then den cf 55 29 L st M else den cf 55 27 L st M := den_if_eq l_55_24
theorem l_55_27 : look (tab 55) 27 = some (.iconst 0, 1, [], .int (zI 0)) := by decide +kernel
theorem e_55_27 : den cf 55 27 L st M = den cf 55 28 L (.int (zI 0) :: st) M := den_go l_55_27 rfl
theorem l_55_28 : look (tab 55) 28 = some (.ireturn, 1, [1], uu) := by decide +kernel
theorem e_55_28 : den cf 55 28 L [.int x] M = if x = zI 0 ∨ x = zI 1 then some (some (.int x), M) else none := den_e1 l_55_28
theorem l_55_29 : look (tab 55) 29 = some (.iinc 2 1, 3, [], .int (zI 1)) := by decide +kernel
theorem e_55_29 : den cf 55 29 [v0, v1, .int x] st M = den cf 55 32 [v0, kq v1, .int (x + (zI 1))] st M := den_st (k := 2) (v := .int (x + (zI 1))) l_55_29 rfl
theorem l_55_32 : look (tab 55) 32 = some (.goto (-30), 3, [2], uu) := by decide +kernel
theorem e_55_32 : den cf 55 32 L st M = den cf 55 2 L st M := den_go l_55_32 rfl
theorem l_55_35 : look (tab 55) 35 = some (.iconst 1, 1, [], .int (zI 1)) := by decide +kernel
theorem e_55_35 : den cf 55 35 L st M = den cf 55 36 L (.int (zI 1) :: st) M := den_go l_55_35 rfl
theorem l_55_36 : look (tab 55) 36 = some (.ireturn, 1, [1], uu) := by decide +kernel
theorem e_55_36 : den cf 55 36 L [.int x] M = if x = zI 0 ∨ x = zI 1 then some (some (.int x), M) else none := den_e1 l_55_36
/-! yX3_cellAt -/
theorem l_56_0 : look (tab 56) 0 = some (.aload_n 0, 1, [], uu) := by decide +kernel
theorem e_56_0 : den cf 56 0 [.ref a, v1] st M = den cf 56 1 [.ref a, v1] (.ref a :: st) M := den_go l_56_0 rfl
theorem l_56_1 : look (tab 56) 1 = some (.getfield 11, 3, [3, 0, 66], uu) := by decide +kernel
theorem e_56_1 : den cf 56 1 L (.ref a :: st) M = oK (gfA (M.2.2 a) 3 0) (fun v => den cf 56 4 L (v :: st) M) := den_gf l_56_1
theorem l_56_4 : look (tab 56) 4 = some (.iconst 1, 1, [], .int (zI 1)) := by decide +kernel
theorem e_56_4 : den cf 56 4 L st M = den cf 56 5 L (.int (zI 1) :: st) M := den_go l_56_4 rfl
theorem l_56_5 : look (tab 56) 5 = some (.if_icmp .ne 30, 3, [35], uu) := by decide +kernel
theorem e_56_5 : den cf 56 5 L (.int y :: .int x :: st) M = if x = y then den cf 56 8 L st M else den cf 56 35 L st M := den_ic_ne l_56_5
theorem l_56_8 : look (tab 56) 8 = some (.iload_n 1, 1, [], uu) := by decide +kernel
theorem e_56_8 : den cf 56 8 [v0, .int x] st M = den cf 56 9 [v0, .int x] (.int x :: st) M := den_go l_56_8 rfl
theorem l_56_9 : look (tab 56) 9 = some (.ifCond .lt 26, 3, [35], uu) := by decide +kernel
theorem e_56_9 : den cf 56 9 L (.int x :: st) M = if x < zI 0 then den cf 56 35 L st M else den cf 56 12 L st M := den_if_lt l_56_9
theorem l_56_12 : look (tab 56) 12 = some (.iload_n 1, 1, [], uu) := by decide +kernel
theorem e_56_12 : den cf 56 12 [v0, .int x] st M = den cf 56 13 [v0, .int x] (.int x :: st) M := den_go l_56_12 rfl
theorem l_56_13 : look (tab 56) 13 = some (.aload_n 0, 1, [], uu) := by decide +kernel
theorem e_56_13 : den cf 56 13 [.ref a, v1] st M = den cf 56 14 [.ref a, v1] (.ref a :: st) M := den_go l_56_13 rfl
theorem l_56_14 : look (tab 56) 14 = some (.getfield 25, 3, [3, 3, 122], uu) := by decide +kernel
theorem e_56_14 : den cf 56 14 L (.ref a :: st) M = oK (gfA (M.2.2 a) 3 3) (fun v => den cf 56 17 L (v :: st) M) := den_gf l_56_14
theorem l_56_17 : look (tab 56) 17 = some (.if_icmp .ge 18, 3, [35], uu) := by decide +kernel
theorem e_56_17 : den cf 56 17 L (.int y :: .int x :: st) M = if x < y then den cf 56 20 L st M else den cf 56 35 L st M := den_ic_ge l_56_17
theorem l_56_20 : look (tab 56) 20 = some (.iload_n 1, 1, [], uu) := by decide +kernel
theorem e_56_20 : den cf 56 20 [v0, .int x] st M = den cf 56 21 [v0, .int x] (.int x :: st) M := den_go l_56_20 rfl
theorem l_56_21 : look (tab 56) 21 = some (.bipush 40, 2, [], .int (zI 40)) := by decide +kernel
theorem e_56_21 : den cf 56 21 L st M = den cf 56 23 L (.int (zI 40) :: st) M := den_go l_56_21 rfl
theorem l_56_23 : look (tab 56) 23 = some (.if_icmp .ge 12, 3, [35], uu) := by decide +kernel
theorem e_56_23 : den cf 56 23 L (.int y :: .int x :: st) M = if x < y then den cf 56 26 L st M else den cf 56 35 L st M := den_ic_ge l_56_23
theorem l_56_26 : look (tab 56) 26 = some (.aload_n 0, 1, [], uu) := by decide +kernel
theorem e_56_26 : den cf 56 26 [.ref a, v1] st M = den cf 56 27 [.ref a, v1] (.ref a :: st) M := den_go l_56_26 rfl
theorem l_56_27 : look (tab 56) 27 = some (.getfield 15, 3, [3, 4, 68], uu) := by decide +kernel
theorem e_56_27 : den cf 56 27 L (.ref a :: st) M = oK (gfA (M.2.2 a) 3 4) (fun v => den cf 56 30 L (v :: st) M) := den_gf l_56_27
theorem l_56_30 : look (tab 56) 30 = some (.iload_n 1, 1, [], uu) := by decide +kernel
theorem e_56_30 : den cf 56 30 [v0, .int x] st M = den cf 56 31 [v0, .int x] (.int x :: st) M := den_go l_56_30 rfl
theorem l_56_31 : look (tab 56) 31 = some (.laload, 1, [], uu) := by decide +kernel
theorem e_56_31 : den cf 56 31 L (.int x :: .ref a :: st) M = oK (ldJ (M.2.2 a) x) (fun v => den cf 56 32 L (v :: st) M) := den_al (g := ldJ) l_56_31 rfl
theorem l_56_32 : look (tab 56) 32 = some (.goto 4, 3, [36], uu) := by decide +kernel
theorem e_56_32 : den cf 56 32 L st M = den cf 56 36 L st M := den_go l_56_32 rfl
theorem l_56_35 : look (tab 56) 35 = some (.lconst 0, 1, [], .long (zJ 0)) := by decide +kernel
theorem e_56_35 : den cf 56 35 L st M = den cf 56 36 L (.long (zJ 0) :: st) M := den_go l_56_35 rfl
theorem l_56_36 : look (tab 56) 36 = some (.lreturn, 1, [], uu) := by decide +kernel
theorem e_56_36 : den cf 56 36 L [.long p] M = some (some (.long p), M) := den_e2 l_56_36
/-! yX3_putCell -/
theorem l_57_0 : look (tab 57) 0 = some (.iload_n 1, 1, [], uu) := by decide +kernel
theorem e_57_0 : den cf 57 0 [v0, .int x, v2, v3] st M = den cf 57 1 [v0, .int x, v2, v3] (.int x :: st) M := den_go l_57_0 rfl
theorem l_57_1 : look (tab 57) 1 = some (.ifCond .lt 28, 3, [29], uu) := by decide +kernel
theorem e_57_1 : den cf 57 1 L (.int x :: st) M = if x < zI 0 then den cf 57 29 L st M else den cf 57 4 L st M := den_if_lt l_57_1
theorem l_57_4 : look (tab 57) 4 = some (.iload_n 1, 1, [], uu) := by decide +kernel
theorem e_57_4 : den cf 57 4 [v0, .int x, v2, v3] st M = den cf 57 5 [v0, .int x, v2, v3] (.int x :: st) M := den_go l_57_4 rfl
theorem l_57_5 : look (tab 57) 5 = some (.aload_n 0, 1, [], uu) := by decide +kernel
theorem e_57_5 : den cf 57 5 [.ref a, v1, v2, v3] st M = den cf 57 6 [.ref a, v1, v2, v3] (.ref a :: st) M := den_go l_57_5 rfl
theorem l_57_6 : look (tab 57) 6 = some (.getfield 25, 3, [3, 3, 122], uu) := by decide +kernel
theorem e_57_6 : den cf 57 6 L (.ref a :: st) M = oK (gfA (M.2.2 a) 3 3) (fun v => den cf 57 9 L (v :: st) M) := den_gf l_57_6
theorem l_57_9 : look (tab 57) 9 = some (.if_icmp .ge 20, 3, [29], uu) := by decide +kernel
theorem e_57_9 : den cf 57 9 L (.int y :: .int x :: st) M = if x < y then den cf 57 12 L st M else den cf 57 29 L st M := den_ic_ge l_57_9
theorem l_57_12 : look (tab 57) 12 = some (.iload_n 1, 1, [], uu) := by decide +kernel
theorem e_57_12 : den cf 57 12 [v0, .int x, v2, v3] st M = den cf 57 13 [v0, .int x, v2, v3] (.int x :: st) M := den_go l_57_12 rfl
theorem l_57_13 : look (tab 57) 13 = some (.bipush 40, 2, [], .int (zI 40)) := by decide +kernel
theorem e_57_13 : den cf 57 13 L st M = den cf 57 15 L (.int (zI 40) :: st) M := den_go l_57_13 rfl
theorem l_57_15 : look (tab 57) 15 = some (.if_icmp .ge 14, 3, [29], uu) := by decide +kernel
theorem e_57_15 : den cf 57 15 L (.int y :: .int x :: st) M = if x < y then den cf 57 18 L st M else den cf 57 29 L st M := den_ic_ge l_57_15
theorem l_57_18 : look (tab 57) 18 = some (.aload_n 0, 1, [], uu) := by decide +kernel
theorem e_57_18 : den cf 57 18 [.ref a, v1, v2, v3] st M = den cf 57 19 [.ref a, v1, v2, v3] (.ref a :: st) M := den_go l_57_18 rfl
theorem l_57_19 : look (tab 57) 19 = some (.getfield 15, 3, [3, 4, 68], uu) := by decide +kernel
theorem e_57_19 : den cf 57 19 L (.ref a :: st) M = oK (gfA (M.2.2 a) 3 4) (fun v => den cf 57 22 L (v :: st) M) := den_gf l_57_19
theorem l_57_22 : look (tab 57) 22 = some (.iload_n 1, 1, [], uu) := by decide +kernel
theorem e_57_22 : den cf 57 22 [v0, .int x, v2, v3] st M = den cf 57 23 [v0, .int x, v2, v3] (.int x :: st) M := den_go l_57_22 rfl
theorem l_57_23 : look (tab 57) 23 = some (.aload_n 0, 1, [], uu) := by decide +kernel
theorem e_57_23 : den cf 57 23 [.ref a, v1, v2, v3] st M = den cf 57 24 [.ref a, v1, v2, v3] (.ref a :: st) M := den_go l_57_23 rfl
theorem l_57_24 : look (tab 57) 24 = some (.lload_n 2, 1, [], uu) := by decide +kernel
theorem e_57_24 : den cf 57 24 [v0, v1, .long p, v3] st M = den cf 57 25 [v0, v1, .long p, v3] (.long p :: st) M := den_go l_57_24 rfl
theorem l_57_25 : look (tab 57) 25 = some (.invokevirtual 36, 3, [3, 58, 2, 151, 152, 153, 27], uu) := by decide +kernel
theorem e_57_25 : den cf 57 25 L (w1 :: .ref a :: st) M = if rcv M 3 [.ref a, w1] = true ∧ st.length ≤ 4 then rK (cf 58 [.ref a, w1] M) (fun v M' => den cf 57 28 L (pR v st) M') else none := den_iv [w1] l_57_25 rfl
theorem l_57_28 : look (tab 57) 28 = some (.lastore, 1, [], uu) := by decide +kernel
theorem e_57_28 : den cf 57 28 L (.long p :: .int y :: .ref a :: st) M = oK (stJ (M.2.2 a) y p) (fun c => den cf 57 29 L st (mU M a c)) := den_js l_57_28
theorem l_57_29 : look (tab 57) 29 = some (.return_, 1, [], uu) := by decide +kernel
theorem e_57_29 : den cf 57 29 L [] M = some (none, M) := den_e4 l_57_29
/-! yX3_lowestBits -/
theorem l_58_0 : look (tab 58) 0 = some (.aload_n 0, 1, [], uu) := by decide +kernel
theorem e_58_0 : den cf 58 0 [.ref a, v1, v2] st M = den cf 58 1 [.ref a, v1, v2] (.ref a :: st) M := den_go l_58_0 rfl
theorem l_58_1 : look (tab 58) 1 = some (.getfield 22, 3, [3, 2, 121], uu) := by decide +kernel
theorem e_58_1 : den cf 58 1 L (.ref a :: st) M = oK (gfA (M.2.2 a) 3 2) (fun v => den cf 58 4 L (v :: st) M) := den_gf l_58_1
theorem l_58_4 : look (tab 58) 4 = some (.tableswitch 48 0 3 #[32, 37, 42, 46], 32, [52, 36, 41, 46, 50], uu) := by decide +kernel
theorem e_58_4 : den cf 58 4 L (.int x :: st) M = if x.toInt < 0 ∨ 3 < x.toInt then den cf 58 52 L st M else oK ([36, 41, 46, 50] : List Nat)[(x.toInt - 0).toNat]? (fun t => den cf 58 t L st M) := den_ts l_58_4
theorem l_58_36 : look (tab 58) 36 = some (.lload_n 1, 1, [], uu) := by decide +kernel
theorem e_58_36 : den cf 58 36 [v0, .long p, v2] st M = den cf 58 37 [v0, .long p, v2] (.long p :: st) M := den_go l_58_36 rfl
theorem l_58_37 : look (tab 58) 37 = some (.l2i, 1, [], uu) := by decide +kernel
theorem e_58_37 : den cf 58 37 L (.long p :: st) M = den cf 58 38 L (.int p.toInt32 :: st) M := den_go l_58_37 rfl
theorem l_58_38 : look (tab 58) 38 = some (.i2b, 1, [], uu) := by decide +kernel
theorem e_58_38 : den cf 58 38 L (.int x :: st) M = den cf 58 39 L (.int x.toInt8.toInt32 :: st) M := den_go l_58_38 rfl
theorem l_58_39 : look (tab 58) 39 = some (.i2l, 1, [], uu) := by decide +kernel
theorem e_58_39 : den cf 58 39 L (.int x :: st) M = den cf 58 40 L (.long x.toInt64 :: st) M := den_go l_58_39 rfl
theorem l_58_40 : look (tab 58) 40 = some (.lreturn, 1, [], uu) := by decide +kernel
theorem e_58_40 : den cf 58 40 L [.long p] M = some (some (.long p), M) := den_e2 l_58_40
theorem l_58_41 : look (tab 58) 41 = some (.lload_n 1, 1, [], uu) := by decide +kernel
theorem e_58_41 : den cf 58 41 [v0, .long p, v2] st M = den cf 58 42 [v0, .long p, v2] (.long p :: st) M := den_go l_58_41 rfl
theorem l_58_42 : look (tab 58) 42 = some (.l2i, 1, [], uu) := by decide +kernel
theorem e_58_42 : den cf 58 42 L (.long p :: st) M = den cf 58 43 L (.int p.toInt32 :: st) M := den_go l_58_42 rfl
theorem l_58_43 : look (tab 58) 43 = some (.i2s, 1, [], uu) := by decide +kernel
theorem e_58_43 : den cf 58 43 L (.int x :: st) M = den cf 58 44 L (.int x.toInt16.toInt32 :: st) M := den_go l_58_43 rfl
theorem l_58_44 : look (tab 58) 44 = some (.i2l, 1, [], uu) := by decide +kernel
theorem e_58_44 : den cf 58 44 L (.int x :: st) M = den cf 58 45 L (.long x.toInt64 :: st) M := den_go l_58_44 rfl
theorem l_58_45 : look (tab 58) 45 = some (.lreturn, 1, [], uu) := by decide +kernel
theorem e_58_45 : den cf 58 45 L [.long p] M = some (some (.long p), M) := den_e2 l_58_45
theorem l_58_46 : look (tab 58) 46 = some (.lload_n 1, 1, [], uu) := by decide +kernel
theorem e_58_46 : den cf 58 46 [v0, .long p, v2] st M = den cf 58 47 [v0, .long p, v2] (.long p :: st) M := den_go l_58_46 rfl
theorem l_58_47 : look (tab 58) 47 = some (.l2i, 1, [], uu) := by decide +kernel
theorem e_58_47 : den cf 58 47 L (.long p :: st) M = den cf 58 48 L (.int p.toInt32 :: st) M := den_go l_58_47 rfl
theorem l_58_48 : look (tab 58) 48 = some (.i2l, 1, [], uu) := by decide +kernel
theorem e_58_48 : den cf 58 48 L (.int x :: st) M = den cf 58 49 L (.long x.toInt64 :: st) M := den_go l_58_48 rfl
theorem l_58_49 : look (tab 58) 49 = some (.lreturn, 1, [], uu) := by decide +kernel
theorem e_58_49 : den cf 58 49 L [.long p] M = some (some (.long p), M) := den_e2 l_58_49
theorem l_58_50 : look (tab 58) 50 = some (.lload_n 1, 1, [], uu) := by decide +kernel
theorem e_58_50 : den cf 58 50 [v0, .long p, v2] st M = den cf 58 51 [v0, .long p, v2] (.long p :: st) M := den_go l_58_50 rfl
theorem l_58_51 : look (tab 58) 51 = some (.lreturn, 1, [], uu) := by decide +kernel
theorem e_58_51 : den cf 58 51 L [.long p] M = some (some (.long p), M) := den_e2 l_58_51
theorem l_58_52 : look (tab 58) 52 = some (.lload_n 1, 1, [], uu) := by decide +kernel
theorem e_58_52 : den cf 58 52 [v0, .long p, v2] st M = den cf 58 53 [v0, .long p, v2] (.long p :: st) M := den_go l_58_52 rfl
theorem l_58_53 : look (tab 58) 53 = some (.lconst 0, 1, [], .long (zJ 0)) := by decide +kernel
theorem e_58_53 : den cf 58 53 L st M = den cf 58 54 L (.long (zJ 0) :: st) M := den_go l_58_53 rfl
theorem l_58_54 : look (tab 58) 54 = some (.lcmp, 1, [], uu) := by decide +kernel
theorem e_58_54 : den cf 58 54 L (.long q :: .long p :: st) M = den cf 58 55 L (.int (lg_cmp p q) :: st) M := den_go l_58_54 rfl
theorem l_58_55 : look (tab 58) 55 = some (.ifCond .eq 7, 3, [62], uu) := by decide +kernel
theorem e_58_55 : den cf 58 55 L (.int x :: st) M = if x = zI 0 then den cf 58 62 L st M else den cf 58 58 L st M := den_if_eq l_58_55
theorem l_58_58 : look (tab 58) 58 = some (.lconst 1, 1, [], .long (zJ 1)) := by decide +kernel
theorem e_58_58 : den cf 58 58 L st M = den cf 58 59 L (.long (zJ 1) :: st) M := den_go l_58_58 rfl
theorem l_58_59 : look (tab 58) 59 = some (.goto 4, 3, [63], uu) := by decide +kernel
theorem e_58_59 : den cf 58 59 L st M = den cf 58 63 L st M := den_go l_58_59 rfl
theorem l_58_62 : look (tab 58) 62 = some (.lconst 0, 1, [], .long (zJ 0)) := by decide +kernel
theorem e_58_62 : den cf 58 62 L st M = den cf 58 63 L (.long (zJ 0) :: st) M := den_go l_58_62 rfl
theorem l_58_63 : look (tab 58) 63 = some (.lreturn, 1, [], uu) := by decide +kernel
theorem e_58_63 : den cf 58 63 L [.long p] M = some (some (.long p), M) := den_e2 l_58_63
/-! yX4_init -/
theorem l_59_0 : look (tab 59) 0 = some (.aload_n 0, 1, [], uu) := by decide +kernel
theorem e_59_0 : den cf 59 0 [.ref a] st M = den cf 59 1 [.ref a] (.ref a :: st) M := den_go l_59_0 rfl
theorem l_59_1 : look (tab 59) 1 = some (.invokespecial 3, 3, [0, 72, 11, 12], uu) := by decide +kernel
theorem e_59_1 : den cf 59 1 L (.ref a :: st) M = if st.length ≤ 4 then den cf 59 4 L st M else none := den_g l_59_1 rfl
theorem l_59_4 : look (tab 59) 4 = some (.aload_n 0, 1, [], uu) := by decide +kernel
theorem e_59_4 : den cf 59 4 [.ref a] st M = den cf 59 5 [.ref a] (.ref a :: st) M := den_go l_59_4 rfl
theorem l_59_5 : look (tab 59) 5 = some (.sipush 250, 3, [], .int (zI 250)) := by decide +kernel
theorem e_59_5 : den cf 59 5 L st M = den cf 59 8 L (.int (zI 250) :: st) M := den_go l_59_5 rfl
theorem l_59_8 : look (tab 59) 8 = some (.newarray .int, 2, [32], uu) := by decide +kernel
theorem e_59_8 : den cf 59 8 L (.int x :: st) M = if M.1 < 600000 ∧ 0 ≤ x.toInt ∧ x.toInt < 100000 then den cf 59 10 L (.ref M.1 :: st) (mN M x.toNatClampNeg (nwA 0 x.toNatClampNeg)) else none := den_g l_59_8 rfl
theorem l_59_10 : look (tab 59) 10 = some (.putfield 9, 3, [4, 0, 2, 73, 1], uu) := by decide +kernel
theorem e_59_10 : den cf 59 10 L (v :: .ref a :: st) M = if okv 2 v = true then oK (pfA (M.2.2 a) 4 0 v) (fun c => den cf 59 13 L st (mU M a c)) else none := den_pf l_59_10
theorem l_59_13 : look (tab 59) 13 = some (.aload_n 0, 1, [], uu) := by decide +kernel
theorem e_59_13 : den cf 59 13 [.ref a] st M = den cf 59 14 [.ref a] (.ref a :: st) M := den_go l_59_13 rfl
theorem l_59_14 : look (tab 59) 14 = some (.iconst 0, 1, [], .int (zI 0)) := by decide +kernel
theorem e_59_14 : den cf 59 14 L st M = den cf 59 15 L (.int (zI 0) :: st) M := den_go l_59_14 rfl
theorem l_59_15 : look (tab 59) 15 = some (.putfield 15, 3, [4, 1, 0, 74, 0], uu) := by decide +kernel
theorem e_59_15 : den cf 59 15 L (.int x :: .ref a :: st) M = oK (pfA (M.2.2 a) 4 1 (.int x)) (fun c => den cf 59 18 L st (mU M a c)) := den_pf0 l_59_15
theorem l_59_18 : look (tab 59) 18 = some (.return_, 1, [], uu) := by decide +kernel
theorem e_59_18 : den cf 59 18 L [] M = some (none, M) := den_e4 l_59_18
/-! yX4_put -/
theorem l_60_0 : look (tab 60) 0 = some (.aload_n 0, 1, [], uu) := by decide +kernel
theorem e_60_0 : den cf 60 0 [.ref a, v1] st M = den cf 60 1 [.ref a, v1] (.ref a :: st) M := den_go l_60_0 rfl
theorem l_60_1 : look (tab 60) 1 = some (.getfield 15, 3, [4, 1, 74], uu) := by decide +kernel
theorem e_60_1 : den cf 60 1 L (.ref a :: st) M = oK (gfA (M.2.2 a) 4 1) (fun v => den cf 60 4 L (v :: st) M) := den_gf l_60_1
theorem l_60_4 : look (tab 60) 4 = some (.ifCond .lt 33, 3, [37], uu) := by decide +kernel
theorem e_60_4 : den cf 60 4 L (.int x :: st) M = if x < zI 0 then den cf 60 37 L st M else den cf 60 7 L st M := den_if_lt l_60_4
theorem l_60_7 : look (tab 60) 7 = some (.aload_n 0, 1, [], uu) := by decide +kernel
theorem e_60_7 : den cf 60 7 [.ref a, v1] st M = den cf 60 8 [.ref a, v1] (.ref a :: st) M := den_go l_60_7 rfl
theorem l_60_8 : look (tab 60) 8 = some (.getfield 15, 3, [4, 1, 74], uu) := by decide +kernel
theorem e_60_8 : den cf 60 8 L (.ref a :: st) M = oK (gfA (M.2.2 a) 4 1) (fun v => den cf 60 11 L (v :: st) M) := den_gf l_60_8
theorem l_60_11 : look (tab 60) 11 = some (.sipush 250, 3, [], .int (zI 250)) := by decide +kernel
theorem e_60_11 : den cf 60 11 L st M = den cf 60 14 L (.int (zI 250) :: st) M := den_go l_60_11 rfl
theorem l_60_14 : look (tab 60) 14 = some (.if_icmp .ge 23, 3, [37], uu) := by decide +kernel
theorem e_60_14 : den cf 60 14 L (.int y :: .int x :: st) M = if x < y then den cf 60 17 L st M else den cf 60 37 L st M := den_ic_ge l_60_14
theorem l_60_17 : look (tab 60) 17 = some (.aload_n 0, 1, [], uu) := by decide +kernel
theorem e_60_17 : den cf 60 17 [.ref a, v1] st M = den cf 60 18 [.ref a, v1] (.ref a :: st) M := den_go l_60_17 rfl
theorem l_60_18 : look (tab 60) 18 = some (.getfield 9, 3, [4, 0, 73], uu) := by decide +kernel
theorem e_60_18 : den cf 60 18 L (.ref a :: st) M = oK (gfA (M.2.2 a) 4 0) (fun v => den cf 60 21 L (v :: st) M) := den_gf l_60_18
theorem l_60_21 : look (tab 60) 21 = some (.aload_n 0, 1, [], uu) := by decide +kernel
theorem e_60_21 : den cf 60 21 [.ref a, v1] st M = den cf 60 22 [.ref a, v1] (.ref a :: st) M := den_go l_60_21 rfl
theorem l_60_22 : look (tab 60) 22 = some (.getfield 15, 3, [4, 1, 74], uu) := by decide +kernel
theorem e_60_22 : den cf 60 22 L (.ref a :: st) M = oK (gfA (M.2.2 a) 4 1) (fun v => den cf 60 25 L (v :: st) M) := den_gf l_60_22
theorem l_60_25 : look (tab 60) 25 = some (.iload_n 1, 1, [], uu) := by decide +kernel
theorem e_60_25 : den cf 60 25 [v0, .int x] st M = den cf 60 26 [v0, .int x] (.int x :: st) M := den_go l_60_25 rfl
theorem l_60_26 : look (tab 60) 26 = some (.iastore, 1, [], uu) := by decide +kernel
theorem e_60_26 : den cf 60 26 L (.int x :: .int y :: .ref a :: st) M = oK (stI (M.2.2 a) y x) (fun c => den cf 60 27 L st (mU M a c)) := den_is l_60_26
theorem l_60_27 : look (tab 60) 27 = some (.aload_n 0, 1, [], uu) := by decide +kernel
theorem e_60_27 : den cf 60 27 [.ref a, v1] st M = den cf 60 28 [.ref a, v1] (.ref a :: st) M := den_go l_60_27 rfl
theorem l_60_28 : look (tab 60) 28 = some (.dup, 1, [], uu) := by decide +kernel
theorem e_60_28 : den cf 60 28 L (.ref a :: st) M = den cf 60 29 L (.ref a :: .ref a :: st) M := den_go l_60_28 rfl
theorem e_60_28_i : den cf 60 28 L (.int x :: st) M = den cf 60 29 L (.int x :: .int x :: st) M := den_go l_60_28 rfl
theorem l_60_29 : look (tab 60) 29 = some (.getfield 15, 3, [4, 1, 74], uu) := by decide +kernel
theorem e_60_29 : den cf 60 29 L (.ref a :: st) M = oK (gfA (M.2.2 a) 4 1) (fun v => den cf 60 32 L (v :: st) M) := den_gf l_60_29
theorem l_60_32 : look (tab 60) 32 = some (.iconst 1, 1, [], .int (zI 1)) := by decide +kernel
theorem e_60_32 : den cf 60 32 L st M = den cf 60 33 L (.int (zI 1) :: st) M := den_go l_60_32 rfl
theorem l_60_33 : look (tab 60) 33 = some (.iadd, 1, [], uu) := by decide +kernel
theorem e_60_33 : den cf 60 33 L (.int y :: .int x :: st) M = den cf 60 34 L (.int (x + y) :: st) M := den_go l_60_33 rfl
theorem l_60_34 : look (tab 60) 34 = some (.putfield 15, 3, [4, 1, 0, 74, 0], uu) := by decide +kernel
theorem e_60_34 : den cf 60 34 L (.int x :: .ref a :: st) M = oK (pfA (M.2.2 a) 4 1 (.int x)) (fun c => den cf 60 37 L st (mU M a c)) := den_pf0 l_60_34
theorem l_60_37 : look (tab 60) 37 = some (.return_, 1, [], uu) := by decide +kernel
theorem e_60_37 : den cf 60 37 L [] M = some (none, M) := den_e4 l_60_37
/-! yX4_byteAt -/
theorem l_61_0 : look (tab 61) 0 = some (.iload_n 1, 1, [], uu) := by decide +kernel
theorem e_61_0 : den cf 61 0 [v0, .int x] st M = den cf 61 1 [v0, .int x] (.int x :: st) M := den_go l_61_0 rfl
theorem l_61_1 : look (tab 61) 1 = some (.ifCond .lt 27, 3, [28], uu) := by decide +kernel
theorem e_61_1 : den cf 61 1 L (.int x :: st) M = if x < zI 0 then den cf 61 28 L st M else den cf 61 4 L st M := den_if_lt l_61_1
theorem l_61_4 : look (tab 61) 4 = some (.iload_n 1, 1, [], uu) := by decide +kernel
theorem e_61_4 : den cf 61 4 [v0, .int x] st M = den cf 61 5 [v0, .int x] (.int x :: st) M := den_go l_61_4 rfl
theorem l_61_5 : look (tab 61) 5 = some (.aload_n 0, 1, [], uu) := by decide +kernel
theorem e_61_5 : den cf 61 5 [.ref a, v1] st M = den cf 61 6 [.ref a, v1] (.ref a :: st) M := den_go l_61_5 rfl
theorem l_61_6 : look (tab 61) 6 = some (.getfield 15, 3, [4, 1, 74], uu) := by decide +kernel
theorem e_61_6 : den cf 61 6 L (.ref a :: st) M = oK (gfA (M.2.2 a) 4 1) (fun v => den cf 61 9 L (v :: st) M) := den_gf l_61_6
theorem l_61_9 : look (tab 61) 9 = some (.if_icmp .ge 19, 3, [28], uu) := by decide +kernel
theorem e_61_9 : den cf 61 9 L (.int y :: .int x :: st) M = if x < y then den cf 61 12 L st M else den cf 61 28 L st M := den_ic_ge l_61_9
theorem l_61_12 : look (tab 61) 12 = some (.iload_n 1, 1, [], uu) := by decide +kernel
theorem e_61_12 : den cf 61 12 [v0, .int x] st M = den cf 61 13 [v0, .int x] (.int x :: st) M := den_go l_61_12 rfl
theorem l_61_13 : look (tab 61) 13 = some (.sipush 250, 3, [], .int (zI 250)) := by decide +kernel
theorem e_61_13 : den cf 61 13 L st M = den cf 61 16 L (.int (zI 250) :: st) M := den_go l_61_13 rfl
theorem l_61_16 : look (tab 61) 16 = some (.if_icmp .ge 12, 3, [28], uu) := by decide +kernel
theorem e_61_16 : den cf 61 16 L (.int y :: .int x :: st) M = if x < y then den cf 61 19 L st M else den cf 61 28 L st M := den_ic_ge l_61_16
theorem l_61_19 : look (tab 61) 19 = some (.aload_n 0, 1, [], uu) := by decide +kernel
theorem e_61_19 : den cf 61 19 [.ref a, v1] st M = den cf 61 20 [.ref a, v1] (.ref a :: st) M := den_go l_61_19 rfl
theorem l_61_20 : look (tab 61) 20 = some (.getfield 9, 3, [4, 0, 73], uu) := by decide +kernel
theorem e_61_20 : den cf 61 20 L (.ref a :: st) M = oK (gfA (M.2.2 a) 4 0) (fun v => den cf 61 23 L (v :: st) M) := den_gf l_61_20
theorem l_61_23 : look (tab 61) 23 = some (.iload_n 1, 1, [], uu) := by decide +kernel
theorem e_61_23 : den cf 61 23 [v0, .int x] st M = den cf 61 24 [v0, .int x] (.int x :: st) M := den_go l_61_23 rfl
theorem l_61_24 : look (tab 61) 24 = some (.iaload, 1, [], uu) := by decide +kernel
theorem e_61_24 : den cf 61 24 L (.int x :: .ref a :: st) M = oK (ldI (M.2.2 a) x) (fun v => den cf 61 25 L (v :: st) M) := den_al (g := ldI) l_61_24 rfl
theorem l_61_25 : look (tab 61) 25 = some (.goto 4, 3, [29], uu) := by decide +kernel
theorem e_61_25 : den cf 61 25 L st M = den cf 61 29 L st M := den_go l_61_25 rfl
theorem l_61_28 : look (tab 61) 28 = some (.iconst (-1), 1, [], .int (zI (-1))) := by decide +kernel
theorem e_61_28 : den cf 61 28 L st M = den cf 61 29 L (.int (zI (-1)) :: st) M := den_go l_61_28 rfl
theorem l_61_29 : look (tab 61) 29 = some (.ireturn, 1, [0], uu) := by decide +kernel
theorem e_61_29 : den cf 61 29 L [.int x] M = some (some (.int x), M) := den_e0 l_61_29
/-! yX4_readInto -/
theorem l_62_0 : look (tab 62) 0 = some (.aload_n 0, 1, [], uu) := by decide +kernel
theorem e_62_0 : den cf 62 0 [.ref a, v1, v2] st M = den cf 62 1 [.ref a, v1, v2] (.ref a :: st) M := den_go l_62_0 rfl
theorem l_62_1 : look (tab 62) 1 = some (.aload_n 1, 1, [], uu) := by decide +kernel
theorem e_62_1 : den cf 62 1 [v0, v1, v2] st M = if isRf v1 = true then den cf 62 2 [v0, v1, v2] (v1 :: st) M else none := den_g l_62_1 rfl
theorem l_62_2 : look (tab 62) 2 = some (.putfield 19, 3, [4, 3, 2, 443, 0], uu) := by decide +kernel
theorem e_62_2 : den cf 62 2 L (v :: .ref a :: st) M = if okv 2 v = true then oK (pfA (M.2.2 a) 4 3 v) (fun c => den cf 62 5 L st (mU M a c)) else none := den_pf l_62_2
theorem l_62_5 : look (tab 62) 5 = some (.aload_n 0, 1, [], uu) := by decide +kernel
theorem e_62_5 : den cf 62 5 [.ref a, v1, v2] st M = den cf 62 6 [.ref a, v1, v2] (.ref a :: st) M := den_go l_62_5 rfl
theorem l_62_6 : look (tab 62) 6 = some (.iconst 0, 1, [], .int (zI 0)) := by decide +kernel
theorem e_62_6 : den cf 62 6 L st M = den cf 62 7 L (.int (zI 0) :: st) M := den_go l_62_6 rfl
theorem l_62_7 : look (tab 62) 7 = some (.putfield 23, 3, [4, 6, 0, 444, 0], uu) := by decide +kernel
theorem e_62_7 : den cf 62 7 L (.int x :: .ref a :: st) M = oK (pfA (M.2.2 a) 4 6 (.int x)) (fun c => den cf 62 10 L st (mU M a c)) := den_pf0 l_62_7
theorem l_62_10 : look (tab 62) 10 = some (.iconst 1, 1, [], .int (zI 1)) := by decide +kernel
theorem e_62_10 : den cf 62 10 L st M = den cf 62 11 L (.int (zI 1) :: st) M := den_go l_62_10 rfl
theorem l_62_11 : look (tab 62) 11 = some (.istore_n 2, 1, [], uu) := by decide +kernel
theorem e_62_11 : den cf 62 11 [v0, v1, v2] (.int x :: st) M = den cf 62 12 [v0, kq v1, .int x] st M := den_st (k := 2) (v := .int x) l_62_11 rfl
theorem l_62_12 : look (tab 62) 12 = some (.iload_n 2, 1, [], uu) := by decide +kernel
theorem e_62_12 : den cf 62 12 [v0, v1, .int x] st M = den cf 62 13 [v0, v1, .int x] (.int x :: st) M := den_go l_62_12 rfl
theorem l_62_13 : look (tab 62) 13 = some (.sipush 250, 3, [], .int (zI 250)) := by decide +kernel
theorem e_62_13 : den cf 62 13 L st M = den cf 62 16 L (.int (zI 250) :: st) M := den_go l_62_13 rfl
theorem l_62_16 : look (tab 62) 16 = some (.if_icmp .gt 46, 3, [62], uu) := by decide +kernel
theorem e_62_16 : den cf 62 16 L (.int y :: .int x :: st) M = if y < x then den cf 62 62 L st M else den cf 62 19 L st M := den_ic_gt l_62_16
theorem l_62_19 : look (tab 62) 19 = some (.aload_n 0, 1, [], uu) := by decide +kernel
theorem e_62_19 : den cf 62 19 [.ref a, v1, v2] st M = den cf 62 20 [.ref a, v1, v2] (.ref a :: st) M := den_go l_62_19 rfl
theorem l_62_20 : look (tab 62) 20 = some (.invokevirtual 26, 3, [4, 64, 1, 446, 447, 448, 30], uu) := by decide +kernel
theorem e_62_20 : den cf 62 20 L (.ref a :: st) M = if rcv M 4 [.ref a] = true ∧ st.length ≤ 4 then rK (cf 64 [.ref a] M) (fun v M' => den cf 62 23 L (pR v st) M') else none := den_iv [] l_62_20 rfl
theorem l_62_23 : look (tab 62) 23 = some (.ifCond .ne 5, 3, [28], uu) := by decide +kernel
theorem e_62_23 : den cf 62 23 L (.int x :: st) M = if x = zI 0 then den cf 62 26 L st M else den cf 62 28 L st M := den_if_ne l_62_23
theorem l_62_26 : look (tab 62) 26 = some (.iconst (-1), 1, [], .int (zI (-1))) := by decide +kernel
theorem e_62_26 : den cf 62 26 L st M = den cf 62 27 L (.int (zI (-1)) :: st) M := den_go l_62_26 rfl
theorem l_62_27 : look (tab 62) 27 = some (.ireturn, 1, [0], uu) := by decide +kernel
theorem e_62_27 : den cf 62 27 L [.int x] M = some (some (.int x), M) := den_e0 l_62_27
theorem l_62_28 : look (tab 62) 28 = some (.aload_n 0, 1, [], uu) := by decide +kernel
theorem e_62_28 : den cf 62 28 [.ref a, v1, v2] st M = den cf 62 29 [.ref a, v1, v2] (.ref a :: st) M := den_go l_62_28 rfl
theorem l_62_29 : look (tab 62) 29 = some (.invokevirtual 30, 3, [4, 72, 1, 453, 454, 455, 30], uu) := by decide +kernel
theorem e_62_29 : den cf 62 29 L (.ref a :: st) M = if rcv M 4 [.ref a] = true ∧ st.length ≤ 4 then rK (cf 72 [.ref a] M) (fun v M' => den cf 62 32 L (pR v st) M') else none := den_iv [] l_62_29 rfl
theorem l_62_32 : look (tab 62) 32 = some (.aload_n 0, 1, [], uu) := by decide +kernel
theorem e_62_32 : den cf 62 32 [.ref a, v1, v2] st M = den cf 62 33 [.ref a, v1, v2] (.ref a :: st) M := den_go l_62_32 rfl
theorem l_62_33 : look (tab 62) 33 = some (.getfield 33, 3, [4, 4, 445], uu) := by decide +kernel
theorem e_62_33 : den cf 62 33 L (.ref a :: st) M = oK (gfA (M.2.2 a) 4 4) (fun v => den cf 62 36 L (v :: st) M) := den_gf l_62_33
theorem l_62_36 : look (tab 62) 36 = some (.ifCond .ne 5, 3, [41], uu) := by decide +kernel
theorem e_62_36 : den cf 62 36 L (.int x :: st) M = if x = zI 0 then den cf 62 39 L st M else den cf 62 41 L st M := den_if_ne l_62_36
theorem l_62_39 : look (tab 62) 39 = some (.iload_n 2, 1, [], uu) := by decide +kernel
theorem e_62_39 : den cf 62 39 [v0, v1, .int x] st M = den cf 62 40 [v0, v1, .int x] (.int x :: st) M := den_go l_62_39 rfl
theorem l_62_40 : look (tab 62) 40 = some (.ireturn, 1, [0], uu) := by decide +kernel
theorem e_62_40 : den cf 62 40 L [.int x] M = some (some (.int x), M) := den_e0 l_62_40
theorem l_62_41 : look (tab 62) 41 = some (.aload_n 0, 1, [], uu) := by decide +kernel
theorem e_62_41 : den cf 62 41 [.ref a, v1, v2] st M = den cf 62 42 [.ref a, v1, v2] (.ref a :: st) M := den_go l_62_41 rfl
theorem l_62_42 : look (tab 62) 42 = some (.getfield 33, 3, [4, 4, 445], uu) := by decide +kernel
theorem e_62_42 : den cf 62 42 L (.ref a :: st) M = oK (gfA (M.2.2 a) 4 4) (fun v => den cf 62 45 L (v :: st) M) := den_gf l_62_42
theorem l_62_45 : look (tab 62) 45 = some (.iconst 3, 1, [], .int (zI 3)) := by decide +kernel
theorem e_62_45 : den cf 62 45 L st M = den cf 62 46 L (.int (zI 3) :: st) M := den_go l_62_45 rfl
theorem l_62_46 : look (tab 62) 46 = some (.if_icmp .eq 10, 3, [56], uu) := by decide +kernel
theorem e_62_46 : den cf 62 46 L (.int y :: .int x :: st) M = if x = y then den cf 62 56 L st M else den cf 62 49 L st M := den_ic_eq l_62_46
theorem l_62_49 : look (tab 62) 49 = some (.aload_n 0, 1, [], uu) := by decide +kernel
theorem e_62_49 : den cf 62 49 [.ref a, v1, v2] st M = den cf 62 50 [.ref a, v1, v2] (.ref a :: st) M := den_go l_62_49 rfl
theorem l_62_50 : look (tab 62) 50 = some (.invokevirtual 36, 3, [4, 63, 1, 523, 524, 525, 30], uu) := by decide +kernel
theorem e_62_50 : den cf 62 50 L (.ref a :: st) M = if rcv M 4 [.ref a] = true ∧ st.length ≤ 4 then rK (cf 63 [.ref a] M) (fun v M' => den cf 62 53 L (pR v st) M') else none := den_iv [] l_62_50 rfl
theorem l_62_53 : look (tab 62) 53 = some (.pop, 1, [], uu) := by decide +kernel
theorem e_62_53 : den cf 62 53 L (.int x :: st) M = den cf 62 54 L st M := den_go l_62_53 rfl
theorem l_62_54 : look (tab 62) 54 = some (.iconst (-1), 1, [], .int (zI (-1))) := by decide +kernel
theorem e_62_54 : den cf 62 54 L st M = den cf 62 55 L (.int (zI (-1)) :: st) M := den_go l_62_54 rfl
theorem l_62_55 : look (tab 62) 55 = some (.ireturn, 1, [0], uu) := by decide +kernel
theorem e_62_55 : den cf 62 55 L [.int x] M = some (some (.int x), M) := den_e0 l_62_55
theorem l_62_56 : look (tab 62) 56 = some (.iinc 2 1, 3, [], .int (zI 1)) := by decide +kernel
theorem e_62_56 : den cf 62 56 [v0, v1, .int x] st M = den cf 62 59 [v0, kq v1, .int (x + (zI 1))] st M := den_st (k := 2) (v := .int (x + (zI 1))) l_62_56 rfl
theorem l_62_59 : look (tab 62) 59 = some (.goto (-47), 3, [12], uu) := by decide +kernel
theorem e_62_59 : den cf 62 59 L st M = den cf 62 12 L st M := den_go l_62_59 rfl
theorem l_62_62 : look (tab 62) 62 = some (.iconst (-1), 1, [], .int (zI (-1))) := by decide +kernel
theorem e_62_62 : den cf 62 62 L st M = den cf 62 63 L (.int (zI (-1)) :: st) M := den_go l_62_62 rfl
theorem l_62_63 : look (tab 62) 63 = some (.ireturn, 1, [0], uu) := by decide +kernel
theorem e_62_63 : den cf 62 63 L [.int x] M = some (some (.int x), M) := den_e0 l_62_63
/-! yX4_faulty -/
theorem l_63_0 : look (tab 63) 0 = some (.aload_n 0, 1, [], uu) := by decide +kernel
theorem e_63_0 : den cf 63 0 [.ref a] st M = den cf 63 1 [.ref a] (.ref a :: st) M := den_go l_63_0 rfl
theorem l_63_1 : look (tab 63) 1 = some (.aload_n 0, 1, [], uu) := by decide +kernel
theorem e_63_1 : den cf 63 1 [.ref a] st M = den cf 63 2 [.ref a] (.ref a :: st) M := den_go l_63_1 rfl
theorem l_63_2 : look (tab 63) 2 = some (.getfield 39, 3, [4, 5, 457], uu) := by decide +kernel
theorem e_63_2 : den cf 63 2 L (.ref a :: st) M = oK (gfA (M.2.2 a) 4 5) (fun v => den cf 63 5 L (v :: st) M) := den_gf l_63_2
theorem l_63_5 : look (tab 63) 5 = some (.putfield 42, 3, [4, 2, 0, 527, 0], uu) := by decide +kernel
theorem e_63_5 : den cf 63 5 L (.int x :: .ref a :: st) M = oK (pfA (M.2.2 a) 4 2 (.int x)) (fun c => den cf 63 8 L st (mU M a c)) := den_pf0 l_63_5
theorem l_63_8 : look (tab 63) 8 = some (.iconst 0, 1, [], .int (zI 0)) := by decide +kernel
theorem e_63_8 : den cf 63 8 L st M = den cf 63 9 L (.int (zI 0) :: st) M := den_go l_63_8 rfl
theorem l_63_9 : look (tab 63) 9 = some (.ireturn, 1, [1], uu) := by decide +kernel
theorem e_63_9 : den cf 63 9 L [.int x] M = if x = zI 0 ∨ x = zI 1 then some (some (.int x), M) else none := den_e1 l_63_9
/-! yX4_readStatement -/
theorem l_64_0 : look (tab 64) 0 = some (.aload_n 0, 1, [], uu) := by decide +kernel
theorem e_64_0 : den cf 64 0 [.ref a] st M = den cf 64 1 [.ref a] (.ref a :: st) M := den_go l_64_0 rfl
theorem l_64_1 : look (tab 64) 1 = some (.invokevirtual 30, 3, [4, 72, 1, 453, 454, 455, 30], uu) := by decide +kernel
theorem e_64_1 : den cf 64 1 L (.ref a :: st) M = if rcv M 4 [.ref a] = true ∧ st.length ≤ 4 then rK (cf 72 [.ref a] M) (fun v M' => den cf 64 4 L (pR v st) M') else none := den_iv [] l_64_1 rfl
theorem l_64_4 : look (tab 64) 4 = some (.aload_n 0, 1, [], uu) := by decide +kernel
theorem e_64_4 : den cf 64 4 [.ref a] st M = den cf 64 5 [.ref a] (.ref a :: st) M := den_go l_64_4 rfl
theorem l_64_5 : look (tab 64) 5 = some (.ldc 45, 2, [0], .ref 1000006) := by decide +kernel
theorem e_64_5 : den cf 64 5 L st M = den cf 64 7 L (.ref 1000006 :: st) M := den_go l_64_5 rfl
theorem l_64_7 : look (tab 64) 7 = some (.invokevirtual 47, 3, [4, 71, 2, 465, 466, 467, 30], uu) := by decide +kernel
theorem e_64_7 : den cf 64 7 L (w1 :: .ref a :: st) M = if rcv M 4 [.ref a, w1] = true ∧ st.length ≤ 4 then rK (cf 71 [.ref a, w1] M) (fun v M' => den cf 64 10 L (pR v st) M') else none := den_iv [w1] l_64_7 rfl
theorem l_64_10 : look (tab 64) 10 = some (.ifCond .eq 8, 3, [18], uu) := by decide +kernel
theorem e_64_10 : den cf 64 10 L (.int x :: st) M = if x = zI 0 then den cf 64 18 L st M else den cf 64 13 L st M := den_if_eq l_64_10
theorem l_64_13 : look (tab 64) 13 = some (.aload_n 0, 1, [], uu) := by decide +kernel
theorem e_64_13 : den cf 64 13 [.ref a] st M = den cf 64 14 [.ref a] (.ref a :: st) M := den_go l_64_13 rfl
theorem l_64_14 : look (tab 64) 14 = some (.invokevirtual 51, 3, [4, 65, 1, 518, 519, 520, 30], uu) := by decide +kernel
theorem e_64_14 : den cf 64 14 L (.ref a :: st) M = if rcv M 4 [.ref a] = true ∧ st.length ≤ 4 then rK (cf 65 [.ref a] M) (fun v M' => den cf 64 17 L (pR v st) M') else none := den_iv [] l_64_14 rfl
theorem l_64_17 : look (tab 64) 17 = some (.ireturn, 1, [1], uu) := by decide +kernel
theorem e_64_17 : den cf 64 17 L [.int x] M = if x = zI 0 ∨ x = zI 1 then some (some (.int x), M) else none := den_e1 l_64_17
theorem l_64_18 : look (tab 64) 18 = some (.aload_n 0, 1, [], uu) := by decide +kernel
theorem e_64_18 : den cf 64 18 [.ref a] st M = den cf 64 19 [.ref a] (.ref a :: st) M := den_go l_64_18 rfl
theorem l_64_19 : look (tab 64) 19 = some (.ldc 54, 2, [1], .ref 1000002) := by decide +kernel
theorem e_64_19 : den cf 64 19 L st M = den cf 64 21 L (.ref 1000002 :: st) M := den_go l_64_19 rfl
theorem l_64_21 : look (tab 64) 21 = some (.invokevirtual 47, 3, [4, 71, 2, 465, 466, 467, 30], uu) := by decide +kernel
theorem e_64_21 : den cf 64 21 L (w1 :: .ref a :: st) M = if rcv M 4 [.ref a, w1] = true ∧ st.length ≤ 4 then rK (cf 71 [.ref a, w1] M) (fun v M' => den cf 64 24 L (pR v st) M') else none := den_iv [w1] l_64_21 rfl
theorem l_64_24 : look (tab 64) 24 = some (.ifCond .eq 8, 3, [32], uu) := by decide +kernel
theorem e_64_24 : den cf 64 24 L (.int x :: st) M = if x = zI 0 then den cf 64 32 L st M else den cf 64 27 L st M := den_if_eq l_64_24
theorem l_64_27 : look (tab 64) 27 = some (.aload_n 0, 1, [], uu) := by decide +kernel
theorem e_64_27 : den cf 64 27 [.ref a] st M = den cf 64 28 [.ref a] (.ref a :: st) M := den_go l_64_27 rfl
theorem l_64_28 : look (tab 64) 28 = some (.invokevirtual 56, 3, [4, 66, 1, 533, 534, 535, 30], uu) := by decide +kernel
theorem e_64_28 : den cf 64 28 L (.ref a :: st) M = if rcv M 4 [.ref a] = true ∧ st.length ≤ 4 then rK (cf 66 [.ref a] M) (fun v M' => den cf 64 31 L (pR v st) M') else none := den_iv [] l_64_28 rfl
theorem l_64_31 : look (tab 64) 31 = some (.ireturn, 1, [1], uu) := by decide +kernel
theorem e_64_31 : den cf 64 31 L [.int x] M = if x = zI 0 ∨ x = zI 1 then some (some (.int x), M) else none := den_e1 l_64_31
theorem l_64_32 : look (tab 64) 32 = some (.aload_n 0, 1, [], uu) := by decide +kernel
theorem e_64_32 : den cf 64 32 [.ref a] st M = den cf 64 33 [.ref a] (.ref a :: st) M := den_go l_64_32 rfl
theorem l_64_33 : look (tab 64) 33 = some (.ldc 59, 2, [2], .ref 1000004) := by decide +kernel
theorem e_64_33 : den cf 64 33 L st M = den cf 64 35 L (.ref 1000004 :: st) M := den_go l_64_33 rfl
theorem l_64_35 : look (tab 64) 35 = some (.invokevirtual 47, 3, [4, 71, 2, 465, 466, 467, 30], uu) := by decide +kernel
theorem e_64_35 : den cf 64 35 L (w1 :: .ref a :: st) M = if rcv M 4 [.ref a, w1] = true ∧ st.length ≤ 4 then rK (cf 71 [.ref a, w1] M) (fun v M' => den cf 64 38 L (pR v st) M') else none := den_iv [w1] l_64_35 rfl
theorem l_64_38 : look (tab 64) 38 = some (.ifCond .eq 8, 3, [46], uu) := by decide +kernel
theorem e_64_38 : den cf 64 38 L (.int x :: st) M = if x = zI 0 then den cf 64 46 L st M else den cf 64 41 L st M := den_if_eq l_64_38
theorem l_64_41 : look (tab 64) 41 = some (.aload_n 0, 1, [], uu) := by decide +kernel
theorem e_64_41 : den cf 64 41 [.ref a] st M = den cf 64 42 [.ref a] (.ref a :: st) M := den_go l_64_41 rfl
theorem l_64_42 : look (tab 64) 42 = some (.invokevirtual 61, 3, [4, 67, 1, 543, 544, 545, 30], uu) := by decide +kernel
theorem e_64_42 : den cf 64 42 L (.ref a :: st) M = if rcv M 4 [.ref a] = true ∧ st.length ≤ 4 then rK (cf 67 [.ref a] M) (fun v M' => den cf 64 45 L (pR v st) M') else none := den_iv [] l_64_42 rfl
theorem l_64_45 : look (tab 64) 45 = some (.ireturn, 1, [1], uu) := by decide +kernel
theorem e_64_45 : den cf 64 45 L [.int x] M = if x = zI 0 ∨ x = zI 1 then some (some (.int x), M) else none := den_e1 l_64_45
theorem l_64_46 : look (tab 64) 46 = some (.aload_n 0, 1, [], uu) := by decide +kernel
theorem e_64_46 : den cf 64 46 [.ref a] st M = den cf 64 47 [.ref a] (.ref a :: st) M := den_go l_64_46 rfl
theorem l_64_47 : look (tab 64) 47 = some (.ldc 64, 2, [3], .ref 1000005) := by decide +kernel
theorem e_64_47 : den cf 64 47 L st M = den cf 64 49 L (.ref 1000005 :: st) M := den_go l_64_47 rfl
theorem l_64_49 : look (tab 64) 49 = some (.invokevirtual 47, 3, [4, 71, 2, 465, 466, 467, 30], uu) := by decide +kernel
theorem e_64_49 : den cf 64 49 L (w1 :: .ref a :: st) M = if rcv M 4 [.ref a, w1] = true ∧ st.length ≤ 4 then rK (cf 71 [.ref a, w1] M) (fun v M' => den cf 64 52 L (pR v st) M') else none := den_iv [w1] l_64_49 rfl
theorem l_64_52 : look (tab 64) 52 = some (.ifCond .eq 8, 3, [60], uu) := by decide +kernel
theorem e_64_52 : den cf 64 52 L (.int x :: st) M = if x = zI 0 then den cf 64 60 L st M else den cf 64 55 L st M := den_if_eq l_64_52
theorem l_64_55 : look (tab 64) 55 = some (.aload_n 0, 1, [], uu) := by decide +kernel
theorem e_64_55 : den cf 64 55 [.ref a] st M = den cf 64 56 [.ref a] (.ref a :: st) M := den_go l_64_55 rfl
theorem l_64_56 : look (tab 64) 56 = some (.invokevirtual 66, 3, [4, 68, 1, 549, 550, 551, 30], uu) := by decide +kernel
theorem e_64_56 : den cf 64 56 L (.ref a :: st) M = if rcv M 4 [.ref a] = true ∧ st.length ≤ 4 then rK (cf 68 [.ref a] M) (fun v M' => den cf 64 59 L (pR v st) M') else none := den_iv [] l_64_56 rfl
theorem l_64_59 : look (tab 64) 59 = some (.ireturn, 1, [1], uu) := by decide +kernel
theorem e_64_59 : den cf 64 59 L [.int x] M = if x = zI 0 ∨ x = zI 1 then some (some (.int x), M) else none := den_e1 l_64_59
theorem l_64_60 : look (tab 64) 60 = some (.aload_n 0, 1, [], uu) := by decide +kernel
theorem e_64_60 : den cf 64 60 [.ref a] st M = den cf 64 61 [.ref a] (.ref a :: st) M := den_go l_64_60 rfl
theorem l_64_61 : look (tab 64) 61 = some (.ldc 69, 2, [4], .ref 1000003) := by decide +kernel
theorem e_64_61 : den cf 64 61 L st M = den cf 64 63 L (.ref 1000003 :: st) M := den_go l_64_61 rfl
theorem l_64_63 : look (tab 64) 63 = some (.invokevirtual 47, 3, [4, 71, 2, 465, 466, 467, 30], uu) := by decide +kernel
theorem e_64_63 : den cf 64 63 L (w1 :: .ref a :: st) M = if rcv M 4 [.ref a, w1] = true ∧ st.length ≤ 4 then rK (cf 71 [.ref a, w1] M) (fun v M' => den cf 64 66 L (pR v st) M') else none := den_iv [w1] l_64_63 rfl
theorem l_64_66 : look (tab 64) 66 = some (.ifCond .eq 33, 3, [99], uu) := by decide +kernel
theorem e_64_66 : den cf 64 66 L (.int x :: st) M = if x = zI 0 then den cf 64 99 L st M else den cf 64 69 L st M := den_if_eq l_64_66
theorem l_64_69 : look (tab 64) 69 = some (.aload_n 0, 1, [], uu) := by decide +kernel
theorem e_64_69 : den cf 64 69 [.ref a] st M = den cf 64 70 [.ref a] (.ref a :: st) M := den_go l_64_69 rfl
theorem l_64_70 : look (tab 64) 70 = some (.getfield 19, 3, [4, 3, 443], uu) := by decide +kernel
theorem e_64_70 : den cf 64 70 L (.ref a :: st) M = oK (gfA (M.2.2 a) 4 3) (fun v => den cf 64 73 L (v :: st) M) := den_gf l_64_70
theorem l_64_73 : look (tab 64) 73 = some (.aload_n 0, 1, [], uu) := by decide +kernel
theorem e_64_73 : den cf 64 73 [.ref a] st M = den cf 64 74 [.ref a] (.ref a :: st) M := den_go l_64_73 rfl
theorem l_64_74 : look (tab 64) 74 = some (.bipush 12, 2, [], .int (zI 12)) := by decide +kernel
theorem e_64_74 : den cf 64 74 L st M = den cf 64 76 L (.int (zI 12) :: st) M := den_go l_64_74 rfl
theorem l_64_76 : look (tab 64) 76 = some (.invokevirtual 71, 3, [4, 70, 2, 528, 529, 530, 30], uu) := by decide +kernel
theorem e_64_76 : den cf 64 76 L (w1 :: .ref a :: st) M = if rcv M 4 [.ref a, w1] = true ∧ st.length ≤ 4 then rK (cf 70 [.ref a, w1] M) (fun v M' => den cf 64 79 L (pR v st) M') else none := den_iv [w1] l_64_76 rfl
theorem l_64_79 : look (tab 64) 79 = some (.putfield 75, 3, [2, 2, 0, 450, 0], uu) := by decide +kernel
theorem e_64_79 : den cf 64 79 L (.int x :: .ref a :: st) M = oK (pfA (M.2.2 a) 2 2 (.int x)) (fun c => den cf 64 82 L st (mU M a c)) := den_pf0 l_64_79
theorem l_64_82 : look (tab 64) 82 = some (.aload_n 0, 1, [], uu) := by decide +kernel
theorem e_64_82 : den cf 64 82 [.ref a] st M = den cf 64 83 [.ref a] (.ref a :: st) M := den_go l_64_82 rfl
theorem l_64_83 : look (tab 64) 83 = some (.getfield 19, 3, [4, 3, 443], uu) := by decide +kernel
theorem e_64_83 : den cf 64 83 L (.ref a :: st) M = oK (gfA (M.2.2 a) 4 3) (fun v => den cf 64 86 L (v :: st) M) := den_gf l_64_83
theorem l_64_86 : look (tab 64) 86 = some (.getfield 75, 3, [2, 2, 450], uu) := by decide +kernel
theorem e_64_86 : den cf 64 86 L (.ref a :: st) M = oK (gfA (M.2.2 a) 2 2) (fun v => den cf 64 89 L (v :: st) M) := den_gf l_64_86
theorem l_64_89 : look (tab 64) 89 = some (.iconst (-1), 1, [], .int (zI (-1))) := by decide +kernel
theorem e_64_89 : den cf 64 89 L st M = den cf 64 90 L (.int (zI (-1)) :: st) M := den_go l_64_89 rfl
theorem l_64_90 : look (tab 64) 90 = some (.if_icmp .eq 7, 3, [97], uu) := by decide +kernel
theorem e_64_90 : den cf 64 90 L (.int y :: .int x :: st) M = if x = y then den cf 64 97 L st M else den cf 64 93 L st M := den_ic_eq l_64_90
theorem l_64_93 : look (tab 64) 93 = some (.iconst 1, 1, [], .int (zI 1)) := by decide +kernel
theorem e_64_93 : den cf 64 93 L st M = den cf 64 94 L (.int (zI 1) :: st) M := den_go l_64_93 rfl
theorem l_64_94 : look (tab 64) 94 = some (.goto 4, 3, [98], uu) := by decide +kernel
theorem e_64_94 : den cf 64 94 L st M = den cf 64 98 L st M := den_go l_64_94 rfl
theorem l_64_97 : look (tab 64) 97 = some (.iconst 0, 1, [], .int (zI 0)) := by decide +kernel
theorem e_64_97 : den cf 64 97 L st M = den cf 64 98 L (.int (zI 0) :: st) M := den_go l_64_97 rfl
theorem l_64_98 : look (tab 64) 98 = some (.ireturn, 1, [1], uu) := by decide +kernel
theorem e_64_98 : den cf 64 98 L [.int x] M = if x = zI 0 ∨ x = zI 1 then some (some (.int x), M) else none := den_e1 l_64_98
theorem l_64_99 : look (tab 64) 99 = some (.aload_n 0, 1, [], uu) := by decide +kernel
theorem e_64_99 : den cf 64 99 [.ref a] st M = den cf 64 100 [.ref a] (.ref a :: st) M := den_go l_64_99 rfl
theorem l_64_100 : look (tab 64) 100 = some (.ldc 79, 2, [5], .ref 1000007) := by decide +kernel
theorem e_64_100 : den cf 64 100 L st M = den cf 64 102 L (.ref 1000007 :: st) M := den_go l_64_100 rfl
theorem l_64_102 : look (tab 64) 102 = some (.invokevirtual 47, 3, [4, 71, 2, 465, 466, 467, 30], uu) := by decide +kernel
theorem e_64_102 : den cf 64 102 L (w1 :: .ref a :: st) M = if rcv M 4 [.ref a, w1] = true ∧ st.length ≤ 4 then rK (cf 71 [.ref a, w1] M) (fun v M' => den cf 64 105 L (pR v st) M') else none := den_iv [w1] l_64_102 rfl
theorem l_64_105 : look (tab 64) 105 = some (.ifCond .eq 33, 3, [138], uu) := by decide +kernel
theorem e_64_105 : den cf 64 105 L (.int x :: st) M = if x = zI 0 then den cf 64 138 L st M else den cf 64 108 L st M := den_if_eq l_64_105
theorem l_64_108 : look (tab 64) 108 = some (.aload_n 0, 1, [], uu) := by decide +kernel
theorem e_64_108 : den cf 64 108 [.ref a] st M = den cf 64 109 [.ref a] (.ref a :: st) M := den_go l_64_108 rfl
theorem l_64_109 : look (tab 64) 109 = some (.getfield 19, 3, [4, 3, 443], uu) := by decide +kernel
theorem e_64_109 : den cf 64 109 L (.ref a :: st) M = oK (gfA (M.2.2 a) 4 3) (fun v => den cf 64 112 L (v :: st) M) := den_gf l_64_109
theorem l_64_112 : look (tab 64) 112 = some (.aload_n 0, 1, [], uu) := by decide +kernel
theorem e_64_112 : den cf 64 112 [.ref a] st M = den cf 64 113 [.ref a] (.ref a :: st) M := den_go l_64_112 rfl
theorem l_64_113 : look (tab 64) 113 = some (.bipush 9, 2, [], .int (zI 9)) := by decide +kernel
theorem e_64_113 : den cf 64 113 L st M = den cf 64 115 L (.int (zI 9) :: st) M := den_go l_64_113 rfl
theorem l_64_115 : look (tab 64) 115 = some (.invokevirtual 71, 3, [4, 70, 2, 528, 529, 530, 30], uu) := by decide +kernel
theorem e_64_115 : den cf 64 115 L (w1 :: .ref a :: st) M = if rcv M 4 [.ref a, w1] = true ∧ st.length ≤ 4 then rK (cf 70 [.ref a, w1] M) (fun v M' => den cf 64 118 L (pR v st) M') else none := den_iv [w1] l_64_115 rfl
theorem l_64_118 : look (tab 64) 118 = some (.putfield 81, 3, [2, 3, 0, 451, 0], uu) := by decide +kernel
theorem e_64_118 : den cf 64 118 L (.int x :: .ref a :: st) M = oK (pfA (M.2.2 a) 2 3 (.int x)) (fun c => den cf 64 121 L st (mU M a c)) := den_pf0 l_64_118
theorem l_64_121 : look (tab 64) 121 = some (.aload_n 0, 1, [], uu) := by decide +kernel
theorem e_64_121 : den cf 64 121 [.ref a] st M = den cf 64 122 [.ref a] (.ref a :: st) M := den_go l_64_121 rfl
theorem l_64_122 : look (tab 64) 122 = some (.getfield 19, 3, [4, 3, 443], uu) := by decide +kernel
theorem e_64_122 : den cf 64 122 L (.ref a :: st) M = oK (gfA (M.2.2 a) 4 3) (fun v => den cf 64 125 L (v :: st) M) := den_gf l_64_122
theorem l_64_125 : look (tab 64) 125 = some (.getfield 81, 3, [2, 3, 451], uu) := by decide +kernel
theorem e_64_125 : den cf 64 125 L (.ref a :: st) M = oK (gfA (M.2.2 a) 2 3) (fun v => den cf 64 128 L (v :: st) M) := den_gf l_64_125
theorem l_64_128 : look (tab 64) 128 = some (.iconst (-1), 1, [], .int (zI (-1))) := by decide +kernel
theorem e_64_128 : den cf 64 128 L st M = den cf 64 129 L (.int (zI (-1)) :: st) M := den_go l_64_128 rfl
theorem l_64_129 : look (tab 64) 129 = some (.if_icmp .eq 7, 3, [136], uu) := by decide +kernel
theorem e_64_129 : den cf 64 129 L (.int y :: .int x :: st) M = if x = y then den cf 64 136 L st M else den cf 64 132 L st M := den_ic_eq l_64_129
theorem l_64_132 : look (tab 64) 132 = some (.iconst 1, 1, [], .int (zI 1)) := by decide +kernel
theorem e_64_132 : den cf 64 132 L st M = den cf 64 133 L (.int (zI 1) :: st) M := den_go l_64_132 rfl
theorem l_64_133 : look (tab 64) 133 = some (.goto 4, 3, [137], uu) := by decide +kernel
theorem e_64_133 : den cf 64 133 L st M = den cf 64 137 L st M := den_go l_64_133 rfl
theorem l_64_136 : look (tab 64) 136 = some (.iconst 0, 1, [], .int (zI 0)) := by decide +kernel
theorem e_64_136 : den cf 64 136 L st M = den cf 64 137 L (.int (zI 0) :: st) M := den_go l_64_136 rfl
theorem l_64_137 : look (tab 64) 137 = some (.ireturn, 1, [1], uu) := by decide +kernel
theorem e_64_137 : den cf 64 137 L [.int x] M = if x = zI 0 ∨ x = zI 1 then some (some (.int x), M) else none := den_e1 l_64_137
theorem l_64_138 : look (tab 64) 138 = some (.aload_n 0, 1, [], uu) := by decide +kernel
theorem e_64_138 : den cf 64 138 [.ref a] st M = den cf 64 139 [.ref a] (.ref a :: st) M := den_go l_64_138 rfl
theorem l_64_139 : look (tab 64) 139 = some (.ldc 83, 2, [6], .ref 1000001) := by decide +kernel
theorem e_64_139 : den cf 64 139 L st M = den cf 64 141 L (.ref 1000001 :: st) M := den_go l_64_139 rfl
theorem l_64_141 : look (tab 64) 141 = some (.invokevirtual 47, 3, [4, 71, 2, 465, 466, 467, 30], uu) := by decide +kernel
theorem e_64_141 : den cf 64 141 L (w1 :: .ref a :: st) M = if rcv M 4 [.ref a, w1] = true ∧ st.length ≤ 4 then rK (cf 71 [.ref a, w1] M) (fun v M' => den cf 64 144 L (pR v st) M') else none := den_iv [w1] l_64_141 rfl
theorem l_64_144 : look (tab 64) 144 = some (.ifCond .eq 32, 3, [176], uu) := by decide +kernel
theorem e_64_144 : den cf 64 144 L (.int x :: st) M = if x = zI 0 then den cf 64 176 L st M else den cf 64 147 L st M := den_if_eq l_64_144
theorem l_64_147 : look (tab 64) 147 = some (.aload_n 0, 1, [], uu) := by decide +kernel
theorem e_64_147 : den cf 64 147 [.ref a] st M = den cf 64 148 [.ref a] (.ref a :: st) M := den_go l_64_147 rfl
theorem l_64_148 : look (tab 64) 148 = some (.getfield 19, 3, [4, 3, 443], uu) := by decide +kernel
theorem e_64_148 : den cf 64 148 L (.ref a :: st) M = oK (gfA (M.2.2 a) 4 3) (fun v => den cf 64 151 L (v :: st) M) := den_gf l_64_148
theorem l_64_151 : look (tab 64) 151 = some (.aload_n 0, 1, [], uu) := by decide +kernel
theorem e_64_151 : den cf 64 151 [.ref a] st M = den cf 64 152 [.ref a] (.ref a :: st) M := den_go l_64_151 rfl
theorem l_64_152 : look (tab 64) 152 = some (.iconst 1, 1, [], .int (zI 1)) := by decide +kernel
theorem e_64_152 : den cf 64 152 L st M = den cf 64 153 L (.int (zI 1) :: st) M := den_go l_64_152 rfl
theorem l_64_153 : look (tab 64) 153 = some (.invokevirtual 71, 3, [4, 70, 2, 528, 529, 530, 30], uu) := by decide +kernel
theorem e_64_153 : den cf 64 153 L (w1 :: .ref a :: st) M = if rcv M 4 [.ref a, w1] = true ∧ st.length ≤ 4 then rK (cf 70 [.ref a, w1] M) (fun v M' => den cf 64 156 L (pR v st) M') else none := den_iv [w1] l_64_153 rfl
theorem l_64_156 : look (tab 64) 156 = some (.putfield 85, 3, [2, 4, 0, 452, 0], uu) := by decide +kernel
theorem e_64_156 : den cf 64 156 L (.int x :: .ref a :: st) M = oK (pfA (M.2.2 a) 2 4 (.int x)) (fun c => den cf 64 159 L st (mU M a c)) := den_pf0 l_64_156
theorem l_64_159 : look (tab 64) 159 = some (.aload_n 0, 1, [], uu) := by decide +kernel
theorem e_64_159 : den cf 64 159 [.ref a] st M = den cf 64 160 [.ref a] (.ref a :: st) M := den_go l_64_159 rfl
theorem l_64_160 : look (tab 64) 160 = some (.getfield 19, 3, [4, 3, 443], uu) := by decide +kernel
theorem e_64_160 : den cf 64 160 L (.ref a :: st) M = oK (gfA (M.2.2 a) 4 3) (fun v => den cf 64 163 L (v :: st) M) := den_gf l_64_160
theorem l_64_163 : look (tab 64) 163 = some (.getfield 85, 3, [2, 4, 452], uu) := by decide +kernel
theorem e_64_163 : den cf 64 163 L (.ref a :: st) M = oK (gfA (M.2.2 a) 2 4) (fun v => den cf 64 166 L (v :: st) M) := den_gf l_64_163
theorem l_64_166 : look (tab 64) 166 = some (.iconst (-1), 1, [], .int (zI (-1))) := by decide +kernel
theorem e_64_166 : den cf 64 166 L st M = den cf 64 167 L (.int (zI (-1)) :: st) M := den_go l_64_166 rfl
theorem l_64_167 : look (tab 64) 167 = some (.if_icmp .eq 7, 3, [174], uu) := by decide +kernel
theorem e_64_167 : den cf 64 167 L (.int y :: .int x :: st) M = if x = y then den cf 64 174 L st M else den cf 64 170 L st M := den_ic_eq l_64_167
theorem l_64_170 : look (tab 64) 170 = some (.iconst 1, 1, [], .int (zI 1)) := by decide +kernel
theorem e_64_170 : den cf 64 170 L st M = den cf 64 171 L (.int (zI 1) :: st) M := den_go l_64_170 rfl
theorem l_64_171 : look (tab 64) 171 = some (.goto 4, 3, [175], uu) := by decide +kernel
theorem e_64_171 : den cf 64 171 L st M = den cf 64 175 L st M := den_go l_64_171 rfl
theorem l_64_174 : look (tab 64) 174 = some (.iconst 0, 1, [], .int (zI 0)) := by decide +kernel
theorem e_64_174 : den cf 64 174 L st M = den cf 64 175 L (.int (zI 0) :: st) M := den_go l_64_174 rfl
theorem l_64_175 : look (tab 64) 175 = some (.ireturn, 1, [1], uu) := by decide +kernel
theorem e_64_175 : den cf 64 175 L [.int x] M = if x = zI 0 ∨ x = zI 1 then some (some (.int x), M) else none := den_e1 l_64_175
theorem l_64_176 : look (tab 64) 176 = some (.aload_n 0, 1, [], uu) := by decide +kernel
theorem e_64_176 : den cf 64 176 [.ref a] st M = den cf 64 177 [.ref a] (.ref a :: st) M := den_go l_64_176 rfl
theorem l_64_177 : look (tab 64) 177 = some (.invokevirtual 36, 3, [4, 63, 1, 523, 524, 525, 30], uu) := by decide +kernel
theorem e_64_177 : den cf 64 177 L (.ref a :: st) M = if rcv M 4 [.ref a] = true ∧ st.length ≤ 4 then rK (cf 63 [.ref a] M) (fun v M' => den cf 64 180 L (pR v st) M') else none := den_iv [] l_64_177 rfl
theorem l_64_180 : look (tab 64) 180 = some (.ireturn, 1, [1], uu) := by decide +kernel
theorem e_64_180 : den cf 64 180 L [.int x] M = if x = zI 0 ∨ x = zI 1 then some (some (.int x), M) else none := den_e1 l_64_180
/-! yX4_readPupil -/
theorem l_65_0 : look (tab 65) 0 = some (.aload_n 0, 1, [], uu) := by decide +kernel
theorem e_65_0 : den cf 65 0 [.ref a, v1, v2, v3] st M = den cf 65 1 [.ref a, v1, v2, v3] (.ref a :: st) M := den_go l_65_0 rfl
theorem l_65_1 : look (tab 65) 1 = some (.getfield 19, 3, [4, 3, 443], uu) := by decide +kernel
theorem e_65_1 : den cf 65 1 L (.ref a :: st) M = oK (gfA (M.2.2 a) 4 3) (fun v => den cf 65 4 L (v :: st) M) := den_gf l_65_1
theorem l_65_4 : look (tab 65) 4 = some (.getfield 87, 3, [2, 1, 522], uu) := by decide +kernel
theorem e_65_4 : den cf 65 4 L (.ref a :: st) M = oK (gfA (M.2.2 a) 2 1) (fun v => den cf 65 7 L (v :: st) M) := den_gf l_65_4
theorem l_65_7 : look (tab 65) 7 = some (.bipush 12, 2, [], .int (zI 12)) := by decide +kernel
theorem e_65_7 : den cf 65 7 L st M = den cf 65 9 L (.int (zI 12) :: st) M := den_go l_65_7 rfl
theorem l_65_9 : look (tab 65) 9 = some (.if_icmp .lt 8, 3, [17], uu) := by decide +kernel
theorem e_65_9 : den cf 65 9 L (.int y :: .int x :: st) M = if x < y then den cf 65 17 L st M else den cf 65 12 L st M := den_ic_lt l_65_9
theorem l_65_12 : look (tab 65) 12 = some (.aload_n 0, 1, [], uu) := by decide +kernel
theorem e_65_12 : den cf 65 12 [.ref a, v1, v2, v3] st M = den cf 65 13 [.ref a, v1, v2, v3] (.ref a :: st) M := den_go l_65_12 rfl
theorem l_65_13 : look (tab 65) 13 = some (.invokevirtual 36, 3, [4, 63, 1, 523, 524, 525, 30], uu) := by decide +kernel
theorem e_65_13 : den cf 65 13 L (.ref a :: st) M = if rcv M 4 [.ref a] = true ∧ st.length ≤ 4 then rK (cf 63 [.ref a] M) (fun v M' => den cf 65 16 L (pR v st) M') else none := den_iv [] l_65_13 rfl
theorem l_65_16 : look (tab 65) 16 = some (.ireturn, 1, [1], uu) := by decide +kernel
theorem e_65_16 : den cf 65 16 L [.int x] M = if x = zI 0 ∨ x = zI 1 then some (some (.int x), M) else none := den_e1 l_65_16
theorem l_65_17 : look (tab 65) 17 = some (.aload_n 0, 1, [], uu) := by decide +kernel
theorem e_65_17 : den cf 65 17 [.ref a, v1, v2, v3] st M = den cf 65 18 [.ref a, v1, v2, v3] (.ref a :: st) M := den_go l_65_17 rfl
theorem l_65_18 : look (tab 65) 18 = some (.iconst 5, 1, [], .int (zI 5)) := by decide +kernel
theorem e_65_18 : den cf 65 18 L st M = den cf 65 19 L (.int (zI 5) :: st) M := den_go l_65_18 rfl
theorem l_65_19 : look (tab 65) 19 = some (.invokevirtual 71, 3, [4, 70, 2, 528, 529, 530, 30], uu) := by decide +kernel
theorem e_65_19 : den cf 65 19 L (w1 :: .ref a :: st) M = if rcv M 4 [.ref a, w1] = true ∧ st.length ≤ 4 then rK (cf 70 [.ref a, w1] M) (fun v M' => den cf 65 22 L (pR v st) M') else none := den_iv [w1] l_65_19 rfl
theorem l_65_22 : look (tab 65) 22 = some (.istore_n 1, 1, [], uu) := by decide +kernel
theorem e_65_22 : den cf 65 22 [v0, v1, v2, v3] (.int x :: st) M = den cf 65 23 [kq v0, .int x, v2, v3] st M := den_st (k := 1) (v := .int x) l_65_22 rfl
theorem l_65_23 : look (tab 65) 23 = some (.iload_n 1, 1, [], uu) := by decide +kernel
theorem e_65_23 : den cf 65 23 [v0, .int x, v2, v3] st M = den cf 65 24 [v0, .int x, v2, v3] (.int x :: st) M := den_go l_65_23 rfl
theorem l_65_24 : look (tab 65) 24 = some (.iconst (-1), 1, [], .int (zI (-1))) := by decide +kernel
theorem e_65_24 : den cf 65 24 L st M = den cf 65 25 L (.int (zI (-1)) :: st) M := den_go l_65_24 rfl
theorem l_65_25 : look (tab 65) 25 = some (.if_icmp .ne 5, 3, [30], uu) := by decide +kernel
theorem e_65_25 : den cf 65 25 L (.int y :: .int x :: st) M = if x = y then den cf 65 28 L st M else den cf 65 30 L st M := den_ic_ne l_65_25
theorem l_65_28 : look (tab 65) 28 = some (.iconst 0, 1, [], .int (zI 0)) := by decide +kernel
theorem e_65_28 : den cf 65 28 L st M = den cf 65 29 L (.int (zI 0) :: st) M := den_go l_65_28 rfl
theorem l_65_29 : look (tab 65) 29 = some (.ireturn, 1, [1], uu) := by decide +kernel
theorem e_65_29 : den cf 65 29 L [.int x] M = if x = zI 0 ∨ x = zI 1 then some (some (.int x), M) else none := den_e1 l_65_29
theorem l_65_30 : look (tab 65) 30 = some (.aload_n 0, 1, [], uu) := by decide +kernel
theorem e_65_30 : den cf 65 30 [.ref a, v1, v2, v3] st M = den cf 65 31 [.ref a, v1, v2, v3] (.ref a :: st) M := den_go l_65_30 rfl
theorem l_65_31 : look (tab 65) 31 = some (.bipush 9, 2, [], .int (zI 9)) := by decide +kernel
theorem e_65_31 : den cf 65 31 L st M = den cf 65 33 L (.int (zI 9) :: st) M := den_go l_65_31 rfl
theorem l_65_33 : look (tab 65) 33 = some (.invokevirtual 71, 3, [4, 70, 2, 528, 529, 530, 30], uu) := by decide +kernel
theorem e_65_33 : den cf 65 33 L (w1 :: .ref a :: st) M = if rcv M 4 [.ref a, w1] = true ∧ st.length ≤ 4 then rK (cf 70 [.ref a, w1] M) (fun v M' => den cf 65 36 L (pR v st) M') else none := den_iv [w1] l_65_33 rfl
theorem l_65_36 : look (tab 65) 36 = some (.istore_n 2, 1, [], uu) := by decide +kernel
theorem e_65_36 : den cf 65 36 [v0, v1, v2, v3] (.int x :: st) M = den cf 65 37 [v0, kq v1, .int x, v3] st M := den_st (k := 2) (v := .int x) l_65_36 rfl
theorem l_65_37 : look (tab 65) 37 = some (.iload_n 2, 1, [], uu) := by decide +kernel
theorem e_65_37 : den cf 65 37 [v0, v1, .int x, v3] st M = den cf 65 38 [v0, v1, .int x, v3] (.int x :: st) M := den_go l_65_37 rfl
theorem l_65_38 : look (tab 65) 38 = some (.iconst (-1), 1, [], .int (zI (-1))) := by decide +kernel
theorem e_65_38 : den cf 65 38 L st M = den cf 65 39 L (.int (zI (-1)) :: st) M := den_go l_65_38 rfl
theorem l_65_39 : look (tab 65) 39 = some (.if_icmp .ne 5, 3, [44], uu) := by decide +kernel
theorem e_65_39 : den cf 65 39 L (.int y :: .int x :: st) M = if x = y then den cf 65 42 L st M else den cf 65 44 L st M := den_ic_ne l_65_39
theorem l_65_42 : look (tab 65) 42 = some (.iconst 0, 1, [], .int (zI 0)) := by decide +kernel
theorem e_65_42 : den cf 65 42 L st M = den cf 65 43 L (.int (zI 0) :: st) M := den_go l_65_42 rfl
theorem l_65_43 : look (tab 65) 43 = some (.ireturn, 1, [1], uu) := by decide +kernel
theorem e_65_43 : den cf 65 43 L [.int x] M = if x = zI 0 ∨ x = zI 1 then some (some (.int x), M) else none := den_e1 l_65_43
theorem l_65_44 : look (tab 65) 44 = some (.aload_n 0, 1, [], uu) := by decide +kernel
theorem e_65_44 : den cf 65 44 [.ref a, v1, v2, v3] st M = den cf 65 45 [.ref a, v1, v2, v3] (.ref a :: st) M := den_go l_65_44 rfl
theorem l_65_45 : look (tab 65) 45 = some (.iconst 1, 1, [], .int (zI 1)) := by decide +kernel
theorem e_65_45 : den cf 65 45 L st M = den cf 65 46 L (.int (zI 1) :: st) M := den_go l_65_45 rfl
theorem l_65_46 : look (tab 65) 46 = some (.invokevirtual 71, 3, [4, 70, 2, 528, 529, 530, 30], uu) := by decide +kernel
theorem e_65_46 : den cf 65 46 L (w1 :: .ref a :: st) M = if rcv M 4 [.ref a, w1] = true ∧ st.length ≤ 4 then rK (cf 70 [.ref a, w1] M) (fun v M' => den cf 65 49 L (pR v st) M') else none := den_iv [w1] l_65_46 rfl
theorem l_65_49 : look (tab 65) 49 = some (.istore_n 3, 1, [], uu) := by decide +kernel
theorem e_65_49 : den cf 65 49 [v0, v1, v2, v3] (.int x :: st) M = den cf 65 50 [v0, v1, kq v2, .int x] st M := den_st (k := 3) (v := .int x) l_65_49 rfl
theorem l_65_50 : look (tab 65) 50 = some (.iload_n 3, 1, [], uu) := by decide +kernel
theorem e_65_50 : den cf 65 50 [v0, v1, v2, .int x] st M = den cf 65 51 [v0, v1, v2, .int x] (.int x :: st) M := den_go l_65_50 rfl
theorem l_65_51 : look (tab 65) 51 = some (.iconst (-1), 1, [], .int (zI (-1))) := by decide +kernel
theorem e_65_51 : den cf 65 51 L st M = den cf 65 52 L (.int (zI (-1)) :: st) M := den_go l_65_51 rfl
theorem l_65_52 : look (tab 65) 52 = some (.if_icmp .eq 21, 3, [73], uu) := by decide +kernel
theorem e_65_52 : den cf 65 52 L (.int y :: .int x :: st) M = if x = y then den cf 65 73 L st M else den cf 65 55 L st M := den_ic_eq l_65_52
theorem l_65_55 : look (tab 65) 55 = some (.aload_n 0, 1, [], uu) := by decide +kernel
theorem e_65_55 : den cf 65 55 [.ref a, v1, v2, v3] st M = den cf 65 56 [.ref a, v1, v2, v3] (.ref a :: st) M := den_go l_65_55 rfl
theorem l_65_56 : look (tab 65) 56 = some (.getfield 19, 3, [4, 3, 443], uu) := by decide +kernel
theorem e_65_56 : den cf 65 56 L (.ref a :: st) M = oK (gfA (M.2.2 a) 4 3) (fun v => den cf 65 59 L (v :: st) M) := den_gf l_65_56
theorem l_65_59 : look (tab 65) 59 = some (.iload_n 1, 1, [], uu) := by decide +kernel
theorem e_65_59 : den cf 65 59 [v0, .int x, v2, v3] st M = den cf 65 60 [v0, .int x, v2, v3] (.int x :: st) M := den_go l_65_59 rfl
theorem l_65_60 : look (tab 65) 60 = some (.iload_n 2, 1, [], uu) := by decide +kernel
theorem e_65_60 : den cf 65 60 [v0, v1, .int x, v3] st M = den cf 65 61 [v0, v1, .int x, v3] (.int x :: st) M := den_go l_65_60 rfl
theorem l_65_61 : look (tab 65) 61 = some (.iload_n 3, 1, [], uu) := by decide +kernel
theorem e_65_61 : den cf 65 61 [v0, v1, v2, .int x] st M = den cf 65 62 [v0, v1, v2, .int x] (.int x :: st) M := den_go l_65_61 rfl
theorem l_65_62 : look (tab 65) 62 = some (.invokevirtual 90, 3, [2, 25, 4, 532, 305, 306, 15], uu) := by decide +kernel
theorem e_65_62 : den cf 65 62 L (w3 :: w2 :: w1 :: .ref a :: st) M = if rcv M 2 [.ref a, w1, w2, w3] = true ∧ st.length ≤ 4 then rK (cf 25 [.ref a, w1, w2, w3] M) (fun v M' => den cf 65 65 L (pR v st) M') else none := den_iv [w1, w2, w3] l_65_62 rfl
theorem l_65_65 : look (tab 65) 65 = some (.iconst (-1), 1, [], .int (zI (-1))) := by decide +kernel
theorem e_65_65 : den cf 65 65 L st M = den cf 65 66 L (.int (zI (-1)) :: st) M := den_go l_65_65 rfl
theorem l_65_66 : look (tab 65) 66 = some (.if_icmp .eq 7, 3, [73], uu) := by decide +kernel
theorem e_65_66 : den cf 65 66 L (.int y :: .int x :: st) M = if x = y then den cf 65 73 L st M else den cf 65 69 L st M := den_ic_eq l_65_66
theorem l_65_69 : look (tab 65) 69 = some (.iconst 1, 1, [], .int (zI 1)) := by decide +kernel
theorem e_65_69 : den cf 65 69 L st M = den cf 65 70 L (.int (zI 1) :: st) M := den_go l_65_69 rfl
theorem l_65_70 : look (tab 65) 70 = some (.goto 4, 3, [74], uu) := by decide +kernel
theorem e_65_70 : den cf 65 70 L st M = den cf 65 74 L st M := den_go l_65_70 rfl
theorem l_65_73 : look (tab 65) 73 = some (.iconst 0, 1, [], .int (zI 0)) := by decide +kernel
theorem e_65_73 : den cf 65 73 L st M = den cf 65 74 L (.int (zI 0) :: st) M := den_go l_65_73 rfl
theorem l_65_74 : look (tab 65) 74 = some (.ireturn, 1, [1], uu) := by decide +kernel
theorem e_65_74 : den cf 65 74 L [.int x] M = if x = zI 0 ∨ x = zI 1 then some (some (.int x), M) else none := den_e1 l_65_74
/-! yX4_readLikes -/
theorem l_66_0 : look (tab 66) 0 = some (.aload_n 0, 1, [], uu) := by decide +kernel
theorem e_66_0 : den cf 66 0 [.ref a, v1, v2] st M = den cf 66 1 [.ref a, v1, v2] (.ref a :: st) M := den_go l_66_0 rfl
theorem l_66_1 : look (tab 66) 1 = some (.invokevirtual 94, 3, [4, 69, 1, 538, 539, 540, 30], uu) := by decide +kernel
theorem e_66_1 : den cf 66 1 L (.ref a :: st) M = if rcv M 4 [.ref a] = true ∧ st.length ≤ 4 then rK (cf 69 [.ref a] M) (fun v M' => den cf 66 4 L (pR v st) M') else none := den_iv [] l_66_1 rfl
theorem l_66_4 : look (tab 66) 4 = some (.astore_n 1, 1, [], uu) := by decide +kernel
theorem e_66_4 : den cf 66 4 [v0, v1, v2] (v :: st) M = if isRf v = true then den cf 66 5 [kq v0, v, v2] st M else none := den_as (k := 1) (v := v) l_66_4 rfl (Nat.le_of_ble_eq_true rfl)
theorem l_66_5 : look (tab 66) 5 = some (.aload_n 1, 1, [], uu) := by decide +kernel
theorem e_66_5 : den cf 66 5 [v0, v1, v2] st M = if isRf v1 = true then den cf 66 6 [v0, v1, v2] (v1 :: st) M else none := den_g l_66_5 rfl
theorem l_66_6 : look (tab 66) 6 = some (.ifnonnull 5, 3, [11], uu) := by decide +kernel
theorem e_66_6 : den cf 66 6 L (va_rf o :: st) M = oN o (den cf 66 9 L st M) (den cf 66 11 L st M) := den_nn l_66_6
theorem e_66_6_n : den cf 66 6 L (.null :: st) M = den cf 66 9 L st M := den_go l_66_6 rfl
theorem e_66_6_r : den cf 66 6 L (.ref a :: st) M = den cf 66 11 L st M := den_go l_66_6 rfl
theorem l_66_9 : look (tab 66) 9 = some (.iconst 0, 1, [], .int (zI 0)) := by decide +kernel
theorem e_66_9 : den cf 66 9 L st M = den cf 66 10 L (.int (zI 0) :: st) M := den_go l_66_9 rfl
theorem l_66_10 : look (tab 66) 10 = some (.ireturn, 1, [1], uu) := by decide +kernel
theorem e_66_10 : den cf 66 10 L [.int x] M = if x = zI 0 ∨ x = zI 1 then some (some (.int x), M) else none := den_e1 l_66_10
theorem l_66_11 : look (tab 66) 11 = some (.aload_n 0, 1, [], uu) := by decide +kernel
theorem e_66_11 : den cf 66 11 [.ref a, v1, v2] st M = den cf 66 12 [.ref a, v1, v2] (.ref a :: st) M := den_go l_66_11 rfl
theorem l_66_12 : look (tab 66) 12 = some (.bipush 7, 2, [], .int (zI 7)) := by decide +kernel
theorem e_66_12 : den cf 66 12 L st M = den cf 66 14 L (.int (zI 7) :: st) M := den_go l_66_12 rfl
theorem l_66_14 : look (tab 66) 14 = some (.invokevirtual 71, 3, [4, 70, 2, 528, 529, 530, 30], uu) := by decide +kernel
theorem e_66_14 : den cf 66 14 L (w1 :: .ref a :: st) M = if rcv M 4 [.ref a, w1] = true ∧ st.length ≤ 4 then rK (cf 70 [.ref a, w1] M) (fun v M' => den cf 66 17 L (pR v st) M') else none := den_iv [w1] l_66_14 rfl
theorem l_66_17 : look (tab 66) 17 = some (.istore_n 2, 1, [], uu) := by decide +kernel
theorem e_66_17 : den cf 66 17 [v0, v1, v2] (.int x :: st) M = den cf 66 18 [v0, kq v1, .int x] st M := den_st (k := 2) (v := .int x) l_66_17 rfl
theorem l_66_18 : look (tab 66) 18 = some (.iload_n 2, 1, [], uu) := by decide +kernel
theorem e_66_18 : den cf 66 18 [v0, v1, .int x] st M = den cf 66 19 [v0, v1, .int x] (.int x :: st) M := den_go l_66_18 rfl
theorem l_66_19 : look (tab 66) 19 = some (.iconst (-1), 1, [], .int (zI (-1))) := by decide +kernel
theorem e_66_19 : den cf 66 19 L st M = den cf 66 20 L (.int (zI (-1)) :: st) M := den_go l_66_19 rfl
theorem l_66_20 : look (tab 66) 20 = some (.if_icmp .ne 5, 3, [25], uu) := by decide +kernel
theorem e_66_20 : den cf 66 20 L (.int y :: .int x :: st) M = if x = y then den cf 66 23 L st M else den cf 66 25 L st M := den_ic_ne l_66_20
theorem l_66_23 : look (tab 66) 23 = some (.iconst 0, 1, [], .int (zI 0)) := by decide +kernel
theorem e_66_23 : den cf 66 23 L st M = den cf 66 24 L (.int (zI 0) :: st) M := den_go l_66_23 rfl
theorem l_66_24 : look (tab 66) 24 = some (.ireturn, 1, [1], uu) := by decide +kernel
theorem e_66_24 : den cf 66 24 L [.int x] M = if x = zI 0 ∨ x = zI 1 then some (some (.int x), M) else none := den_e1 l_66_24
theorem l_66_25 : look (tab 66) 25 = some (.aload_n 1, 1, [], uu) := by decide +kernel
theorem e_66_25 : den cf 66 25 [v0, v1, v2] st M = if isRf v1 = true then den cf 66 26 [v0, v1, v2] (v1 :: st) M else none := den_g l_66_25 rfl
theorem l_66_26 : look (tab 66) 26 = some (.dup, 1, [], uu) := by decide +kernel
theorem e_66_26 : den cf 66 26 L (.ref a :: st) M = den cf 66 27 L (.ref a :: .ref a :: st) M := den_go l_66_26 rfl
theorem e_66_26_i : den cf 66 26 L (.int x :: st) M = den cf 66 27 L (.int x :: .int x :: st) M := den_go l_66_26 rfl
theorem l_66_27 : look (tab 66) 27 = some (.getfield 98, 3, [1, 5, 537], uu) := by decide +kernel
theorem e_66_27 : den cf 66 27 L (.ref a :: st) M = oK (gfA (M.2.2 a) 1 5) (fun v => den cf 66 30 L (v :: st) M) := den_gf l_66_27
theorem l_66_30 : look (tab 66) 30 = some (.iconst 1, 1, [], .int (zI 1)) := by decide +kernel
theorem e_66_30 : den cf 66 30 L st M = den cf 66 31 L (.int (zI 1) :: st) M := den_go l_66_30 rfl
theorem l_66_31 : look (tab 66) 31 = some (.iload_n 2, 1, [], uu) := by decide +kernel
theorem e_66_31 : den cf 66 31 [v0, v1, .int x] st M = den cf 66 32 [v0, v1, .int x] (.int x :: st) M := den_go l_66_31 rfl
theorem l_66_32 : look (tab 66) 32 = some (.ishl, 1, [], uu) := by decide +kernel
theorem e_66_32 : den cf 66 32 L (.int y :: .int x :: st) M = den cf 66 33 L (.int (x <<< (y &&& 31)) :: st) M := den_go l_66_32 rfl
theorem l_66_33 : look (tab 66) 33 = some (.ior, 1, [], uu) := by decide +kernel
theorem e_66_33 : den cf 66 33 L (.int y :: .int x :: st) M = den cf 66 34 L (.int (x ||| y) :: st) M := den_go l_66_33 rfl
theorem l_66_34 : look (tab 66) 34 = some (.putfield 98, 3, [1, 5, 0, 537, 0], uu) := by decide +kernel
theorem e_66_34 : den cf 66 34 L (.int x :: .ref a :: st) M = oK (pfA (M.2.2 a) 1 5 (.int x)) (fun c => den cf 66 37 L st (mU M a c)) := den_pf0 l_66_34
theorem l_66_37 : look (tab 66) 37 = some (.iconst 1, 1, [], .int (zI 1)) := by decide +kernel
theorem e_66_37 : den cf 66 37 L st M = den cf 66 38 L (.int (zI 1) :: st) M := den_go l_66_37 rfl
theorem l_66_38 : look (tab 66) 38 = some (.ireturn, 1, [1], uu) := by decide +kernel
theorem e_66_38 : den cf 66 38 L [.int x] M = if x = zI 0 ∨ x = zI 1 then some (some (.int x), M) else none := den_e1 l_66_38
/-! yX4_readPair -/
theorem l_67_0 : look (tab 67) 0 = some (.aload_n 0, 1, [], uu) := by decide +kernel
theorem e_67_0 : den cf 67 0 [.ref a, v1, v2] st M = den cf 67 1 [.ref a, v1, v2] (.ref a :: st) M := den_go l_67_0 rfl
theorem l_67_1 : look (tab 67) 1 = some (.invokevirtual 94, 3, [4, 69, 1, 538, 539, 540, 30], uu) := by decide +kernel
theorem e_67_1 : den cf 67 1 L (.ref a :: st) M = if rcv M 4 [.ref a] = true ∧ st.length ≤ 4 then rK (cf 69 [.ref a] M) (fun v M' => den cf 67 4 L (pR v st) M') else none := den_iv [] l_67_1 rfl
theorem l_67_4 : look (tab 67) 4 = some (.astore_n 1, 1, [], uu) := by decide +kernel
theorem e_67_4 : den cf 67 4 [v0, v1, v2] (v :: st) M = if isRf v = true then den cf 67 5 [kq v0, v, v2] st M else none := den_as (k := 1) (v := v) l_67_4 rfl (Nat.le_of_ble_eq_true rfl)
theorem l_67_5 : look (tab 67) 5 = some (.aload_n 1, 1, [], uu) := by decide +kernel
theorem e_67_5 : den cf 67 5 [v0, v1, v2] st M = if isRf v1 = true then den cf 67 6 [v0, v1, v2] (v1 :: st) M else none := den_g l_67_5 rfl
theorem l_67_6 : look (tab 67) 6 = some (.ifnonnull 5, 3, [11], uu) := by decide +kernel
theorem e_67_6 : den cf 67 6 L (va_rf o :: st) M = oN o (den cf 67 9 L st M) (den cf 67 11 L st M) := den_nn l_67_6
theorem e_67_6_n : den cf 67 6 L (.null :: st) M = den cf 67 9 L st M := den_go l_67_6 rfl
theorem e_67_6_r : den cf 67 6 L (.ref a :: st) M = den cf 67 11 L st M := den_go l_67_6 rfl
theorem l_67_9 : look (tab 67) 9 = some (.iconst 0, 1, [], .int (zI 0)) := by decide +kernel
theorem e_67_9 : den cf 67 9 L st M = den cf 67 10 L (.int (zI 0) :: st) M := den_go l_67_9 rfl
theorem l_67_10 : look (tab 67) 10 = some (.ireturn, 1, [1], uu) := by decide +kernel
theorem e_67_10 : den cf 67 10 L [.int x] M = if x = zI 0 ∨ x = zI 1 then some (some (.int x), M) else none := den_e1 l_67_10
theorem l_67_11 : look (tab 67) 11 = some (.aload_n 1, 1, [], uu) := by decide +kernel
theorem e_67_11 : den cf 67 11 [v0, v1, v2] st M = if isRf v1 = true then den cf 67 12 [v0, v1, v2] (v1 :: st) M else none := den_g l_67_11 rfl
theorem l_67_12 : look (tab 67) 12 = some (.iconst 0, 1, [], .int (zI 0)) := by decide +kernel
theorem e_67_12 : den cf 67 12 L st M = den cf 67 13 L (.int (zI 0) :: st) M := den_go l_67_12 rfl
theorem l_67_13 : look (tab 67) 13 = some (.invokevirtual 102, 3, [1, 15, 2, 547, 346, 347, 41], uu) := by decide +kernel
theorem e_67_13 : den cf 67 13 L (w1 :: .ref a :: st) M = if rcv M 1 [.ref a, w1] = true ∧ st.length ≤ 4 then rK (cf 15 [.ref a, w1] M) (fun v M' => den cf 67 16 L (pR v st) M') else none := den_iv [w1] l_67_13 rfl
theorem l_67_16 : look (tab 67) 16 = some (.ifCond .ne 8, 3, [24], uu) := by decide +kernel
theorem e_67_16 : den cf 67 16 L (.int x :: st) M = if x = zI 0 then den cf 67 19 L st M else den cf 67 24 L st M := den_if_ne l_67_16
theorem l_67_19 : look (tab 67) 19 = some (.aload_n 0, 1, [], uu) := by decide +kernel
theorem e_67_19 : den cf 67 19 [.ref a, v1, v2] st M = den cf 67 20 [.ref a, v1, v2] (.ref a :: st) M := den_go l_67_19 rfl
theorem l_67_20 : look (tab 67) 20 = some (.invokevirtual 36, 3, [4, 63, 1, 523, 524, 525, 30], uu) := by decide +kernel
theorem e_67_20 : den cf 67 20 L (.ref a :: st) M = if rcv M 4 [.ref a] = true ∧ st.length ≤ 4 then rK (cf 63 [.ref a] M) (fun v M' => den cf 67 23 L (pR v st) M') else none := den_iv [] l_67_20 rfl
theorem l_67_23 : look (tab 67) 23 = some (.ireturn, 1, [1], uu) := by decide +kernel
theorem e_67_23 : den cf 67 23 L [.int x] M = if x = zI 0 ∨ x = zI 1 then some (some (.int x), M) else none := den_e1 l_67_23
theorem l_67_24 : look (tab 67) 24 = some (.aload_n 0, 1, [], uu) := by decide +kernel
theorem e_67_24 : den cf 67 24 [.ref a, v1, v2] st M = den cf 67 25 [.ref a, v1, v2] (.ref a :: st) M := den_go l_67_24 rfl
theorem l_67_25 : look (tab 67) 25 = some (.invokevirtual 94, 3, [4, 69, 1, 538, 539, 540, 30], uu) := by decide +kernel
theorem e_67_25 : den cf 67 25 L (.ref a :: st) M = if rcv M 4 [.ref a] = true ∧ st.length ≤ 4 then rK (cf 69 [.ref a] M) (fun v M' => den cf 67 28 L (pR v st) M') else none := den_iv [] l_67_25 rfl
theorem l_67_28 : look (tab 67) 28 = some (.astore_n 2, 1, [], uu) := by decide +kernel
theorem e_67_28 : den cf 67 28 [v0, v1, v2] (v :: st) M = if isRf v = true then den cf 67 29 [v0, kq v1, v] st M else none := den_as (k := 2) (v := v) l_67_28 rfl (Nat.le_of_ble_eq_true rfl)
theorem l_67_29 : look (tab 67) 29 = some (.aload_n 2, 1, [], uu) := by decide +kernel
theorem e_67_29 : den cf 67 29 [v0, v1, v2] st M = if isRf v2 = true then den cf 67 30 [v0, v1, v2] (v2 :: st) M else none := den_g l_67_29 rfl
theorem l_67_30 : look (tab 67) 30 = some (.ifnonnull 5, 3, [35], uu) := by decide +kernel
theorem e_67_30 : den cf 67 30 L (va_rf o :: st) M = oN o (den cf 67 33 L st M) (den cf 67 35 L st M) := den_nn l_67_30
theorem e_67_30_n : den cf 67 30 L (.null :: st) M = den cf 67 33 L st M := den_go l_67_30 rfl
theorem e_67_30_r : den cf 67 30 L (.ref a :: st) M = den cf 67 35 L st M := den_go l_67_30 rfl
theorem l_67_33 : look (tab 67) 33 = some (.iconst 0, 1, [], .int (zI 0)) := by decide +kernel
theorem e_67_33 : den cf 67 33 L st M = den cf 67 34 L (.int (zI 0) :: st) M := den_go l_67_33 rfl
theorem l_67_34 : look (tab 67) 34 = some (.ireturn, 1, [1], uu) := by decide +kernel
theorem e_67_34 : den cf 67 34 L [.int x] M = if x = zI 0 ∨ x = zI 1 then some (some (.int x), M) else none := den_e1 l_67_34
theorem l_67_35 : look (tab 67) 35 = some (.aload_n 2, 1, [], uu) := by decide +kernel
theorem e_67_35 : den cf 67 35 [v0, v1, v2] st M = if isRf v2 = true then den cf 67 36 [v0, v1, v2] (v2 :: st) M else none := den_g l_67_35 rfl
theorem l_67_36 : look (tab 67) 36 = some (.iconst 1, 1, [], .int (zI 1)) := by decide +kernel
theorem e_67_36 : den cf 67 36 L st M = den cf 67 37 L (.int (zI 1) :: st) M := den_go l_67_36 rfl
theorem l_67_37 : look (tab 67) 37 = some (.invokevirtual 102, 3, [1, 15, 2, 547, 346, 347, 41], uu) := by decide +kernel
theorem e_67_37 : den cf 67 37 L (w1 :: .ref a :: st) M = if rcv M 1 [.ref a, w1] = true ∧ st.length ≤ 4 then rK (cf 15 [.ref a, w1] M) (fun v M' => den cf 67 40 L (pR v st) M') else none := den_iv [w1] l_67_37 rfl
theorem l_67_40 : look (tab 67) 40 = some (.ifCond .ne 8, 3, [48], uu) := by decide +kernel
theorem e_67_40 : den cf 67 40 L (.int x :: st) M = if x = zI 0 then den cf 67 43 L st M else den cf 67 48 L st M := den_if_ne l_67_40
theorem l_67_43 : look (tab 67) 43 = some (.aload_n 0, 1, [], uu) := by decide +kernel
theorem e_67_43 : den cf 67 43 [.ref a, v1, v2] st M = den cf 67 44 [.ref a, v1, v2] (.ref a :: st) M := den_go l_67_43 rfl
theorem l_67_44 : look (tab 67) 44 = some (.invokevirtual 36, 3, [4, 63, 1, 523, 524, 525, 30], uu) := by decide +kernel
theorem e_67_44 : den cf 67 44 L (.ref a :: st) M = if rcv M 4 [.ref a] = true ∧ st.length ≤ 4 then rK (cf 63 [.ref a] M) (fun v M' => den cf 67 47 L (pR v st) M') else none := den_iv [] l_67_44 rfl
theorem l_67_47 : look (tab 67) 47 = some (.ireturn, 1, [1], uu) := by decide +kernel
theorem e_67_47 : den cf 67 47 L [.int x] M = if x = zI 0 ∨ x = zI 1 then some (some (.int x), M) else none := den_e1 l_67_47
theorem l_67_48 : look (tab 67) 48 = some (.aload_n 1, 1, [], uu) := by decide +kernel
theorem e_67_48 : den cf 67 48 [v0, v1, v2] st M = if isRf v1 = true then den cf 67 49 [v0, v1, v2] (v1 :: st) M else none := den_g l_67_48 rfl
theorem l_67_49 : look (tab 67) 49 = some (.aload_n 2, 1, [], uu) := by decide +kernel
theorem e_67_49 : den cf 67 49 [v0, v1, v2] st M = if isRf v2 = true then den cf 67 50 [v0, v1, v2] (v2 :: st) M else none := den_g l_67_49 rfl
theorem l_67_50 : look (tab 67) 50 = some (.invokevirtual 106, 3, [1, 17, 2, 548, 350, 351, 41], uu) := by decide +kernel
theorem e_67_50 : den cf 67 50 L (w1 :: .ref a :: st) M = if rcv M 1 [.ref a, w1] = true ∧ st.length ≤ 4 then rK (cf 17 [.ref a, w1] M) (fun v M' => den cf 67 53 L (pR v st) M') else none := den_iv [w1] l_67_50 rfl
theorem l_67_53 : look (tab 67) 53 = some (.iconst 1, 1, [], .int (zI 1)) := by decide +kernel
theorem e_67_53 : den cf 67 53 L st M = den cf 67 54 L (.int (zI 1) :: st) M := den_go l_67_53 rfl
theorem l_67_54 : look (tab 67) 54 = some (.ireturn, 1, [1], uu) := by decide +kernel
theorem e_67_54 : den cf 67 54 L [.int x] M = if x = zI 0 ∨ x = zI 1 then some (some (.int x), M) else none := den_e1 l_67_54
/-! yX4_readPart -/
theorem l_68_0 : look (tab 68) 0 = some (.aload_n 0, 1, [], uu) := by decide +kernel
theorem e_68_0 : den cf 68 0 [.ref a, v1] st M = den cf 68 1 [.ref a, v1] (.ref a :: st) M := den_go l_68_0 rfl
theorem l_68_1 : look (tab 68) 1 = some (.invokevirtual 94, 3, [4, 69, 1, 538, 539, 540, 30], uu) := by decide +kernel
theorem e_68_1 : den cf 68 1 L (.ref a :: st) M = if rcv M 4 [.ref a] = true ∧ st.length ≤ 4 then rK (cf 69 [.ref a] M) (fun v M' => den cf 68 4 L (pR v st) M') else none := den_iv [] l_68_1 rfl
theorem l_68_4 : look (tab 68) 4 = some (.astore_n 1, 1, [], uu) := by decide +kernel
theorem e_68_4 : den cf 68 4 [v0, v1] (v :: st) M = if isRf v = true then den cf 68 5 [kq v0, v] st M else none := den_as (k := 1) (v := v) l_68_4 rfl (Nat.le_of_ble_eq_true rfl)
theorem l_68_5 : look (tab 68) 5 = some (.aload_n 1, 1, [], uu) := by decide +kernel
theorem e_68_5 : den cf 68 5 [v0, v1] st M = if isRf v1 = true then den cf 68 6 [v0, v1] (v1 :: st) M else none := den_g l_68_5 rfl
theorem l_68_6 : look (tab 68) 6 = some (.ifnonnull 5, 3, [11], uu) := by decide +kernel
theorem e_68_6 : den cf 68 6 L (va_rf o :: st) M = oN o (den cf 68 9 L st M) (den cf 68 11 L st M) := den_nn l_68_6
theorem e_68_6_n : den cf 68 6 L (.null :: st) M = den cf 68 9 L st M := den_go l_68_6 rfl
theorem e_68_6_r : den cf 68 6 L (.ref a :: st) M = den cf 68 11 L st M := den_go l_68_6 rfl
theorem l_68_9 : look (tab 68) 9 = some (.iconst 0, 1, [], .int (zI 0)) := by decide +kernel
theorem e_68_9 : den cf 68 9 L st M = den cf 68 10 L (.int (zI 0) :: st) M := den_go l_68_9 rfl
theorem l_68_10 : look (tab 68) 10 = some (.ireturn, 1, [1], uu) := by decide +kernel
theorem e_68_10 : den cf 68 10 L [.int x] M = if x = zI 0 ∨ x = zI 1 then some (some (.int x), M) else none := den_e1 l_68_10
theorem l_68_11 : look (tab 68) 11 = some (.aload_n 1, 1, [], uu) := by decide +kernel
theorem e_68_11 : den cf 68 11 [v0, v1] st M = if isRf v1 = true then den cf 68 12 [v0, v1] (v1 :: st) M else none := den_g l_68_11 rfl
theorem l_68_12 : look (tab 68) 12 = some (.getfield 110, 3, [1, 6, 553], uu) := by decide +kernel
theorem e_68_12 : den cf 68 12 L (.ref a :: st) M = oK (gfA (M.2.2 a) 1 6) (fun v => den cf 68 15 L (v :: st) M) := den_gf l_68_12
theorem l_68_15 : look (tab 68) 15 = some (.ifnonnull 8, 3, [23], uu) := by decide +kernel
theorem e_68_15 : den cf 68 15 L (va_rf o :: st) M = oN o (den cf 68 18 L st M) (den cf 68 23 L st M) := den_nn l_68_15
theorem e_68_15_n : den cf 68 15 L (.null :: st) M = den cf 68 18 L st M := den_go l_68_15 rfl
theorem e_68_15_r : den cf 68 15 L (.ref a :: st) M = den cf 68 23 L st M := den_go l_68_15 rfl
theorem l_68_18 : look (tab 68) 18 = some (.aload_n 0, 1, [], uu) := by decide +kernel
theorem e_68_18 : den cf 68 18 [.ref a, v1] st M = den cf 68 19 [.ref a, v1] (.ref a :: st) M := den_go l_68_18 rfl
theorem l_68_19 : look (tab 68) 19 = some (.invokevirtual 36, 3, [4, 63, 1, 523, 524, 525, 30], uu) := by decide +kernel
theorem e_68_19 : den cf 68 19 L (.ref a :: st) M = if rcv M 4 [.ref a] = true ∧ st.length ≤ 4 then rK (cf 63 [.ref a] M) (fun v M' => den cf 68 22 L (pR v st) M') else none := den_iv [] l_68_19 rfl
theorem l_68_22 : look (tab 68) 22 = some (.ireturn, 1, [1], uu) := by decide +kernel
theorem e_68_22 : den cf 68 22 L [.int x] M = if x = zI 0 ∨ x = zI 1 then some (some (.int x), M) else none := den_e1 l_68_22
theorem l_68_23 : look (tab 68) 23 = some (.aload_n 1, 1, [], uu) := by decide +kernel
theorem e_68_23 : den cf 68 23 [v0, v1] st M = if isRf v1 = true then den cf 68 24 [v0, v1] (v1 :: st) M else none := den_g l_68_23 rfl
theorem l_68_24 : look (tab 68) 24 = some (.invokevirtual 114, 3, [1, 18, 1, 554, 376, 377, 41], uu) := by decide +kernel
theorem e_68_24 : den cf 68 24 L (.ref a :: st) M = if rcv M 1 [.ref a] = true ∧ st.length ≤ 4 then rK (cf 18 [.ref a] M) (fun v M' => den cf 68 27 L (pR v st) M') else none := den_iv [] l_68_24 rfl
theorem l_68_27 : look (tab 68) 27 = some (.iconst 1, 1, [], .int (zI 1)) := by decide +kernel
theorem e_68_27 : den cf 68 27 L st M = den cf 68 28 L (.int (zI 1) :: st) M := den_go l_68_27 rfl
theorem l_68_28 : look (tab 68) 28 = some (.ireturn, 1, [1], uu) := by decide +kernel
theorem e_68_28 : den cf 68 28 L [.int x] M = if x = zI 0 ∨ x = zI 1 then some (some (.int x), M) else none := den_e1 l_68_28
/-! yX4_readOne -/
theorem l_69_0 : look (tab 69) 0 = some (.aload_n 0, 1, [], uu) := by decide +kernel
theorem e_69_0 : den cf 69 0 [.ref a] st M = den cf 69 1 [.ref a] (.ref a :: st) M := den_go l_69_0 rfl
theorem l_69_1 : look (tab 69) 1 = some (.getfield 19, 3, [4, 3, 443], uu) := by decide +kernel
theorem e_69_1 : den cf 69 1 L (.ref a :: st) M = oK (gfA (M.2.2 a) 4 3) (fun v => den cf 69 4 L (v :: st) M) := den_gf l_69_1
theorem l_69_4 : look (tab 69) 4 = some (.aload_n 0, 1, [], uu) := by decide +kernel
theorem e_69_4 : den cf 69 4 [.ref a] st M = den cf 69 5 [.ref a] (.ref a :: st) M := den_go l_69_4 rfl
theorem l_69_5 : look (tab 69) 5 = some (.aload_n 0, 1, [], uu) := by decide +kernel
theorem e_69_5 : den cf 69 5 [.ref a] st M = den cf 69 6 [.ref a] (.ref a :: st) M := den_go l_69_5 rfl
theorem l_69_6 : look (tab 69) 6 = some (.getfield 19, 3, [4, 3, 443], uu) := by decide +kernel
theorem e_69_6 : den cf 69 6 L (.ref a :: st) M = oK (gfA (M.2.2 a) 4 3) (fun v => den cf 69 9 L (v :: st) M) := den_gf l_69_6
theorem l_69_9 : look (tab 69) 9 = some (.getfield 87, 3, [2, 1, 522], uu) := by decide +kernel
theorem e_69_9 : den cf 69 9 L (.ref a :: st) M = oK (gfA (M.2.2 a) 2 1) (fun v => den cf 69 12 L (v :: st) M) := den_gf l_69_9
theorem l_69_12 : look (tab 69) 12 = some (.iconst 1, 1, [], .int (zI 1)) := by decide +kernel
theorem e_69_12 : den cf 69 12 L st M = den cf 69 13 L (.int (zI 1) :: st) M := den_go l_69_12 rfl
theorem l_69_13 : look (tab 69) 13 = some (.isub, 1, [], uu) := by decide +kernel
theorem e_69_13 : den cf 69 13 L (.int y :: .int x :: st) M = den cf 69 14 L (.int (x - y) :: st) M := den_go l_69_13 rfl
theorem l_69_14 : look (tab 69) 14 = some (.invokevirtual 71, 3, [4, 70, 2, 528, 529, 530, 30], uu) := by decide +kernel
theorem e_69_14 : den cf 69 14 L (w1 :: .ref a :: st) M = if rcv M 4 [.ref a, w1] = true ∧ st.length ≤ 4 then rK (cf 70 [.ref a, w1] M) (fun v M' => den cf 69 17 L (pR v st) M') else none := den_iv [w1] l_69_14 rfl
theorem l_69_17 : look (tab 69) 17 = some (.invokevirtual 117, 3, [2, 24, 2, 542, 210, 211, 15], uu) := by decide +kernel
theorem e_69_17 : den cf 69 17 L (w1 :: .ref a :: st) M = if rcv M 2 [.ref a, w1] = true ∧ st.length ≤ 4 then rK (cf 24 [.ref a, w1] M) (fun v M' => den cf 69 20 L (pR v st) M') else none := den_iv [w1] l_69_17 rfl
theorem l_69_20 : look (tab 69) 20 = some (.areturn, 1, [], uu) := by decide +kernel
theorem e_69_20 : den cf 69 20 L [v] M = if isRf v = true then some (some v, M) else none := den_e3 l_69_20
/-! yX4_readNumber -/
theorem l_70_0 : look (tab 70) 0 = some (.aload_n 0, 1, [], uu) := by decide +kernel
theorem e_70_0 : den cf 70 0 [.ref a, v1, v2, v3] st M = den cf 70 1 [.ref a, v1, v2, v3] (.ref a :: st) M := den_go l_70_0 rfl
theorem l_70_1 : look (tab 70) 1 = some (.invokevirtual 30, 3, [4, 72, 1, 453, 454, 455, 30], uu) := by decide +kernel
theorem e_70_1 : den cf 70 1 L (.ref a :: st) M = if rcv M 4 [.ref a] = true ∧ st.length ≤ 4 then rK (cf 72 [.ref a] M) (fun v M' => den cf 70 4 L (pR v st) M') else none := den_iv [] l_70_1 rfl
theorem l_70_4 : look (tab 70) 4 = some (.iconst 0, 1, [], .int (zI 0)) := by decide +kernel
theorem e_70_4 : den cf 70 4 L st M = den cf 70 5 L (.int (zI 0) :: st) M := den_go l_70_4 rfl
theorem l_70_5 : look (tab 70) 5 = some (.istore_n 2, 1, [], uu) := by decide +kernel
theorem e_70_5 : den cf 70 5 [v0, v1, v2, v3] (.int x :: st) M = den cf 70 6 [v0, kq v1, .int x, v3] st M := den_st (k := 2) (v := .int x) l_70_5 rfl
theorem l_70_6 : look (tab 70) 6 = some (.aload_n 0, 1, [], uu) := by decide +kernel
theorem e_70_6 : den cf 70 6 [.ref a, v1, v2, v3] st M = den cf 70 7 [.ref a, v1, v2, v3] (.ref a :: st) M := den_go l_70_6 rfl
theorem l_70_7 : look (tab 70) 7 = some (.getfield 39, 3, [4, 5, 457], uu) := by decide +kernel
theorem e_70_7 : den cf 70 7 L (.ref a :: st) M = oK (gfA (M.2.2 a) 4 5) (fun v => den cf 70 10 L (v :: st) M) := den_gf l_70_7
theorem l_70_10 : look (tab 70) 10 = some (.istore_n 3, 1, [], uu) := by decide +kernel
theorem e_70_10 : den cf 70 10 [v0, v1, v2, v3] (.int x :: st) M = den cf 70 11 [v0, v1, kq v2, .int x] st M := den_st (k := 3) (v := .int x) l_70_10 rfl
theorem l_70_11 : look (tab 70) 11 = some (.iload_n 3, 1, [], uu) := by decide +kernel
theorem e_70_11 : den cf 70 11 [v0, v1, v2, .int x] st M = den cf 70 12 [v0, v1, v2, .int x] (.int x :: st) M := den_go l_70_11 rfl
theorem l_70_12 : look (tab 70) 12 = some (.aload_n 0, 1, [], uu) := by decide +kernel
theorem e_70_12 : den cf 70 12 [.ref a, v1, v2, v3] st M = den cf 70 13 [.ref a, v1, v2, v3] (.ref a :: st) M := den_go l_70_12 rfl
theorem l_70_13 : look (tab 70) 13 = some (.getfield 23, 3, [4, 6, 444], uu) := by decide +kernel
theorem e_70_13 : den cf 70 13 L (.ref a :: st) M = oK (gfA (M.2.2 a) 4 6) (fun v => den cf 70 16 L (v :: st) M) := den_gf l_70_13
theorem l_70_16 : look (tab 70) 16 = some (.if_icmp .ge 23, 3, [39], uu) := by decide +kernel
theorem e_70_16 : den cf 70 16 L (.int y :: .int x :: st) M = if x < y then den cf 70 19 L st M else den cf 70 39 L st M := den_ic_ge l_70_16
theorem l_70_19 : look (tab 70) 19 = some (.bipush 10, 2, [], .int (zI 10)) := by decide +kernel
theorem e_70_19 : den cf 70 19 L st M = den cf 70 21 L (.int (zI 10) :: st) M := den_go l_70_19 rfl
theorem l_70_21 : look (tab 70) 21 = some (.iload_n 2, 1, [], uu) := by decide +kernel
theorem e_70_21 : den cf 70 21 [v0, v1, .int x, v3] st M = den cf 70 22 [v0, v1, .int x, v3] (.int x :: st) M := den_go l_70_21 rfl
theorem l_70_22 : look (tab 70) 22 = some (.imul, 1, [], uu) := by decide +kernel
theorem e_70_22 : den cf 70 22 L (.int y :: .int x :: st) M = den cf 70 23 L (.int (x * y) :: st) M := den_go l_70_22 rfl
theorem l_70_23 : look (tab 70) 23 = some (.aload_n 0, 1, [], uu) := by decide +kernel
theorem e_70_23 : den cf 70 23 [.ref a, v1, v2, v3] st M = den cf 70 24 [.ref a, v1, v2, v3] (.ref a :: st) M := den_go l_70_23 rfl
theorem l_70_24 : look (tab 70) 24 = some (.iload_n 3, 1, [], uu) := by decide +kernel
theorem e_70_24 : den cf 70 24 [v0, v1, v2, .int x] st M = den cf 70 25 [v0, v1, v2, .int x] (.int x :: st) M := den_go l_70_24 rfl
theorem l_70_25 : look (tab 70) 25 = some (.invokevirtual 121, 3, [4, 61, 2, 458, 459, 460, 30], uu) := by decide +kernel
theorem e_70_25 : den cf 70 25 L (w1 :: .ref a :: st) M = if rcv M 4 [.ref a, w1] = true ∧ st.length ≤ 4 then rK (cf 61 [.ref a, w1] M) (fun v M' => den cf 70 28 L (pR v st) M') else none := den_iv [w1] l_70_25 rfl
theorem l_70_28 : look (tab 70) 28 = some (.iadd, 1, [], uu) := by decide +kernel
theorem e_70_28 : den cf 70 28 L (.int y :: .int x :: st) M = den cf 70 29 L (.int (x + y) :: st) M := den_go l_70_28 rfl
theorem l_70_29 : look (tab 70) 29 = some (.bipush 48, 2, [], .int (zI 48)) := by decide +kernel
theorem e_70_29 : den cf 70 29 L st M = den cf 70 31 L (.int (zI 48) :: st) M := den_go l_70_29 rfl
theorem l_70_31 : look (tab 70) 31 = some (.isub, 1, [], uu) := by decide +kernel
theorem e_70_31 : den cf 70 31 L (.int y :: .int x :: st) M = den cf 70 32 L (.int (x - y) :: st) M := den_go l_70_31 rfl
theorem l_70_32 : look (tab 70) 32 = some (.istore_n 2, 1, [], uu) := by decide +kernel
theorem e_70_32 : den cf 70 32 [v0, v1, v2, v3] (.int x :: st) M = den cf 70 33 [v0, kq v1, .int x, v3] st M := den_st (k := 2) (v := .int x) l_70_32 rfl
theorem l_70_33 : look (tab 70) 33 = some (.iinc 3 1, 3, [], .int (zI 1)) := by decide +kernel
theorem e_70_33 : den cf 70 33 [v0, v1, v2, .int x] st M = den cf 70 36 [v0, v1, kq v2, .int (x + (zI 1))] st M := den_st (k := 3) (v := .int (x + (zI 1))) l_70_33 rfl
theorem l_70_36 : look (tab 70) 36 = some (.goto (-25), 3, [11], uu) := by decide +kernel
theorem e_70_36 : den cf 70 36 L st M = den cf 70 11 L st M := den_go l_70_36 rfl
theorem l_70_39 : look (tab 70) 39 = some (.aload_n 0, 1, [], uu) := by decide +kernel
theorem e_70_39 : den cf 70 39 [.ref a, v1, v2, v3] st M = den cf 70 40 [.ref a, v1, v2, v3] (.ref a :: st) M := den_go l_70_39 rfl
theorem l_70_40 : look (tab 70) 40 = some (.getfield 33, 3, [4, 4, 445], uu) := by decide +kernel
theorem e_70_40 : den cf 70 40 L (.ref a :: st) M = oK (gfA (M.2.2 a) 4 4) (fun v => den cf 70 43 L (v :: st) M) := den_gf l_70_40
theorem l_70_43 : look (tab 70) 43 = some (.iconst 2, 1, [], .int (zI 2)) := by decide +kernel
theorem e_70_43 : den cf 70 43 L st M = den cf 70 44 L (.int (zI 2) :: st) M := den_go l_70_43 rfl
theorem l_70_44 : look (tab 70) 44 = some (.if_icmp .ne 21, 3, [65], uu) := by decide +kernel
theorem e_70_44 : den cf 70 44 L (.int y :: .int x :: st) M = if x = y then den cf 70 47 L st M else den cf 70 65 L st M := den_ic_ne l_70_44
theorem l_70_47 : look (tab 70) 47 = some (.aload_n 0, 1, [], uu) := by decide +kernel
theorem e_70_47 : den cf 70 47 [.ref a, v1, v2, v3] st M = den cf 70 48 [.ref a, v1, v2, v3] (.ref a :: st) M := den_go l_70_47 rfl
theorem l_70_48 : look (tab 70) 48 = some (.getfield 23, 3, [4, 6, 444], uu) := by decide +kernel
theorem e_70_48 : den cf 70 48 L (.ref a :: st) M = oK (gfA (M.2.2 a) 4 6) (fun v => den cf 70 51 L (v :: st) M) := den_gf l_70_48
theorem l_70_51 : look (tab 70) 51 = some (.aload_n 0, 1, [], uu) := by decide +kernel
theorem e_70_51 : den cf 70 51 [.ref a, v1, v2, v3] st M = den cf 70 52 [.ref a, v1, v2, v3] (.ref a :: st) M := den_go l_70_51 rfl
theorem l_70_52 : look (tab 70) 52 = some (.getfield 39, 3, [4, 5, 457], uu) := by decide +kernel
theorem e_70_52 : den cf 70 52 L (.ref a :: st) M = oK (gfA (M.2.2 a) 4 5) (fun v => den cf 70 55 L (v :: st) M) := den_gf l_70_52
theorem l_70_55 : look (tab 70) 55 = some (.isub, 1, [], uu) := by decide +kernel
theorem e_70_55 : den cf 70 55 L (.int y :: .int x :: st) M = den cf 70 56 L (.int (x - y) :: st) M := den_go l_70_55 rfl
theorem l_70_56 : look (tab 70) 56 = some (.iconst 2, 1, [], .int (zI 2)) := by decide +kernel
theorem e_70_56 : den cf 70 56 L st M = den cf 70 57 L (.int (zI 2) :: st) M := den_go l_70_56 rfl
theorem l_70_57 : look (tab 70) 57 = some (.if_icmp .gt 8, 3, [65], uu) := by decide +kernel
theorem e_70_57 : den cf 70 57 L (.int y :: .int x :: st) M = if y < x then den cf 70 65 L st M else den cf 70 60 L st M := den_ic_gt l_70_57
theorem l_70_60 : look (tab 70) 60 = some (.iload_n 2, 1, [], uu) := by decide +kernel
theorem e_70_60 : den cf 70 60 [v0, v1, .int x, v3] st M = den cf 70 61 [v0, v1, .int x, v3] (.int x :: st) M := den_go l_70_60 rfl
theorem l_70_61 : look (tab 70) 61 = some (.iload_n 1, 1, [], uu) := by decide +kernel
theorem e_70_61 : den cf 70 61 [v0, .int x, v2, v3] st M = den cf 70 62 [v0, .int x, v2, v3] (.int x :: st) M := den_go l_70_61 rfl
theorem l_70_62 : look (tab 70) 62 = some (.if_icmp .le 10, 3, [72], uu) := by decide +kernel
theorem e_70_62 : den cf 70 62 L (.int y :: .int x :: st) M = if y < x then den cf 70 65 L st M else den cf 70 72 L st M := den_ic_le l_70_62
theorem l_70_65 : look (tab 70) 65 = some (.aload_n 0, 1, [], uu) := by decide +kernel
theorem e_70_65 : den cf 70 65 [.ref a, v1, v2, v3] st M = den cf 70 66 [.ref a, v1, v2, v3] (.ref a :: st) M := den_go l_70_65 rfl
theorem l_70_66 : look (tab 70) 66 = some (.invokevirtual 36, 3, [4, 63, 1, 523, 524, 525, 30], uu) := by decide +kernel
theorem e_70_66 : den cf 70 66 L (.ref a :: st) M = if rcv M 4 [.ref a] = true ∧ st.length ≤ 4 then rK (cf 63 [.ref a] M) (fun v M' => den cf 70 69 L (pR v st) M') else none := den_iv [] l_70_66 rfl
theorem l_70_69 : look (tab 70) 69 = some (.pop, 1, [], uu) := by decide +kernel
theorem e_70_69 : den cf 70 69 L (.int x :: st) M = den cf 70 70 L st M := den_go l_70_69 rfl
theorem l_70_70 : look (tab 70) 70 = some (.iconst (-1), 1, [], .int (zI (-1))) := by decide +kernel
theorem e_70_70 : den cf 70 70 L st M = den cf 70 71 L (.int (zI (-1)) :: st) M := den_go l_70_70 rfl
theorem l_70_71 : look (tab 70) 71 = some (.ireturn, 1, [0], uu) := by decide +kernel
theorem e_70_71 : den cf 70 71 L [.int x] M = some (some (.int x), M) := den_e0 l_70_71
theorem l_70_72 : look (tab 70) 72 = some (.iload_n 2, 1, [], uu) := by decide +kernel
theorem e_70_72 : den cf 70 72 [v0, v1, .int x, v3] st M = den cf 70 73 [v0, v1, .int x, v3] (.int x :: st) M := den_go l_70_72 rfl
theorem l_70_73 : look (tab 70) 73 = some (.ireturn, 1, [0], uu) := by decide +kernel
theorem e_70_73 : den cf 70 73 L [.int x] M = some (some (.int x), M) := den_e0 l_70_73
/-! yX4_isWord -/
theorem l_71_0 : look (tab 71) 0 = some (.aload_n 0, 1, [], uu) := by decide +kernel
theorem e_71_0 : den cf 71 0 [.ref a, v1, v2] st M = den cf 71 1 [.ref a, v1, v2] (.ref a :: st) M := den_go l_71_0 rfl
theorem l_71_1 : look (tab 71) 1 = some (.getfield 33, 3, [4, 4, 445], uu) := by decide +kernel
theorem e_71_1 : den cf 71 1 L (.ref a :: st) M = oK (gfA (M.2.2 a) 4 4) (fun v => den cf 71 4 L (v :: st) M) := den_gf l_71_1
theorem l_71_4 : look (tab 71) 4 = some (.iconst 1, 1, [], .int (zI 1)) := by decide +kernel
theorem e_71_4 : den cf 71 4 L st M = den cf 71 5 L (.int (zI 1) :: st) M := den_go l_71_4 rfl
theorem l_71_5 : look (tab 71) 5 = some (.if_icmp .ne 19, 3, [24], uu) := by decide +kernel
theorem e_71_5 : den cf 71 5 L (.int y :: .int x :: st) M = if x = y then den cf 71 8 L st M else den cf 71 24 L st M := den_ic_ne l_71_5
theorem l_71_8 : look (tab 71) 8 = some (.aload_n 0, 1, [], uu) := by decide +kernel
theorem e_71_8 : den cf 71 8 [.ref a, v1, v2] st M = den cf 71 9 [.ref a, v1, v2] (.ref a :: st) M := den_go l_71_8 rfl
theorem l_71_9 : look (tab 71) 9 = some (.getfield 23, 3, [4, 6, 444], uu) := by decide +kernel
theorem e_71_9 : den cf 71 9 L (.ref a :: st) M = oK (gfA (M.2.2 a) 4 6) (fun v => den cf 71 12 L (v :: st) M) := den_gf l_71_9
theorem l_71_12 : look (tab 71) 12 = some (.aload_n 0, 1, [], uu) := by decide +kernel
theorem e_71_12 : den cf 71 12 [.ref a, v1, v2] st M = den cf 71 13 [.ref a, v1, v2] (.ref a :: st) M := den_go l_71_12 rfl
theorem l_71_13 : look (tab 71) 13 = some (.getfield 39, 3, [4, 5, 457], uu) := by decide +kernel
theorem e_71_13 : den cf 71 13 L (.ref a :: st) M = oK (gfA (M.2.2 a) 4 5) (fun v => den cf 71 16 L (v :: st) M) := den_gf l_71_13
theorem l_71_16 : look (tab 71) 16 = some (.isub, 1, [], uu) := by decide +kernel
theorem e_71_16 : den cf 71 16 L (.int y :: .int x :: st) M = den cf 71 17 L (.int (x - y) :: st) M := den_go l_71_16 rfl
theorem l_71_17 : look (tab 71) 17 = some (.aload_n 1, 1, [], uu) := by decide +kernel
theorem e_71_17 : den cf 71 17 [v0, v1, v2] st M = if isRf v1 = true then den cf 71 18 [v0, v1, v2] (v1 :: st) M else none := den_g l_71_17 rfl
theorem l_71_18 : look (tab 71) 18 = some (.invokevirtual 124, 3, [90, 300, 1, 469, 470, 471, 472], uu) := by decide +kernel
theorem e_71_18 : den cf 71 18 L (.ref a :: st) M = if rcv M 90 [.ref a] = true ∧ st.length ≤ 4 then rK (cf 300 [.ref a] M) (fun v M' => den cf 71 21 L (pR v st) M') else none := den_iv [] l_71_18 rfl
theorem l_71_21 : look (tab 71) 21 = some (.if_icmp .eq 5, 3, [26], uu) := by decide +kernel
theorem e_71_21 : den cf 71 21 L (.int y :: .int x :: st) M = if x = y then den cf 71 26 L st M else den cf 71 24 L st M := den_ic_eq l_71_21
theorem l_71_24 : look (tab 71) 24 = some (.iconst 0, 1, [], .int (zI 0)) := by decide +kernel
theorem e_71_24 : den cf 71 24 L st M = den cf 71 25 L (.int (zI 0) :: st) M := den_go l_71_24 rfl
theorem l_71_25 : look (tab 71) 25 = some (.ireturn, 1, [1], uu) := by decide +kernel
theorem e_71_25 : den cf 71 25 L [.int x] M = if x = zI 0 ∨ x = zI 1 then some (some (.int x), M) else none := den_e1 l_71_25
theorem l_71_26 : look (tab 71) 26 = some (.iconst 0, 1, [], .int (zI 0)) := by decide +kernel
theorem e_71_26 : den cf 71 26 L st M = den cf 71 27 L (.int (zI 0) :: st) M := den_go l_71_26 rfl
theorem l_71_27 : look (tab 71) 27 = some (.istore_n 2, 1, [], uu) := by decide +kernel
theorem e_71_27 : den cf 71 27 [v0, v1, v2] (.int x :: st) M = den cf 71 28 [v0, kq v1, .int x] st M := den_st (k := 2) (v := .int x) l_71_27 rfl
theorem l_71_28 : look (tab 71) 28 = some (.iload_n 2, 1, [], uu) := by decide +kernel
theorem e_71_28 : den cf 71 28 [v0, v1, .int x] st M = den cf 71 29 [v0, v1, .int x] (.int x :: st) M := den_go l_71_28 rfl
theorem l_71_29 : look (tab 71) 29 = some (.aload_n 1, 1, [], uu) := by decide +kernel
theorem e_71_29 : den cf 71 29 [v0, v1, v2] st M = if isRf v1 = true then den cf 71 30 [v0, v1, v2] (v1 :: st) M else none := den_g l_71_29 rfl
theorem l_71_30 : look (tab 71) 30 = some (.invokevirtual 124, 3, [90, 300, 1, 469, 470, 471, 472], uu) := by decide +kernel
theorem e_71_30 : den cf 71 30 L (.ref a :: st) M = if rcv M 90 [.ref a] = true ∧ st.length ≤ 4 then rK (cf 300 [.ref a] M) (fun v M' => den cf 71 33 L (pR v st) M') else none := den_iv [] l_71_30 rfl
theorem l_71_33 : look (tab 71) 33 = some (.if_icmp .ge 29, 3, [62], uu) := by decide +kernel
theorem e_71_33 : den cf 71 33 L (.int y :: .int x :: st) M = if x < y then den cf 71 36 L st M else den cf 71 62 L st M := den_ic_ge l_71_33
theorem l_71_36 : look (tab 71) 36 = some (.aload_n 1, 1, [], uu) := by decide +kernel
theorem e_71_36 : den cf 71 36 [v0, v1, v2] st M = if isRf v1 = true then den cf 71 37 [v0, v1, v2] (v1 :: st) M else none := den_g l_71_36 rfl
theorem l_71_37 : look (tab 71) 37 = some (.iload_n 2, 1, [], uu) := by decide +kernel
theorem e_71_37 : den cf 71 37 [v0, v1, .int x] st M = den cf 71 38 [v0, v1, .int x] (.int x :: st) M := den_go l_71_37 rfl
theorem l_71_38 : look (tab 71) 38 = some (.invokevirtual 130, 3, [90, 301, 2, 481, 482, 483, 472], uu) := by decide +kernel
theorem e_71_38 : den cf 71 38 L (w1 :: .ref a :: st) M = if rcv M 90 [.ref a, w1] = true ∧ st.length ≤ 4 then rK (cf 301 [.ref a, w1] M) (fun v M' => den cf 71 41 L (pR v st) M') else none := den_iv [w1] l_71_38 rfl
theorem l_71_41 : look (tab 71) 41 = some (.aload_n 0, 1, [], uu) := by decide +kernel
theorem e_71_41 : den cf 71 41 [.ref a, v1, v2] st M = den cf 71 42 [.ref a, v1, v2] (.ref a :: st) M := den_go l_71_41 rfl
theorem l_71_42 : look (tab 71) 42 = some (.aload_n 0, 1, [], uu) := by decide +kernel
theorem e_71_42 : den cf 71 42 [.ref a, v1, v2] st M = den cf 71 43 [.ref a, v1, v2] (.ref a :: st) M := den_go l_71_42 rfl
theorem l_71_43 : look (tab 71) 43 = some (.getfield 39, 3, [4, 5, 457], uu) := by decide +kernel
theorem e_71_43 : den cf 71 43 L (.ref a :: st) M = oK (gfA (M.2.2 a) 4 5) (fun v => den cf 71 46 L (v :: st) M) := den_gf l_71_43
theorem l_71_46 : look (tab 71) 46 = some (.iload_n 2, 1, [], uu) := by decide +kernel
theorem e_71_46 : den cf 71 46 [v0, v1, .int x] st M = den cf 71 47 [v0, v1, .int x] (.int x :: st) M := den_go l_71_46 rfl
theorem l_71_47 : look (tab 71) 47 = some (.iadd, 1, [], uu) := by decide +kernel
theorem e_71_47 : den cf 71 47 L (.int y :: .int x :: st) M = den cf 71 48 L (.int (x + y) :: st) M := den_go l_71_47 rfl
theorem l_71_48 : look (tab 71) 48 = some (.invokevirtual 121, 3, [4, 61, 2, 458, 459, 460, 30], uu) := by decide +kernel
theorem e_71_48 : den cf 71 48 L (w1 :: .ref a :: st) M = if rcv M 4 [.ref a, w1] = true ∧ st.length ≤ 4 then rK (cf 61 [.ref a, w1] M) (fun v M' => den cf 71 51 L (pR v st) M') else none := den_iv [w1] l_71_48 rfl
theorem l_71_51 : look (tab 71) 51 = some (.if_icmp .eq 5, 3, [56], uu) := by decide +kernel
theorem e_71_51 : den cf 71 51 L (.int y :: .int x :: st) M = if x = y then den cf 71 56 L st M else den cf 71 54 L st M := den_ic_eq l_71_51
theorem l_71_54 : look (tab 71) 54 = some (.iconst 0, 1, [], .int (zI 0)) := by decide +kernel
theorem e_71_54 : den cf 71 54 L st M = den cf 71 55 L (.int (zI 0) :: st) M := den_go l_71_54 rfl
theorem l_71_55 : look (tab 71) 55 = some (.ireturn, 1, [1], uu) := by decide +kernel
theorem e_71_55 : den cf 71 55 L [.int x] M = if x = zI 0 ∨ x = zI 1 then some (some (.int x), M) else none := den_e1 l_71_55
theorem l_71_56 : look (tab 71) 56 = some (.iinc 2 1, 3, [], .int (zI 1)) := by decide +kernel
theorem e_71_56 : den cf 71 56 [v0, v1, .int x] st M = den cf 71 59 [v0, kq v1, .int (x + (zI 1))] st M := den_st (k := 2) (v := .int (x + (zI 1))) l_71_56 rfl
theorem l_71_59 : look (tab 71) 59 = some (.goto (-31), 3, [28], uu) := by decide +kernel
theorem e_71_59 : den cf 71 59 L st M = den cf 71 28 L st M := den_go l_71_59 rfl
theorem l_71_62 : look (tab 71) 62 = some (.iconst 1, 1, [], .int (zI 1)) := by decide +kernel
theorem e_71_62 : den cf 71 62 L st M = den cf 71 63 L (.int (zI 1) :: st) M := den_go l_71_62 rfl
theorem l_71_63 : look (tab 71) 63 = some (.ireturn, 1, [1], uu) := by decide +kernel
theorem e_71_63 : den cf 71 63 L [.int x] M = if x = zI 0 ∨ x = zI 1 then some (some (.int x), M) else none := den_e1 l_71_63
