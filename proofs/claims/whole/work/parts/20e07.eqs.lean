variable {cf : Nat → List Value → AM → Option AR} {L st : List Value} {M : AM} {x y : Int32} {p q : Int64} {a b : Nat} {v w : Value} {o : Option Nat} {v0 v1 v2 v3 v4 v5 v6 v7 v8 v9 v10 v11 v12 v13 v14 v15 v16 v17 v18 v19 v20 w1 w2 w3 w4 w5 w6 : Value}
/-! yX5_weeks -/
theorem l_123_0 : look (tab 123) 0 = some (.iload_n 1, 1, [], uu) := by decide +kernel
theorem e_123_0 : den cf 123 0 [v0, .int x, v2, v3] st M = den cf 123 1 [v0, .int x, v2, v3] (.int x :: st) M := den_go l_123_0 rfl
theorem l_123_1 : look (tab 123) 1 = some (.iconst 1, 1, [], .int (zI 1)) := by decide +kernel
theorem e_123_1 : den cf 123 1 L st M = den cf 123 2 L (.int (zI 1) :: st) M := den_go l_123_1 rfl
theorem l_123_2 : look (tab 123) 2 = some (.if_icmp .lt 9, 3, [11], uu) := by decide +kernel
theorem e_123_2 : den cf 123 2 L (.int y :: .int x :: st) M = if x < y then den cf 123 11 L st M else den cf 123 5 L st M := den_ic_lt l_123_2
theorem l_123_5 : look (tab 123) 5 = some (.iload_n 1, 1, [], uu) := by decide +kernel
theorem e_123_5 : den cf 123 5 [v0, .int x, v2, v3] st M = den cf 123 6 [v0, .int x, v2, v3] (.int x :: st) M := den_go l_123_5 rfl
theorem l_123_6 : look (tab 123) 6 = some (.bipush 99, 2, [], .int (zI 99)) := by decide +kernel
theorem e_123_6 : den cf 123 6 L st M = den cf 123 8 L (.int (zI 99) :: st) M := den_go l_123_6 rfl
theorem l_123_8 : look (tab 123) 8 = some (.if_icmp .le 10, 3, [18], uu) := by decide +kernel
theorem e_123_8 : den cf 123 8 L (.int y :: .int x :: st) M = if y < x then den cf 123 11 L st M else den cf 123 18 L st M := den_ic_le l_123_8
theorem l_123_11 : look (tab 123) 11 = some (.aload_n 0, 1, [], uu) := by decide +kernel
theorem e_123_11 : den cf 123 11 [.ref a, v1, v2, v3] st M = den cf 123 12 [.ref a, v1, v2, v3] (.ref a :: st) M := den_go l_123_11 rfl
theorem l_123_12 : look (tab 123) 12 = some (.bipush (-2), 2, [], .int (zI (-2))) := by decide +kernel
theorem e_123_12 : den cf 123 12 L st M = den cf 123 14 L (.int (zI (-2)) :: st) M := den_go l_123_12 rfl
theorem l_123_14 : look (tab 123) 14 = some (.invokevirtual 59, 3, [5, 128, 2, 113, 114, 115, 2], uu) := by decide +kernel
theorem e_123_14 : den cf 123 14 L (w1 :: .ref a :: st) M = if rcv M 5 [.ref a, w1] = true ∧ st.length ≤ 4 then rK (cf 128 [.ref a, w1] M) (fun v M' => den cf 123 17 L (pR v st) M') else none := den_iv [w1] l_123_14 rfl
theorem l_123_17 : look (tab 123) 17 = some (.ireturn, 1, [0], uu) := by decide +kernel
theorem e_123_17 : den cf 123 17 L [.int x] M = some (some (.int x), M) := den_e0 l_123_17
theorem l_123_18 : look (tab 123) 18 = some (.iconst 0, 1, [], .int (zI 0)) := by decide +kernel
theorem e_123_18 : den cf 123 18 L st M = den cf 123 19 L (.int (zI 0) :: st) M := den_go l_123_18 rfl
theorem l_123_19 : look (tab 123) 19 = some (.istore_n 2, 1, [], uu) := by decide +kernel
theorem e_123_19 : den cf 123 19 [v0, v1, v2, v3] (.int x :: st) M = den cf 123 20 [v0, kq v1, .int x, v3] st M := den_st (k := 2) (v := .int x) l_123_19 rfl
theorem l_123_20 : look (tab 123) 20 = some (.iconst 0, 1, [], .int (zI 0)) := by decide +kernel
theorem e_123_20 : den cf 123 20 L st M = den cf 123 21 L (.int (zI 0) :: st) M := den_go l_123_20 rfl
theorem l_123_21 : look (tab 123) 21 = some (.istore_n 3, 1, [], uu) := by decide +kernel
theorem e_123_21 : den cf 123 21 [v0, v1, v2, v3] (.int x :: st) M = den cf 123 22 [v0, v1, kq v2, .int x] st M := den_st (k := 3) (v := .int x) l_123_21 rfl
theorem l_123_22 : look (tab 123) 22 = some (.iload_n 3, 1, [], uu) := by decide +kernel
theorem e_123_22 : den cf 123 22 [v0, v1, v2, .int x] st M = den cf 123 23 [v0, v1, v2, .int x] (.int x :: st) M := den_go l_123_22 rfl
theorem l_123_23 : look (tab 123) 23 = some (.iload_n 1, 1, [], uu) := by decide +kernel
theorem e_123_23 : den cf 123 23 [v0, .int x, v2, v3] st M = den cf 123 24 [v0, .int x, v2, v3] (.int x :: st) M := den_go l_123_23 rfl
theorem l_123_24 : look (tab 123) 24 = some (.if_icmp .ge 19, 3, [43], uu) := by decide +kernel
theorem e_123_24 : den cf 123 24 L (.int y :: .int x :: st) M = if x < y then den cf 123 27 L st M else den cf 123 43 L st M := den_ic_ge l_123_24
theorem l_123_27 : look (tab 123) 27 = some (.iload_n 2, 1, [], uu) := by decide +kernel
theorem e_123_27 : den cf 123 27 [v0, v1, .int x, v3] st M = den cf 123 28 [v0, v1, .int x, v3] (.int x :: st) M := den_go l_123_27 rfl
theorem l_123_28 : look (tab 123) 28 = some (.aload_n 0, 1, [], uu) := by decide +kernel
theorem e_123_28 : den cf 123 28 [.ref a, v1, v2, v3] st M = den cf 123 29 [.ref a, v1, v2, v3] (.ref a :: st) M := den_go l_123_28 rfl
theorem l_123_29 : look (tab 123) 29 = some (.getfield 10, 3, [5, 0, 16], uu) := by decide +kernel
theorem e_123_29 : den cf 123 29 L (.ref a :: st) M = oK (gfA (M.2.2 a) 5 0) (fun v => den cf 123 32 L (v :: st) M) := den_gf l_123_29
theorem l_123_32 : look (tab 123) 32 = some (.invokevirtual 306, 3, [2, 46, 1, 1156, 1157, 1158, 15], uu) := by decide +kernel
theorem e_123_32 : den cf 123 32 L (.ref a :: st) M = if rcv M 2 [.ref a] = true ∧ st.length ≤ 4 then rK (cf 46 [.ref a] M) (fun v M' => den cf 123 35 L (pR v st) M') else none := den_iv [] l_123_32 rfl
theorem l_123_35 : look (tab 123) 35 = some (.iadd, 1, [], uu) := by decide +kernel
theorem e_123_35 : den cf 123 35 L (.int y :: .int x :: st) M = den cf 123 36 L (.int (x + y) :: st) M := den_go l_123_35 rfl
theorem l_123_36 : look (tab 123) 36 = some (.istore_n 2, 1, [], uu) := by decide +kernel
theorem e_123_36 : den cf 123 36 [v0, v1, v2, v3] (.int x :: st) M = den cf 123 37 [v0, kq v1, .int x, v3] st M := den_st (k := 2) (v := .int x) l_123_36 rfl
theorem l_123_37 : look (tab 123) 37 = some (.iinc 3 1, 3, [], .int (zI 1)) := by decide +kernel
theorem e_123_37 : den cf 123 37 [v0, v1, v2, .int x] st M = den cf 123 40 [v0, v1, kq v2, .int (x + (zI 1))] st M := den_st (k := 3) (v := .int (x + (zI 1))) l_123_37 rfl
theorem l_123_40 : look (tab 123) 40 = some (.goto (-18), 3, [22], uu) := by decide +kernel
theorem e_123_40 : den cf 123 40 L st M = den cf 123 22 L st M := den_go l_123_40 rfl
theorem l_123_43 : look (tab 123) 43 = some (.iload_n 2, 1, [], uu) := by decide +kernel
theorem e_123_43 : den cf 123 43 [v0, v1, .int x, v3] st M = den cf 123 44 [v0, v1, .int x, v3] (.int x :: st) M := den_go l_123_43 rfl
theorem l_123_44 : look (tab 123) 44 = some (.ireturn, 1, [0], uu) := by decide +kernel
theorem e_123_44 : den cf 123 44 L [.int x] M = some (some (.int x), M) := den_e0 l_123_44
/-! yX5_seed -/
theorem l_124_0 : look (tab 124) 0 = some (.aload_n 0, 1, [], uu) := by decide +kernel
theorem e_124_0 : den cf 124 0 [.ref a, v1, v2] st M = den cf 124 1 [.ref a, v1, v2] (.ref a :: st) M := den_go l_124_0 rfl
theorem l_124_1 : look (tab 124) 1 = some (.getfield 10, 3, [5, 0, 16], uu) := by decide +kernel
theorem e_124_1 : den cf 124 1 L (.ref a :: st) M = oK (gfA (M.2.2 a) 5 0) (fun v => den cf 124 4 L (v :: st) M) := den_gf l_124_1
theorem l_124_4 : look (tab 124) 4 = some (.getfield 309, 3, [2, 6, 1192], uu) := by decide +kernel
theorem e_124_4 : den cf 124 4 L (.ref a :: st) M = oK (gfA (M.2.2 a) 2 6) (fun v => den cf 124 7 L (v :: st) M) := den_gf l_124_4
theorem l_124_7 : look (tab 124) 7 = some (.istore_n 2, 1, [], uu) := by decide +kernel
theorem e_124_7 : den cf 124 7 [v0, v1, v2] (.int x :: st) M = den cf 124 8 [v0, kq v1, .int x] st M := den_st (k := 2) (v := .int x) l_124_7 rfl
theorem l_124_8 : look (tab 124) 8 = some (.aload_n 0, 1, [], uu) := by decide +kernel
theorem e_124_8 : den cf 124 8 [.ref a, v1, v2] st M = den cf 124 9 [.ref a, v1, v2] (.ref a :: st) M := den_go l_124_8 rfl
theorem l_124_9 : look (tab 124) 9 = some (.getfield 10, 3, [5, 0, 16], uu) := by decide +kernel
theorem e_124_9 : den cf 124 9 L (.ref a :: st) M = oK (gfA (M.2.2 a) 5 0) (fun v => den cf 124 12 L (v :: st) M) := den_gf l_124_9
theorem l_124_12 : look (tab 124) 12 = some (.iload_n 1, 1, [], uu) := by decide +kernel
theorem e_124_12 : den cf 124 12 [v0, .int x, v2] st M = den cf 124 13 [v0, .int x, v2] (.int x :: st) M := den_go l_124_12 rfl
theorem l_124_13 : look (tab 124) 13 = some (.putfield 309, 3, [2, 6, 0, 1192, 0], uu) := by decide +kernel
theorem e_124_13 : den cf 124 13 L (.int x :: .ref a :: st) M = oK (pfA (M.2.2 a) 2 6 (.int x)) (fun c => den cf 124 16 L st (mU M a c)) := den_pf0 l_124_13
theorem l_124_16 : look (tab 124) 16 = some (.iload_n 2, 1, [], uu) := by decide +kernel
theorem e_124_16 : den cf 124 16 [v0, v1, .int x] st M = den cf 124 17 [v0, v1, .int x] (.int x :: st) M := den_go l_124_16 rfl
theorem l_124_17 : look (tab 124) 17 = some (.ireturn, 1, [0], uu) := by decide +kernel
theorem e_124_17 : den cf 124 17 L [.int x] M = some (some (.int x), M) := den_e0 l_124_17
/-! yX5_image -/
theorem l_125_0 : look (tab 125) 0 = some (.aload_n 0, 1, [], uu) := by decide +kernel
theorem e_125_0 : den cf 125 0 [.ref a] st M = den cf 125 1 [.ref a] (.ref a :: st) M := den_go l_125_0 rfl
theorem l_125_1 : look (tab 125) 1 = some (.getfield 19, 3, [5, 2, 18], uu) := by decide +kernel
theorem e_125_1 : den cf 125 1 L (.ref a :: st) M = oK (gfA (M.2.2 a) 5 2) (fun v => den cf 125 4 L (v :: st) M) := den_gf l_125_1
theorem l_125_4 : look (tab 125) 4 = some (.aload_n 0, 1, [], uu) := by decide +kernel
theorem e_125_4 : den cf 125 4 [.ref a] st M = den cf 125 5 [.ref a] (.ref a :: st) M := den_go l_125_4 rfl
theorem l_125_5 : look (tab 125) 5 = some (.getfield 10, 3, [5, 0, 16], uu) := by decide +kernel
theorem e_125_5 : den cf 125 5 L (.ref a :: st) M = oK (gfA (M.2.2 a) 5 0) (fun v => den cf 125 8 L (v :: st) M) := den_gf l_125_5
theorem l_125_8 : look (tab 125) 8 = some (.invokevirtual 174, 3, [2, 26, 2, 428, 429, 430, 15], uu) := by decide +kernel
theorem e_125_8 : den cf 125 8 L (w1 :: .ref a :: st) M = if rcv M 2 [.ref a, w1] = true ∧ st.length ≤ 4 then rK (cf 26 [.ref a, w1] M) (fun v M' => den cf 125 11 L (pR v st) M') else none := den_iv [w1] l_125_8 rfl
theorem l_125_11 : look (tab 125) 11 = some (.aload_n 0, 1, [], uu) := by decide +kernel
theorem e_125_11 : den cf 125 11 [.ref a] st M = den cf 125 12 [.ref a] (.ref a :: st) M := den_go l_125_11 rfl
theorem l_125_12 : look (tab 125) 12 = some (.iconst 1, 1, [], .int (zI 1)) := by decide +kernel
theorem e_125_12 : den cf 125 12 L st M = den cf 125 13 L (.int (zI 1) :: st) M := den_go l_125_12 rfl
theorem l_125_13 : look (tab 125) 13 = some (.putfield 22, 3, [5, 3, 1, 19, 0], uu) := by decide +kernel
theorem e_125_13 : den cf 125 13 L (v :: .ref a :: st) M = if okv 1 v = true then oK (pfA (M.2.2 a) 5 3 v) (fun c => den cf 125 16 L st (mU M a c)) else none := den_pf l_125_13
theorem l_125_16 : look (tab 125) 16 = some (.iconst 1, 1, [], .int (zI 1)) := by decide +kernel
theorem e_125_16 : den cf 125 16 L st M = den cf 125 17 L (.int (zI 1) :: st) M := den_go l_125_16 rfl
theorem l_125_17 : look (tab 125) 17 = some (.ireturn, 1, [0], uu) := by decide +kernel
theorem e_125_17 : den cf 125 17 L [.int x] M = some (some (.int x), M) := den_e0 l_125_17
/-! yX5_back -/
theorem l_126_0 : look (tab 126) 0 = some (.aload_n 0, 1, [], uu) := by decide +kernel
theorem e_126_0 : den cf 126 0 [.ref a, v1, v2, v3, v4] st M = den cf 126 1 [.ref a, v1, v2, v3, v4] (.ref a :: st) M := den_go l_126_0 rfl
theorem l_126_1 : look (tab 126) 1 = some (.getfield 22, 3, [5, 3, 19], uu) := by decide +kernel
theorem e_126_1 : den cf 126 1 L (.ref a :: st) M = oK (gfA (M.2.2 a) 5 3) (fun v => den cf 126 4 L (v :: st) M) := den_gf l_126_1
theorem l_126_4 : look (tab 126) 4 = some (.ifCond .ne 10, 3, [14], uu) := by decide +kernel
theorem e_126_4 : den cf 126 4 L (.int x :: st) M = if x = zI 0 then den cf 126 7 L st M else den cf 126 14 L st M := den_if_ne l_126_4
theorem l_126_7 : look (tab 126) 7 = some (.aload_n 0, 1, [], uu) := by decide +kernel
theorem e_126_7 : den cf 126 7 [.ref a, v1, v2, v3, v4] st M = den cf 126 8 [.ref a, v1, v2, v3, v4] (.ref a :: st) M := den_go l_126_7 rfl
theorem l_126_8 : look (tab 126) 8 = some (.bipush (-5), 2, [], .int (zI (-5))) := by decide +kernel
theorem e_126_8 : den cf 126 8 L st M = den cf 126 10 L (.int (zI (-5)) :: st) M := den_go l_126_8 rfl
theorem l_126_10 : look (tab 126) 10 = some (.invokevirtual 59, 3, [5, 128, 2, 113, 114, 115, 2], uu) := by decide +kernel
theorem e_126_10 : den cf 126 10 L (w1 :: .ref a :: st) M = if rcv M 5 [.ref a, w1] = true ∧ st.length ≤ 4 then rK (cf 128 [.ref a, w1] M) (fun v M' => den cf 126 13 L (pR v st) M') else none := den_iv [w1] l_126_10 rfl
theorem l_126_13 : look (tab 126) 13 = some (.ireturn, 1, [0], uu) := by decide +kernel
theorem e_126_13 : den cf 126 13 L [.int x] M = some (some (.int x), M) := den_e0 l_126_13
theorem l_126_14 : look (tab 126) 14 = some (.aload_n 0, 1, [], uu) := by decide +kernel
theorem e_126_14 : den cf 126 14 [.ref a, v1, v2, v3, v4] st M = den cf 126 15 [.ref a, v1, v2, v3, v4] (.ref a :: st) M := den_go l_126_14 rfl
theorem l_126_15 : look (tab 126) 15 = some (.getfield 10, 3, [5, 0, 16], uu) := by decide +kernel
theorem e_126_15 : den cf 126 15 L (.ref a :: st) M = oK (gfA (M.2.2 a) 5 0) (fun v => den cf 126 18 L (v :: st) M) := den_gf l_126_15
theorem l_126_18 : look (tab 126) 18 = some (.aload_n 0, 1, [], uu) := by decide +kernel
theorem e_126_18 : den cf 126 18 [.ref a, v1, v2, v3, v4] st M = den cf 126 19 [.ref a, v1, v2, v3, v4] (.ref a :: st) M := den_go l_126_18 rfl
theorem l_126_19 : look (tab 126) 19 = some (.getfield 19, 3, [5, 2, 18], uu) := by decide +kernel
theorem e_126_19 : den cf 126 19 L (.ref a :: st) M = oK (gfA (M.2.2 a) 5 2) (fun v => den cf 126 22 L (v :: st) M) := den_gf l_126_19
theorem l_126_22 : look (tab 126) 22 = some (.invokevirtual 174, 3, [2, 26, 2, 428, 429, 430, 15], uu) := by decide +kernel
theorem e_126_22 : den cf 126 22 L (w1 :: .ref a :: st) M = if rcv M 2 [.ref a, w1] = true ∧ st.length ≤ 4 then rK (cf 26 [.ref a, w1] M) (fun v M' => den cf 126 25 L (pR v st) M') else none := den_iv [w1] l_126_22 rfl
theorem l_126_25 : look (tab 126) 25 = some (.aload_n 0, 1, [], uu) := by decide +kernel
theorem e_126_25 : den cf 126 25 [.ref a, v1, v2, v3, v4] st M = den cf 126 26 [.ref a, v1, v2, v3, v4] (.ref a :: st) M := den_go l_126_25 rfl
theorem l_126_26 : look (tab 126) 26 = some (.getfield 35, 3, [5, 5, 25], uu) := by decide +kernel
theorem e_126_26 : den cf 126 26 L (.ref a :: st) M = oK (gfA (M.2.2 a) 5 5) (fun v => den cf 126 29 L (v :: st) M) := den_gf l_126_26
theorem l_126_29 : look (tab 126) 29 = some (.astore_n 1, 1, [], uu) := by decide +kernel
theorem e_126_29 : den cf 126 29 [v0, v1, v2, v3, v4] (v :: st) M = if isRf v = true then den cf 126 30 [kq v0, v, v2, v3, v4] st M else none := den_as (k := 1) (v := v) l_126_29 rfl (Nat.le_of_ble_eq_true rfl)
theorem l_126_30 : look (tab 126) 30 = some (.aload_n 1, 1, [], uu) := by decide +kernel
theorem e_126_30 : den cf 126 30 [v0, v1, v2, v3, v4] st M = if isRf v1 = true then den cf 126 31 [v0, v1, v2, v3, v4] (v1 :: st) M else none := den_g l_126_30 rfl
theorem l_126_31 : look (tab 126) 31 = some (.arraylength, 1, [], uu) := by decide +kernel
theorem e_126_31 : den cf 126 31 L (.ref a :: st) M = oK (lenA (M.2.2 a)) (fun n => den cf 126 32 L (.int (zI n) :: st) M) := den_len l_126_31
theorem l_126_32 : look (tab 126) 32 = some (.istore_n 2, 1, [], uu) := by decide +kernel
theorem e_126_32 : den cf 126 32 [v0, v1, v2, v3, v4] (.int x :: st) M = den cf 126 33 [v0, kq v1, .int x, v3, v4] st M := den_st (k := 2) (v := .int x) l_126_32 rfl
theorem l_126_33 : look (tab 126) 33 = some (.iconst 0, 1, [], .int (zI 0)) := by decide +kernel
theorem e_126_33 : den cf 126 33 L st M = den cf 126 34 L (.int (zI 0) :: st) M := den_go l_126_33 rfl
theorem l_126_34 : look (tab 126) 34 = some (.istore_n 3, 1, [], uu) := by decide +kernel
theorem e_126_34 : den cf 126 34 [v0, v1, v2, v3, v4] (.int x :: st) M = den cf 126 35 [v0, v1, kq v2, .int x, v4] st M := den_st (k := 3) (v := .int x) l_126_34 rfl
theorem l_126_35 : look (tab 126) 35 = some (.iload_n 3, 1, [], uu) := by decide +kernel
theorem e_126_35 : den cf 126 35 [v0, v1, v2, .int x, v4] st M = den cf 126 36 [v0, v1, v2, .int x, v4] (.int x :: st) M := den_go l_126_35 rfl
theorem l_126_36 : look (tab 126) 36 = some (.iload_n 2, 1, [], uu) := by decide +kernel
theorem e_126_36 : den cf 126 36 [v0, v1, .int x, v3, v4] st M = den cf 126 37 [v0, v1, .int x, v3, v4] (.int x :: st) M := den_go l_126_36 rfl
theorem l_126_37 : look (tab 126) 37 = some (.if_icmp .ge 43, 3, [80], uu) := by decide +kernel
theorem e_126_37 : den cf 126 37 L (.int y :: .int x :: st) M = if x < y then den cf 126 40 L st M else den cf 126 80 L st M := den_ic_ge l_126_37
theorem l_126_40 : look (tab 126) 40 = some (.aload_n 1, 1, [], uu) := by decide +kernel
theorem e_126_40 : den cf 126 40 [v0, v1, v2, v3, v4] st M = if isRf v1 = true then den cf 126 41 [v0, v1, v2, v3, v4] (v1 :: st) M else none := den_g l_126_40 rfl
theorem l_126_41 : look (tab 126) 41 = some (.iload_n 3, 1, [], uu) := by decide +kernel
theorem e_126_41 : den cf 126 41 [v0, v1, v2, .int x, v4] st M = den cf 126 42 [v0, v1, v2, .int x, v4] (.int x :: st) M := den_go l_126_41 rfl
theorem l_126_42 : look (tab 126) 42 = some (.aaload, 1, [], uu) := by decide +kernel
theorem e_126_42 : den cf 126 42 L (.int x :: .ref a :: st) M = oK (ldQ (M.2.2 a) x) (fun v => den cf 126 43 L (v :: st) M) := den_al (g := ldQ) l_126_42 rfl
theorem l_126_43 : look (tab 126) 43 = some (.astore 4, 2, [], uu) := by decide +kernel
theorem e_126_43 : den cf 126 43 [v0, v1, v2, v3, v4] (v :: st) M = if isRf v = true then den cf 126 45 [v0, v1, v2, kq v3, v] st M else none := den_as (k := 4) (v := v) l_126_43 rfl (Nat.le_of_ble_eq_true rfl)
theorem l_126_45 : look (tab 126) 45 = some (.aload 4, 2, [], uu) := by decide +kernel
theorem e_126_45 : den cf 126 45 [v0, v1, v2, v3, v4] st M = if isRf v4 = true then den cf 126 47 [v0, v1, v2, v3, v4] (v4 :: st) M else none := den_g l_126_45 rfl
theorem l_126_47 : look (tab 126) 47 = some (.getfield 67, 3, [3, 0, 141], uu) := by decide +kernel
theorem e_126_47 : den cf 126 47 L (.ref a :: st) M = oK (gfA (M.2.2 a) 3 0) (fun v => den cf 126 50 L (v :: st) M) := den_gf l_126_47
theorem l_126_50 : look (tab 126) 50 = some (.iconst 2, 1, [], .int (zI 2)) := by decide +kernel
theorem e_126_50 : den cf 126 50 L st M = den cf 126 51 L (.int (zI 2) :: st) M := den_go l_126_50 rfl
theorem l_126_51 : look (tab 126) 51 = some (.if_icmp .ne 23, 3, [74], uu) := by decide +kernel
theorem e_126_51 : den cf 126 51 L (.int y :: .int x :: st) M = if x = y then den cf 126 54 L st M else den cf 126 74 L st M := den_ic_ne l_126_51
theorem l_126_54 : look (tab 126) 54 = some (.aload_n 0, 1, [], uu) := by decide +kernel
theorem e_126_54 : den cf 126 54 [.ref a, v1, v2, v3, v4] st M = den cf 126 55 [.ref a, v1, v2, v3, v4] (.ref a :: st) M := den_go l_126_54 rfl
theorem l_126_55 : look (tab 126) 55 = some (.getfield 10, 3, [5, 0, 16], uu) := by decide +kernel
theorem e_126_55 : den cf 126 55 L (.ref a :: st) M = oK (gfA (M.2.2 a) 5 0) (fun v => den cf 126 58 L (v :: st) M) := den_gf l_126_55
theorem l_126_58 : look (tab 126) 58 = some (.aload 4, 2, [], uu) := by decide +kernel
theorem e_126_58 : den cf 126 58 [v0, v1, v2, v3, v4] st M = if isRf v4 = true then den cf 126 60 [v0, v1, v2, v3, v4] (v4 :: st) M else none := den_g l_126_58 rfl
theorem l_126_60 : look (tab 126) 60 = some (.getfield 102, 3, [3, 1, 200], uu) := by decide +kernel
theorem e_126_60 : den cf 126 60 L (.ref a :: st) M = oK (gfA (M.2.2 a) 3 1) (fun v => den cf 126 63 L (v :: st) M) := den_gf l_126_60
theorem l_126_63 : look (tab 126) 63 = some (.invokevirtual 105, 3, [2, 24, 2, 209, 210, 211, 15], uu) := by decide +kernel
theorem e_126_63 : den cf 126 63 L (w1 :: .ref a :: st) M = if rcv M 2 [.ref a, w1] = true ∧ st.length ≤ 4 then rK (cf 24 [.ref a, w1] M) (fun v M' => den cf 126 66 L (pR v st) M') else none := den_iv [w1] l_126_63 rfl
theorem l_126_66 : look (tab 126) 66 = some (.ifnonnull 8, 3, [74], uu) := by decide +kernel
theorem e_126_66 : den cf 126 66 L (va_rf o :: st) M = oN o (den cf 126 69 L st M) (den cf 126 74 L st M) := den_nn l_126_66
theorem e_126_66_n : den cf 126 66 L (.null :: st) M = den cf 126 69 L st M := den_go l_126_66 rfl
theorem e_126_66_r : den cf 126 66 L (.ref a :: st) M = den cf 126 74 L st M := den_go l_126_66 rfl
theorem l_126_69 : look (tab 126) 69 = some (.aload 4, 2, [], uu) := by decide +kernel
theorem e_126_69 : den cf 126 69 [v0, v1, v2, v3, v4] st M = if isRf v4 = true then den cf 126 71 [v0, v1, v2, v3, v4] (v4 :: st) M else none := den_g l_126_69 rfl
theorem l_126_71 : look (tab 126) 71 = some (.invokevirtual 109, 3, [3, 49, 1, 213, 214, 215, 27], uu) := by decide +kernel
theorem e_126_71 : den cf 126 71 L (.ref a :: st) M = if rcv M 3 [.ref a] = true ∧ st.length ≤ 4 then rK (cf 49 [.ref a] M) (fun v M' => den cf 126 74 L (pR v st) M') else none := den_iv [] l_126_71 rfl
theorem l_126_74 : look (tab 126) 74 = some (.iinc 3 1, 3, [], .int (zI 1)) := by decide +kernel
theorem e_126_74 : den cf 126 74 [v0, v1, v2, .int x, v4] st M = den cf 126 77 [v0, v1, kq v2, .int (x + (zI 1)), v4] st M := den_st (k := 3) (v := .int (x + (zI 1))) l_126_74 rfl
theorem l_126_77 : look (tab 126) 77 = some (.goto (-42), 3, [35], uu) := by decide +kernel
theorem e_126_77 : den cf 126 77 L st M = den cf 126 35 L st M := den_go l_126_77 rfl
theorem l_126_80 : look (tab 126) 80 = some (.iconst 1, 1, [], .int (zI 1)) := by decide +kernel
theorem e_126_80 : den cf 126 80 L st M = den cf 126 81 L (.int (zI 1) :: st) M := den_go l_126_80 rfl
theorem l_126_81 : look (tab 126) 81 = some (.ireturn, 1, [0], uu) := by decide +kernel
theorem e_126_81 : den cf 126 81 L [.int x] M = some (some (.int x), M) := den_e0 l_126_81
/-! yX5_status -/
theorem l_127_0 : look (tab 127) 0 = some (.iload_n 1, 1, [], uu) := by decide +kernel
theorem e_127_0 : den cf 127 0 [v0, .int x] st M = den cf 127 1 [v0, .int x] (.int x :: st) M := den_go l_127_0 rfl
theorem l_127_1 : look (tab 127) 1 = some (.tableswitch 132 0 9 #[55, 63, 71, 79, 87, 95, 103, 111, 119, 127], 55, [133, 56, 64, 72, 80, 88, 96, 104, 112, 120, 128], uu) := by decide +kernel
theorem e_127_1 : den cf 127 1 L (.int x :: st) M = if x.toInt < 0 ∨ 9 < x.toInt then den cf 127 133 L st M else oK ([56, 64, 72, 80, 88, 96, 104, 112, 120, 128] : List Nat)[(x.toInt - 0).toNat]? (fun t => den cf 127 t L st M) := den_ts l_127_1
theorem l_127_56 : look (tab 127) 56 = some (.aload_n 0, 1, [], uu) := by decide +kernel
theorem e_127_56 : den cf 127 56 [.ref a, v1] st M = den cf 127 57 [.ref a, v1] (.ref a :: st) M := den_go l_127_56 rfl
theorem l_127_57 : look (tab 127) 57 = some (.getfield 10, 3, [5, 0, 16], uu) := by decide +kernel
theorem e_127_57 : den cf 127 57 L (.ref a :: st) M = oK (gfA (M.2.2 a) 5 0) (fun v => den cf 127 60 L (v :: st) M) := den_gf l_127_57
theorem l_127_60 : look (tab 127) 60 = some (.getfield 138, 3, [2, 1, 303], uu) := by decide +kernel
theorem e_127_60 : den cf 127 60 L (.ref a :: st) M = oK (gfA (M.2.2 a) 2 1) (fun v => den cf 127 63 L (v :: st) M) := den_gf l_127_60
theorem l_127_63 : look (tab 127) 63 = some (.ireturn, 1, [0], uu) := by decide +kernel
theorem e_127_63 : den cf 127 63 L [.int x] M = some (some (.int x), M) := den_e0 l_127_63
theorem l_127_64 : look (tab 127) 64 = some (.aload_n 0, 1, [], uu) := by decide +kernel
theorem e_127_64 : den cf 127 64 [.ref a, v1] st M = den cf 127 65 [.ref a, v1] (.ref a :: st) M := den_go l_127_64 rfl
theorem l_127_65 : look (tab 127) 65 = some (.getfield 10, 3, [5, 0, 16], uu) := by decide +kernel
theorem e_127_65 : den cf 127 65 L (.ref a :: st) M = oK (gfA (M.2.2 a) 5 0) (fun v => den cf 127 68 L (v :: st) M) := den_gf l_127_65
theorem l_127_68 : look (tab 127) 68 = some (.invokevirtual 266, 3, [2, 40, 1, 860, 861, 862, 15], uu) := by decide +kernel
theorem e_127_68 : den cf 127 68 L (.ref a :: st) M = if rcv M 2 [.ref a] = true ∧ st.length ≤ 4 then rK (cf 40 [.ref a] M) (fun v M' => den cf 127 71 L (pR v st) M') else none := den_iv [] l_127_68 rfl
theorem l_127_71 : look (tab 127) 71 = some (.ireturn, 1, [0], uu) := by decide +kernel
theorem e_127_71 : den cf 127 71 L [.int x] M = some (some (.int x), M) := den_e0 l_127_71
theorem l_127_72 : look (tab 127) 72 = some (.aload_n 0, 1, [], uu) := by decide +kernel
theorem e_127_72 : den cf 127 72 [.ref a, v1] st M = den cf 127 73 [.ref a, v1] (.ref a :: st) M := den_go l_127_72 rfl
theorem l_127_73 : look (tab 127) 73 = some (.getfield 10, 3, [5, 0, 16], uu) := by decide +kernel
theorem e_127_73 : den cf 127 73 L (.ref a :: st) M = oK (gfA (M.2.2 a) 5 0) (fun v => den cf 127 76 L (v :: st) M) := den_gf l_127_73
theorem l_127_76 : look (tab 127) 76 = some (.getfield 161, 3, [2, 2, 391], uu) := by decide +kernel
theorem e_127_76 : den cf 127 76 L (.ref a :: st) M = oK (gfA (M.2.2 a) 2 2) (fun v => den cf 127 79 L (v :: st) M) := den_gf l_127_76
theorem l_127_79 : look (tab 127) 79 = some (.ireturn, 1, [0], uu) := by decide +kernel
theorem e_127_79 : den cf 127 79 L [.int x] M = some (some (.int x), M) := den_e0 l_127_79
theorem l_127_80 : look (tab 127) 80 = some (.aload_n 0, 1, [], uu) := by decide +kernel
theorem e_127_80 : den cf 127 80 [.ref a, v1] st M = den cf 127 81 [.ref a, v1] (.ref a :: st) M := den_go l_127_80 rfl
theorem l_127_81 : look (tab 127) 81 = some (.getfield 10, 3, [5, 0, 16], uu) := by decide +kernel
theorem e_127_81 : den cf 127 81 L (.ref a :: st) M = oK (gfA (M.2.2 a) 5 0) (fun v => den cf 127 84 L (v :: st) M) := den_gf l_127_81
theorem l_127_84 : look (tab 127) 84 = some (.getfield 164, 3, [2, 3, 392], uu) := by decide +kernel
theorem e_127_84 : den cf 127 84 L (.ref a :: st) M = oK (gfA (M.2.2 a) 2 3) (fun v => den cf 127 87 L (v :: st) M) := den_gf l_127_84
theorem l_127_87 : look (tab 127) 87 = some (.ireturn, 1, [0], uu) := by decide +kernel
theorem e_127_87 : den cf 127 87 L [.int x] M = some (some (.int x), M) := den_e0 l_127_87
theorem l_127_88 : look (tab 127) 88 = some (.aload_n 0, 1, [], uu) := by decide +kernel
theorem e_127_88 : den cf 127 88 [.ref a, v1] st M = den cf 127 89 [.ref a, v1] (.ref a :: st) M := den_go l_127_88 rfl
theorem l_127_89 : look (tab 127) 89 = some (.getfield 10, 3, [5, 0, 16], uu) := by decide +kernel
theorem e_127_89 : den cf 127 89 L (.ref a :: st) M = oK (gfA (M.2.2 a) 5 0) (fun v => den cf 127 92 L (v :: st) M) := den_gf l_127_89
theorem l_127_92 : look (tab 127) 92 = some (.getfield 167, 3, [2, 4, 393], uu) := by decide +kernel
theorem e_127_92 : den cf 127 92 L (.ref a :: st) M = oK (gfA (M.2.2 a) 2 4) (fun v => den cf 127 95 L (v :: st) M) := den_gf l_127_92
theorem l_127_95 : look (tab 127) 95 = some (.ireturn, 1, [0], uu) := by decide +kernel
theorem e_127_95 : den cf 127 95 L [.int x] M = some (some (.int x), M) := den_e0 l_127_95
theorem l_127_96 : look (tab 127) 96 = some (.aload_n 0, 1, [], uu) := by decide +kernel
theorem e_127_96 : den cf 127 96 [.ref a, v1] st M = den cf 127 97 [.ref a, v1] (.ref a :: st) M := den_go l_127_96 rfl
theorem l_127_97 : look (tab 127) 97 = some (.getfield 10, 3, [5, 0, 16], uu) := by decide +kernel
theorem e_127_97 : den cf 127 97 L (.ref a :: st) M = oK (gfA (M.2.2 a) 5 0) (fun v => den cf 127 100 L (v :: st) M) := den_gf l_127_97
theorem l_127_100 : look (tab 127) 100 = some (.getfield 312, 3, [2, 5, 1218], uu) := by decide +kernel
theorem e_127_100 : den cf 127 100 L (.ref a :: st) M = oK (gfA (M.2.2 a) 2 5) (fun v => den cf 127 103 L (v :: st) M) := den_gf l_127_100
theorem l_127_103 : look (tab 127) 103 = some (.ireturn, 1, [0], uu) := by decide +kernel
theorem e_127_103 : den cf 127 103 L [.int x] M = some (some (.int x), M) := den_e0 l_127_103
theorem l_127_104 : look (tab 127) 104 = some (.aload_n 0, 1, [], uu) := by decide +kernel
theorem e_127_104 : den cf 127 104 [.ref a, v1] st M = den cf 127 105 [.ref a, v1] (.ref a :: st) M := den_go l_127_104 rfl
theorem l_127_105 : look (tab 127) 105 = some (.getfield 10, 3, [5, 0, 16], uu) := by decide +kernel
theorem e_127_105 : den cf 127 105 L (.ref a :: st) M = oK (gfA (M.2.2 a) 5 0) (fun v => den cf 127 108 L (v :: st) M) := den_gf l_127_105
theorem l_127_108 : look (tab 127) 108 = some (.invokevirtual 300, 3, [2, 42, 1, 1124, 1125, 1126, 15], uu) := by decide +kernel
theorem e_127_108 : den cf 127 108 L (.ref a :: st) M = if rcv M 2 [.ref a] = true ∧ st.length ≤ 4 then rK (cf 42 [.ref a] M) (fun v M' => den cf 127 111 L (pR v st) M') else none := den_iv [] l_127_108 rfl
theorem l_127_111 : look (tab 127) 111 = some (.ireturn, 1, [0], uu) := by decide +kernel
theorem e_127_111 : den cf 127 111 L [.int x] M = some (some (.int x), M) := den_e0 l_127_111
theorem l_127_112 : look (tab 127) 112 = some (.aload_n 0, 1, [], uu) := by decide +kernel
theorem e_127_112 : den cf 127 112 [.ref a, v1] st M = den cf 127 113 [.ref a, v1] (.ref a :: st) M := den_go l_127_112 rfl
theorem l_127_113 : look (tab 127) 113 = some (.getfield 43, 3, [5, 6, 31], uu) := by decide +kernel
theorem e_127_113 : den cf 127 113 L (.ref a :: st) M = oK (gfA (M.2.2 a) 5 6) (fun v => den cf 127 116 L (v :: st) M) := den_gf l_127_113
theorem l_127_116 : look (tab 127) 116 = some (.getfield 170, 3, [4, 1, 404], uu) := by decide +kernel
theorem e_127_116 : den cf 127 116 L (.ref a :: st) M = oK (gfA (M.2.2 a) 4 1) (fun v => den cf 127 119 L (v :: st) M) := den_gf l_127_116
theorem l_127_119 : look (tab 127) 119 = some (.ireturn, 1, [0], uu) := by decide +kernel
theorem e_127_119 : den cf 127 119 L [.int x] M = some (some (.int x), M) := den_e0 l_127_119
theorem l_127_120 : look (tab 127) 120 = some (.aload_n 0, 1, [], uu) := by decide +kernel
theorem e_127_120 : den cf 127 120 [.ref a, v1] st M = den cf 127 121 [.ref a, v1] (.ref a :: st) M := den_go l_127_120 rfl
theorem l_127_121 : look (tab 127) 121 = some (.getfield 10, 3, [5, 0, 16], uu) := by decide +kernel
theorem e_127_121 : den cf 127 121 L (.ref a :: st) M = oK (gfA (M.2.2 a) 5 0) (fun v => den cf 127 124 L (v :: st) M) := den_gf l_127_121
theorem l_127_124 : look (tab 127) 124 = some (.getfield 309, 3, [2, 6, 1192], uu) := by decide +kernel
theorem e_127_124 : den cf 127 124 L (.ref a :: st) M = oK (gfA (M.2.2 a) 2 6) (fun v => den cf 127 127 L (v :: st) M) := den_gf l_127_124
theorem l_127_127 : look (tab 127) 127 = some (.ireturn, 1, [0], uu) := by decide +kernel
theorem e_127_127 : den cf 127 127 L [.int x] M = some (some (.int x), M) := den_e0 l_127_127
theorem l_127_128 : look (tab 127) 128 = some (.aload_n 0, 1, [], uu) := by decide +kernel
theorem e_127_128 : den cf 127 128 [.ref a, v1] st M = den cf 127 129 [.ref a, v1] (.ref a :: st) M := den_go l_127_128 rfl
theorem l_127_129 : look (tab 127) 129 = some (.invokevirtual 315, 3, [5, 131, 1, 1219, 1220, 1221, 2], uu) := by decide +kernel
theorem e_127_129 : den cf 127 129 L (.ref a :: st) M = if rcv M 5 [.ref a] = true ∧ st.length ≤ 4 then rK (cf 131 [.ref a] M) (fun v M' => den cf 127 132 L (pR v st) M') else none := den_iv [] l_127_129 rfl
theorem l_127_132 : look (tab 127) 132 = some (.ireturn, 1, [0], uu) := by decide +kernel
theorem e_127_132 : den cf 127 132 L [.int x] M = some (some (.int x), M) := den_e0 l_127_132
theorem l_127_133 : look (tab 127) 133 = some (.iload_n 1, 1, [], uu) := by decide +kernel
theorem e_127_133 : den cf 127 133 [v0, .int x] st M = den cf 127 134 [v0, .int x] (.int x :: st) M := den_go l_127_133 rfl
theorem l_127_134 : look (tab 127) 134 = some (.bipush 12, 2, [], .int (zI 12)) := by decide +kernel
theorem e_127_134 : den cf 127 134 L st M = den cf 127 136 L (.int (zI 12) :: st) M := den_go l_127_134 rfl
theorem l_127_136 : look (tab 127) 136 = some (.if_icmp .lt 21, 3, [157], uu) := by decide +kernel
theorem e_127_136 : den cf 127 136 L (.int y :: .int x :: st) M = if x < y then den cf 127 157 L st M else den cf 127 139 L st M := den_ic_lt l_127_136
theorem l_127_139 : look (tab 127) 139 = some (.iload_n 1, 1, [], uu) := by decide +kernel
theorem e_127_139 : den cf 127 139 [v0, .int x] st M = den cf 127 140 [v0, .int x] (.int x :: st) M := den_go l_127_139 rfl
theorem l_127_140 : look (tab 127) 140 = some (.bipush 16, 2, [], .int (zI 16)) := by decide +kernel
theorem e_127_140 : den cf 127 140 L st M = den cf 127 142 L (.int (zI 16) :: st) M := den_go l_127_140 rfl
theorem l_127_142 : look (tab 127) 142 = some (.if_icmp .gt 15, 3, [157], uu) := by decide +kernel
theorem e_127_142 : den cf 127 142 L (.int y :: .int x :: st) M = if y < x then den cf 127 157 L st M else den cf 127 145 L st M := den_ic_gt l_127_142
theorem l_127_145 : look (tab 127) 145 = some (.aload_n 0, 1, [], uu) := by decide +kernel
theorem e_127_145 : den cf 127 145 [.ref a, v1] st M = den cf 127 146 [.ref a, v1] (.ref a :: st) M := den_go l_127_145 rfl
theorem l_127_146 : look (tab 127) 146 = some (.getfield 47, 3, [5, 7, 33], uu) := by decide +kernel
theorem e_127_146 : den cf 127 146 L (.ref a :: st) M = oK (gfA (M.2.2 a) 5 7) (fun v => den cf 127 149 L (v :: st) M) := den_gf l_127_146
theorem l_127_149 : look (tab 127) 149 = some (.iload_n 1, 1, [], uu) := by decide +kernel
theorem e_127_149 : den cf 127 149 [v0, .int x] st M = den cf 127 150 [v0, .int x] (.int x :: st) M := den_go l_127_149 rfl
theorem l_127_150 : look (tab 127) 150 = some (.bipush 10, 2, [], .int (zI 10)) := by decide +kernel
theorem e_127_150 : den cf 127 150 L st M = den cf 127 152 L (.int (zI 10) :: st) M := den_go l_127_150 rfl
theorem l_127_152 : look (tab 127) 152 = some (.isub, 1, [], uu) := by decide +kernel
theorem e_127_152 : den cf 127 152 L (.int y :: .int x :: st) M = den cf 127 153 L (.int (x - y) :: st) M := den_go l_127_152 rfl
theorem l_127_153 : look (tab 127) 153 = some (.iaload, 1, [], uu) := by decide +kernel
theorem e_127_153 : den cf 127 153 L (.int x :: .ref a :: st) M = oK (ldI (M.2.2 a) x) (fun v => den cf 127 154 L (v :: st) M) := den_al (g := ldI) l_127_153 rfl
theorem l_127_154 : look (tab 127) 154 = some (.goto 4, 3, [158], uu) := by decide +kernel
theorem e_127_154 : den cf 127 154 L st M = den cf 127 158 L st M := den_go l_127_154 rfl
theorem l_127_157 : look (tab 127) 157 = some (.iconst (-1), 1, [], .int (zI (-1))) := by decide +kernel
theorem e_127_157 : den cf 127 157 L st M = den cf 127 158 L (.int (zI (-1)) :: st) M := den_go l_127_157 rfl
theorem l_127_158 : look (tab 127) 158 = some (.ireturn, 1, [0], uu) := by decide +kernel
theorem e_127_158 : den cf 127 158 L [.int x] M = some (some (.int x), M) := den_e0 l_127_158
/-! yX5_refuse -/
theorem l_128_0 : look (tab 128) 0 = some (.iload_n 1, 1, [], uu) := by decide +kernel
theorem e_128_0 : den cf 128 0 [v0, .int x] st M = den cf 128 1 [v0, .int x] (.int x :: st) M := den_go l_128_0 rfl
theorem l_128_1 : look (tab 128) 1 = some (.bipush (-2), 2, [], .int (zI (-2))) := by decide +kernel
theorem e_128_1 : den cf 128 1 L st M = den cf 128 3 L (.int (zI (-2)) :: st) M := den_go l_128_1 rfl
theorem l_128_3 : look (tab 128) 3 = some (.if_icmp .gt 20, 3, [23], uu) := by decide +kernel
theorem e_128_3 : den cf 128 3 L (.int y :: .int x :: st) M = if y < x then den cf 128 23 L st M else den cf 128 6 L st M := den_ic_gt l_128_3
theorem l_128_6 : look (tab 128) 6 = some (.iload_n 1, 1, [], uu) := by decide +kernel
theorem e_128_6 : den cf 128 6 [v0, .int x] st M = den cf 128 7 [v0, .int x] (.int x :: st) M := den_go l_128_6 rfl
theorem l_128_7 : look (tab 128) 7 = some (.bipush (-6), 2, [], .int (zI (-6))) := by decide +kernel
theorem e_128_7 : den cf 128 7 L st M = den cf 128 9 L (.int (zI (-6)) :: st) M := den_go l_128_7 rfl
theorem l_128_9 : look (tab 128) 9 = some (.if_icmp .lt 14, 3, [23], uu) := by decide +kernel
theorem e_128_9 : den cf 128 9 L (.int y :: .int x :: st) M = if x < y then den cf 128 23 L st M else den cf 128 12 L st M := den_ic_lt l_128_9
theorem l_128_12 : look (tab 128) 12 = some (.aload_n 0, 1, [], uu) := by decide +kernel
theorem e_128_12 : den cf 128 12 [.ref a, v1] st M = den cf 128 13 [.ref a, v1] (.ref a :: st) M := den_go l_128_12 rfl
theorem l_128_13 : look (tab 128) 13 = some (.getfield 47, 3, [5, 7, 33], uu) := by decide +kernel
theorem e_128_13 : den cf 128 13 L (.ref a :: st) M = oK (gfA (M.2.2 a) 5 7) (fun v => den cf 128 16 L (v :: st) M) := den_gf l_128_13
theorem l_128_16 : look (tab 128) 16 = some (.iload_n 1, 1, [], uu) := by decide +kernel
theorem e_128_16 : den cf 128 16 [v0, .int x] st M = den cf 128 17 [v0, .int x] (.int x :: st) M := den_go l_128_16 rfl
theorem l_128_17 : look (tab 128) 17 = some (.ineg, 1, [], uu) := by decide +kernel
theorem e_128_17 : den cf 128 17 L (.int x :: st) M = den cf 128 18 L (.int (-x) :: st) M := den_go l_128_17 rfl
theorem l_128_18 : look (tab 128) 18 = some (.dup2, 1, [], uu) := by decide +kernel
theorem e_128_18 : den cf 128 18 L (.int x :: .ref a :: st) M = den cf 128 19 L (.int x :: .ref a :: .int x :: .ref a :: st) M := den_go l_128_18 rfl
theorem l_128_19 : look (tab 128) 19 = some (.iaload, 1, [], uu) := by decide +kernel
theorem e_128_19 : den cf 128 19 L (.int x :: .ref a :: st) M = oK (ldI (M.2.2 a) x) (fun v => den cf 128 20 L (v :: st) M) := den_al (g := ldI) l_128_19 rfl
theorem l_128_20 : look (tab 128) 20 = some (.iconst 1, 1, [], .int (zI 1)) := by decide +kernel
theorem e_128_20 : den cf 128 20 L st M = den cf 128 21 L (.int (zI 1) :: st) M := den_go l_128_20 rfl
theorem l_128_21 : look (tab 128) 21 = some (.iadd, 1, [], uu) := by decide +kernel
theorem e_128_21 : den cf 128 21 L (.int y :: .int x :: st) M = den cf 128 22 L (.int (x + y) :: st) M := den_go l_128_21 rfl
theorem l_128_22 : look (tab 128) 22 = some (.iastore, 1, [], uu) := by decide +kernel
theorem e_128_22 : den cf 128 22 L (.int x :: .int y :: .ref a :: st) M = oK (stI (M.2.2 a) y x) (fun c => den cf 128 23 L st (mU M a c)) := den_is l_128_22
theorem l_128_23 : look (tab 128) 23 = some (.iload_n 1, 1, [], uu) := by decide +kernel
theorem e_128_23 : den cf 128 23 [v0, .int x] st M = den cf 128 24 [v0, .int x] (.int x :: st) M := den_go l_128_23 rfl
theorem l_128_24 : look (tab 128) 24 = some (.ireturn, 1, [0], uu) := by decide +kernel
theorem e_128_24 : den cf 128 24 L [.int x] M = some (some (.int x), M) := den_e0 l_128_24
/-! yX5_within -/
theorem l_129_0 : look (tab 129) 0 = some (.iload_n 0, 1, [], uu) := by decide +kernel
theorem e_129_0 : den cf 129 0 [.int x, v1] st M = den cf 129 1 [.int x, v1] (.int x :: st) M := den_go l_129_0 rfl
theorem l_129_1 : look (tab 129) 1 = some (.ifCond .lt 12, 3, [13], uu) := by decide +kernel
theorem e_129_1 : den cf 129 1 L (.int x :: st) M = if x < zI 0 then den cf 129 13 L st M else den cf 129 4 L st M := den_if_lt l_129_1
theorem l_129_4 : look (tab 129) 4 = some (.iload_n 0, 1, [], uu) := by decide +kernel
theorem e_129_4 : den cf 129 4 [.int x, v1] st M = den cf 129 5 [.int x, v1] (.int x :: st) M := den_go l_129_4 rfl
theorem l_129_5 : look (tab 129) 5 = some (.iload_n 1, 1, [], uu) := by decide +kernel
theorem e_129_5 : den cf 129 5 [v0, .int x] st M = den cf 129 6 [v0, .int x] (.int x :: st) M := den_go l_129_5 rfl
theorem l_129_6 : look (tab 129) 6 = some (.if_icmp .gt 7, 3, [13], uu) := by decide +kernel
theorem e_129_6 : den cf 129 6 L (.int y :: .int x :: st) M = if y < x then den cf 129 13 L st M else den cf 129 9 L st M := den_ic_gt l_129_6
theorem l_129_9 : look (tab 129) 9 = some (.iconst 1, 1, [], .int (zI 1)) := by decide +kernel
theorem e_129_9 : den cf 129 9 L st M = den cf 129 10 L (.int (zI 1) :: st) M := den_go l_129_9 rfl
theorem l_129_10 : look (tab 129) 10 = some (.goto 4, 3, [14], uu) := by decide +kernel
theorem e_129_10 : den cf 129 10 L st M = den cf 129 14 L st M := den_go l_129_10 rfl
theorem l_129_13 : look (tab 129) 13 = some (.iconst 0, 1, [], .int (zI 0)) := by decide +kernel
theorem e_129_13 : den cf 129 13 L st M = den cf 129 14 L (.int (zI 0) :: st) M := den_go l_129_13 rfl
theorem l_129_14 : look (tab 129) 14 = some (.ireturn, 1, [1], uu) := by decide +kernel
theorem e_129_14 : den cf 129 14 L [.int x] M = if x = zI 0 ∨ x = zI 1 then some (some (.int x), M) else none := den_e1 l_129_14
/-! yX5_shelfAt -/
theorem l_130_0 : look (tab 130) 0 = some (.iload_n 1, 1, [], uu) := by decide +kernel
theorem e_130_0 : den cf 130 0 [v0, .int x] st M = den cf 130 1 [v0, .int x] (.int x :: st) M := den_go l_130_0 rfl
theorem l_130_1 : look (tab 130) 1 = some (.ifCond .lt 18, 3, [19], uu) := by decide +kernel
theorem e_130_1 : den cf 130 1 L (.int x :: st) M = if x < zI 0 then den cf 130 19 L st M else den cf 130 4 L st M := den_if_lt l_130_1
theorem l_130_4 : look (tab 130) 4 = some (.iload_n 1, 1, [], uu) := by decide +kernel
theorem e_130_4 : den cf 130 4 [v0, .int x] st M = den cf 130 5 [v0, .int x] (.int x :: st) M := den_go l_130_4 rfl
theorem l_130_5 : look (tab 130) 5 = some (.bipush 8, 2, [], .int (zI 8)) := by decide +kernel
theorem e_130_5 : den cf 130 5 L st M = den cf 130 7 L (.int (zI 8) :: st) M := den_go l_130_5 rfl
theorem l_130_7 : look (tab 130) 7 = some (.if_icmp .ge 12, 3, [19], uu) := by decide +kernel
theorem e_130_7 : den cf 130 7 L (.int y :: .int x :: st) M = if x < y then den cf 130 10 L st M else den cf 130 19 L st M := den_ic_ge l_130_7
theorem l_130_10 : look (tab 130) 10 = some (.aload_n 0, 1, [], uu) := by decide +kernel
theorem e_130_10 : den cf 130 10 [.ref a, v1] st M = den cf 130 11 [.ref a, v1] (.ref a :: st) M := den_go l_130_10 rfl
theorem l_130_11 : look (tab 130) 11 = some (.getfield 35, 3, [5, 5, 25], uu) := by decide +kernel
theorem e_130_11 : den cf 130 11 L (.ref a :: st) M = oK (gfA (M.2.2 a) 5 5) (fun v => den cf 130 14 L (v :: st) M) := den_gf l_130_11
theorem l_130_14 : look (tab 130) 14 = some (.iload_n 1, 1, [], uu) := by decide +kernel
theorem e_130_14 : den cf 130 14 [v0, .int x] st M = den cf 130 15 [v0, .int x] (.int x :: st) M := den_go l_130_14 rfl
theorem l_130_15 : look (tab 130) 15 = some (.aaload, 1, [], uu) := by decide +kernel
theorem e_130_15 : den cf 130 15 L (.int x :: .ref a :: st) M = oK (ldQ (M.2.2 a) x) (fun v => den cf 130 16 L (v :: st) M) := den_al (g := ldQ) l_130_15 rfl
theorem l_130_16 : look (tab 130) 16 = some (.goto 4, 3, [20], uu) := by decide +kernel
theorem e_130_16 : den cf 130 16 L st M = den cf 130 20 L st M := den_go l_130_16 rfl
theorem l_130_19 : look (tab 130) 19 = some (.aconst_null, 1, [], uu) := by decide +kernel
theorem e_130_19 : den cf 130 19 L st M = den cf 130 20 L (.null :: st) M := den_go l_130_19 rfl
theorem l_130_20 : look (tab 130) 20 = some (.areturn, 1, [], uu) := by decide +kernel
theorem e_130_20 : den cf 130 20 L [v] M = if isRf v = true then some (some v, M) else none := den_e3 l_130_20
/-! yX5_countShelvesHeld -/
theorem l_131_0 : look (tab 131) 0 = some (.iconst 0, 1, [], .int (zI 0)) := by decide +kernel
theorem e_131_0 : den cf 131 0 L st M = den cf 131 1 L (.int (zI 0) :: st) M := den_go l_131_0 rfl
theorem l_131_1 : look (tab 131) 1 = some (.istore_n 1, 1, [], uu) := by decide +kernel
theorem e_131_1 : den cf 131 1 [v0, v1, v2, v3, v4, v5] (.int x :: st) M = den cf 131 2 [kq v0, .int x, v2, v3, v4, v5] st M := den_st (k := 1) (v := .int x) l_131_1 rfl
theorem l_131_2 : look (tab 131) 2 = some (.aload_n 0, 1, [], uu) := by decide +kernel
theorem e_131_2 : den cf 131 2 [.ref a, v1, v2, v3, v4, v5] st M = den cf 131 3 [.ref a, v1, v2, v3, v4, v5] (.ref a :: st) M := den_go l_131_2 rfl
theorem l_131_3 : look (tab 131) 3 = some (.getfield 35, 3, [5, 5, 25], uu) := by decide +kernel
theorem e_131_3 : den cf 131 3 L (.ref a :: st) M = oK (gfA (M.2.2 a) 5 5) (fun v => den cf 131 6 L (v :: st) M) := den_gf l_131_3
theorem l_131_6 : look (tab 131) 6 = some (.astore_n 2, 1, [], uu) := by decide +kernel
theorem e_131_6 : den cf 131 6 [v0, v1, v2, v3, v4, v5] (v :: st) M = if isRf v = true then den cf 131 7 [v0, kq v1, v, v3, v4, v5] st M else none := den_as (k := 2) (v := v) l_131_6 rfl (Nat.le_of_ble_eq_true rfl)
theorem l_131_7 : look (tab 131) 7 = some (.aload_n 2, 1, [], uu) := by decide +kernel
theorem e_131_7 : den cf 131 7 [v0, v1, v2, v3, v4, v5] st M = if isRf v2 = true then den cf 131 8 [v0, v1, v2, v3, v4, v5] (v2 :: st) M else none := den_g l_131_7 rfl
theorem l_131_8 : look (tab 131) 8 = some (.arraylength, 1, [], uu) := by decide +kernel
theorem e_131_8 : den cf 131 8 L (.ref a :: st) M = oK (lenA (M.2.2 a)) (fun n => den cf 131 9 L (.int (zI n) :: st) M) := den_len l_131_8
theorem l_131_9 : look (tab 131) 9 = some (.istore_n 3, 1, [], uu) := by decide +kernel
theorem e_131_9 : den cf 131 9 [v0, v1, v2, v3, v4, v5] (.int x :: st) M = den cf 131 10 [v0, v1, kq v2, .int x, v4, v5] st M := den_st (k := 3) (v := .int x) l_131_9 rfl
theorem l_131_10 : look (tab 131) 10 = some (.iconst 0, 1, [], .int (zI 0)) := by decide +kernel
theorem e_131_10 : den cf 131 10 L st M = den cf 131 11 L (.int (zI 0) :: st) M := den_go l_131_10 rfl
theorem l_131_11 : look (tab 131) 11 = some (.istore 4, 2, [], uu) := by decide +kernel
theorem e_131_11 : den cf 131 11 [v0, v1, v2, v3, v4, v5] (.int x :: st) M = den cf 131 13 [v0, v1, v2, kq v3, .int x, v5] st M := den_st (k := 4) (v := .int x) l_131_11 rfl
theorem l_131_13 : look (tab 131) 13 = some (.iload 4, 2, [], uu) := by decide +kernel
theorem e_131_13 : den cf 131 13 [v0, v1, v2, v3, .int x, v5] st M = den cf 131 15 [v0, v1, v2, v3, .int x, v5] (.int x :: st) M := den_go l_131_13 rfl
theorem l_131_15 : look (tab 131) 15 = some (.iload_n 3, 1, [], uu) := by decide +kernel
theorem e_131_15 : den cf 131 15 [v0, v1, v2, .int x, v4, v5] st M = den cf 131 16 [v0, v1, v2, .int x, v4, v5] (.int x :: st) M := den_go l_131_15 rfl
theorem l_131_16 : look (tab 131) 16 = some (.if_icmp .ge 26, 3, [42], uu) := by decide +kernel
theorem e_131_16 : den cf 131 16 L (.int y :: .int x :: st) M = if x < y then den cf 131 19 L st M else den cf 131 42 L st M := den_ic_ge l_131_16
theorem l_131_19 : look (tab 131) 19 = some (.aload_n 2, 1, [], uu) := by decide +kernel
theorem e_131_19 : den cf 131 19 [v0, v1, v2, v3, v4, v5] st M = if isRf v2 = true then den cf 131 20 [v0, v1, v2, v3, v4, v5] (v2 :: st) M else none := den_g l_131_19 rfl
theorem l_131_20 : look (tab 131) 20 = some (.iload 4, 2, [], uu) := by decide +kernel
theorem e_131_20 : den cf 131 20 [v0, v1, v2, v3, .int x, v5] st M = den cf 131 22 [v0, v1, v2, v3, .int x, v5] (.int x :: st) M := den_go l_131_20 rfl
theorem l_131_22 : look (tab 131) 22 = some (.aaload, 1, [], uu) := by decide +kernel
theorem e_131_22 : den cf 131 22 L (.int x :: .ref a :: st) M = oK (ldQ (M.2.2 a) x) (fun v => den cf 131 23 L (v :: st) M) := den_al (g := ldQ) l_131_22 rfl
theorem l_131_23 : look (tab 131) 23 = some (.astore 5, 2, [], uu) := by decide +kernel
theorem e_131_23 : den cf 131 23 [v0, v1, v2, v3, v4, v5] (v :: st) M = if isRf v = true then den cf 131 25 [v0, v1, v2, v3, kq v4, v] st M else none := den_as (k := 5) (v := v) l_131_23 rfl (Nat.le_of_ble_eq_true rfl)
theorem l_131_25 : look (tab 131) 25 = some (.aload 5, 2, [], uu) := by decide +kernel
theorem e_131_25 : den cf 131 25 [v0, v1, v2, v3, v4, v5] st M = if isRf v5 = true then den cf 131 27 [v0, v1, v2, v3, v4, v5] (v5 :: st) M else none := den_g l_131_25 rfl
theorem l_131_27 : look (tab 131) 27 = some (.getfield 67, 3, [3, 0, 141], uu) := by decide +kernel
theorem e_131_27 : den cf 131 27 L (.ref a :: st) M = oK (gfA (M.2.2 a) 3 0) (fun v => den cf 131 30 L (v :: st) M) := den_gf l_131_27
theorem l_131_30 : look (tab 131) 30 = some (.ifCond .eq 6, 3, [36], uu) := by decide +kernel
theorem e_131_30 : den cf 131 30 L (.int x :: st) M = if x = zI 0 then den cf 131 36 L st M else den cf 131 33 L st M := den_if_eq l_131_30
theorem l_131_33 : look (tab 131) 33 = some (.iinc 1 1, 3, [], .int (zI 1)) := by decide +kernel
theorem e_131_33 : den cf 131 33 [v0, .int x, v2, v3, v4, v5] st M = den cf 131 36 [kq v0, .int (x + (zI 1)), v2, v3, v4, v5] st M := den_st (k := 1) (v := .int (x + (zI 1))) l_131_33 rfl
theorem l_131_36 : look (tab 131) 36 = some (.iinc 4 1, 3, [], .int (zI 1)) := by decide +kernel
theorem e_131_36 : den cf 131 36 [v0, v1, v2, v3, .int x, v5] st M = den cf 131 39 [v0, v1, v2, kq v3, .int (x + (zI 1)), v5] st M := den_st (k := 4) (v := .int (x + (zI 1))) l_131_36 rfl
theorem l_131_39 : look (tab 131) 39 = some (.goto (-26), 3, [13], uu) := by decide +kernel
theorem e_131_39 : den cf 131 39 L st M = den cf 131 13 L st M := den_go l_131_39 rfl
theorem l_131_42 : look (tab 131) 42 = some (.iload_n 1, 1, [], uu) := by decide +kernel
theorem e_131_42 : den cf 131 42 [v0, .int x, v2, v3, v4, v5] st M = den cf 131 43 [v0, .int x, v2, v3, v4, v5] (.int x :: st) M := den_go l_131_42 rfl
theorem l_131_43 : look (tab 131) 43 = some (.ireturn, 1, [0], uu) := by decide +kernel
theorem e_131_43 : den cf 131 43 L [.int x] M = some (some (.int x), M) := den_e0 l_131_43
/-! yX5_isUnder -/
theorem l_132_0 : look (tab 132) 0 = some (.iload_n 0, 1, [], uu) := by decide +kernel
theorem e_132_0 : den cf 132 0 [.int x, v1, v2] st M = den cf 132 1 [.int x, v1, v2] (.int x :: st) M := den_go l_132_0 rfl
theorem l_132_1 : look (tab 132) 1 = some (.iload_n 1, 1, [], uu) := by decide +kernel
theorem e_132_1 : den cf 132 1 [v0, .int x, v2] st M = den cf 132 2 [v0, .int x, v2] (.int x :: st) M := den_go l_132_1 rfl
theorem l_132_2 : look (tab 132) 2 = some (.if_icmp .eq 7, 3, [9], uu) := by decide +kernel
theorem e_132_2 : den cf 132 2 L (.int y :: .int x :: st) M = if x = y then den cf 132 9 L st M else den cf 132 5 L st M := den_ic_eq l_132_2
theorem l_132_5 : look (tab 132) 5 = some (.iload_n 1, 1, [], uu) := by decide +kernel
theorem e_132_5 : den cf 132 5 [v0, .int x, v2] st M = den cf 132 6 [v0, .int x, v2] (.int x :: st) M := den_go l_132_5 rfl
theorem l_132_6 : look (tab 132) 6 = some (.ifCond .ne 7, 3, [13], uu) := by decide +kernel
theorem e_132_6 : den cf 132 6 L (.int x :: st) M = if x = zI 0 then den cf 132 9 L st M else den cf 132 13 L st M := den_if_ne l_132_6
theorem l_132_9 : look (tab 132) 9 = some (.iconst 1, 1, [], .int (zI 1)) := by decide +kernel
theorem e_132_9 : den cf 132 9 L st M = den cf 132 10 L (.int (zI 1) :: st) M := den_go l_132_9 rfl
theorem l_132_10 : look (tab 132) 10 = some (.goto 4, 3, [14], uu) := by decide +kernel
theorem e_132_10 : den cf 132 10 L st M = den cf 132 14 L st M := den_go l_132_10 rfl
theorem l_132_13 : look (tab 132) 13 = some (.iconst 0, 1, [], .int (zI 0)) := by decide +kernel
theorem e_132_13 : den cf 132 13 L st M = den cf 132 14 L (.int (zI 0) :: st) M := den_go l_132_13 rfl
theorem l_132_14 : look (tab 132) 14 = some (.istore_n 2, 1, [], uu) := by decide +kernel
theorem e_132_14 : den cf 132 14 [v0, v1, v2] (.int x :: st) M = den cf 132 15 [v0, kq v1, .int x] st M := den_st (k := 2) (v := .int x) l_132_14 rfl
theorem l_132_15 : look (tab 132) 15 = some (.iload_n 2, 1, [], uu) := by decide +kernel
theorem e_132_15 : den cf 132 15 [v0, v1, .int x] st M = den cf 132 16 [v0, v1, .int x] (.int x :: st) M := den_go l_132_15 rfl
theorem l_132_16 : look (tab 132) 16 = some (.ifCond .ne 23, 3, [39], uu) := by decide +kernel
theorem e_132_16 : den cf 132 16 L (.int x :: st) M = if x = zI 0 then den cf 132 19 L st M else den cf 132 39 L st M := den_if_ne l_132_16
theorem l_132_19 : look (tab 132) 19 = some (.iload_n 0, 1, [], uu) := by decide +kernel
theorem e_132_19 : den cf 132 19 [.int x, v1, v2] st M = den cf 132 20 [.int x, v1, v2] (.int x :: st) M := den_go l_132_19 rfl
theorem l_132_20 : look (tab 132) 20 = some (.iconst 3, 1, [], .int (zI 3)) := by decide +kernel
theorem e_132_20 : den cf 132 20 L st M = den cf 132 21 L (.int (zI 3) :: st) M := den_go l_132_20 rfl
theorem l_132_21 : look (tab 132) 21 = some (.if_icmp .ne 8, 3, [29], uu) := by decide +kernel
theorem e_132_21 : den cf 132 21 L (.int y :: .int x :: st) M = if x = y then den cf 132 24 L st M else den cf 132 29 L st M := den_ic_ne l_132_21
theorem l_132_24 : look (tab 132) 24 = some (.iload_n 1, 1, [], uu) := by decide +kernel
theorem e_132_24 : den cf 132 24 [v0, .int x, v2] st M = den cf 132 25 [v0, .int x, v2] (.int x :: st) M := den_go l_132_24 rfl
theorem l_132_25 : look (tab 132) 25 = some (.iconst 1, 1, [], .int (zI 1)) := by decide +kernel
theorem e_132_25 : den cf 132 25 L st M = den cf 132 26 L (.int (zI 1) :: st) M := den_go l_132_25 rfl
theorem l_132_26 : look (tab 132) 26 = some (.if_icmp .eq 13, 3, [39], uu) := by decide +kernel
theorem e_132_26 : den cf 132 26 L (.int y :: .int x :: st) M = if x = y then den cf 132 39 L st M else den cf 132 29 L st M := den_ic_eq l_132_26
theorem l_132_29 : look (tab 132) 29 = some (.iload_n 0, 1, [], uu) := by decide +kernel
theorem e_132_29 : den cf 132 29 [.int x, v1, v2] st M = den cf 132 30 [.int x, v1, v2] (.int x :: st) M := den_go l_132_29 rfl
theorem l_132_30 : look (tab 132) 30 = some (.iconst 4, 1, [], .int (zI 4)) := by decide +kernel
theorem e_132_30 : den cf 132 30 L st M = den cf 132 31 L (.int (zI 4) :: st) M := den_go l_132_30 rfl
theorem l_132_31 : look (tab 132) 31 = some (.if_icmp .ne 12, 3, [43], uu) := by decide +kernel
theorem e_132_31 : den cf 132 31 L (.int y :: .int x :: st) M = if x = y then den cf 132 34 L st M else den cf 132 43 L st M := den_ic_ne l_132_31
theorem l_132_34 : look (tab 132) 34 = some (.iload_n 1, 1, [], uu) := by decide +kernel
theorem e_132_34 : den cf 132 34 [v0, .int x, v2] st M = den cf 132 35 [v0, .int x, v2] (.int x :: st) M := den_go l_132_34 rfl
theorem l_132_35 : look (tab 132) 35 = some (.iconst 2, 1, [], .int (zI 2)) := by decide +kernel
theorem e_132_35 : den cf 132 35 L st M = den cf 132 36 L (.int (zI 2) :: st) M := den_go l_132_35 rfl
theorem l_132_36 : look (tab 132) 36 = some (.if_icmp .ne 7, 3, [43], uu) := by decide +kernel
theorem e_132_36 : den cf 132 36 L (.int y :: .int x :: st) M = if x = y then den cf 132 39 L st M else den cf 132 43 L st M := den_ic_ne l_132_36
theorem l_132_39 : look (tab 132) 39 = some (.iconst 1, 1, [], .int (zI 1)) := by decide +kernel
theorem e_132_39 : den cf 132 39 L st M = den cf 132 40 L (.int (zI 1) :: st) M := den_go l_132_39 rfl
theorem l_132_40 : look (tab 132) 40 = some (.goto 4, 3, [44], uu) := by decide +kernel
theorem e_132_40 : den cf 132 40 L st M = den cf 132 44 L st M := den_go l_132_40 rfl
theorem l_132_43 : look (tab 132) 43 = some (.iconst 0, 1, [], .int (zI 0)) := by decide +kernel
theorem e_132_43 : den cf 132 43 L st M = den cf 132 44 L (.int (zI 0) :: st) M := den_go l_132_43 rfl
theorem l_132_44 : look (tab 132) 44 = some (.ireturn, 1, [1], uu) := by decide +kernel
theorem e_132_44 : den cf 132 44 L [.int x] M = if x = zI 0 ∨ x = zI 1 then some (some (.int x), M) else none := den_e1 l_132_44
/-! yX5_unfitYear -/
theorem l_133_0 : look (tab 133) 0 = some (.aload_n 0, 1, [], uu) := by decide +kernel
theorem e_133_0 : den cf 133 0 [.ref a, v1, v2, v3] st M = den cf 133 1 [.ref a, v1, v2, v3] (.ref a :: st) M := den_go l_133_0 rfl
theorem l_133_1 : look (tab 133) 1 = some (.iload_n 1, 1, [], uu) := by decide +kernel
theorem e_133_1 : den cf 133 1 [v0, .int x, v2, v3] st M = den cf 133 2 [v0, .int x, v2, v3] (.int x :: st) M := den_go l_133_1 rfl
theorem l_133_2 : look (tab 133) 2 = some (.invokevirtual 51, 3, [5, 130, 2, 106, 107, 108, 2], uu) := by decide +kernel
theorem e_133_2 : den cf 133 2 L (w1 :: .ref a :: st) M = if rcv M 5 [.ref a, w1] = true ∧ st.length ≤ 4 then rK (cf 130 [.ref a, w1] M) (fun v M' => den cf 133 5 L (pR v st) M') else none := den_iv [w1] l_133_2 rfl
theorem l_133_5 : look (tab 133) 5 = some (.astore_n 3, 1, [], uu) := by decide +kernel
theorem e_133_5 : den cf 133 5 [v0, v1, v2, v3] (v :: st) M = if isRf v = true then den cf 133 6 [v0, v1, kq v2, v] st M else none := den_as (k := 3) (v := v) l_133_5 rfl (Nat.le_of_ble_eq_true rfl)
theorem l_133_6 : look (tab 133) 6 = some (.aload_n 3, 1, [], uu) := by decide +kernel
theorem e_133_6 : den cf 133 6 [v0, v1, v2, v3] st M = if isRf v3 = true then den cf 133 7 [v0, v1, v2, v3] (v3 :: st) M else none := den_g l_133_6 rfl
theorem l_133_7 : look (tab 133) 7 = some (.ifnull 12, 3, [19], uu) := by decide +kernel
theorem e_133_7 : den cf 133 7 L (va_rf o :: st) M = oN o (den cf 133 19 L st M) (den cf 133 10 L st M) := den_nu l_133_7
theorem e_133_7_n : den cf 133 7 L (.null :: st) M = den cf 133 19 L st M := den_go l_133_7 rfl
theorem e_133_7_r : den cf 133 7 L (.ref a :: st) M = den cf 133 10 L st M := den_go l_133_7 rfl
theorem l_133_10 : look (tab 133) 10 = some (.iload_n 2, 1, [], uu) := by decide +kernel
theorem e_133_10 : den cf 133 10 [v0, v1, .int x, v3] st M = den cf 133 11 [v0, v1, .int x, v3] (.int x :: st) M := den_go l_133_10 rfl
theorem l_133_11 : look (tab 133) 11 = some (.bipush 40, 2, [], .int (zI 40)) := by decide +kernel
theorem e_133_11 : den cf 133 11 L st M = den cf 133 13 L (.int (zI 40) :: st) M := den_go l_133_11 rfl
theorem l_133_13 : look (tab 133) 13 = some (.invokestatic 55, 3, [1, 129, 2, 110, 111, 2], uu) := by decide +kernel
theorem e_133_13 : den cf 133 13 L (w2 :: w1 :: st) M = if st.length ≤ 4 then rK (cf 129 [w1, w2] M) (fun v M' => den cf 133 16 L (pR v st) M') else none := den_ist [w1, w2] l_133_13 rfl
theorem l_133_16 : look (tab 133) 16 = some (.ifCond .ne 8, 3, [24], uu) := by decide +kernel
theorem e_133_16 : den cf 133 16 L (.int x :: st) M = if x = zI 0 then den cf 133 19 L st M else den cf 133 24 L st M := den_if_ne l_133_16
theorem l_133_19 : look (tab 133) 19 = some (.bipush (-2), 2, [], .int (zI (-2))) := by decide +kernel
theorem e_133_19 : den cf 133 19 L st M = den cf 133 21 L (.int (zI (-2)) :: st) M := den_go l_133_19 rfl
theorem l_133_21 : look (tab 133) 21 = some (.goto 8, 3, [29], uu) := by decide +kernel
theorem e_133_21 : den cf 133 21 L st M = den cf 133 29 L st M := den_go l_133_21 rfl
theorem l_133_24 : look (tab 133) 24 = some (.aload_n 3, 1, [], uu) := by decide +kernel
theorem e_133_24 : den cf 133 24 [v0, v1, v2, v3] st M = if isRf v3 = true then den cf 133 25 [v0, v1, v2, v3] (v3 :: st) M else none := den_g l_133_24 rfl
theorem l_133_25 : look (tab 133) 25 = some (.iload_n 2, 1, [], uu) := by decide +kernel
theorem e_133_25 : den cf 133 25 [v0, v1, .int x, v3] st M = den cf 133 26 [v0, v1, .int x, v3] (.int x :: st) M := den_go l_133_25 rfl
theorem l_133_26 : look (tab 133) 26 = some (.invokevirtual 283, 3, [3, 54, 2, 1054, 1055, 1056, 27], uu) := by decide +kernel
theorem e_133_26 : den cf 133 26 L (w1 :: .ref a :: st) M = if rcv M 3 [.ref a, w1] = true ∧ st.length ≤ 4 then rK (cf 54 [.ref a, w1] M) (fun v M' => den cf 133 29 L (pR v st) M') else none := den_iv [w1] l_133_26 rfl
theorem l_133_29 : look (tab 133) 29 = some (.ireturn, 1, [0], uu) := by decide +kernel
theorem e_133_29 : den cf 133 29 L [.int x] M = some (some (.int x), M) := den_e0 l_133_29
/-! yX5_firstWrong -/
theorem l_134_0 : look (tab 134) 0 = some (.aload_n 0, 1, [], uu) := by decide +kernel
theorem e_134_0 : den cf 134 0 [.ref a, v1, v2, v3, v4] st M = den cf 134 1 [.ref a, v1, v2, v3, v4] (.ref a :: st) M := den_go l_134_0 rfl
theorem l_134_1 : look (tab 134) 1 = some (.getfield 16, 3, [5, 1, 17], uu) := by decide +kernel
theorem e_134_1 : den cf 134 1 L (.ref a :: st) M = oK (gfA (M.2.2 a) 5 1) (fun v => den cf 134 4 L (v :: st) M) := den_gf l_134_1
theorem l_134_4 : look (tab 134) 4 = some (.aload_n 0, 1, [], uu) := by decide +kernel
theorem e_134_4 : den cf 134 4 [.ref a, v1, v2, v3, v4] st M = den cf 134 5 [.ref a, v1, v2, v3, v4] (.ref a :: st) M := den_go l_134_4 rfl
theorem l_134_5 : look (tab 134) 5 = some (.getfield 10, 3, [5, 0, 16], uu) := by decide +kernel
theorem e_134_5 : den cf 134 5 L (.ref a :: st) M = oK (gfA (M.2.2 a) 5 0) (fun v => den cf 134 8 L (v :: st) M) := den_gf l_134_5
theorem l_134_8 : look (tab 134) 8 = some (.invokevirtual 174, 3, [2, 26, 2, 428, 429, 430, 15], uu) := by decide +kernel
theorem e_134_8 : den cf 134 8 L (w1 :: .ref a :: st) M = if rcv M 2 [.ref a, w1] = true ∧ st.length ≤ 4 then rK (cf 26 [.ref a, w1] M) (fun v M' => den cf 134 11 L (pR v st) M') else none := den_iv [w1] l_134_8 rfl
theorem l_134_11 : look (tab 134) 11 = some (.aload_n 0, 1, [], uu) := by decide +kernel
theorem e_134_11 : den cf 134 11 [.ref a, v1, v2, v3, v4] st M = den cf 134 12 [.ref a, v1, v2, v3, v4] (.ref a :: st) M := den_go l_134_11 rfl
theorem l_134_12 : look (tab 134) 12 = some (.iload_n 1, 1, [], uu) := by decide +kernel
theorem e_134_12 : den cf 134 12 [v0, .int x, v2, v3, v4] st M = den cf 134 13 [v0, .int x, v2, v3, v4] (.int x :: st) M := den_go l_134_12 rfl
theorem l_134_13 : look (tab 134) 13 = some (.invokevirtual 51, 3, [5, 130, 2, 106, 107, 108, 2], uu) := by decide +kernel
theorem e_134_13 : den cf 134 13 L (w1 :: .ref a :: st) M = if rcv M 5 [.ref a, w1] = true ∧ st.length ≤ 4 then rK (cf 130 [.ref a, w1] M) (fun v M' => den cf 134 16 L (pR v st) M') else none := den_iv [w1] l_134_13 rfl
theorem l_134_16 : look (tab 134) 16 = some (.astore_n 3, 1, [], uu) := by decide +kernel
theorem e_134_16 : den cf 134 16 [v0, v1, v2, v3, v4] (v :: st) M = if isRf v = true then den cf 134 17 [v0, v1, kq v2, v, v4] st M else none := den_as (k := 3) (v := v) l_134_16 rfl (Nat.le_of_ble_eq_true rfl)
theorem l_134_17 : look (tab 134) 17 = some (.iconst 0, 1, [], .int (zI 0)) := by decide +kernel
theorem e_134_17 : den cf 134 17 L st M = den cf 134 18 L (.int (zI 0) :: st) M := den_go l_134_17 rfl
theorem l_134_18 : look (tab 134) 18 = some (.istore 4, 2, [], uu) := by decide +kernel
theorem e_134_18 : den cf 134 18 [v0, v1, v2, v3, v4] (.int x :: st) M = den cf 134 20 [v0, v1, v2, kq v3, .int x] st M := den_st (k := 4) (v := .int x) l_134_18 rfl
theorem l_134_20 : look (tab 134) 20 = some (.aload_n 3, 1, [], uu) := by decide +kernel
theorem e_134_20 : den cf 134 20 [v0, v1, v2, v3, v4] st M = if isRf v3 = true then den cf 134 21 [v0, v1, v2, v3, v4] (v3 :: st) M else none := den_g l_134_20 rfl
theorem l_134_21 : look (tab 134) 21 = some (.ifnull 34, 3, [55], uu) := by decide +kernel
theorem e_134_21 : den cf 134 21 L (va_rf o :: st) M = oN o (den cf 134 55 L st M) (den cf 134 24 L st M) := den_nu l_134_21
theorem e_134_21_n : den cf 134 21 L (.null :: st) M = den cf 134 55 L st M := den_go l_134_21 rfl
theorem e_134_21_r : den cf 134 21 L (.ref a :: st) M = den cf 134 24 L st M := den_go l_134_21 rfl
theorem l_134_24 : look (tab 134) 24 = some (.iload 4, 2, [], uu) := by decide +kernel
theorem e_134_24 : den cf 134 24 [v0, v1, v2, v3, .int x] st M = den cf 134 26 [v0, v1, v2, v3, .int x] (.int x :: st) M := den_go l_134_24 rfl
theorem l_134_26 : look (tab 134) 26 = some (.iload_n 2, 1, [], uu) := by decide +kernel
theorem e_134_26 : den cf 134 26 [v0, v1, .int x, v3, v4] st M = den cf 134 27 [v0, v1, .int x, v3, v4] (.int x :: st) M := den_go l_134_26 rfl
theorem l_134_27 : look (tab 134) 27 = some (.if_icmp .ge 28, 3, [55], uu) := by decide +kernel
theorem e_134_27 : den cf 134 27 L (.int y :: .int x :: st) M = if x < y then den cf 134 30 L st M else den cf 134 55 L st M := den_ic_ge l_134_27
theorem l_134_30 : look (tab 134) 30 = some (.aload_n 0, 1, [], uu) := by decide +kernel
theorem e_134_30 : den cf 134 30 [.ref a, v1, v2, v3, v4] st M = den cf 134 31 [.ref a, v1, v2, v3, v4] (.ref a :: st) M := den_go l_134_30 rfl
theorem l_134_31 : look (tab 134) 31 = some (.getfield 16, 3, [5, 1, 17], uu) := by decide +kernel
theorem e_134_31 : den cf 134 31 L (.ref a :: st) M = oK (gfA (M.2.2 a) 5 1) (fun v => den cf 134 34 L (v :: st) M) := den_gf l_134_31
theorem l_134_34 : look (tab 134) 34 = some (.aload_n 3, 1, [], uu) := by decide +kernel
theorem e_134_34 : den cf 134 34 [v0, v1, v2, v3, v4] st M = if isRf v3 = true then den cf 134 35 [v0, v1, v2, v3, v4] (v3 :: st) M else none := den_g l_134_34 rfl
theorem l_134_35 : look (tab 134) 35 = some (.iload 4, 2, [], uu) := by decide +kernel
theorem e_134_35 : den cf 134 35 [v0, v1, v2, v3, .int x] st M = den cf 134 37 [v0, v1, v2, v3, .int x] (.int x :: st) M := den_go l_134_35 rfl
theorem l_134_37 : look (tab 134) 37 = some (.invokevirtual 98, 3, [3, 56, 2, 188, 189, 190, 27], uu) := by decide +kernel
theorem e_134_37 : den cf 134 37 L (w1 :: .ref a :: st) M = if rcv M 3 [.ref a, w1] = true ∧ st.length ≤ 4 then rK (cf 56 [.ref a, w1] M) (fun v M' => den cf 134 40 L (pR v st) M') else none := den_iv [w1] l_134_37 rfl
theorem l_134_40 : look (tab 134) 40 = some (.invokevirtual 318, 3, [2, 45, 2, 1098, 1099, 1100, 15], uu) := by decide +kernel
theorem e_134_40 : den cf 134 40 L (w1 :: .ref a :: st) M = if rcv M 2 [.ref a, w1] = true ∧ st.length ≤ 4 then rK (cf 45 [.ref a, w1] M) (fun v M' => den cf 134 43 L (pR v st) M') else none := den_iv [w1] l_134_40 rfl
theorem l_134_43 : look (tab 134) 43 = some (.ifCond .ne 6, 3, [49], uu) := by decide +kernel
theorem e_134_43 : den cf 134 43 L (.int x :: st) M = if x = zI 0 then den cf 134 46 L st M else den cf 134 49 L st M := den_if_ne l_134_43
theorem l_134_46 : look (tab 134) 46 = some (.iload 4, 2, [], uu) := by decide +kernel
theorem e_134_46 : den cf 134 46 [v0, v1, v2, v3, .int x] st M = den cf 134 48 [v0, v1, v2, v3, .int x] (.int x :: st) M := den_go l_134_46 rfl
theorem l_134_48 : look (tab 134) 48 = some (.ireturn, 1, [0], uu) := by decide +kernel
theorem e_134_48 : den cf 134 48 L [.int x] M = some (some (.int x), M) := den_e0 l_134_48
theorem l_134_49 : look (tab 134) 49 = some (.iinc 4 1, 3, [], .int (zI 1)) := by decide +kernel
theorem e_134_49 : den cf 134 49 [v0, v1, v2, v3, .int x] st M = den cf 134 52 [v0, v1, v2, kq v3, .int (x + (zI 1))] st M := den_st (k := 4) (v := .int (x + (zI 1))) l_134_49 rfl
theorem l_134_52 : look (tab 134) 52 = some (.goto (-32), 3, [20], uu) := by decide +kernel
theorem e_134_52 : den cf 134 52 L st M = den cf 134 20 L st M := den_go l_134_52 rfl
theorem l_134_55 : look (tab 134) 55 = some (.iconst (-1), 1, [], .int (zI (-1))) := by decide +kernel
theorem e_134_55 : den cf 134 55 L st M = den cf 134 56 L (.int (zI (-1)) :: st) M := den_go l_134_55 rfl
theorem l_134_56 : look (tab 134) 56 = some (.ireturn, 1, [0], uu) := by decide +kernel
theorem e_134_56 : den cf 134 56 L [.int x] M = some (some (.int x), M) := den_e0 l_134_56
/-! yX6_init -/
theorem l_135_0 : look (tab 135) 0 = some (.aload_n 0, 1, [], uu) := by decide +kernel
theorem e_135_0 : den cf 135 0 [.ref a] st M = den cf 135 1 [.ref a] (.ref a :: st) M := den_go l_135_0 rfl
theorem l_135_1 : look (tab 135) 1 = some (.invokespecial 1, 3, [0, 78, 11, 12], uu) := by decide +kernel
theorem e_135_1 : den cf 135 1 L (.ref a :: st) M = if st.length ≤ 4 then den cf 135 4 L st M else none := den_g l_135_1 rfl
theorem l_135_4 : look (tab 135) 4 = some (.aload_n 0, 1, [], uu) := by decide +kernel
theorem e_135_4 : den cf 135 4 [.ref a] st M = den cf 135 5 [.ref a] (.ref a :: st) M := den_go l_135_4 rfl
theorem l_135_5 : look (tab 135) 5 = some (.bipush 8, 2, [], .int (zI 8)) := by decide +kernel
theorem e_135_5 : den cf 135 5 L st M = den cf 135 7 L (.int (zI 8) :: st) M := den_go l_135_5 rfl
theorem l_135_7 : look (tab 135) 7 = some (.newarray .int, 2, [32], uu) := by decide +kernel
theorem e_135_7 : den cf 135 7 L (.int x :: st) M = if M.1 < 600000 ∧ 0 ≤ x.toInt ∧ x.toInt < 100000 then den cf 135 9 L (.ref M.1 :: st) (mN M x.toNatClampNeg (nwA 0 x.toNatClampNeg)) else none := den_g l_135_7 rfl
theorem l_135_9 : look (tab 135) 9 = some (.putfield 7, 3, [6, 0, 2, 79, 1], uu) := by decide +kernel
theorem e_135_9 : den cf 135 9 L (v :: .ref a :: st) M = if okv 2 v = true then oK (pfA (M.2.2 a) 6 0 v) (fun c => den cf 135 12 L st (mU M a c)) else none := den_pf l_135_9
theorem l_135_12 : look (tab 135) 12 = some (.aload_n 0, 1, [], uu) := by decide +kernel
theorem e_135_12 : den cf 135 12 [.ref a] st M = den cf 135 13 [.ref a] (.ref a :: st) M := den_go l_135_12 rfl
theorem l_135_13 : look (tab 135) 13 = some (.bipush 8, 2, [], .int (zI 8)) := by decide +kernel
theorem e_135_13 : den cf 135 13 L st M = den cf 135 15 L (.int (zI 8) :: st) M := den_go l_135_13 rfl
theorem l_135_15 : look (tab 135) 15 = some (.newarray .int, 2, [32], uu) := by decide +kernel
theorem e_135_15 : den cf 135 15 L (.int x :: st) M = if M.1 < 600000 ∧ 0 ≤ x.toInt ∧ x.toInt < 100000 then den cf 135 17 L (.ref M.1 :: st) (mN M x.toNatClampNeg (nwA 0 x.toNatClampNeg)) else none := den_g l_135_15 rfl
theorem l_135_17 : look (tab 135) 17 = some (.putfield 13, 3, [6, 1, 2, 80, 1], uu) := by decide +kernel
theorem e_135_17 : den cf 135 17 L (v :: .ref a :: st) M = if okv 2 v = true then oK (pfA (M.2.2 a) 6 1 v) (fun c => den cf 135 20 L st (mU M a c)) else none := den_pf l_135_17
theorem l_135_20 : look (tab 135) 20 = some (.aload_n 0, 1, [], uu) := by decide +kernel
theorem e_135_20 : den cf 135 20 [.ref a] st M = den cf 135 21 [.ref a] (.ref a :: st) M := den_go l_135_20 rfl
theorem l_135_21 : look (tab 135) 21 = some (.bipush 8, 2, [], .int (zI 8)) := by decide +kernel
theorem e_135_21 : den cf 135 21 L st M = den cf 135 23 L (.int (zI 8) :: st) M := den_go l_135_21 rfl
theorem l_135_23 : look (tab 135) 23 = some (.newarray .int, 2, [32], uu) := by decide +kernel
theorem e_135_23 : den cf 135 23 L (.int x :: st) M = if M.1 < 600000 ∧ 0 ≤ x.toInt ∧ x.toInt < 100000 then den cf 135 25 L (.ref M.1 :: st) (mN M x.toNatClampNeg (nwA 0 x.toNatClampNeg)) else none := den_g l_135_23 rfl
theorem l_135_25 : look (tab 135) 25 = some (.putfield 16, 3, [6, 2, 2, 81, 1], uu) := by decide +kernel
theorem e_135_25 : den cf 135 25 L (v :: .ref a :: st) M = if okv 2 v = true then oK (pfA (M.2.2 a) 6 2 v) (fun c => den cf 135 28 L st (mU M a c)) else none := den_pf l_135_25
theorem l_135_28 : look (tab 135) 28 = some (.aload_n 0, 1, [], uu) := by decide +kernel
theorem e_135_28 : den cf 135 28 [.ref a] st M = den cf 135 29 [.ref a] (.ref a :: st) M := den_go l_135_28 rfl
theorem l_135_29 : look (tab 135) 29 = some (.bipush 8, 2, [], .int (zI 8)) := by decide +kernel
theorem e_135_29 : den cf 135 29 L st M = den cf 135 31 L (.int (zI 8) :: st) M := den_go l_135_29 rfl
theorem l_135_31 : look (tab 135) 31 = some (.bipush 40, 2, [], .int (zI 40)) := by decide +kernel
theorem e_135_31 : den cf 135 31 L st M = den cf 135 33 L (.int (zI 40) :: st) M := den_go l_135_31 rfl
theorem l_135_33 : look (tab 135) 33 = some (.multianewarray 19 2, 4, [82, 67], uu) := by decide +kernel
theorem e_135_33 : den cf 135 33 L (.int y :: .int x :: st) M = if M.1 < 600000 ∧ 0 ≤ x.toInt ∧ x.toInt < 1000 ∧ 0 ≤ y.toInt ∧ y.toInt < 1000 then den cf 135 37 L (.ref M.1 :: st) (mMul M x.toNatClampNeg y.toNatClampNeg) else none := den_g l_135_33 rfl
theorem l_135_37 : look (tab 135) 37 = some (.putfield 21, 3, [6, 3, 2, 83, 1], uu) := by decide +kernel
theorem e_135_37 : den cf 135 37 L (v :: .ref a :: st) M = if okv 2 v = true then oK (pfA (M.2.2 a) 6 3 v) (fun c => den cf 135 40 L st (mU M a c)) else none := den_pf l_135_37
theorem l_135_40 : look (tab 135) 40 = some (.aload_n 0, 1, [], uu) := by decide +kernel
theorem e_135_40 : den cf 135 40 [.ref a] st M = den cf 135 41 [.ref a] (.ref a :: st) M := den_go l_135_40 rfl
theorem l_135_41 : look (tab 135) 41 = some (.bipush 40, 2, [], .int (zI 40)) := by decide +kernel
theorem e_135_41 : den cf 135 41 L st M = den cf 135 43 L (.int (zI 40) :: st) M := den_go l_135_41 rfl
theorem l_135_43 : look (tab 135) 43 = some (.newarray .long, 2, [67], uu) := by decide +kernel
theorem e_135_43 : den cf 135 43 L (.int x :: st) M = if M.1 < 600000 ∧ 0 ≤ x.toInt ∧ x.toInt < 100000 then den cf 135 45 L (.ref M.1 :: st) (mN M x.toNatClampNeg (nwA 1 x.toNatClampNeg)) else none := den_g l_135_43 rfl
theorem l_135_45 : look (tab 135) 45 = some (.putfield 24, 3, [6, 4, 2, 84, 1], uu) := by decide +kernel
theorem e_135_45 : den cf 135 45 L (v :: .ref a :: st) M = if okv 2 v = true then oK (pfA (M.2.2 a) 6 4 v) (fun c => den cf 135 48 L st (mU M a c)) else none := den_pf l_135_45
theorem l_135_48 : look (tab 135) 48 = some (.aload_n 0, 1, [], uu) := by decide +kernel
theorem e_135_48 : den cf 135 48 [.ref a] st M = den cf 135 49 [.ref a] (.ref a :: st) M := den_go l_135_48 rfl
theorem l_135_49 : look (tab 135) 49 = some (.bipush 8, 2, [], .int (zI 8)) := by decide +kernel
theorem e_135_49 : den cf 135 49 L st M = den cf 135 51 L (.int (zI 8) :: st) M := den_go l_135_49 rfl
theorem l_135_51 : look (tab 135) 51 = some (.newarray .int, 2, [32], uu) := by decide +kernel
theorem e_135_51 : den cf 135 51 L (.int x :: st) M = if M.1 < 600000 ∧ 0 ≤ x.toInt ∧ x.toInt < 100000 then den cf 135 53 L (.ref M.1 :: st) (mN M x.toNatClampNeg (nwA 0 x.toNatClampNeg)) else none := den_g l_135_51 rfl
theorem l_135_53 : look (tab 135) 53 = some (.putfield 28, 3, [6, 5, 2, 85, 1], uu) := by decide +kernel
theorem e_135_53 : den cf 135 53 L (v :: .ref a :: st) M = if okv 2 v = true then oK (pfA (M.2.2 a) 6 5 v) (fun c => den cf 135 56 L st (mU M a c)) else none := den_pf l_135_53
theorem l_135_56 : look (tab 135) 56 = some (.aload_n 0, 1, [], uu) := by decide +kernel
theorem e_135_56 : den cf 135 56 [.ref a] st M = den cf 135 57 [.ref a] (.ref a :: st) M := den_go l_135_56 rfl
theorem l_135_57 : look (tab 135) 57 = some (.sipush 250, 3, [], .int (zI 250)) := by decide +kernel
theorem e_135_57 : den cf 135 57 L st M = den cf 135 60 L (.int (zI 250) :: st) M := den_go l_135_57 rfl
theorem l_135_60 : look (tab 135) 60 = some (.newarray .int, 2, [32], uu) := by decide +kernel
theorem e_135_60 : den cf 135 60 L (.int x :: st) M = if M.1 < 600000 ∧ 0 ≤ x.toInt ∧ x.toInt < 100000 then den cf 135 62 L (.ref M.1 :: st) (mN M x.toNatClampNeg (nwA 0 x.toNatClampNeg)) else none := den_g l_135_60 rfl
theorem l_135_62 : look (tab 135) 62 = some (.putfield 31, 3, [6, 6, 2, 86, 1], uu) := by decide +kernel
theorem e_135_62 : den cf 135 62 L (v :: .ref a :: st) M = if okv 2 v = true then oK (pfA (M.2.2 a) 6 6 v) (fun c => den cf 135 65 L st (mU M a c)) else none := den_pf l_135_62
theorem l_135_65 : look (tab 135) 65 = some (.aload_n 0, 1, [], uu) := by decide +kernel
theorem e_135_65 : den cf 135 65 [.ref a] st M = den cf 135 66 [.ref a] (.ref a :: st) M := den_go l_135_65 rfl
theorem l_135_66 : look (tab 135) 66 = some (.bipush 8, 2, [], .int (zI 8)) := by decide +kernel
theorem e_135_66 : den cf 135 66 L st M = den cf 135 68 L (.int (zI 8) :: st) M := den_go l_135_66 rfl
theorem l_135_68 : look (tab 135) 68 = some (.newarray .int, 2, [32], uu) := by decide +kernel
theorem e_135_68 : den cf 135 68 L (.int x :: st) M = if M.1 < 600000 ∧ 0 ≤ x.toInt ∧ x.toInt < 100000 then den cf 135 70 L (.ref M.1 :: st) (mN M x.toNatClampNeg (nwA 0 x.toNatClampNeg)) else none := den_g l_135_68 rfl
theorem l_135_70 : look (tab 135) 70 = some (.putfield 34, 3, [6, 8, 2, 87, 1], uu) := by decide +kernel
theorem e_135_70 : den cf 135 70 L (v :: .ref a :: st) M = if okv 2 v = true then oK (pfA (M.2.2 a) 6 8 v) (fun c => den cf 135 73 L st (mU M a c)) else none := den_pf l_135_70
theorem l_135_73 : look (tab 135) 73 = some (.aload_n 0, 1, [], uu) := by decide +kernel
theorem e_135_73 : den cf 135 73 [.ref a] st M = den cf 135 74 [.ref a] (.ref a :: st) M := den_go l_135_73 rfl
theorem l_135_74 : look (tab 135) 74 = some (.bipush 12, 2, [], .int (zI 12)) := by decide +kernel
theorem e_135_74 : den cf 135 74 L st M = den cf 135 76 L (.int (zI 12) :: st) M := den_go l_135_74 rfl
theorem l_135_76 : look (tab 135) 76 = some (.newarray .int, 2, [32], uu) := by decide +kernel
theorem e_135_76 : den cf 135 76 L (.int x :: st) M = if M.1 < 600000 ∧ 0 ≤ x.toInt ∧ x.toInt < 100000 then den cf 135 78 L (.ref M.1 :: st) (mN M x.toNatClampNeg (nwA 0 x.toNatClampNeg)) else none := den_g l_135_76 rfl
theorem l_135_78 : look (tab 135) 78 = some (.putfield 37, 3, [6, 10, 2, 88, 1], uu) := by decide +kernel
theorem e_135_78 : den cf 135 78 L (v :: .ref a :: st) M = if okv 2 v = true then oK (pfA (M.2.2 a) 6 10 v) (fun c => den cf 135 81 L st (mU M a c)) else none := den_pf l_135_78
theorem l_135_81 : look (tab 135) 81 = some (.aload_n 0, 1, [], uu) := by decide +kernel
theorem e_135_81 : den cf 135 81 [.ref a] st M = den cf 135 82 [.ref a] (.ref a :: st) M := den_go l_135_81 rfl
theorem l_135_82 : look (tab 135) 82 = some (.bipush 12, 2, [], .int (zI 12)) := by decide +kernel
theorem e_135_82 : den cf 135 82 L st M = den cf 135 84 L (.int (zI 12) :: st) M := den_go l_135_82 rfl
theorem l_135_84 : look (tab 135) 84 = some (.newarray .int, 2, [32], uu) := by decide +kernel
theorem e_135_84 : den cf 135 84 L (.int x :: st) M = if M.1 < 600000 ∧ 0 ≤ x.toInt ∧ x.toInt < 100000 then den cf 135 86 L (.ref M.1 :: st) (mN M x.toNatClampNeg (nwA 0 x.toNatClampNeg)) else none := den_g l_135_84 rfl
theorem l_135_86 : look (tab 135) 86 = some (.putfield 40, 3, [6, 11, 2, 89, 1], uu) := by decide +kernel
theorem e_135_86 : den cf 135 86 L (v :: .ref a :: st) M = if okv 2 v = true then oK (pfA (M.2.2 a) 6 11 v) (fun c => den cf 135 89 L st (mU M a c)) else none := den_pf l_135_86
theorem l_135_89 : look (tab 135) 89 = some (.aload_n 0, 1, [], uu) := by decide +kernel
theorem e_135_89 : den cf 135 89 [.ref a] st M = den cf 135 90 [.ref a] (.ref a :: st) M := den_go l_135_89 rfl
theorem l_135_90 : look (tab 135) 90 = some (.bipush 12, 2, [], .int (zI 12)) := by decide +kernel
theorem e_135_90 : den cf 135 90 L st M = den cf 135 92 L (.int (zI 12) :: st) M := den_go l_135_90 rfl
theorem l_135_92 : look (tab 135) 92 = some (.newarray .int, 2, [32], uu) := by decide +kernel
theorem e_135_92 : den cf 135 92 L (.int x :: st) M = if M.1 < 600000 ∧ 0 ≤ x.toInt ∧ x.toInt < 100000 then den cf 135 94 L (.ref M.1 :: st) (mN M x.toNatClampNeg (nwA 0 x.toNatClampNeg)) else none := den_g l_135_92 rfl
theorem l_135_94 : look (tab 135) 94 = some (.putfield 43, 3, [6, 12, 2, 90, 1], uu) := by decide +kernel
theorem e_135_94 : den cf 135 94 L (v :: .ref a :: st) M = if okv 2 v = true then oK (pfA (M.2.2 a) 6 12 v) (fun c => den cf 135 97 L st (mU M a c)) else none := den_pf l_135_94
theorem l_135_97 : look (tab 135) 97 = some (.aload_n 0, 1, [], uu) := by decide +kernel
theorem e_135_97 : den cf 135 97 [.ref a] st M = den cf 135 98 [.ref a] (.ref a :: st) M := den_go l_135_97 rfl
theorem l_135_98 : look (tab 135) 98 = some (.bipush 12, 2, [], .int (zI 12)) := by decide +kernel
theorem e_135_98 : den cf 135 98 L st M = den cf 135 100 L (.int (zI 12) :: st) M := den_go l_135_98 rfl
theorem l_135_100 : look (tab 135) 100 = some (.newarray .int, 2, [32], uu) := by decide +kernel
theorem e_135_100 : den cf 135 100 L (.int x :: st) M = if M.1 < 600000 ∧ 0 ≤ x.toInt ∧ x.toInt < 100000 then den cf 135 102 L (.ref M.1 :: st) (mN M x.toNatClampNeg (nwA 0 x.toNatClampNeg)) else none := den_g l_135_100 rfl
theorem l_135_102 : look (tab 135) 102 = some (.putfield 46, 3, [6, 13, 2, 91, 1], uu) := by decide +kernel
theorem e_135_102 : den cf 135 102 L (v :: .ref a :: st) M = if okv 2 v = true then oK (pfA (M.2.2 a) 6 13 v) (fun c => den cf 135 105 L st (mU M a c)) else none := den_pf l_135_102
theorem l_135_105 : look (tab 135) 105 = some (.aload_n 0, 1, [], uu) := by decide +kernel
theorem e_135_105 : den cf 135 105 [.ref a] st M = den cf 135 106 [.ref a] (.ref a :: st) M := den_go l_135_105 rfl
theorem l_135_106 : look (tab 135) 106 = some (.bipush 12, 2, [], .int (zI 12)) := by decide +kernel
theorem e_135_106 : den cf 135 106 L st M = den cf 135 108 L (.int (zI 12) :: st) M := den_go l_135_106 rfl
theorem l_135_108 : look (tab 135) 108 = some (.newarray .int, 2, [32], uu) := by decide +kernel
theorem e_135_108 : den cf 135 108 L (.int x :: st) M = if M.1 < 600000 ∧ 0 ≤ x.toInt ∧ x.toInt < 100000 then den cf 135 110 L (.ref M.1 :: st) (mN M x.toNatClampNeg (nwA 0 x.toNatClampNeg)) else none := den_g l_135_108 rfl
theorem l_135_110 : look (tab 135) 110 = some (.putfield 49, 3, [6, 14, 2, 92, 1], uu) := by decide +kernel
theorem e_135_110 : den cf 135 110 L (v :: .ref a :: st) M = if okv 2 v = true then oK (pfA (M.2.2 a) 6 14 v) (fun c => den cf 135 113 L st (mU M a c)) else none := den_pf l_135_110
theorem l_135_113 : look (tab 135) 113 = some (.aload_n 0, 1, [], uu) := by decide +kernel
theorem e_135_113 : den cf 135 113 [.ref a] st M = den cf 135 114 [.ref a] (.ref a :: st) M := den_go l_135_113 rfl
theorem l_135_114 : look (tab 135) 114 = some (.bipush 12, 2, [], .int (zI 12)) := by decide +kernel
theorem e_135_114 : den cf 135 114 L st M = den cf 135 116 L (.int (zI 12) :: st) M := den_go l_135_114 rfl
theorem l_135_116 : look (tab 135) 116 = some (.newarray .int, 2, [32], uu) := by decide +kernel
theorem e_135_116 : den cf 135 116 L (.int x :: st) M = if M.1 < 600000 ∧ 0 ≤ x.toInt ∧ x.toInt < 100000 then den cf 135 118 L (.ref M.1 :: st) (mN M x.toNatClampNeg (nwA 0 x.toNatClampNeg)) else none := den_g l_135_116 rfl
theorem l_135_118 : look (tab 135) 118 = some (.putfield 52, 3, [6, 15, 2, 93, 1], uu) := by decide +kernel
theorem e_135_118 : den cf 135 118 L (v :: .ref a :: st) M = if okv 2 v = true then oK (pfA (M.2.2 a) 6 15 v) (fun c => den cf 135 121 L st (mU M a c)) else none := den_pf l_135_118
theorem l_135_121 : look (tab 135) 121 = some (.aload_n 0, 1, [], uu) := by decide +kernel
theorem e_135_121 : den cf 135 121 [.ref a] st M = den cf 135 122 [.ref a] (.ref a :: st) M := den_go l_135_121 rfl
theorem l_135_122 : look (tab 135) 122 = some (.bipush 12, 2, [], .int (zI 12)) := by decide +kernel
theorem e_135_122 : den cf 135 122 L st M = den cf 135 124 L (.int (zI 12) :: st) M := den_go l_135_122 rfl
theorem l_135_124 : look (tab 135) 124 = some (.newarray .int, 2, [32], uu) := by decide +kernel
theorem e_135_124 : den cf 135 124 L (.int x :: st) M = if M.1 < 600000 ∧ 0 ≤ x.toInt ∧ x.toInt < 100000 then den cf 135 126 L (.ref M.1 :: st) (mN M x.toNatClampNeg (nwA 0 x.toNatClampNeg)) else none := den_g l_135_124 rfl
theorem l_135_126 : look (tab 135) 126 = some (.putfield 55, 3, [6, 16, 2, 94, 1], uu) := by decide +kernel
theorem e_135_126 : den cf 135 126 L (v :: .ref a :: st) M = if okv 2 v = true then oK (pfA (M.2.2 a) 6 16 v) (fun c => den cf 135 129 L st (mU M a c)) else none := den_pf l_135_126
theorem l_135_129 : look (tab 135) 129 = some (.aload_n 0, 1, [], uu) := by decide +kernel
theorem e_135_129 : den cf 135 129 [.ref a] st M = den cf 135 130 [.ref a] (.ref a :: st) M := den_go l_135_129 rfl
theorem l_135_130 : look (tab 135) 130 = some (.bipush 12, 2, [], .int (zI 12)) := by decide +kernel
theorem e_135_130 : den cf 135 130 L st M = den cf 135 132 L (.int (zI 12) :: st) M := den_go l_135_130 rfl
theorem l_135_132 : look (tab 135) 132 = some (.newarray .int, 2, [32], uu) := by decide +kernel
theorem e_135_132 : den cf 135 132 L (.int x :: st) M = if M.1 < 600000 ∧ 0 ≤ x.toInt ∧ x.toInt < 100000 then den cf 135 134 L (.ref M.1 :: st) (mN M x.toNatClampNeg (nwA 0 x.toNatClampNeg)) else none := den_g l_135_132 rfl
theorem l_135_134 : look (tab 135) 134 = some (.putfield 58, 3, [6, 17, 2, 95, 1], uu) := by decide +kernel
theorem e_135_134 : den cf 135 134 L (v :: .ref a :: st) M = if okv 2 v = true then oK (pfA (M.2.2 a) 6 17 v) (fun c => den cf 135 137 L st (mU M a c)) else none := den_pf l_135_134
theorem l_135_137 : look (tab 135) 137 = some (.aload_n 0, 1, [], uu) := by decide +kernel
theorem e_135_137 : den cf 135 137 [.ref a] st M = den cf 135 138 [.ref a] (.ref a :: st) M := den_go l_135_137 rfl
theorem l_135_138 : look (tab 135) 138 = some (.iconst 3, 1, [], .int (zI 3)) := by decide +kernel
theorem e_135_138 : den cf 135 138 L st M = den cf 135 139 L (.int (zI 3) :: st) M := den_go l_135_138 rfl
theorem l_135_139 : look (tab 135) 139 = some (.newarray .int, 2, [32], uu) := by decide +kernel
theorem e_135_139 : den cf 135 139 L (.int x :: st) M = if M.1 < 600000 ∧ 0 ≤ x.toInt ∧ x.toInt < 100000 then den cf 135 141 L (.ref M.1 :: st) (mN M x.toNatClampNeg (nwA 0 x.toNatClampNeg)) else none := den_g l_135_139 rfl
theorem l_135_141 : look (tab 135) 141 = some (.putfield 61, 3, [6, 18, 2, 96, 1], uu) := by decide +kernel
theorem e_135_141 : den cf 135 141 L (v :: .ref a :: st) M = if okv 2 v = true then oK (pfA (M.2.2 a) 6 18 v) (fun c => den cf 135 144 L st (mU M a c)) else none := den_pf l_135_141
theorem l_135_144 : look (tab 135) 144 = some (.aload_n 0, 1, [], uu) := by decide +kernel
theorem e_135_144 : den cf 135 144 [.ref a] st M = den cf 135 145 [.ref a] (.ref a :: st) M := den_go l_135_144 rfl
theorem l_135_145 : look (tab 135) 145 = some (.iconst 1, 1, [], .int (zI 1)) := by decide +kernel
theorem e_135_145 : den cf 135 145 L st M = den cf 135 146 L (.int (zI 1) :: st) M := den_go l_135_145 rfl
theorem l_135_146 : look (tab 135) 146 = some (.putfield 64, 3, [6, 20, 0, 97, 0], uu) := by decide +kernel
theorem e_135_146 : den cf 135 146 L (.int x :: .ref a :: st) M = oK (pfA (M.2.2 a) 6 20 (.int x)) (fun c => den cf 135 149 L st (mU M a c)) := den_pf0 l_135_146
theorem l_135_149 : look (tab 135) 149 = some (.aload_n 0, 1, [], uu) := by decide +kernel
theorem e_135_149 : den cf 135 149 [.ref a] st M = den cf 135 150 [.ref a] (.ref a :: st) M := den_go l_135_149 rfl
theorem l_135_150 : look (tab 135) 150 = some (.iconst 3, 1, [], .int (zI 3)) := by decide +kernel
theorem e_135_150 : den cf 135 150 L st M = den cf 135 151 L (.int (zI 3) :: st) M := den_go l_135_150 rfl
theorem l_135_151 : look (tab 135) 151 = some (.newarray .int, 2, [32], uu) := by decide +kernel
theorem e_135_151 : den cf 135 151 L (.int x :: st) M = if M.1 < 600000 ∧ 0 ≤ x.toInt ∧ x.toInt < 100000 then den cf 135 153 L (.ref M.1 :: st) (mN M x.toNatClampNeg (nwA 0 x.toNatClampNeg)) else none := den_g l_135_151 rfl
theorem l_135_153 : look (tab 135) 153 = some (.putfield 68, 3, [6, 28, 2, 98, 1], uu) := by decide +kernel
theorem e_135_153 : den cf 135 153 L (v :: .ref a :: st) M = if okv 2 v = true then oK (pfA (M.2.2 a) 6 28 v) (fun c => den cf 135 156 L st (mU M a c)) else none := den_pf l_135_153
theorem l_135_156 : look (tab 135) 156 = some (.aload_n 0, 1, [], uu) := by decide +kernel
theorem e_135_156 : den cf 135 156 [.ref a] st M = den cf 135 157 [.ref a] (.ref a :: st) M := den_go l_135_156 rfl
theorem l_135_157 : look (tab 135) 157 = some (.bipush 6, 2, [], .int (zI 6)) := by decide +kernel
theorem e_135_157 : den cf 135 157 L st M = den cf 135 159 L (.int (zI 6) :: st) M := den_go l_135_157 rfl
theorem l_135_159 : look (tab 135) 159 = some (.newarray .int, 2, [32], uu) := by decide +kernel
theorem e_135_159 : den cf 135 159 L (.int x :: st) M = if M.1 < 600000 ∧ 0 ≤ x.toInt ∧ x.toInt < 100000 then den cf 135 161 L (.ref M.1 :: st) (mN M x.toNatClampNeg (nwA 0 x.toNatClampNeg)) else none := den_g l_135_159 rfl
theorem l_135_161 : look (tab 135) 161 = some (.putfield 71, 3, [6, 30, 2, 99, 1], uu) := by decide +kernel
theorem e_135_161 : den cf 135 161 L (v :: .ref a :: st) M = if okv 2 v = true then oK (pfA (M.2.2 a) 6 30 v) (fun c => den cf 135 164 L st (mU M a c)) else none := den_pf l_135_161
theorem l_135_164 : look (tab 135) 164 = some (.aload_n 0, 1, [], uu) := by decide +kernel
theorem e_135_164 : den cf 135 164 [.ref a] st M = den cf 135 165 [.ref a] (.ref a :: st) M := den_go l_135_164 rfl
theorem l_135_165 : look (tab 135) 165 = some (.bipush 6, 2, [], .int (zI 6)) := by decide +kernel
theorem e_135_165 : den cf 135 165 L st M = den cf 135 167 L (.int (zI 6) :: st) M := den_go l_135_165 rfl
theorem l_135_167 : look (tab 135) 167 = some (.newarray .int, 2, [32], uu) := by decide +kernel
theorem e_135_167 : den cf 135 167 L (.int x :: st) M = if M.1 < 600000 ∧ 0 ≤ x.toInt ∧ x.toInt < 100000 then den cf 135 169 L (.ref M.1 :: st) (mN M x.toNatClampNeg (nwA 0 x.toNatClampNeg)) else none := den_g l_135_167 rfl
theorem l_135_169 : look (tab 135) 169 = some (.putfield 74, 3, [6, 32, 2, 100, 1], uu) := by decide +kernel
theorem e_135_169 : den cf 135 169 L (v :: .ref a :: st) M = if okv 2 v = true then oK (pfA (M.2.2 a) 6 32 v) (fun c => den cf 135 172 L st (mU M a c)) else none := den_pf l_135_169
theorem l_135_172 : look (tab 135) 172 = some (.aload_n 0, 1, [], uu) := by decide +kernel
theorem e_135_172 : den cf 135 172 [.ref a] st M = den cf 135 173 [.ref a] (.ref a :: st) M := den_go l_135_172 rfl
theorem l_135_173 : look (tab 135) 173 = some (.bipush 6, 2, [], .int (zI 6)) := by decide +kernel
theorem e_135_173 : den cf 135 173 L st M = den cf 135 175 L (.int (zI 6) :: st) M := den_go l_135_173 rfl
theorem l_135_175 : look (tab 135) 175 = some (.newarray .int, 2, [32], uu) := by decide +kernel
theorem e_135_175 : den cf 135 175 L (.int x :: st) M = if M.1 < 600000 ∧ 0 ≤ x.toInt ∧ x.toInt < 100000 then den cf 135 177 L (.ref M.1 :: st) (mN M x.toNatClampNeg (nwA 0 x.toNatClampNeg)) else none := den_g l_135_175 rfl
theorem l_135_177 : look (tab 135) 177 = some (.putfield 77, 3, [6, 33, 2, 101, 1], uu) := by decide +kernel
theorem e_135_177 : den cf 135 177 L (v :: .ref a :: st) M = if okv 2 v = true then oK (pfA (M.2.2 a) 6 33 v) (fun c => den cf 135 180 L st (mU M a c)) else none := den_pf l_135_177
theorem l_135_180 : look (tab 135) 180 = some (.aload_n 0, 1, [], uu) := by decide +kernel
theorem e_135_180 : den cf 135 180 [.ref a] st M = den cf 135 181 [.ref a] (.ref a :: st) M := den_go l_135_180 rfl
theorem l_135_181 : look (tab 135) 181 = some (.getfield 61, 3, [6, 18, 96], uu) := by decide +kernel
theorem e_135_181 : den cf 135 181 L (.ref a :: st) M = oK (gfA (M.2.2 a) 6 18) (fun v => den cf 135 184 L (v :: st) M) := den_gf l_135_181
theorem l_135_184 : look (tab 135) 184 = some (.iconst 0, 1, [], .int (zI 0)) := by decide +kernel
theorem e_135_184 : den cf 135 184 L st M = den cf 135 185 L (.int (zI 0) :: st) M := den_go l_135_184 rfl
theorem l_135_185 : look (tab 135) 185 = some (.iconst 1, 1, [], .int (zI 1)) := by decide +kernel
theorem e_135_185 : den cf 135 185 L st M = den cf 135 186 L (.int (zI 1) :: st) M := den_go l_135_185 rfl
theorem l_135_186 : look (tab 135) 186 = some (.iastore, 1, [], uu) := by decide +kernel
theorem e_135_186 : den cf 135 186 L (.int x :: .int y :: .ref a :: st) M = oK (stI (M.2.2 a) y x) (fun c => den cf 135 187 L st (mU M a c)) := den_is l_135_186
theorem l_135_187 : look (tab 135) 187 = some (.aload_n 0, 1, [], uu) := by decide +kernel
theorem e_135_187 : den cf 135 187 [.ref a] st M = den cf 135 188 [.ref a] (.ref a :: st) M := den_go l_135_187 rfl
theorem l_135_188 : look (tab 135) 188 = some (.getfield 61, 3, [6, 18, 96], uu) := by decide +kernel
theorem e_135_188 : den cf 135 188 L (.ref a :: st) M = oK (gfA (M.2.2 a) 6 18) (fun v => den cf 135 191 L (v :: st) M) := den_gf l_135_188
theorem l_135_191 : look (tab 135) 191 = some (.iconst 1, 1, [], .int (zI 1)) := by decide +kernel
theorem e_135_191 : den cf 135 191 L st M = den cf 135 192 L (.int (zI 1) :: st) M := den_go l_135_191 rfl
theorem l_135_192 : look (tab 135) 192 = some (.iconst 1, 1, [], .int (zI 1)) := by decide +kernel
theorem e_135_192 : den cf 135 192 L st M = den cf 135 193 L (.int (zI 1) :: st) M := den_go l_135_192 rfl
theorem l_135_193 : look (tab 135) 193 = some (.iastore, 1, [], uu) := by decide +kernel
theorem e_135_193 : den cf 135 193 L (.int x :: .int y :: .ref a :: st) M = oK (stI (M.2.2 a) y x) (fun c => den cf 135 194 L st (mU M a c)) := den_is l_135_193
theorem l_135_194 : look (tab 135) 194 = some (.return_, 1, [], uu) := by decide +kernel
theorem e_135_194 : den cf 135 194 L [] M = some (none, M) := den_e4 l_135_194
/-! yX6_refuse -/
theorem l_136_0 : look (tab 136) 0 = some (.aload_n 0, 1, [], uu) := by decide +kernel
theorem e_136_0 : den cf 136 0 [.ref a, v1] st M = den cf 136 1 [.ref a, v1] (.ref a :: st) M := den_go l_136_0 rfl
theorem l_136_1 : look (tab 136) 1 = some (.getfield 34, 3, [6, 8, 87], uu) := by decide +kernel
theorem e_136_1 : den cf 136 1 L (.ref a :: st) M = oK (gfA (M.2.2 a) 6 8) (fun v => den cf 136 4 L (v :: st) M) := den_gf l_136_1
theorem l_136_4 : look (tab 136) 4 = some (.iload_n 1, 1, [], uu) := by decide +kernel
theorem e_136_4 : den cf 136 4 [v0, .int x] st M = den cf 136 5 [v0, .int x] (.int x :: st) M := den_go l_136_4 rfl
theorem l_136_5 : look (tab 136) 5 = some (.ineg, 1, [], uu) := by decide +kernel
theorem e_136_5 : den cf 136 5 L (.int x :: st) M = den cf 136 6 L (.int (-x) :: st) M := den_go l_136_5 rfl
theorem l_136_6 : look (tab 136) 6 = some (.dup2, 1, [], uu) := by decide +kernel
theorem e_136_6 : den cf 136 6 L (.int x :: .ref a :: st) M = den cf 136 7 L (.int x :: .ref a :: .int x :: .ref a :: st) M := den_go l_136_6 rfl
theorem l_136_7 : look (tab 136) 7 = some (.iaload, 1, [], uu) := by decide +kernel
theorem e_136_7 : den cf 136 7 L (.int x :: .ref a :: st) M = oK (ldI (M.2.2 a) x) (fun v => den cf 136 8 L (v :: st) M) := den_al (g := ldI) l_136_7 rfl
theorem l_136_8 : look (tab 136) 8 = some (.iconst 1, 1, [], .int (zI 1)) := by decide +kernel
theorem e_136_8 : den cf 136 8 L st M = den cf 136 9 L (.int (zI 1) :: st) M := den_go l_136_8 rfl
theorem l_136_9 : look (tab 136) 9 = some (.iadd, 1, [], uu) := by decide +kernel
theorem e_136_9 : den cf 136 9 L (.int y :: .int x :: st) M = den cf 136 10 L (.int (x + y) :: st) M := den_go l_136_9 rfl
theorem l_136_10 : look (tab 136) 10 = some (.iastore, 1, [], uu) := by decide +kernel
theorem e_136_10 : den cf 136 10 L (.int x :: .int y :: .ref a :: st) M = oK (stI (M.2.2 a) y x) (fun c => den cf 136 11 L st (mU M a c)) := den_is l_136_10
theorem l_136_11 : look (tab 136) 11 = some (.iload_n 1, 1, [], uu) := by decide +kernel
theorem e_136_11 : den cf 136 11 [v0, .int x] st M = den cf 136 12 [v0, .int x] (.int x :: st) M := den_go l_136_11 rfl
theorem l_136_12 : look (tab 136) 12 = some (.ireturn, 1, [0], uu) := by decide +kernel
theorem e_136_12 : den cf 136 12 L [.int x] M = some (some (.int x), M) := den_e0 l_136_12
/-! yX6_in -/
theorem l_137_0 : look (tab 137) 0 = some (.lload_n 0, 1, [], uu) := by decide +kernel
theorem e_137_0 : den cf 137 0 [.long p, v1, v2, v3, v4, v5] st M = den cf 137 1 [.long p, v1, v2, v3, v4, v5] (.long p :: st) M := den_go l_137_0 rfl
theorem l_137_1 : look (tab 137) 1 = some (.lload_n 2, 1, [], uu) := by decide +kernel
theorem e_137_1 : den cf 137 1 [v0, v1, .long p, v3, v4, v5] st M = den cf 137 2 [v0, v1, .long p, v3, v4, v5] (.long p :: st) M := den_go l_137_1 rfl
theorem l_137_2 : look (tab 137) 2 = some (.lcmp, 1, [], uu) := by decide +kernel
theorem e_137_2 : den cf 137 2 L (.long q :: .long p :: st) M = den cf 137 3 L (.int (lg_cmp p q) :: st) M := den_go l_137_2 rfl
theorem l_137_3 : look (tab 137) 3 = some (.ifCond .lt 14, 3, [17], uu) := by decide +kernel
theorem e_137_3 : den cf 137 3 L (.int x :: st) M = if x < zI 0 then den cf 137 17 L st M else den cf 137 6 L st M := den_if_lt l_137_3
theorem l_137_6 : look (tab 137) 6 = some (.lload_n 0, 1, [], uu) := by decide +kernel
theorem e_137_6 : den cf 137 6 [.long p, v1, v2, v3, v4, v5] st M = den cf 137 7 [.long p, v1, v2, v3, v4, v5] (.long p :: st) M := den_go l_137_6 rfl
theorem l_137_7 : look (tab 137) 7 = some (.lload 4, 2, [], uu) := by decide +kernel
theorem e_137_7 : den cf 137 7 [v0, v1, v2, v3, .long p, v5] st M = den cf 137 9 [v0, v1, v2, v3, .long p, v5] (.long p :: st) M := den_go l_137_7 rfl
theorem l_137_9 : look (tab 137) 9 = some (.lcmp, 1, [], uu) := by decide +kernel
theorem e_137_9 : den cf 137 9 L (.long q :: .long p :: st) M = den cf 137 10 L (.int (lg_cmp p q) :: st) M := den_go l_137_9 rfl
theorem l_137_10 : look (tab 137) 10 = some (.ifCond .gt 7, 3, [17], uu) := by decide +kernel
theorem e_137_10 : den cf 137 10 L (.int x :: st) M = if zI 0 < x then den cf 137 17 L st M else den cf 137 13 L st M := den_if_gt l_137_10
theorem l_137_13 : look (tab 137) 13 = some (.iconst 1, 1, [], .int (zI 1)) := by decide +kernel
theorem e_137_13 : den cf 137 13 L st M = den cf 137 14 L (.int (zI 1) :: st) M := den_go l_137_13 rfl
theorem l_137_14 : look (tab 137) 14 = some (.goto 4, 3, [18], uu) := by decide +kernel
theorem e_137_14 : den cf 137 14 L st M = den cf 137 18 L st M := den_go l_137_14 rfl
theorem l_137_17 : look (tab 137) 17 = some (.iconst 0, 1, [], .int (zI 0)) := by decide +kernel
theorem e_137_17 : den cf 137 17 L st M = den cf 137 18 L (.int (zI 0) :: st) M := den_go l_137_17 rfl
theorem l_137_18 : look (tab 137) 18 = some (.ireturn, 1, [1], uu) := by decide +kernel
theorem e_137_18 : den cf 137 18 L [.int x] M = if x = zI 0 ∨ x = zI 1 then some (some (.int x), M) else none := den_e1 l_137_18
/-! yX6_isPupil -/
theorem l_138_0 : look (tab 138) 0 = some (.iload_n 1, 1, [], uu) := by decide +kernel
theorem e_138_0 : den cf 138 0 [v0, .int x] st M = den cf 138 1 [v0, .int x] (.int x :: st) M := den_go l_138_0 rfl
theorem l_138_1 : look (tab 138) 1 = some (.i2l, 1, [], uu) := by decide +kernel
theorem e_138_1 : den cf 138 1 L (.int x :: st) M = den cf 138 2 L (.long x.toInt64 :: st) M := den_go l_138_1 rfl
theorem l_138_2 : look (tab 138) 2 = some (.lconst 0, 1, [], .long (zJ 0)) := by decide +kernel
theorem e_138_2 : den cf 138 2 L st M = den cf 138 3 L (.long (zJ 0) :: st) M := den_go l_138_2 rfl
theorem l_138_3 : look (tab 138) 3 = some (.aload_n 0, 1, [], uu) := by decide +kernel
theorem e_138_3 : den cf 138 3 [.ref a, v1] st M = den cf 138 4 [.ref a, v1] (.ref a :: st) M := den_go l_138_3 rfl
theorem l_138_4 : look (tab 138) 4 = some (.getfield 80, 3, [6, 9, 230], uu) := by decide +kernel
theorem e_138_4 : den cf 138 4 L (.ref a :: st) M = oK (gfA (M.2.2 a) 6 9) (fun v => den cf 138 7 L (v :: st) M) := den_gf l_138_4
theorem l_138_7 : look (tab 138) 7 = some (.iconst 1, 1, [], .int (zI 1)) := by decide +kernel
theorem e_138_7 : den cf 138 7 L st M = den cf 138 8 L (.int (zI 1) :: st) M := den_go l_138_7 rfl
theorem l_138_8 : look (tab 138) 8 = some (.isub, 1, [], uu) := by decide +kernel
theorem e_138_8 : den cf 138 8 L (.int y :: .int x :: st) M = den cf 138 9 L (.int (x - y) :: st) M := den_go l_138_8 rfl
theorem l_138_9 : look (tab 138) 9 = some (.i2l, 1, [], uu) := by decide +kernel
theorem e_138_9 : den cf 138 9 L (.int x :: st) M = den cf 138 10 L (.long x.toInt64 :: st) M := den_go l_138_9 rfl
theorem l_138_10 : look (tab 138) 10 = some (.invokestatic 83, 3, [1, 137, 3, 130, 131, 5], uu) := by decide +kernel
theorem e_138_10 : den cf 138 10 L (w3 :: w2 :: w1 :: st) M = if st.length ≤ 4 then rK (cf 137 [w1, w2, w3] M) (fun v M' => den cf 138 13 L (pR v st) M') else none := den_ist [w1, w2, w3] l_138_10 rfl
theorem l_138_13 : look (tab 138) 13 = some (.ireturn, 1, [1], uu) := by decide +kernel
theorem e_138_13 : den cf 138 13 L [.int x] M = if x = zI 0 ∨ x = zI 1 then some (some (.int x), M) else none := den_e1 l_138_13
/-! yX6_bits -/
theorem l_139_0 : look (tab 139) 0 = some (.iconst 0, 1, [], .int (zI 0)) := by decide +kernel
theorem e_139_0 : den cf 139 0 L st M = den cf 139 1 L (.int (zI 0) :: st) M := den_go l_139_0 rfl
theorem l_139_1 : look (tab 139) 1 = some (.istore_n 1, 1, [], uu) := by decide +kernel
theorem e_139_1 : den cf 139 1 [v0, v1, v2] (.int x :: st) M = den cf 139 2 [kq v0, .int x, v2] st M := den_st (k := 1) (v := .int x) l_139_1 rfl
theorem l_139_2 : look (tab 139) 2 = some (.iload_n 0, 1, [], uu) := by decide +kernel
theorem e_139_2 : den cf 139 2 [.int x, v1, v2] st M = den cf 139 3 [.int x, v1, v2] (.int x :: st) M := den_go l_139_2 rfl
theorem l_139_3 : look (tab 139) 3 = some (.istore_n 2, 1, [], uu) := by decide +kernel
theorem e_139_3 : den cf 139 3 [v0, v1, v2] (.int x :: st) M = den cf 139 4 [v0, kq v1, .int x] st M := den_st (k := 2) (v := .int x) l_139_3 rfl
theorem l_139_4 : look (tab 139) 4 = some (.iload_n 2, 1, [], uu) := by decide +kernel
theorem e_139_4 : den cf 139 4 [v0, v1, .int x] st M = den cf 139 5 [v0, v1, .int x] (.int x :: st) M := den_go l_139_4 rfl
theorem l_139_5 : look (tab 139) 5 = some (.ifCond .eq 15, 3, [20], uu) := by decide +kernel
theorem e_139_5 : den cf 139 5 L (.int x :: st) M = if x = zI 0 then den cf 139 20 L st M else den cf 139 8 L st M := den_if_eq l_139_5
theorem l_139_8 : look (tab 139) 8 = some (.iinc 1 1, 3, [], .int (zI 1)) := by decide +kernel
theorem e_139_8 : den cf 139 8 [v0, .int x, v2] st M = den cf 139 11 [kq v0, .int (x + (zI 1)), v2] st M := den_st (k := 1) (v := .int (x + (zI 1))) l_139_8 rfl
theorem l_139_11 : look (tab 139) 11 = some (.iload_n 2, 1, [], uu) := by decide +kernel
theorem e_139_11 : den cf 139 11 [v0, v1, .int x] st M = den cf 139 12 [v0, v1, .int x] (.int x :: st) M := den_go l_139_11 rfl
theorem l_139_12 : look (tab 139) 12 = some (.iload_n 2, 1, [], uu) := by decide +kernel
theorem e_139_12 : den cf 139 12 [v0, v1, .int x] st M = den cf 139 13 [v0, v1, .int x] (.int x :: st) M := den_go l_139_12 rfl
theorem l_139_13 : look (tab 139) 13 = some (.iconst 1, 1, [], .int (zI 1)) := by decide +kernel
theorem e_139_13 : den cf 139 13 L st M = den cf 139 14 L (.int (zI 1) :: st) M := den_go l_139_13 rfl
theorem l_139_14 : look (tab 139) 14 = some (.isub, 1, [], uu) := by decide +kernel
theorem e_139_14 : den cf 139 14 L (.int y :: .int x :: st) M = den cf 139 15 L (.int (x - y) :: st) M := den_go l_139_14 rfl
theorem l_139_15 : look (tab 139) 15 = some (.iand, 1, [], uu) := by decide +kernel
theorem e_139_15 : den cf 139 15 L (.int y :: .int x :: st) M = den cf 139 16 L (.int (x &&& y) :: st) M := den_go l_139_15 rfl
theorem l_139_16 : look (tab 139) 16 = some (.istore_n 2, 1, [], uu) := by decide +kernel
theorem e_139_16 : den cf 139 16 [v0, v1, v2] (.int x :: st) M = den cf 139 17 [v0, kq v1, .int x] st M := den_st (k := 2) (v := .int x) l_139_16 rfl
theorem l_139_17 : look (tab 139) 17 = some (.goto (-13), 3, [4], uu) := by decide +kernel
theorem e_139_17 : den cf 139 17 L st M = den cf 139 4 L st M := den_go l_139_17 rfl
theorem l_139_20 : look (tab 139) 20 = some (.iload_n 1, 1, [], uu) := by decide +kernel
theorem e_139_20 : den cf 139 20 [v0, .int x, v2] st M = den cf 139 21 [v0, .int x, v2] (.int x :: st) M := den_go l_139_20 rfl
theorem l_139_21 : look (tab 139) 21 = some (.ireturn, 1, [0], uu) := by decide +kernel
theorem e_139_21 : den cf 139 21 L [.int x] M = some (some (.int x), M) := den_e0 l_139_21
/-! yX6_row -/
theorem l_140_0 : look (tab 140) 0 = some (.iload_n 1, 1, [], uu) := by decide +kernel
theorem e_140_0 : den cf 140 0 [v0, .int x, v2, v3, v4] st M = den cf 140 1 [v0, .int x, v2, v3, v4] (.int x :: st) M := den_go l_140_0 rfl
theorem l_140_1 : look (tab 140) 1 = some (.i2l, 1, [], uu) := by decide +kernel
theorem e_140_1 : den cf 140 1 L (.int x :: st) M = den cf 140 2 L (.long x.toInt64 :: st) M := den_go l_140_1 rfl
theorem l_140_2 : look (tab 140) 2 = some (.lconst 0, 1, [], .long (zJ 0)) := by decide +kernel
theorem e_140_2 : den cf 140 2 L st M = den cf 140 3 L (.long (zJ 0) :: st) M := den_go l_140_2 rfl
theorem l_140_3 : look (tab 140) 3 = some (.ldc2_w 87, 3, [127], .long (zJ 7)) := by decide +kernel
theorem e_140_3 : den cf 140 3 L st M = den cf 140 6 L (.long (zJ 7) :: st) M := den_go l_140_3 rfl
theorem l_140_6 : look (tab 140) 6 = some (.invokestatic 83, 3, [1, 137, 3, 130, 131, 5], uu) := by decide +kernel
theorem e_140_6 : den cf 140 6 L (w3 :: w2 :: w1 :: st) M = if st.length ≤ 4 then rK (cf 137 [w1, w2, w3] M) (fun v M' => den cf 140 9 L (pR v st) M') else none := den_ist [w1, w2, w3] l_140_6 rfl
theorem l_140_9 : look (tab 140) 9 = some (.ifCond .eq 27, 3, [36], uu) := by decide +kernel
theorem e_140_9 : den cf 140 9 L (.int x :: st) M = if x = zI 0 then den cf 140 36 L st M else den cf 140 12 L st M := den_if_eq l_140_9
theorem l_140_12 : look (tab 140) 12 = some (.iload_n 2, 1, [], uu) := by decide +kernel
theorem e_140_12 : den cf 140 12 [v0, v1, .int x, v3, v4] st M = den cf 140 13 [v0, v1, .int x, v3, v4] (.int x :: st) M := den_go l_140_12 rfl
theorem l_140_13 : look (tab 140) 13 = some (.i2l, 1, [], uu) := by decide +kernel
theorem e_140_13 : den cf 140 13 L (.int x :: st) M = den cf 140 14 L (.long x.toInt64 :: st) M := den_go l_140_13 rfl
theorem l_140_14 : look (tab 140) 14 = some (.lconst 0, 1, [], .long (zJ 0)) := by decide +kernel
theorem e_140_14 : den cf 140 14 L st M = den cf 140 15 L (.long (zJ 0) :: st) M := den_go l_140_14 rfl
theorem l_140_15 : look (tab 140) 15 = some (.ldc2_w 89, 3, [128], .long (zJ 4)) := by decide +kernel
theorem e_140_15 : den cf 140 15 L st M = den cf 140 18 L (.long (zJ 4) :: st) M := den_go l_140_15 rfl
theorem l_140_18 : look (tab 140) 18 = some (.invokestatic 83, 3, [1, 137, 3, 130, 131, 5], uu) := by decide +kernel
theorem e_140_18 : den cf 140 18 L (w3 :: w2 :: w1 :: st) M = if st.length ≤ 4 then rK (cf 137 [w1, w2, w3] M) (fun v M' => den cf 140 21 L (pR v st) M') else none := den_ist [w1, w2, w3] l_140_18 rfl
theorem l_140_21 : look (tab 140) 21 = some (.ifCond .eq 15, 3, [36], uu) := by decide +kernel
theorem e_140_21 : den cf 140 21 L (.int x :: st) M = if x = zI 0 then den cf 140 36 L st M else den cf 140 24 L st M := den_if_eq l_140_21
theorem l_140_24 : look (tab 140) 24 = some (.iload_n 3, 1, [], uu) := by decide +kernel
theorem e_140_24 : den cf 140 24 [v0, v1, v2, .int x, v4] st M = den cf 140 25 [v0, v1, v2, .int x, v4] (.int x :: st) M := den_go l_140_24 rfl
theorem l_140_25 : look (tab 140) 25 = some (.i2l, 1, [], uu) := by decide +kernel
theorem e_140_25 : den cf 140 25 L (.int x :: st) M = den cf 140 26 L (.long x.toInt64 :: st) M := den_go l_140_25 rfl
theorem l_140_26 : look (tab 140) 26 = some (.lconst 0, 1, [], .long (zJ 0)) := by decide +kernel
theorem e_140_26 : den cf 140 26 L st M = den cf 140 27 L (.long (zJ 0) :: st) M := den_go l_140_26 rfl
theorem l_140_27 : look (tab 140) 27 = some (.ldc2_w 91, 3, [129], .long (zJ 40)) := by decide +kernel
theorem e_140_27 : den cf 140 27 L st M = den cf 140 30 L (.long (zJ 40) :: st) M := den_go l_140_27 rfl
theorem l_140_30 : look (tab 140) 30 = some (.invokestatic 83, 3, [1, 137, 3, 130, 131, 5], uu) := by decide +kernel
theorem e_140_30 : den cf 140 30 L (w3 :: w2 :: w1 :: st) M = if st.length ≤ 4 then rK (cf 137 [w1, w2, w3] M) (fun v M' => den cf 140 33 L (pR v st) M') else none := den_ist [w1, w2, w3] l_140_30 rfl
theorem l_140_33 : look (tab 140) 33 = some (.ifCond .ne 10, 3, [43], uu) := by decide +kernel
theorem e_140_33 : den cf 140 33 L (.int x :: st) M = if x = zI 0 then den cf 140 36 L st M else den cf 140 43 L st M := den_if_ne l_140_33
theorem l_140_36 : look (tab 140) 36 = some (.aload_n 0, 1, [], uu) := by decide +kernel
theorem e_140_36 : den cf 140 36 [.ref a, v1, v2, v3, v4] st M = den cf 140 37 [.ref a, v1, v2, v3, v4] (.ref a :: st) M := den_go l_140_36 rfl
theorem l_140_37 : look (tab 140) 37 = some (.bipush (-2), 2, [], .int (zI (-2))) := by decide +kernel
theorem e_140_37 : den cf 140 37 L st M = den cf 140 39 L (.int (zI (-2)) :: st) M := den_go l_140_37 rfl
theorem l_140_39 : look (tab 140) 39 = some (.invokevirtual 93, 3, [6, 136, 2, 133, 134, 135, 5], uu) := by decide +kernel
theorem e_140_39 : den cf 140 39 L (w1 :: .ref a :: st) M = if rcv M 6 [.ref a, w1] = true ∧ st.length ≤ 4 then rK (cf 136 [.ref a, w1] M) (fun v M' => den cf 140 42 L (pR v st) M') else none := den_iv [w1] l_140_39 rfl
theorem l_140_42 : look (tab 140) 42 = some (.ireturn, 1, [0], uu) := by decide +kernel
theorem e_140_42 : den cf 140 42 L [.int x] M = some (some (.int x), M) := den_e0 l_140_42
theorem l_140_43 : look (tab 140) 43 = some (.aload_n 0, 1, [], uu) := by decide +kernel
theorem e_140_43 : den cf 140 43 [.ref a, v1, v2, v3, v4] st M = den cf 140 44 [.ref a, v1, v2, v3, v4] (.ref a :: st) M := den_go l_140_43 rfl
theorem l_140_44 : look (tab 140) 44 = some (.getfield 7, 3, [6, 0, 79], uu) := by decide +kernel
theorem e_140_44 : den cf 140 44 L (.ref a :: st) M = oK (gfA (M.2.2 a) 6 0) (fun v => den cf 140 47 L (v :: st) M) := den_gf l_140_44
theorem l_140_47 : look (tab 140) 47 = some (.iload_n 1, 1, [], uu) := by decide +kernel
theorem e_140_47 : den cf 140 47 [v0, .int x, v2, v3, v4] st M = den cf 140 48 [v0, .int x, v2, v3, v4] (.int x :: st) M := den_go l_140_47 rfl
theorem l_140_48 : look (tab 140) 48 = some (.iconst 1, 1, [], .int (zI 1)) := by decide +kernel
theorem e_140_48 : den cf 140 48 L st M = den cf 140 49 L (.int (zI 1) :: st) M := den_go l_140_48 rfl
theorem l_140_49 : look (tab 140) 49 = some (.iastore, 1, [], uu) := by decide +kernel
theorem e_140_49 : den cf 140 49 L (.int x :: .int y :: .ref a :: st) M = oK (stI (M.2.2 a) y x) (fun c => den cf 140 50 L st (mU M a c)) := den_is l_140_49
theorem l_140_50 : look (tab 140) 50 = some (.aload_n 0, 1, [], uu) := by decide +kernel
theorem e_140_50 : den cf 140 50 [.ref a, v1, v2, v3, v4] st M = den cf 140 51 [.ref a, v1, v2, v3, v4] (.ref a :: st) M := den_go l_140_50 rfl
theorem l_140_51 : look (tab 140) 51 = some (.getfield 13, 3, [6, 1, 80], uu) := by decide +kernel
theorem e_140_51 : den cf 140 51 L (.ref a :: st) M = oK (gfA (M.2.2 a) 6 1) (fun v => den cf 140 54 L (v :: st) M) := den_gf l_140_51
theorem l_140_54 : look (tab 140) 54 = some (.iload_n 1, 1, [], uu) := by decide +kernel
theorem e_140_54 : den cf 140 54 [v0, .int x, v2, v3, v4] st M = den cf 140 55 [v0, .int x, v2, v3, v4] (.int x :: st) M := den_go l_140_54 rfl
theorem l_140_55 : look (tab 140) 55 = some (.iload_n 2, 1, [], uu) := by decide +kernel
theorem e_140_55 : den cf 140 55 [v0, v1, .int x, v3, v4] st M = den cf 140 56 [v0, v1, .int x, v3, v4] (.int x :: st) M := den_go l_140_55 rfl
theorem l_140_56 : look (tab 140) 56 = some (.iastore, 1, [], uu) := by decide +kernel
theorem e_140_56 : den cf 140 56 L (.int x :: .int y :: .ref a :: st) M = oK (stI (M.2.2 a) y x) (fun c => den cf 140 57 L st (mU M a c)) := den_is l_140_56
theorem l_140_57 : look (tab 140) 57 = some (.aload_n 0, 1, [], uu) := by decide +kernel
theorem e_140_57 : den cf 140 57 [.ref a, v1, v2, v3, v4] st M = den cf 140 58 [.ref a, v1, v2, v3, v4] (.ref a :: st) M := den_go l_140_57 rfl
theorem l_140_58 : look (tab 140) 58 = some (.getfield 16, 3, [6, 2, 81], uu) := by decide +kernel
theorem e_140_58 : den cf 140 58 L (.ref a :: st) M = oK (gfA (M.2.2 a) 6 2) (fun v => den cf 140 61 L (v :: st) M) := den_gf l_140_58
theorem l_140_61 : look (tab 140) 61 = some (.iload_n 1, 1, [], uu) := by decide +kernel
theorem e_140_61 : den cf 140 61 [v0, .int x, v2, v3, v4] st M = den cf 140 62 [v0, .int x, v2, v3, v4] (.int x :: st) M := den_go l_140_61 rfl
theorem l_140_62 : look (tab 140) 62 = some (.iload_n 3, 1, [], uu) := by decide +kernel
theorem e_140_62 : den cf 140 62 [v0, v1, v2, .int x, v4] st M = den cf 140 63 [v0, v1, v2, .int x, v4] (.int x :: st) M := den_go l_140_62 rfl
theorem l_140_63 : look (tab 140) 63 = some (.iastore, 1, [], uu) := by decide +kernel
theorem e_140_63 : den cf 140 63 L (.int x :: .int y :: .ref a :: st) M = oK (stI (M.2.2 a) y x) (fun c => den cf 140 64 L st (mU M a c)) := den_is l_140_63
theorem l_140_64 : look (tab 140) 64 = some (.iconst 0, 1, [], .int (zI 0)) := by decide +kernel
theorem e_140_64 : den cf 140 64 L st M = den cf 140 65 L (.int (zI 0) :: st) M := den_go l_140_64 rfl
theorem l_140_65 : look (tab 140) 65 = some (.istore 4, 2, [], uu) := by decide +kernel
theorem e_140_65 : den cf 140 65 [v0, v1, v2, v3, v4] (.int x :: st) M = den cf 140 67 [v0, v1, v2, kq v3, .int x] st M := den_st (k := 4) (v := .int x) l_140_65 rfl
theorem l_140_67 : look (tab 140) 67 = some (.iload 4, 2, [], uu) := by decide +kernel
theorem e_140_67 : den cf 140 67 [v0, v1, v2, v3, .int x] st M = den cf 140 69 [v0, v1, v2, v3, .int x] (.int x :: st) M := den_go l_140_67 rfl
theorem l_140_69 : look (tab 140) 69 = some (.bipush 40, 2, [], .int (zI 40)) := by decide +kernel
theorem e_140_69 : den cf 140 69 L st M = den cf 140 71 L (.int (zI 40) :: st) M := den_go l_140_69 rfl
theorem l_140_71 : look (tab 140) 71 = some (.if_icmp .ge 19, 3, [90], uu) := by decide +kernel
theorem e_140_71 : den cf 140 71 L (.int y :: .int x :: st) M = if x < y then den cf 140 74 L st M else den cf 140 90 L st M := den_ic_ge l_140_71
theorem l_140_74 : look (tab 140) 74 = some (.aload_n 0, 1, [], uu) := by decide +kernel
theorem e_140_74 : den cf 140 74 [.ref a, v1, v2, v3, v4] st M = den cf 140 75 [.ref a, v1, v2, v3, v4] (.ref a :: st) M := den_go l_140_74 rfl
theorem l_140_75 : look (tab 140) 75 = some (.getfield 21, 3, [6, 3, 83], uu) := by decide +kernel
theorem e_140_75 : den cf 140 75 L (.ref a :: st) M = oK (gfA (M.2.2 a) 6 3) (fun v => den cf 140 78 L (v :: st) M) := den_gf l_140_75
theorem l_140_78 : look (tab 140) 78 = some (.iload_n 1, 1, [], uu) := by decide +kernel
theorem e_140_78 : den cf 140 78 [v0, .int x, v2, v3, v4] st M = den cf 140 79 [v0, .int x, v2, v3, v4] (.int x :: st) M := den_go l_140_78 rfl
theorem l_140_79 : look (tab 140) 79 = some (.aaload, 1, [], uu) := by decide +kernel
theorem e_140_79 : den cf 140 79 L (.int x :: .ref a :: st) M = oK (ldQ (M.2.2 a) x) (fun v => den cf 140 80 L (v :: st) M) := den_al (g := ldQ) l_140_79 rfl
theorem l_140_80 : look (tab 140) 80 = some (.iload 4, 2, [], uu) := by decide +kernel
theorem e_140_80 : den cf 140 80 [v0, v1, v2, v3, .int x] st M = den cf 140 82 [v0, v1, v2, v3, .int x] (.int x :: st) M := den_go l_140_80 rfl
theorem l_140_82 : look (tab 140) 82 = some (.lconst 0, 1, [], .long (zJ 0)) := by decide +kernel
theorem e_140_82 : den cf 140 82 L st M = den cf 140 83 L (.long (zJ 0) :: st) M := den_go l_140_82 rfl
theorem l_140_83 : look (tab 140) 83 = some (.lastore, 1, [], uu) := by decide +kernel
theorem e_140_83 : den cf 140 83 L (.long p :: .int y :: .ref a :: st) M = oK (stJ (M.2.2 a) y p) (fun c => den cf 140 84 L st (mU M a c)) := den_js l_140_83
theorem l_140_84 : look (tab 140) 84 = some (.iinc 4 1, 3, [], .int (zI 1)) := by decide +kernel
theorem e_140_84 : den cf 140 84 [v0, v1, v2, v3, .int x] st M = den cf 140 87 [v0, v1, v2, kq v3, .int (x + (zI 1))] st M := den_st (k := 4) (v := .int (x + (zI 1))) l_140_84 rfl
theorem l_140_87 : look (tab 140) 87 = some (.goto (-20), 3, [67], uu) := by decide +kernel
theorem e_140_87 : den cf 140 87 L st M = den cf 140 67 L st M := den_go l_140_87 rfl
theorem l_140_90 : look (tab 140) 90 = some (.iconst 1, 1, [], .int (zI 1)) := by decide +kernel
theorem e_140_90 : den cf 140 90 L st M = den cf 140 91 L (.int (zI 1) :: st) M := den_go l_140_90 rfl
theorem l_140_91 : look (tab 140) 91 = some (.ireturn, 1, [0], uu) := by decide +kernel
theorem e_140_91 : den cf 140 91 L [.int x] M = some (some (.int x), M) := den_e0 l_140_91
/-! yX6_fit -/
theorem l_141_0 : look (tab 141) 0 = some (.iload_n 0, 1, [], uu) := by decide +kernel
theorem e_141_0 : den cf 141 0 [.int x, v1, v2] st M = den cf 141 1 [.int x, v1, v2] (.int x :: st) M := den_go l_141_0 rfl
theorem l_141_1 : look (tab 141) 1 = some (.tableswitch 47 0 3 #[31, 36, 41, 45], 31, [48, 32, 37, 42, 46], uu) := by decide +kernel
theorem e_141_1 : den cf 141 1 L (.int x :: st) M = if x.toInt < 0 ∨ 3 < x.toInt then den cf 141 48 L st M else oK ([32, 37, 42, 46] : List Nat)[(x.toInt - 0).toNat]? (fun t => den cf 141 t L st M) := den_ts l_141_1
theorem l_141_32 : look (tab 141) 32 = some (.lload_n 1, 1, [], uu) := by decide +kernel
theorem e_141_32 : den cf 141 32 [v0, .long p, v2] st M = den cf 141 33 [v0, .long p, v2] (.long p :: st) M := den_go l_141_32 rfl
theorem l_141_33 : look (tab 141) 33 = some (.l2i, 1, [], uu) := by decide +kernel
theorem e_141_33 : den cf 141 33 L (.long p :: st) M = den cf 141 34 L (.int p.toInt32 :: st) M := den_go l_141_33 rfl
theorem l_141_34 : look (tab 141) 34 = some (.i2b, 1, [], uu) := by decide +kernel
theorem e_141_34 : den cf 141 34 L (.int x :: st) M = den cf 141 35 L (.int x.toInt8.toInt32 :: st) M := den_go l_141_34 rfl
theorem l_141_35 : look (tab 141) 35 = some (.i2l, 1, [], uu) := by decide +kernel
theorem e_141_35 : den cf 141 35 L (.int x :: st) M = den cf 141 36 L (.long x.toInt64 :: st) M := den_go l_141_35 rfl
theorem l_141_36 : look (tab 141) 36 = some (.lreturn, 1, [], uu) := by decide +kernel
theorem e_141_36 : den cf 141 36 L [.long p] M = some (some (.long p), M) := den_e2 l_141_36
theorem l_141_37 : look (tab 141) 37 = some (.lload_n 1, 1, [], uu) := by decide +kernel
theorem e_141_37 : den cf 141 37 [v0, .long p, v2] st M = den cf 141 38 [v0, .long p, v2] (.long p :: st) M := den_go l_141_37 rfl
theorem l_141_38 : look (tab 141) 38 = some (.l2i, 1, [], uu) := by decide +kernel
theorem e_141_38 : den cf 141 38 L (.long p :: st) M = den cf 141 39 L (.int p.toInt32 :: st) M := den_go l_141_38 rfl
theorem l_141_39 : look (tab 141) 39 = some (.i2s, 1, [], uu) := by decide +kernel
theorem e_141_39 : den cf 141 39 L (.int x :: st) M = den cf 141 40 L (.int x.toInt16.toInt32 :: st) M := den_go l_141_39 rfl
theorem l_141_40 : look (tab 141) 40 = some (.i2l, 1, [], uu) := by decide +kernel
theorem e_141_40 : den cf 141 40 L (.int x :: st) M = den cf 141 41 L (.long x.toInt64 :: st) M := den_go l_141_40 rfl
theorem l_141_41 : look (tab 141) 41 = some (.lreturn, 1, [], uu) := by decide +kernel
theorem e_141_41 : den cf 141 41 L [.long p] M = some (some (.long p), M) := den_e2 l_141_41
theorem l_141_42 : look (tab 141) 42 = some (.lload_n 1, 1, [], uu) := by decide +kernel
theorem e_141_42 : den cf 141 42 [v0, .long p, v2] st M = den cf 141 43 [v0, .long p, v2] (.long p :: st) M := den_go l_141_42 rfl
theorem l_141_43 : look (tab 141) 43 = some (.l2i, 1, [], uu) := by decide +kernel
theorem e_141_43 : den cf 141 43 L (.long p :: st) M = den cf 141 44 L (.int p.toInt32 :: st) M := den_go l_141_43 rfl
theorem l_141_44 : look (tab 141) 44 = some (.i2l, 1, [], uu) := by decide +kernel
theorem e_141_44 : den cf 141 44 L (.int x :: st) M = den cf 141 45 L (.long x.toInt64 :: st) M := den_go l_141_44 rfl
theorem l_141_45 : look (tab 141) 45 = some (.lreturn, 1, [], uu) := by decide +kernel
theorem e_141_45 : den cf 141 45 L [.long p] M = some (some (.long p), M) := den_e2 l_141_45
theorem l_141_46 : look (tab 141) 46 = some (.lload_n 1, 1, [], uu) := by decide +kernel
theorem e_141_46 : den cf 141 46 [v0, .long p, v2] st M = den cf 141 47 [v0, .long p, v2] (.long p :: st) M := den_go l_141_46 rfl
theorem l_141_47 : look (tab 141) 47 = some (.lreturn, 1, [], uu) := by decide +kernel
theorem e_141_47 : den cf 141 47 L [.long p] M = some (some (.long p), M) := den_e2 l_141_47
theorem l_141_48 : look (tab 141) 48 = some (.lload_n 1, 1, [], uu) := by decide +kernel
theorem e_141_48 : den cf 141 48 [v0, .long p, v2] st M = den cf 141 49 [v0, .long p, v2] (.long p :: st) M := den_go l_141_48 rfl
theorem l_141_49 : look (tab 141) 49 = some (.lconst 0, 1, [], .long (zJ 0)) := by decide +kernel
theorem e_141_49 : den cf 141 49 L st M = den cf 141 50 L (.long (zJ 0) :: st) M := den_go l_141_49 rfl
theorem l_141_50 : look (tab 141) 50 = some (.lcmp, 1, [], uu) := by decide +kernel
theorem e_141_50 : den cf 141 50 L (.long q :: .long p :: st) M = den cf 141 51 L (.int (lg_cmp p q) :: st) M := den_go l_141_50 rfl
theorem l_141_51 : look (tab 141) 51 = some (.ifCond .eq 7, 3, [58], uu) := by decide +kernel
theorem e_141_51 : den cf 141 51 L (.int x :: st) M = if x = zI 0 then den cf 141 58 L st M else den cf 141 54 L st M := den_if_eq l_141_51
theorem l_141_54 : look (tab 141) 54 = some (.lconst 1, 1, [], .long (zJ 1)) := by decide +kernel
theorem e_141_54 : den cf 141 54 L st M = den cf 141 55 L (.long (zJ 1) :: st) M := den_go l_141_54 rfl
theorem l_141_55 : look (tab 141) 55 = some (.goto 4, 3, [59], uu) := by decide +kernel
theorem e_141_55 : den cf 141 55 L st M = den cf 141 59 L st M := den_go l_141_55 rfl
theorem l_141_58 : look (tab 141) 58 = some (.lconst 0, 1, [], .long (zJ 0)) := by decide +kernel
theorem e_141_58 : den cf 141 58 L st M = den cf 141 59 L (.long (zJ 0) :: st) M := den_go l_141_58 rfl
theorem l_141_59 : look (tab 141) 59 = some (.lreturn, 1, [], uu) := by decide +kernel
theorem e_141_59 : den cf 141 59 L [.long p] M = some (some (.long p), M) := den_e2 l_141_59
/-! yX6_noRow -/
theorem l_142_0 : look (tab 142) 0 = some (.iload_n 1, 1, [], uu) := by decide +kernel
theorem e_142_0 : den cf 142 0 [v0, .int x] st M = den cf 142 1 [v0, .int x] (.int x :: st) M := den_go l_142_0 rfl
theorem l_142_1 : look (tab 142) 1 = some (.i2l, 1, [], uu) := by decide +kernel
theorem e_142_1 : den cf 142 1 L (.int x :: st) M = den cf 142 2 L (.long x.toInt64 :: st) M := den_go l_142_1 rfl
theorem l_142_2 : look (tab 142) 2 = some (.lconst 0, 1, [], .long (zJ 0)) := by decide +kernel
theorem e_142_2 : den cf 142 2 L st M = den cf 142 3 L (.long (zJ 0) :: st) M := den_go l_142_2 rfl
theorem l_142_3 : look (tab 142) 3 = some (.ldc2_w 87, 3, [127], .long (zJ 7)) := by decide +kernel
theorem e_142_3 : den cf 142 3 L st M = den cf 142 6 L (.long (zJ 7) :: st) M := den_go l_142_3 rfl
theorem l_142_6 : look (tab 142) 6 = some (.invokestatic 83, 3, [1, 137, 3, 130, 131, 5], uu) := by decide +kernel
theorem e_142_6 : den cf 142 6 L (w3 :: w2 :: w1 :: st) M = if st.length ≤ 4 then rK (cf 137 [w1, w2, w3] M) (fun v M' => den cf 142 9 L (pR v st) M') else none := den_ist [w1, w2, w3] l_142_6 rfl
theorem l_142_9 : look (tab 142) 9 = some (.ifCond .ne 10, 3, [19], uu) := by decide +kernel
theorem e_142_9 : den cf 142 9 L (.int x :: st) M = if x = zI 0 then den cf 142 12 L st M else den cf 142 19 L st M := den_if_ne l_142_9
theorem l_142_12 : look (tab 142) 12 = some (.aload_n 0, 1, [], uu) := by decide +kernel
theorem e_142_12 : den cf 142 12 [.ref a, v1] st M = den cf 142 13 [.ref a, v1] (.ref a :: st) M := den_go l_142_12 rfl
theorem l_142_13 : look (tab 142) 13 = some (.bipush (-2), 2, [], .int (zI (-2))) := by decide +kernel
theorem e_142_13 : den cf 142 13 L st M = den cf 142 15 L (.int (zI (-2)) :: st) M := den_go l_142_13 rfl
theorem l_142_15 : look (tab 142) 15 = some (.invokevirtual 93, 3, [6, 136, 2, 133, 134, 135, 5], uu) := by decide +kernel
theorem e_142_15 : den cf 142 15 L (w1 :: .ref a :: st) M = if rcv M 6 [.ref a, w1] = true ∧ st.length ≤ 4 then rK (cf 136 [.ref a, w1] M) (fun v M' => den cf 142 18 L (pR v st) M') else none := den_iv [w1] l_142_15 rfl
theorem l_142_18 : look (tab 142) 18 = some (.ireturn, 1, [0], uu) := by decide +kernel
theorem e_142_18 : den cf 142 18 L [.int x] M = some (some (.int x), M) := den_e0 l_142_18
theorem l_142_19 : look (tab 142) 19 = some (.aload_n 0, 1, [], uu) := by decide +kernel
theorem e_142_19 : den cf 142 19 [.ref a, v1] st M = den cf 142 20 [.ref a, v1] (.ref a :: st) M := den_go l_142_19 rfl
theorem l_142_20 : look (tab 142) 20 = some (.getfield 7, 3, [6, 0, 79], uu) := by decide +kernel
theorem e_142_20 : den cf 142 20 L (.ref a :: st) M = oK (gfA (M.2.2 a) 6 0) (fun v => den cf 142 23 L (v :: st) M) := den_gf l_142_20
theorem l_142_23 : look (tab 142) 23 = some (.iload_n 1, 1, [], uu) := by decide +kernel
theorem e_142_23 : den cf 142 23 [v0, .int x] st M = den cf 142 24 [v0, .int x] (.int x :: st) M := den_go l_142_23 rfl
theorem l_142_24 : look (tab 142) 24 = some (.iaload, 1, [], uu) := by decide +kernel
theorem e_142_24 : den cf 142 24 L (.int x :: .ref a :: st) M = oK (ldI (M.2.2 a) x) (fun v => den cf 142 25 L (v :: st) M) := den_al (g := ldI) l_142_24 rfl
theorem l_142_25 : look (tab 142) 25 = some (.iconst 2, 1, [], .int (zI 2)) := by decide +kernel
theorem e_142_25 : den cf 142 25 L st M = den cf 142 26 L (.int (zI 2) :: st) M := den_go l_142_25 rfl
theorem l_142_26 : look (tab 142) 26 = some (.if_icmp .ne 10, 3, [36], uu) := by decide +kernel
theorem e_142_26 : den cf 142 26 L (.int y :: .int x :: st) M = if x = y then den cf 142 29 L st M else den cf 142 36 L st M := den_ic_ne l_142_26
theorem l_142_29 : look (tab 142) 29 = some (.aload_n 0, 1, [], uu) := by decide +kernel
theorem e_142_29 : den cf 142 29 [.ref a, v1] st M = den cf 142 30 [.ref a, v1] (.ref a :: st) M := den_go l_142_29 rfl
theorem l_142_30 : look (tab 142) 30 = some (.bipush (-3), 2, [], .int (zI (-3))) := by decide +kernel
theorem e_142_30 : den cf 142 30 L st M = den cf 142 32 L (.int (zI (-3)) :: st) M := den_go l_142_30 rfl
theorem l_142_32 : look (tab 142) 32 = some (.invokevirtual 93, 3, [6, 136, 2, 133, 134, 135, 5], uu) := by decide +kernel
theorem e_142_32 : den cf 142 32 L (w1 :: .ref a :: st) M = if rcv M 6 [.ref a, w1] = true ∧ st.length ≤ 4 then rK (cf 136 [.ref a, w1] M) (fun v M' => den cf 142 35 L (pR v st) M') else none := den_iv [w1] l_142_32 rfl
theorem l_142_35 : look (tab 142) 35 = some (.ireturn, 1, [0], uu) := by decide +kernel
theorem e_142_35 : den cf 142 35 L [.int x] M = some (some (.int x), M) := den_e0 l_142_35
theorem l_142_36 : look (tab 142) 36 = some (.aload_n 0, 1, [], uu) := by decide +kernel
theorem e_142_36 : den cf 142 36 [.ref a, v1] st M = den cf 142 37 [.ref a, v1] (.ref a :: st) M := den_go l_142_36 rfl
theorem l_142_37 : look (tab 142) 37 = some (.getfield 7, 3, [6, 0, 79], uu) := by decide +kernel
theorem e_142_37 : den cf 142 37 L (.ref a :: st) M = oK (gfA (M.2.2 a) 6 0) (fun v => den cf 142 40 L (v :: st) M) := den_gf l_142_37
theorem l_142_40 : look (tab 142) 40 = some (.iload_n 1, 1, [], uu) := by decide +kernel
theorem e_142_40 : den cf 142 40 [v0, .int x] st M = den cf 142 41 [v0, .int x] (.int x :: st) M := den_go l_142_40 rfl
theorem l_142_41 : look (tab 142) 41 = some (.iaload, 1, [], uu) := by decide +kernel
theorem e_142_41 : den cf 142 41 L (.int x :: .ref a :: st) M = oK (ldI (M.2.2 a) x) (fun v => den cf 142 42 L (v :: st) M) := den_al (g := ldI) l_142_41 rfl
theorem l_142_42 : look (tab 142) 42 = some (.ifCond .ne 12, 3, [54], uu) := by decide +kernel
theorem e_142_42 : den cf 142 42 L (.int x :: st) M = if x = zI 0 then den cf 142 45 L st M else den cf 142 54 L st M := den_if_ne l_142_42
theorem l_142_45 : look (tab 142) 45 = some (.aload_n 0, 1, [], uu) := by decide +kernel
theorem e_142_45 : den cf 142 45 [.ref a, v1] st M = den cf 142 46 [.ref a, v1] (.ref a :: st) M := den_go l_142_45 rfl
theorem l_142_46 : look (tab 142) 46 = some (.bipush (-4), 2, [], .int (zI (-4))) := by decide +kernel
theorem e_142_46 : den cf 142 46 L st M = den cf 142 48 L (.int (zI (-4)) :: st) M := den_go l_142_46 rfl
theorem l_142_48 : look (tab 142) 48 = some (.invokevirtual 93, 3, [6, 136, 2, 133, 134, 135, 5], uu) := by decide +kernel
theorem e_142_48 : den cf 142 48 L (w1 :: .ref a :: st) M = if rcv M 6 [.ref a, w1] = true ∧ st.length ≤ 4 then rK (cf 136 [.ref a, w1] M) (fun v M' => den cf 142 51 L (pR v st) M') else none := den_iv [w1] l_142_48 rfl
theorem l_142_51 : look (tab 142) 51 = some (.goto 4, 3, [55], uu) := by decide +kernel
theorem e_142_51 : den cf 142 51 L st M = den cf 142 55 L st M := den_go l_142_51 rfl
theorem l_142_54 : look (tab 142) 54 = some (.iconst 0, 1, [], .int (zI 0)) := by decide +kernel
theorem e_142_54 : den cf 142 54 L st M = den cf 142 55 L (.int (zI 0) :: st) M := den_go l_142_54 rfl
theorem l_142_55 : look (tab 142) 55 = some (.ireturn, 1, [0], uu) := by decide +kernel
theorem e_142_55 : den cf 142 55 L [.int x] M = some (some (.int x), M) := den_e0 l_142_55
/-! yX6_set -/
theorem l_143_0 : look (tab 143) 0 = some (.aload_n 0, 1, [], uu) := by decide +kernel
theorem e_143_0 : den cf 143 0 [.ref a, v1, v2, v3, v4, v5] st M = den cf 143 1 [.ref a, v1, v2, v3, v4, v5] (.ref a :: st) M := den_go l_143_0 rfl
theorem l_143_1 : look (tab 143) 1 = some (.iload_n 1, 1, [], uu) := by decide +kernel
theorem e_143_1 : den cf 143 1 [v0, .int x, v2, v3, v4, v5] st M = den cf 143 2 [v0, .int x, v2, v3, v4, v5] (.int x :: st) M := den_go l_143_1 rfl
theorem l_143_2 : look (tab 143) 2 = some (.invokevirtual 97, 3, [6, 142, 2, 159, 160, 161, 5], uu) := by decide +kernel
theorem e_143_2 : den cf 143 2 L (w1 :: .ref a :: st) M = if rcv M 6 [.ref a, w1] = true ∧ st.length ≤ 4 then rK (cf 142 [.ref a, w1] M) (fun v M' => den cf 143 5 L (pR v st) M') else none := den_iv [w1] l_143_2 rfl
theorem l_143_5 : look (tab 143) 5 = some (.istore 5, 2, [], uu) := by decide +kernel
theorem e_143_5 : den cf 143 5 [v0, v1, v2, v3, v4, v5] (.int x :: st) M = den cf 143 7 [v0, v1, v2, v3, kq v4, .int x] st M := den_st (k := 5) (v := .int x) l_143_5 rfl
theorem l_143_7 : look (tab 143) 7 = some (.iload 5, 2, [], uu) := by decide +kernel
theorem e_143_7 : den cf 143 7 [v0, v1, v2, v3, v4, .int x] st M = den cf 143 9 [v0, v1, v2, v3, v4, .int x] (.int x :: st) M := den_go l_143_7 rfl
theorem l_143_9 : look (tab 143) 9 = some (.ifCond .eq 6, 3, [15], uu) := by decide +kernel
theorem e_143_9 : den cf 143 9 L (.int x :: st) M = if x = zI 0 then den cf 143 15 L st M else den cf 143 12 L st M := den_if_eq l_143_9
theorem l_143_12 : look (tab 143) 12 = some (.iload 5, 2, [], uu) := by decide +kernel
theorem e_143_12 : den cf 143 12 [v0, v1, v2, v3, v4, .int x] st M = den cf 143 14 [v0, v1, v2, v3, v4, .int x] (.int x :: st) M := den_go l_143_12 rfl
theorem l_143_14 : look (tab 143) 14 = some (.ireturn, 1, [0], uu) := by decide +kernel
theorem e_143_14 : den cf 143 14 L [.int x] M = some (some (.int x), M) := den_e0 l_143_14
theorem l_143_15 : look (tab 143) 15 = some (.iload_n 2, 1, [], uu) := by decide +kernel
theorem e_143_15 : den cf 143 15 [v0, v1, .int x, v3, v4, v5] st M = den cf 143 16 [v0, v1, .int x, v3, v4, v5] (.int x :: st) M := den_go l_143_15 rfl
theorem l_143_16 : look (tab 143) 16 = some (.i2l, 1, [], uu) := by decide +kernel
theorem e_143_16 : den cf 143 16 L (.int x :: st) M = den cf 143 17 L (.long x.toInt64 :: st) M := den_go l_143_16 rfl
theorem l_143_17 : look (tab 143) 17 = some (.lconst 0, 1, [], .long (zJ 0)) := by decide +kernel
theorem e_143_17 : den cf 143 17 L st M = den cf 143 18 L (.long (zJ 0) :: st) M := den_go l_143_17 rfl
theorem l_143_18 : look (tab 143) 18 = some (.aload_n 0, 1, [], uu) := by decide +kernel
theorem e_143_18 : den cf 143 18 [.ref a, v1, v2, v3, v4, v5] st M = den cf 143 19 [.ref a, v1, v2, v3, v4, v5] (.ref a :: st) M := den_go l_143_18 rfl
theorem l_143_19 : look (tab 143) 19 = some (.getfield 16, 3, [6, 2, 81], uu) := by decide +kernel
theorem e_143_19 : den cf 143 19 L (.ref a :: st) M = oK (gfA (M.2.2 a) 6 2) (fun v => den cf 143 22 L (v :: st) M) := den_gf l_143_19
theorem l_143_22 : look (tab 143) 22 = some (.iload_n 1, 1, [], uu) := by decide +kernel
theorem e_143_22 : den cf 143 22 [v0, .int x, v2, v3, v4, v5] st M = den cf 143 23 [v0, .int x, v2, v3, v4, v5] (.int x :: st) M := den_go l_143_22 rfl
theorem l_143_23 : look (tab 143) 23 = some (.iaload, 1, [], uu) := by decide +kernel
theorem e_143_23 : den cf 143 23 L (.int x :: .ref a :: st) M = oK (ldI (M.2.2 a) x) (fun v => den cf 143 24 L (v :: st) M) := den_al (g := ldI) l_143_23 rfl
theorem l_143_24 : look (tab 143) 24 = some (.iconst 1, 1, [], .int (zI 1)) := by decide +kernel
theorem e_143_24 : den cf 143 24 L st M = den cf 143 25 L (.int (zI 1) :: st) M := den_go l_143_24 rfl
theorem l_143_25 : look (tab 143) 25 = some (.isub, 1, [], uu) := by decide +kernel
theorem e_143_25 : den cf 143 25 L (.int y :: .int x :: st) M = den cf 143 26 L (.int (x - y) :: st) M := den_go l_143_25 rfl
theorem l_143_26 : look (tab 143) 26 = some (.i2l, 1, [], uu) := by decide +kernel
theorem e_143_26 : den cf 143 26 L (.int x :: st) M = den cf 143 27 L (.long x.toInt64 :: st) M := den_go l_143_26 rfl
theorem l_143_27 : look (tab 143) 27 = some (.invokestatic 83, 3, [1, 137, 3, 130, 131, 5], uu) := by decide +kernel
theorem e_143_27 : den cf 143 27 L (w3 :: w2 :: w1 :: st) M = if st.length ≤ 4 then rK (cf 137 [w1, w2, w3] M) (fun v M' => den cf 143 30 L (pR v st) M') else none := den_ist [w1, w2, w3] l_143_27 rfl
theorem l_143_30 : look (tab 143) 30 = some (.ifCond .ne 10, 3, [40], uu) := by decide +kernel
theorem e_143_30 : den cf 143 30 L (.int x :: st) M = if x = zI 0 then den cf 143 33 L st M else den cf 143 40 L st M := den_if_ne l_143_30
theorem l_143_33 : look (tab 143) 33 = some (.aload_n 0, 1, [], uu) := by decide +kernel
theorem e_143_33 : den cf 143 33 [.ref a, v1, v2, v3, v4, v5] st M = den cf 143 34 [.ref a, v1, v2, v3, v4, v5] (.ref a :: st) M := den_go l_143_33 rfl
theorem l_143_34 : look (tab 143) 34 = some (.bipush (-2), 2, [], .int (zI (-2))) := by decide +kernel
theorem e_143_34 : den cf 143 34 L st M = den cf 143 36 L (.int (zI (-2)) :: st) M := den_go l_143_34 rfl
theorem l_143_36 : look (tab 143) 36 = some (.invokevirtual 93, 3, [6, 136, 2, 133, 134, 135, 5], uu) := by decide +kernel
theorem e_143_36 : den cf 143 36 L (w1 :: .ref a :: st) M = if rcv M 6 [.ref a, w1] = true ∧ st.length ≤ 4 then rK (cf 136 [.ref a, w1] M) (fun v M' => den cf 143 39 L (pR v st) M') else none := den_iv [w1] l_143_36 rfl
theorem l_143_39 : look (tab 143) 39 = some (.ireturn, 1, [0], uu) := by decide +kernel
theorem e_143_39 : den cf 143 39 L [.int x] M = some (some (.int x), M) := den_e0 l_143_39
theorem l_143_40 : look (tab 143) 40 = some (.aload_n 0, 1, [], uu) := by decide +kernel
theorem e_143_40 : den cf 143 40 [.ref a, v1, v2, v3, v4, v5] st M = den cf 143 41 [.ref a, v1, v2, v3, v4, v5] (.ref a :: st) M := den_go l_143_40 rfl
theorem l_143_41 : look (tab 143) 41 = some (.getfield 21, 3, [6, 3, 83], uu) := by decide +kernel
theorem e_143_41 : den cf 143 41 L (.ref a :: st) M = oK (gfA (M.2.2 a) 6 3) (fun v => den cf 143 44 L (v :: st) M) := den_gf l_143_41
theorem l_143_44 : look (tab 143) 44 = some (.iload_n 1, 1, [], uu) := by decide +kernel
theorem e_143_44 : den cf 143 44 [v0, .int x, v2, v3, v4, v5] st M = den cf 143 45 [v0, .int x, v2, v3, v4, v5] (.int x :: st) M := den_go l_143_44 rfl
theorem l_143_45 : look (tab 143) 45 = some (.aaload, 1, [], uu) := by decide +kernel
theorem e_143_45 : den cf 143 45 L (.int x :: .ref a :: st) M = oK (ldQ (M.2.2 a) x) (fun v => den cf 143 46 L (v :: st) M) := den_al (g := ldQ) l_143_45 rfl
theorem l_143_46 : look (tab 143) 46 = some (.iload_n 2, 1, [], uu) := by decide +kernel
theorem e_143_46 : den cf 143 46 [v0, v1, .int x, v3, v4, v5] st M = den cf 143 47 [v0, v1, .int x, v3, v4, v5] (.int x :: st) M := den_go l_143_46 rfl
theorem l_143_47 : look (tab 143) 47 = some (.aload_n 0, 1, [], uu) := by decide +kernel
theorem e_143_47 : den cf 143 47 [.ref a, v1, v2, v3, v4, v5] st M = den cf 143 48 [.ref a, v1, v2, v3, v4, v5] (.ref a :: st) M := den_go l_143_47 rfl
theorem l_143_48 : look (tab 143) 48 = some (.getfield 13, 3, [6, 1, 80], uu) := by decide +kernel
theorem e_143_48 : den cf 143 48 L (.ref a :: st) M = oK (gfA (M.2.2 a) 6 1) (fun v => den cf 143 51 L (v :: st) M) := den_gf l_143_48
theorem l_143_51 : look (tab 143) 51 = some (.iload_n 1, 1, [], uu) := by decide +kernel
theorem e_143_51 : den cf 143 51 [v0, .int x, v2, v3, v4, v5] st M = den cf 143 52 [v0, .int x, v2, v3, v4, v5] (.int x :: st) M := den_go l_143_51 rfl
theorem l_143_52 : look (tab 143) 52 = some (.iaload, 1, [], uu) := by decide +kernel
theorem e_143_52 : den cf 143 52 L (.int x :: .ref a :: st) M = oK (ldI (M.2.2 a) x) (fun v => den cf 143 53 L (v :: st) M) := den_al (g := ldI) l_143_52 rfl
theorem l_143_53 : look (tab 143) 53 = some (.lload_n 3, 1, [], uu) := by decide +kernel
theorem e_143_53 : den cf 143 53 [v0, v1, v2, .long p, v4, v5] st M = den cf 143 54 [v0, v1, v2, .long p, v4, v5] (.long p :: st) M := den_go l_143_53 rfl
theorem l_143_54 : look (tab 143) 54 = some (.invokestatic 100, 3, [1, 141, 2, 163, 164, 5], uu) := by decide +kernel
theorem e_143_54 : den cf 143 54 L (w2 :: w1 :: st) M = if st.length ≤ 4 then rK (cf 141 [w1, w2] M) (fun v M' => den cf 143 57 L (pR v st) M') else none := den_ist [w1, w2] l_143_54 rfl
theorem l_143_57 : look (tab 143) 57 = some (.lastore, 1, [], uu) := by decide +kernel
theorem e_143_57 : den cf 143 57 L (.long p :: .int y :: .ref a :: st) M = oK (stJ (M.2.2 a) y p) (fun c => den cf 143 58 L st (mU M a c)) := den_js l_143_57
theorem l_143_58 : look (tab 143) 58 = some (.iconst 1, 1, [], .int (zI 1)) := by decide +kernel
theorem e_143_58 : den cf 143 58 L st M = den cf 143 59 L (.int (zI 1) :: st) M := den_go l_143_58 rfl
theorem l_143_59 : look (tab 143) 59 = some (.ireturn, 1, [0], uu) := by decide +kernel
theorem e_143_59 : den cf 143 59 L [.int x] M = some (some (.int x), M) := den_e0 l_143_59
