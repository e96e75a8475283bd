variable {cf : Nat → List Value → AM → Option AR} {L st : List Value} {M : AM} {x y : Int32} {p q : Int64} {a b : Nat} {v w : Value} {o : Option Nat} {v0 v1 v2 v3 v4 v5 v6 v7 v8 v9 v10 v11 v12 v13 v14 v15 v16 v17 v18 v19 v20 w1 w2 w3 w4 w5 w6 : Value}
/-! yX6_paired -/
theorem l_193_0 : look (tab 193) 0 = some (.aload_n 0, 1, [], uu) := by decide +kernel
theorem e_193_0 : den cf 193 0 [.ref a, v1] st M = den cf 193 1 [.ref a, v1] (.ref a :: st) M := den_go l_193_0 rfl
theorem l_193_1 : look (tab 193) 1 = some (.invokevirtual 285, 3, [6, 192, 1, 789, 790, 791, 5], uu) := by decide +kernel
theorem e_193_1 : den cf 193 1 L (.ref a :: st) M = if rcv M 6 [.ref a] = true ∧ st.length ≤ 4 then rK (cf 192 [.ref a] M) (fun v M' => den cf 193 4 L (pR v st) M') else none := den_iv [] l_193_1 rfl
theorem l_193_4 : look (tab 193) 4 = some (.iload_n 1, 1, [], uu) := by decide +kernel
theorem e_193_4 : den cf 193 4 [v0, .int x] st M = den cf 193 5 [v0, .int x] (.int x :: st) M := den_go l_193_4 rfl
theorem l_193_5 : look (tab 193) 5 = some (.i2l, 1, [], uu) := by decide +kernel
theorem e_193_5 : den cf 193 5 L (.int x :: st) M = den cf 193 6 L (.long x.toInt64 :: st) M := den_go l_193_5 rfl
theorem l_193_6 : look (tab 193) 6 = some (.ldc2_w 288, 3, [786], .long (zJ (-1))) := by decide +kernel
theorem e_193_6 : den cf 193 6 L st M = den cf 193 9 L (.long (zJ (-1)) :: st) M := den_go l_193_6 rfl
theorem l_193_9 : look (tab 193) 9 = some (.aload_n 0, 1, [], uu) := by decide +kernel
theorem e_193_9 : den cf 193 9 [.ref a, v1] st M = den cf 193 10 [.ref a, v1] (.ref a :: st) M := den_go l_193_9 rfl
theorem l_193_10 : look (tab 193) 10 = some (.getfield 268, 3, [6, 31, 787], uu) := by decide +kernel
theorem e_193_10 : den cf 193 10 L (.ref a :: st) M = oK (gfA (M.2.2 a) 6 31) (fun v => den cf 193 13 L (v :: st) M) := den_gf l_193_10
theorem l_193_13 : look (tab 193) 13 = some (.iconst 1, 1, [], .int (zI 1)) := by decide +kernel
theorem e_193_13 : den cf 193 13 L st M = den cf 193 14 L (.int (zI 1) :: st) M := den_go l_193_13 rfl
theorem l_193_14 : look (tab 193) 14 = some (.isub, 1, [], uu) := by decide +kernel
theorem e_193_14 : den cf 193 14 L (.int y :: .int x :: st) M = den cf 193 15 L (.int (x - y) :: st) M := den_go l_193_14 rfl
theorem l_193_15 : look (tab 193) 15 = some (.i2l, 1, [], uu) := by decide +kernel
theorem e_193_15 : den cf 193 15 L (.int x :: st) M = den cf 193 16 L (.long x.toInt64 :: st) M := den_go l_193_15 rfl
theorem l_193_16 : look (tab 193) 16 = some (.invokestatic 83, 3, [1, 137, 3, 130, 131, 5], uu) := by decide +kernel
theorem e_193_16 : den cf 193 16 L (w3 :: w2 :: w1 :: st) M = if st.length ≤ 4 then rK (cf 137 [w1, w2, w3] M) (fun v M' => den cf 193 19 L (pR v st) M') else none := den_ist [w1, w2, w3] l_193_16 rfl
theorem l_193_19 : look (tab 193) 19 = some (.ifCond .ne 10, 3, [29], uu) := by decide +kernel
theorem e_193_19 : den cf 193 19 L (.int x :: st) M = if x = zI 0 then den cf 193 22 L st M else den cf 193 29 L st M := den_if_ne l_193_19
theorem l_193_22 : look (tab 193) 22 = some (.aload_n 0, 1, [], uu) := by decide +kernel
theorem e_193_22 : den cf 193 22 [.ref a, v1] st M = den cf 193 23 [.ref a, v1] (.ref a :: st) M := den_go l_193_22 rfl
theorem l_193_23 : look (tab 193) 23 = some (.bipush (-2), 2, [], .int (zI (-2))) := by decide +kernel
theorem e_193_23 : den cf 193 23 L st M = den cf 193 25 L (.int (zI (-2)) :: st) M := den_go l_193_23 rfl
theorem l_193_25 : look (tab 193) 25 = some (.invokevirtual 93, 3, [6, 136, 2, 133, 134, 135, 5], uu) := by decide +kernel
theorem e_193_25 : den cf 193 25 L (w1 :: .ref a :: st) M = if rcv M 6 [.ref a, w1] = true ∧ st.length ≤ 4 then rK (cf 136 [.ref a, w1] M) (fun v M' => den cf 193 28 L (pR v st) M') else none := den_iv [w1] l_193_25 rfl
theorem l_193_28 : look (tab 193) 28 = some (.ireturn, 1, [0], uu) := by decide +kernel
theorem e_193_28 : den cf 193 28 L [.int x] M = some (some (.int x), M) := den_e0 l_193_28
theorem l_193_29 : look (tab 193) 29 = some (.iload_n 1, 1, [], uu) := by decide +kernel
theorem e_193_29 : den cf 193 29 [v0, .int x] st M = den cf 193 30 [v0, .int x] (.int x :: st) M := den_go l_193_29 rfl
theorem l_193_30 : look (tab 193) 30 = some (.iconst (-1), 1, [], .int (zI (-1))) := by decide +kernel
theorem e_193_30 : den cf 193 30 L st M = den cf 193 31 L (.int (zI (-1)) :: st) M := den_go l_193_30 rfl
theorem l_193_31 : look (tab 193) 31 = some (.if_icmp .ne 10, 3, [41], uu) := by decide +kernel
theorem e_193_31 : den cf 193 31 L (.int y :: .int x :: st) M = if x = y then den cf 193 34 L st M else den cf 193 41 L st M := den_ic_ne l_193_31
theorem l_193_34 : look (tab 193) 34 = some (.aload_n 0, 1, [], uu) := by decide +kernel
theorem e_193_34 : den cf 193 34 [.ref a, v1] st M = den cf 193 35 [.ref a, v1] (.ref a :: st) M := den_go l_193_34 rfl
theorem l_193_35 : look (tab 193) 35 = some (.getfield 271, 3, [6, 34, 788], uu) := by decide +kernel
theorem e_193_35 : den cf 193 35 L (.ref a :: st) M = oK (gfA (M.2.2 a) 6 34) (fun v => den cf 193 38 L (v :: st) M) := den_gf l_193_35
theorem l_193_38 : look (tab 193) 38 = some (.goto 9, 3, [47], uu) := by decide +kernel
theorem e_193_38 : den cf 193 38 L st M = den cf 193 47 L st M := den_go l_193_38 rfl
theorem l_193_41 : look (tab 193) 41 = some (.aload_n 0, 1, [], uu) := by decide +kernel
theorem e_193_41 : den cf 193 41 [.ref a, v1] st M = den cf 193 42 [.ref a, v1] (.ref a :: st) M := den_go l_193_41 rfl
theorem l_193_42 : look (tab 193) 42 = some (.getfield 77, 3, [6, 33, 101], uu) := by decide +kernel
theorem e_193_42 : den cf 193 42 L (.ref a :: st) M = oK (gfA (M.2.2 a) 6 33) (fun v => den cf 193 45 L (v :: st) M) := den_gf l_193_42
theorem l_193_45 : look (tab 193) 45 = some (.iload_n 1, 1, [], uu) := by decide +kernel
theorem e_193_45 : den cf 193 45 [v0, .int x] st M = den cf 193 46 [v0, .int x] (.int x :: st) M := den_go l_193_45 rfl
theorem l_193_46 : look (tab 193) 46 = some (.iaload, 1, [], uu) := by decide +kernel
theorem e_193_46 : den cf 193 46 L (.int x :: .ref a :: st) M = oK (ldI (M.2.2 a) x) (fun v => den cf 193 47 L (v :: st) M) := den_al (g := ldI) l_193_46 rfl
theorem l_193_47 : look (tab 193) 47 = some (.ireturn, 1, [0], uu) := by decide +kernel
theorem e_193_47 : den cf 193 47 L [.int x] M = some (some (.int x), M) := den_e0 l_193_47
/-! yX6_without -/
theorem l_194_0 : look (tab 194) 0 = some (.iconst 0, 1, [], .int (zI 0)) := by decide +kernel
theorem e_194_0 : den cf 194 0 L st M = den cf 194 1 L (.int (zI 0) :: st) M := den_go l_194_0 rfl
theorem l_194_1 : look (tab 194) 1 = some (.istore_n 1, 1, [], uu) := by decide +kernel
theorem e_194_1 : den cf 194 1 [v0, v1, v2] (.int x :: st) M = den cf 194 2 [kq v0, .int x, v2] st M := den_st (k := 1) (v := .int x) l_194_1 rfl
theorem l_194_2 : look (tab 194) 2 = some (.iconst 0, 1, [], .int (zI 0)) := by decide +kernel
theorem e_194_2 : den cf 194 2 L st M = den cf 194 3 L (.int (zI 0) :: st) M := den_go l_194_2 rfl
theorem l_194_3 : look (tab 194) 3 = some (.istore_n 2, 1, [], uu) := by decide +kernel
theorem e_194_3 : den cf 194 3 [v0, v1, v2] (.int x :: st) M = den cf 194 4 [v0, kq v1, .int x] st M := den_st (k := 2) (v := .int x) l_194_3 rfl
theorem l_194_4 : look (tab 194) 4 = some (.iload_n 2, 1, [], uu) := by decide +kernel
theorem e_194_4 : den cf 194 4 [v0, v1, .int x] st M = den cf 194 5 [v0, v1, .int x] (.int x :: st) M := den_go l_194_4 rfl
theorem l_194_5 : look (tab 194) 5 = some (.aload_n 0, 1, [], uu) := by decide +kernel
theorem e_194_5 : den cf 194 5 [.ref a, v1, v2] st M = den cf 194 6 [.ref a, v1, v2] (.ref a :: st) M := den_go l_194_5 rfl
theorem l_194_6 : look (tab 194) 6 = some (.getfield 80, 3, [6, 9, 230], uu) := by decide +kernel
theorem e_194_6 : den cf 194 6 L (.ref a :: st) M = oK (gfA (M.2.2 a) 6 9) (fun v => den cf 194 9 L (v :: st) M) := den_gf l_194_6
theorem l_194_9 : look (tab 194) 9 = some (.if_icmp .ge 27, 3, [36], uu) := by decide +kernel
theorem e_194_9 : den cf 194 9 L (.int y :: .int x :: st) M = if x < y then den cf 194 12 L st M else den cf 194 36 L st M := den_ic_ge l_194_9
theorem l_194_12 : look (tab 194) 12 = some (.iload_n 1, 1, [], uu) := by decide +kernel
theorem e_194_12 : den cf 194 12 [v0, .int x, v2] st M = den cf 194 13 [v0, .int x, v2] (.int x :: st) M := den_go l_194_12 rfl
theorem l_194_13 : look (tab 194) 13 = some (.aload_n 0, 1, [], uu) := by decide +kernel
theorem e_194_13 : den cf 194 13 [.ref a, v1, v2] st M = den cf 194 14 [.ref a, v1, v2] (.ref a :: st) M := den_go l_194_13 rfl
theorem l_194_14 : look (tab 194) 14 = some (.getfield 49, 3, [6, 14, 92], uu) := by decide +kernel
theorem e_194_14 : den cf 194 14 L (.ref a :: st) M = oK (gfA (M.2.2 a) 6 14) (fun v => den cf 194 17 L (v :: st) M) := den_gf l_194_14
theorem l_194_17 : look (tab 194) 17 = some (.iload_n 2, 1, [], uu) := by decide +kernel
theorem e_194_17 : den cf 194 17 [v0, v1, .int x] st M = den cf 194 18 [v0, v1, .int x] (.int x :: st) M := den_go l_194_17 rfl
theorem l_194_18 : look (tab 194) 18 = some (.iaload, 1, [], uu) := by decide +kernel
theorem e_194_18 : den cf 194 18 L (.int x :: .ref a :: st) M = oK (ldI (M.2.2 a) x) (fun v => den cf 194 19 L (v :: st) M) := den_al (g := ldI) l_194_18 rfl
theorem l_194_19 : look (tab 194) 19 = some (.iconst (-1), 1, [], .int (zI (-1))) := by decide +kernel
theorem e_194_19 : den cf 194 19 L st M = den cf 194 20 L (.int (zI (-1)) :: st) M := den_go l_194_19 rfl
theorem l_194_20 : look (tab 194) 20 = some (.if_icmp .ne 7, 3, [27], uu) := by decide +kernel
theorem e_194_20 : den cf 194 20 L (.int y :: .int x :: st) M = if x = y then den cf 194 23 L st M else den cf 194 27 L st M := den_ic_ne l_194_20
theorem l_194_23 : look (tab 194) 23 = some (.iconst 1, 1, [], .int (zI 1)) := by decide +kernel
theorem e_194_23 : den cf 194 23 L st M = den cf 194 24 L (.int (zI 1) :: st) M := den_go l_194_23 rfl
theorem l_194_24 : look (tab 194) 24 = some (.goto 4, 3, [28], uu) := by decide +kernel
theorem e_194_24 : den cf 194 24 L st M = den cf 194 28 L st M := den_go l_194_24 rfl
theorem l_194_27 : look (tab 194) 27 = some (.iconst 0, 1, [], .int (zI 0)) := by decide +kernel
theorem e_194_27 : den cf 194 27 L st M = den cf 194 28 L (.int (zI 0) :: st) M := den_go l_194_27 rfl
theorem l_194_28 : look (tab 194) 28 = some (.iadd, 1, [], uu) := by decide +kernel
theorem e_194_28 : den cf 194 28 L (.int y :: .int x :: st) M = den cf 194 29 L (.int (x + y) :: st) M := den_go l_194_28 rfl
theorem l_194_29 : look (tab 194) 29 = some (.istore_n 1, 1, [], uu) := by decide +kernel
theorem e_194_29 : den cf 194 29 [v0, v1, v2] (.int x :: st) M = den cf 194 30 [kq v0, .int x, v2] st M := den_st (k := 1) (v := .int x) l_194_29 rfl
theorem l_194_30 : look (tab 194) 30 = some (.iinc 2 1, 3, [], .int (zI 1)) := by decide +kernel
theorem e_194_30 : den cf 194 30 [v0, v1, .int x] st M = den cf 194 33 [v0, kq v1, .int (x + (zI 1))] st M := den_st (k := 2) (v := .int (x + (zI 1))) l_194_30 rfl
theorem l_194_33 : look (tab 194) 33 = some (.goto (-29), 3, [4], uu) := by decide +kernel
theorem e_194_33 : den cf 194 33 L st M = den cf 194 4 L st M := den_go l_194_33 rfl
theorem l_194_36 : look (tab 194) 36 = some (.iload_n 1, 1, [], uu) := by decide +kernel
theorem e_194_36 : den cf 194 36 [v0, .int x, v2] st M = den cf 194 37 [v0, .int x, v2] (.int x :: st) M := den_go l_194_36 rfl
theorem l_194_37 : look (tab 194) 37 = some (.ireturn, 1, [0], uu) := by decide +kernel
theorem e_194_37 : den cf 194 37 L [.int x] M = some (some (.int x), M) := den_e0 l_194_37
/-! yX6_left -/
theorem l_195_0 : look (tab 195) 0 = some (.aload_n 0, 1, [], uu) := by decide +kernel
theorem e_195_0 : den cf 195 0 [.ref a] st M = den cf 195 1 [.ref a] (.ref a :: st) M := den_go l_195_0 rfl
theorem l_195_1 : look (tab 195) 1 = some (.invokevirtual 285, 3, [6, 192, 1, 789, 790, 791, 5], uu) := by decide +kernel
theorem e_195_1 : den cf 195 1 L (.ref a :: st) M = if rcv M 6 [.ref a] = true ∧ st.length ≤ 4 then rK (cf 192 [.ref a] M) (fun v M' => den cf 195 4 L (pR v st) M') else none := den_iv [] l_195_1 rfl
theorem l_195_4 : look (tab 195) 4 = some (.aload_n 0, 1, [], uu) := by decide +kernel
theorem e_195_4 : den cf 195 4 [.ref a] st M = den cf 195 5 [.ref a] (.ref a :: st) M := den_go l_195_4 rfl
theorem l_195_5 : look (tab 195) 5 = some (.invokevirtual 290, 3, [6, 194, 1, 808, 809, 810, 5], uu) := by decide +kernel
theorem e_195_5 : den cf 195 5 L (.ref a :: st) M = if rcv M 6 [.ref a] = true ∧ st.length ≤ 4 then rK (cf 194 [.ref a] M) (fun v M' => den cf 195 8 L (pR v st) M') else none := den_iv [] l_195_5 rfl
theorem l_195_8 : look (tab 195) 8 = some (.iconst 2, 1, [], .int (zI 2)) := by decide +kernel
theorem e_195_8 : den cf 195 8 L st M = den cf 195 9 L (.int (zI 2) :: st) M := den_go l_195_8 rfl
theorem l_195_9 : look (tab 195) 9 = some (.aload_n 0, 1, [], uu) := by decide +kernel
theorem e_195_9 : den cf 195 9 [.ref a] st M = den cf 195 10 [.ref a] (.ref a :: st) M := den_go l_195_9 rfl
theorem l_195_10 : look (tab 195) 10 = some (.getfield 274, 3, [6, 35, 793], uu) := by decide +kernel
theorem e_195_10 : den cf 195 10 L (.ref a :: st) M = oK (gfA (M.2.2 a) 6 35) (fun v => den cf 195 13 L (v :: st) M) := den_gf l_195_10
theorem l_195_13 : look (tab 195) 13 = some (.imul, 1, [], uu) := by decide +kernel
theorem e_195_13 : den cf 195 13 L (.int y :: .int x :: st) M = den cf 195 14 L (.int (x * y) :: st) M := den_go l_195_13 rfl
theorem l_195_14 : look (tab 195) 14 = some (.isub, 1, [], uu) := by decide +kernel
theorem e_195_14 : den cf 195 14 L (.int y :: .int x :: st) M = den cf 195 15 L (.int (x - y) :: st) M := den_go l_195_14 rfl
theorem l_195_15 : look (tab 195) 15 = some (.ireturn, 1, [0], uu) := by decide +kernel
theorem e_195_15 : den cf 195 15 L [.int x] M = some (some (.int x), M) := den_e0 l_195_15
/-! yX6_best -/
theorem l_196_0 : look (tab 196) 0 = some (.aload_n 0, 1, [], uu) := by decide +kernel
theorem e_196_0 : den cf 196 0 [.ref a, v1, v2, v3] st M = den cf 196 1 [.ref a, v1, v2, v3] (.ref a :: st) M := den_go l_196_0 rfl
theorem l_196_1 : look (tab 196) 1 = some (.iload_n 1, 1, [], uu) := by decide +kernel
theorem e_196_1 : den cf 196 1 [v0, .int x, v2, v3] st M = den cf 196 2 [v0, .int x, v2, v3] (.int x :: st) M := den_go l_196_1 rfl
theorem l_196_2 : look (tab 196) 2 = some (.invokevirtual 104, 3, [6, 138, 2, 226, 227, 228, 5], uu) := by decide +kernel
theorem e_196_2 : den cf 196 2 L (w1 :: .ref a :: st) M = if rcv M 6 [.ref a, w1] = true ∧ st.length ≤ 4 then rK (cf 138 [.ref a, w1] M) (fun v M' => den cf 196 5 L (pR v st) M') else none := den_iv [w1] l_196_2 rfl
theorem l_196_5 : look (tab 196) 5 = some (.ifCond .ne 10, 3, [15], uu) := by decide +kernel
theorem e_196_5 : den cf 196 5 L (.int x :: st) M = if x = zI 0 then den cf 196 8 L st M else den cf 196 15 L st M := den_if_ne l_196_5
theorem l_196_8 : look (tab 196) 8 = some (.aload_n 0, 1, [], uu) := by decide +kernel
theorem e_196_8 : den cf 196 8 [.ref a, v1, v2, v3] st M = den cf 196 9 [.ref a, v1, v2, v3] (.ref a :: st) M := den_go l_196_8 rfl
theorem l_196_9 : look (tab 196) 9 = some (.bipush (-2), 2, [], .int (zI (-2))) := by decide +kernel
theorem e_196_9 : den cf 196 9 L st M = den cf 196 11 L (.int (zI (-2)) :: st) M := den_go l_196_9 rfl
theorem l_196_11 : look (tab 196) 11 = some (.invokevirtual 93, 3, [6, 136, 2, 133, 134, 135, 5], uu) := by decide +kernel
theorem e_196_11 : den cf 196 11 L (w1 :: .ref a :: st) M = if rcv M 6 [.ref a, w1] = true ∧ st.length ≤ 4 then rK (cf 136 [.ref a, w1] M) (fun v M' => den cf 196 14 L (pR v st) M') else none := den_iv [w1] l_196_11 rfl
theorem l_196_14 : look (tab 196) 14 = some (.ireturn, 1, [0], uu) := by decide +kernel
theorem e_196_14 : den cf 196 14 L [.int x] M = some (some (.int x), M) := den_e0 l_196_14
theorem l_196_15 : look (tab 196) 15 = some (.iconst (-1), 1, [], .int (zI (-1))) := by decide +kernel
theorem e_196_15 : den cf 196 15 L st M = den cf 196 16 L (.int (zI (-1)) :: st) M := den_go l_196_15 rfl
theorem l_196_16 : look (tab 196) 16 = some (.istore_n 2, 1, [], uu) := by decide +kernel
theorem e_196_16 : den cf 196 16 [v0, v1, v2, v3] (.int x :: st) M = den cf 196 17 [v0, kq v1, .int x, v3] st M := den_st (k := 2) (v := .int x) l_196_16 rfl
theorem l_196_17 : look (tab 196) 17 = some (.iconst 0, 1, [], .int (zI 0)) := by decide +kernel
theorem e_196_17 : den cf 196 17 L st M = den cf 196 18 L (.int (zI 0) :: st) M := den_go l_196_17 rfl
theorem l_196_18 : look (tab 196) 18 = some (.istore_n 3, 1, [], uu) := by decide +kernel
theorem e_196_18 : den cf 196 18 [v0, v1, v2, v3] (.int x :: st) M = den cf 196 19 [v0, v1, kq v2, .int x] st M := den_st (k := 3) (v := .int x) l_196_18 rfl
theorem l_196_19 : look (tab 196) 19 = some (.iload_n 3, 1, [], uu) := by decide +kernel
theorem e_196_19 : den cf 196 19 [v0, v1, v2, .int x] st M = den cf 196 20 [v0, v1, v2, .int x] (.int x :: st) M := den_go l_196_19 rfl
theorem l_196_20 : look (tab 196) 20 = some (.aload_n 0, 1, [], uu) := by decide +kernel
theorem e_196_20 : den cf 196 20 [.ref a, v1, v2, v3] st M = den cf 196 21 [.ref a, v1, v2, v3] (.ref a :: st) M := den_go l_196_20 rfl
theorem l_196_21 : look (tab 196) 21 = some (.getfield 80, 3, [6, 9, 230], uu) := by decide +kernel
theorem e_196_21 : den cf 196 21 L (.ref a :: st) M = oK (gfA (M.2.2 a) 6 9) (fun v => den cf 196 24 L (v :: st) M) := den_gf l_196_21
theorem l_196_24 : look (tab 196) 24 = some (.if_icmp .ge 46, 3, [70], uu) := by decide +kernel
theorem e_196_24 : den cf 196 24 L (.int y :: .int x :: st) M = if x < y then den cf 196 27 L st M else den cf 196 70 L st M := den_ic_ge l_196_24
theorem l_196_27 : look (tab 196) 27 = some (.aload_n 0, 1, [], uu) := by decide +kernel
theorem e_196_27 : den cf 196 27 [.ref a, v1, v2, v3] st M = den cf 196 28 [.ref a, v1, v2, v3] (.ref a :: st) M := den_go l_196_27 rfl
theorem l_196_28 : look (tab 196) 28 = some (.getfield 43, 3, [6, 12, 90], uu) := by decide +kernel
theorem e_196_28 : den cf 196 28 L (.ref a :: st) M = oK (gfA (M.2.2 a) 6 12) (fun v => den cf 196 31 L (v :: st) M) := den_gf l_196_28
theorem l_196_31 : look (tab 196) 31 = some (.iload_n 3, 1, [], uu) := by decide +kernel
theorem e_196_31 : den cf 196 31 [v0, v1, v2, .int x] st M = den cf 196 32 [v0, v1, v2, .int x] (.int x :: st) M := den_go l_196_31 rfl
theorem l_196_32 : look (tab 196) 32 = some (.iaload, 1, [], uu) := by decide +kernel
theorem e_196_32 : den cf 196 32 L (.int x :: .ref a :: st) M = oK (ldI (M.2.2 a) x) (fun v => den cf 196 33 L (v :: st) M) := den_al (g := ldI) l_196_32 rfl
theorem l_196_33 : look (tab 196) 33 = some (.aload_n 0, 1, [], uu) := by decide +kernel
theorem e_196_33 : den cf 196 33 [.ref a, v1, v2, v3] st M = den cf 196 34 [.ref a, v1, v2, v3] (.ref a :: st) M := den_go l_196_33 rfl
theorem l_196_34 : look (tab 196) 34 = some (.getfield 43, 3, [6, 12, 90], uu) := by decide +kernel
theorem e_196_34 : den cf 196 34 L (.ref a :: st) M = oK (gfA (M.2.2 a) 6 12) (fun v => den cf 196 37 L (v :: st) M) := den_gf l_196_34
theorem l_196_37 : look (tab 196) 37 = some (.iload_n 1, 1, [], uu) := by decide +kernel
theorem e_196_37 : den cf 196 37 [v0, .int x, v2, v3] st M = den cf 196 38 [v0, .int x, v2, v3] (.int x :: st) M := den_go l_196_37 rfl
theorem l_196_38 : look (tab 196) 38 = some (.iaload, 1, [], uu) := by decide +kernel
theorem e_196_38 : den cf 196 38 L (.int x :: .ref a :: st) M = oK (ldI (M.2.2 a) x) (fun v => den cf 196 39 L (v :: st) M) := den_al (g := ldI) l_196_38 rfl
theorem l_196_39 : look (tab 196) 39 = some (.if_icmp .eq 25, 3, [64], uu) := by decide +kernel
theorem e_196_39 : den cf 196 39 L (.int y :: .int x :: st) M = if x = y then den cf 196 64 L st M else den cf 196 42 L st M := den_ic_eq l_196_39
theorem l_196_42 : look (tab 196) 42 = some (.iload_n 2, 1, [], uu) := by decide +kernel
theorem e_196_42 : den cf 196 42 [v0, v1, .int x, v3] st M = den cf 196 43 [v0, v1, .int x, v3] (.int x :: st) M := den_go l_196_42 rfl
theorem l_196_43 : look (tab 196) 43 = some (.iconst (-1), 1, [], .int (zI (-1))) := by decide +kernel
theorem e_196_43 : den cf 196 43 L st M = den cf 196 44 L (.int (zI (-1)) :: st) M := den_go l_196_43 rfl
theorem l_196_44 : look (tab 196) 44 = some (.if_icmp .eq 18, 3, [62], uu) := by decide +kernel
theorem e_196_44 : den cf 196 44 L (.int y :: .int x :: st) M = if x = y then den cf 196 62 L st M else den cf 196 47 L st M := den_ic_eq l_196_44
theorem l_196_47 : look (tab 196) 47 = some (.aload_n 0, 1, [], uu) := by decide +kernel
theorem e_196_47 : den cf 196 47 [.ref a, v1, v2, v3] st M = den cf 196 48 [.ref a, v1, v2, v3] (.ref a :: st) M := den_go l_196_47 rfl
theorem l_196_48 : look (tab 196) 48 = some (.iload_n 1, 1, [], uu) := by decide +kernel
theorem e_196_48 : den cf 196 48 [v0, .int x, v2, v3] st M = den cf 196 49 [v0, .int x, v2, v3] (.int x :: st) M := den_go l_196_48 rfl
theorem l_196_49 : look (tab 196) 49 = some (.iload_n 3, 1, [], uu) := by decide +kernel
theorem e_196_49 : den cf 196 49 [v0, v1, v2, .int x] st M = den cf 196 50 [v0, v1, v2, .int x] (.int x :: st) M := den_go l_196_49 rfl
theorem l_196_50 : look (tab 196) 50 = some (.invokevirtual 140, 3, [6, 153, 3, 288, 289, 290, 5], uu) := by decide +kernel
theorem e_196_50 : den cf 196 50 L (w2 :: w1 :: .ref a :: st) M = if rcv M 6 [.ref a, w1, w2] = true ∧ st.length ≤ 4 then rK (cf 153 [.ref a, w1, w2] M) (fun v M' => den cf 196 53 L (pR v st) M') else none := den_iv [w1, w2] l_196_50 rfl
theorem l_196_53 : look (tab 196) 53 = some (.aload_n 0, 1, [], uu) := by decide +kernel
theorem e_196_53 : den cf 196 53 [.ref a, v1, v2, v3] st M = den cf 196 54 [.ref a, v1, v2, v3] (.ref a :: st) M := den_go l_196_53 rfl
theorem l_196_54 : look (tab 196) 54 = some (.iload_n 1, 1, [], uu) := by decide +kernel
theorem e_196_54 : den cf 196 54 [v0, .int x, v2, v3] st M = den cf 196 55 [v0, .int x, v2, v3] (.int x :: st) M := den_go l_196_54 rfl
theorem l_196_55 : look (tab 196) 55 = some (.iload_n 2, 1, [], uu) := by decide +kernel
theorem e_196_55 : den cf 196 55 [v0, v1, .int x, v3] st M = den cf 196 56 [v0, v1, .int x, v3] (.int x :: st) M := den_go l_196_55 rfl
theorem l_196_56 : look (tab 196) 56 = some (.invokevirtual 140, 3, [6, 153, 3, 288, 289, 290, 5], uu) := by decide +kernel
theorem e_196_56 : den cf 196 56 L (w2 :: w1 :: .ref a :: st) M = if rcv M 6 [.ref a, w1, w2] = true ∧ st.length ≤ 4 then rK (cf 153 [.ref a, w1, w2] M) (fun v M' => den cf 196 59 L (pR v st) M') else none := den_iv [w1, w2] l_196_56 rfl
theorem l_196_59 : look (tab 196) 59 = some (.if_icmp .le 5, 3, [64], uu) := by decide +kernel
theorem e_196_59 : den cf 196 59 L (.int y :: .int x :: st) M = if y < x then den cf 196 62 L st M else den cf 196 64 L st M := den_ic_le l_196_59
theorem l_196_62 : look (tab 196) 62 = some (.iload_n 3, 1, [], uu) := by decide +kernel
theorem e_196_62 : den cf 196 62 [v0, v1, v2, .int x] st M = den cf 196 63 [v0, v1, v2, .int x] (.int x :: st) M := den_go l_196_62 rfl
theorem l_196_63 : look (tab 196) 63 = some (.istore_n 2, 1, [], uu) := by decide +kernel
theorem e_196_63 : den cf 196 63 [v0, v1, v2, v3] (.int x :: st) M = den cf 196 64 [v0, kq v1, .int x, v3] st M := den_st (k := 2) (v := .int x) l_196_63 rfl
theorem l_196_64 : look (tab 196) 64 = some (.iinc 3 1, 3, [], .int (zI 1)) := by decide +kernel
theorem e_196_64 : den cf 196 64 [v0, v1, v2, .int x] st M = den cf 196 67 [v0, v1, kq v2, .int (x + (zI 1))] st M := den_st (k := 3) (v := .int (x + (zI 1))) l_196_64 rfl
theorem l_196_67 : look (tab 196) 67 = some (.goto (-48), 3, [19], uu) := by decide +kernel
theorem e_196_67 : den cf 196 67 L st M = den cf 196 19 L st M := den_go l_196_67 rfl
theorem l_196_70 : look (tab 196) 70 = some (.iload_n 2, 1, [], uu) := by decide +kernel
theorem e_196_70 : den cf 196 70 [v0, v1, .int x, v3] st M = den cf 196 71 [v0, v1, .int x, v3] (.int x :: st) M := den_go l_196_70 rfl
theorem l_196_71 : look (tab 196) 71 = some (.iconst (-1), 1, [], .int (zI (-1))) := by decide +kernel
theorem e_196_71 : den cf 196 71 L st M = den cf 196 72 L (.int (zI (-1)) :: st) M := den_go l_196_71 rfl
theorem l_196_72 : look (tab 196) 72 = some (.if_icmp .ne 12, 3, [84], uu) := by decide +kernel
theorem e_196_72 : den cf 196 72 L (.int y :: .int x :: st) M = if x = y then den cf 196 75 L st M else den cf 196 84 L st M := den_ic_ne l_196_72
theorem l_196_75 : look (tab 196) 75 = some (.aload_n 0, 1, [], uu) := by decide +kernel
theorem e_196_75 : den cf 196 75 [.ref a, v1, v2, v3] st M = den cf 196 76 [.ref a, v1, v2, v3] (.ref a :: st) M := den_go l_196_75 rfl
theorem l_196_76 : look (tab 196) 76 = some (.bipush (-5), 2, [], .int (zI (-5))) := by decide +kernel
theorem e_196_76 : den cf 196 76 L st M = den cf 196 78 L (.int (zI (-5)) :: st) M := den_go l_196_76 rfl
theorem l_196_78 : look (tab 196) 78 = some (.invokevirtual 93, 3, [6, 136, 2, 133, 134, 135, 5], uu) := by decide +kernel
theorem e_196_78 : den cf 196 78 L (w1 :: .ref a :: st) M = if rcv M 6 [.ref a, w1] = true ∧ st.length ≤ 4 then rK (cf 136 [.ref a, w1] M) (fun v M' => den cf 196 81 L (pR v st) M') else none := den_iv [w1] l_196_78 rfl
theorem l_196_81 : look (tab 196) 81 = some (.goto 4, 3, [85], uu) := by decide +kernel
theorem e_196_81 : den cf 196 81 L st M = den cf 196 85 L st M := den_go l_196_81 rfl
theorem l_196_84 : look (tab 196) 84 = some (.iload_n 2, 1, [], uu) := by decide +kernel
theorem e_196_84 : den cf 196 84 [v0, v1, .int x, v3] st M = den cf 196 85 [v0, v1, .int x, v3] (.int x :: st) M := den_go l_196_84 rfl
theorem l_196_85 : look (tab 196) 85 = some (.ireturn, 1, [0], uu) := by decide +kernel
theorem e_196_85 : den cf 196 85 L [.int x] M = some (some (.int x), M) := den_e0 l_196_85
/-! yX6_havers -/
theorem l_197_0 : look (tab 197) 0 = some (.iconst 0, 1, [], .int (zI 0)) := by decide +kernel
theorem e_197_0 : den cf 197 0 L st M = den cf 197 1 L (.int (zI 0) :: st) M := den_go l_197_0 rfl
theorem l_197_1 : look (tab 197) 1 = some (.istore_n 2, 1, [], uu) := by decide +kernel
theorem e_197_1 : den cf 197 1 [v0, v1, v2, v3] (.int x :: st) M = den cf 197 2 [v0, kq v1, .int x, v3] st M := den_st (k := 2) (v := .int x) l_197_1 rfl
theorem l_197_2 : look (tab 197) 2 = some (.iconst 0, 1, [], .int (zI 0)) := by decide +kernel
theorem e_197_2 : den cf 197 2 L st M = den cf 197 3 L (.int (zI 0) :: st) M := den_go l_197_2 rfl
theorem l_197_3 : look (tab 197) 3 = some (.istore_n 3, 1, [], uu) := by decide +kernel
theorem e_197_3 : den cf 197 3 [v0, v1, v2, v3] (.int x :: st) M = den cf 197 4 [v0, v1, kq v2, .int x] st M := den_st (k := 3) (v := .int x) l_197_3 rfl
theorem l_197_4 : look (tab 197) 4 = some (.iload_n 3, 1, [], uu) := by decide +kernel
theorem e_197_4 : den cf 197 4 [v0, v1, v2, .int x] st M = den cf 197 5 [v0, v1, v2, .int x] (.int x :: st) M := den_go l_197_4 rfl
theorem l_197_5 : look (tab 197) 5 = some (.aload_n 0, 1, [], uu) := by decide +kernel
theorem e_197_5 : den cf 197 5 [.ref a, v1, v2, v3] st M = den cf 197 6 [.ref a, v1, v2, v3] (.ref a :: st) M := den_go l_197_5 rfl
theorem l_197_6 : look (tab 197) 6 = some (.getfield 80, 3, [6, 9, 230], uu) := by decide +kernel
theorem e_197_6 : den cf 197 6 L (.ref a :: st) M = oK (gfA (M.2.2 a) 6 9) (fun v => den cf 197 9 L (v :: st) M) := den_gf l_197_6
theorem l_197_9 : look (tab 197) 9 = some (.if_icmp .ge 22, 3, [31], uu) := by decide +kernel
theorem e_197_9 : den cf 197 9 L (.int y :: .int x :: st) M = if x < y then den cf 197 12 L st M else den cf 197 31 L st M := den_ic_ge l_197_9
theorem l_197_12 : look (tab 197) 12 = some (.iload_n 2, 1, [], uu) := by decide +kernel
theorem e_197_12 : den cf 197 12 [v0, v1, .int x, v3] st M = den cf 197 13 [v0, v1, .int x, v3] (.int x :: st) M := den_go l_197_12 rfl
theorem l_197_13 : look (tab 197) 13 = some (.aload_n 0, 1, [], uu) := by decide +kernel
theorem e_197_13 : den cf 197 13 [.ref a, v1, v2, v3] st M = den cf 197 14 [.ref a, v1, v2, v3] (.ref a :: st) M := den_go l_197_13 rfl
theorem l_197_14 : look (tab 197) 14 = some (.getfield 46, 3, [6, 13, 91], uu) := by decide +kernel
theorem e_197_14 : den cf 197 14 L (.ref a :: st) M = oK (gfA (M.2.2 a) 6 13) (fun v => den cf 197 17 L (v :: st) M) := den_gf l_197_14
theorem l_197_17 : look (tab 197) 17 = some (.iload_n 3, 1, [], uu) := by decide +kernel
theorem e_197_17 : den cf 197 17 [v0, v1, v2, .int x] st M = den cf 197 18 [v0, v1, v2, .int x] (.int x :: st) M := den_go l_197_17 rfl
theorem l_197_18 : look (tab 197) 18 = some (.iaload, 1, [], uu) := by decide +kernel
theorem e_197_18 : den cf 197 18 L (.int x :: .ref a :: st) M = oK (ldI (M.2.2 a) x) (fun v => den cf 197 19 L (v :: st) M) := den_al (g := ldI) l_197_18 rfl
theorem l_197_19 : look (tab 197) 19 = some (.iload_n 1, 1, [], uu) := by decide +kernel
theorem e_197_19 : den cf 197 19 [v0, .int x, v2, v3] st M = den cf 197 20 [v0, .int x, v2, v3] (.int x :: st) M := den_go l_197_19 rfl
theorem l_197_20 : look (tab 197) 20 = some (.ishr, 1, [], uu) := by decide +kernel
theorem e_197_20 : den cf 197 20 L (.int y :: .int x :: st) M = den cf 197 21 L (.int (x >>> (y &&& 31)) :: st) M := den_go l_197_20 rfl
theorem l_197_21 : look (tab 197) 21 = some (.iconst 1, 1, [], .int (zI 1)) := by decide +kernel
theorem e_197_21 : den cf 197 21 L st M = den cf 197 22 L (.int (zI 1) :: st) M := den_go l_197_21 rfl
theorem l_197_22 : look (tab 197) 22 = some (.iand, 1, [], uu) := by decide +kernel
theorem e_197_22 : den cf 197 22 L (.int y :: .int x :: st) M = den cf 197 23 L (.int (x &&& y) :: st) M := den_go l_197_22 rfl
theorem l_197_23 : look (tab 197) 23 = some (.iadd, 1, [], uu) := by decide +kernel
theorem e_197_23 : den cf 197 23 L (.int y :: .int x :: st) M = den cf 197 24 L (.int (x + y) :: st) M := den_go l_197_23 rfl
theorem l_197_24 : look (tab 197) 24 = some (.istore_n 2, 1, [], uu) := by decide +kernel
theorem e_197_24 : den cf 197 24 [v0, v1, v2, v3] (.int x :: st) M = den cf 197 25 [v0, kq v1, .int x, v3] st M := den_st (k := 2) (v := .int x) l_197_24 rfl
theorem l_197_25 : look (tab 197) 25 = some (.iinc 3 1, 3, [], .int (zI 1)) := by decide +kernel
theorem e_197_25 : den cf 197 25 [v0, v1, v2, .int x] st M = den cf 197 28 [v0, v1, kq v2, .int (x + (zI 1))] st M := den_st (k := 3) (v := .int (x + (zI 1))) l_197_25 rfl
theorem l_197_28 : look (tab 197) 28 = some (.goto (-24), 3, [4], uu) := by decide +kernel
theorem e_197_28 : den cf 197 28 L st M = den cf 197 4 L st M := den_go l_197_28 rfl
theorem l_197_31 : look (tab 197) 31 = some (.iload_n 2, 1, [], uu) := by decide +kernel
theorem e_197_31 : den cf 197 31 [v0, v1, .int x, v3] st M = den cf 197 32 [v0, v1, .int x, v3] (.int x :: st) M := den_go l_197_31 rfl
theorem l_197_32 : look (tab 197) 32 = some (.ireturn, 1, [0], uu) := by decide +kernel
theorem e_197_32 : den cf 197 32 L [.int x] M = some (some (.int x), M) := den_e0 l_197_32
/-! yX6_twins -/
theorem l_198_0 : look (tab 198) 0 = some (.iconst 0, 1, [], .int (zI 0)) := by decide +kernel
theorem e_198_0 : den cf 198 0 L st M = den cf 198 1 L (.int (zI 0) :: st) M := den_go l_198_0 rfl
theorem l_198_1 : look (tab 198) 1 = some (.istore_n 1, 1, [], uu) := by decide +kernel
theorem e_198_1 : den cf 198 1 [v0, v1, v2] (.int x :: st) M = den cf 198 2 [kq v0, .int x, v2] st M := den_st (k := 1) (v := .int x) l_198_1 rfl
theorem l_198_2 : look (tab 198) 2 = some (.iload_n 1, 1, [], uu) := by decide +kernel
theorem e_198_2 : den cf 198 2 [v0, .int x, v2] st M = den cf 198 3 [v0, .int x, v2] (.int x :: st) M := den_go l_198_2 rfl
theorem l_198_3 : look (tab 198) 3 = some (.aload_n 0, 1, [], uu) := by decide +kernel
theorem e_198_3 : den cf 198 3 [.ref a, v1, v2] st M = den cf 198 4 [.ref a, v1, v2] (.ref a :: st) M := den_go l_198_3 rfl
theorem l_198_4 : look (tab 198) 4 = some (.getfield 80, 3, [6, 9, 230], uu) := by decide +kernel
theorem e_198_4 : den cf 198 4 L (.ref a :: st) M = oK (gfA (M.2.2 a) 6 9) (fun v => den cf 198 7 L (v :: st) M) := den_gf l_198_4
theorem l_198_7 : look (tab 198) 7 = some (.if_icmp .ge 64, 3, [71], uu) := by decide +kernel
theorem e_198_7 : den cf 198 7 L (.int y :: .int x :: st) M = if x < y then den cf 198 10 L st M else den cf 198 71 L st M := den_ic_ge l_198_7
theorem l_198_10 : look (tab 198) 10 = some (.iload_n 1, 1, [], uu) := by decide +kernel
theorem e_198_10 : den cf 198 10 [v0, .int x, v2] st M = den cf 198 11 [v0, .int x, v2] (.int x :: st) M := den_go l_198_10 rfl
theorem l_198_11 : look (tab 198) 11 = some (.iconst 1, 1, [], .int (zI 1)) := by decide +kernel
theorem e_198_11 : den cf 198 11 L st M = den cf 198 12 L (.int (zI 1) :: st) M := den_go l_198_11 rfl
theorem l_198_12 : look (tab 198) 12 = some (.iadd, 1, [], uu) := by decide +kernel
theorem e_198_12 : den cf 198 12 L (.int y :: .int x :: st) M = den cf 198 13 L (.int (x + y) :: st) M := den_go l_198_12 rfl
theorem l_198_13 : look (tab 198) 13 = some (.istore_n 2, 1, [], uu) := by decide +kernel
theorem e_198_13 : den cf 198 13 [v0, v1, v2] (.int x :: st) M = den cf 198 14 [v0, kq v1, .int x] st M := den_st (k := 2) (v := .int x) l_198_13 rfl
theorem l_198_14 : look (tab 198) 14 = some (.iload_n 2, 1, [], uu) := by decide +kernel
theorem e_198_14 : den cf 198 14 [v0, v1, .int x] st M = den cf 198 15 [v0, v1, .int x] (.int x :: st) M := den_go l_198_14 rfl
theorem l_198_15 : look (tab 198) 15 = some (.aload_n 0, 1, [], uu) := by decide +kernel
theorem e_198_15 : den cf 198 15 [.ref a, v1, v2] st M = den cf 198 16 [.ref a, v1, v2] (.ref a :: st) M := den_go l_198_15 rfl
theorem l_198_16 : look (tab 198) 16 = some (.getfield 80, 3, [6, 9, 230], uu) := by decide +kernel
theorem e_198_16 : den cf 198 16 L (.ref a :: st) M = oK (gfA (M.2.2 a) 6 9) (fun v => den cf 198 19 L (v :: st) M) := den_gf l_198_16
theorem l_198_19 : look (tab 198) 19 = some (.if_icmp .ge 46, 3, [65], uu) := by decide +kernel
theorem e_198_19 : den cf 198 19 L (.int y :: .int x :: st) M = if x < y then den cf 198 22 L st M else den cf 198 65 L st M := den_ic_ge l_198_19
theorem l_198_22 : look (tab 198) 22 = some (.aload_n 0, 1, [], uu) := by decide +kernel
theorem e_198_22 : den cf 198 22 [.ref a, v1, v2] st M = den cf 198 23 [.ref a, v1, v2] (.ref a :: st) M := den_go l_198_22 rfl
theorem l_198_23 : look (tab 198) 23 = some (.getfield 43, 3, [6, 12, 90], uu) := by decide +kernel
theorem e_198_23 : den cf 198 23 L (.ref a :: st) M = oK (gfA (M.2.2 a) 6 12) (fun v => den cf 198 26 L (v :: st) M) := den_gf l_198_23
theorem l_198_26 : look (tab 198) 26 = some (.iload_n 1, 1, [], uu) := by decide +kernel
theorem e_198_26 : den cf 198 26 [v0, .int x, v2] st M = den cf 198 27 [v0, .int x, v2] (.int x :: st) M := den_go l_198_26 rfl
theorem l_198_27 : look (tab 198) 27 = some (.iaload, 1, [], uu) := by decide +kernel
theorem e_198_27 : den cf 198 27 L (.int x :: .ref a :: st) M = oK (ldI (M.2.2 a) x) (fun v => den cf 198 28 L (v :: st) M) := den_al (g := ldI) l_198_27 rfl
theorem l_198_28 : look (tab 198) 28 = some (.aload_n 0, 1, [], uu) := by decide +kernel
theorem e_198_28 : den cf 198 28 [.ref a, v1, v2] st M = den cf 198 29 [.ref a, v1, v2] (.ref a :: st) M := den_go l_198_28 rfl
theorem l_198_29 : look (tab 198) 29 = some (.getfield 43, 3, [6, 12, 90], uu) := by decide +kernel
theorem e_198_29 : den cf 198 29 L (.ref a :: st) M = oK (gfA (M.2.2 a) 6 12) (fun v => den cf 198 32 L (v :: st) M) := den_gf l_198_29
theorem l_198_32 : look (tab 198) 32 = some (.iload_n 2, 1, [], uu) := by decide +kernel
theorem e_198_32 : den cf 198 32 [v0, v1, .int x] st M = den cf 198 33 [v0, v1, .int x] (.int x :: st) M := den_go l_198_32 rfl
theorem l_198_33 : look (tab 198) 33 = some (.iaload, 1, [], uu) := by decide +kernel
theorem e_198_33 : den cf 198 33 L (.int x :: .ref a :: st) M = oK (ldI (M.2.2 a) x) (fun v => den cf 198 34 L (v :: st) M) := den_al (g := ldI) l_198_33 rfl
theorem l_198_34 : look (tab 198) 34 = some (.if_icmp .ne 25, 3, [59], uu) := by decide +kernel
theorem e_198_34 : den cf 198 34 L (.int y :: .int x :: st) M = if x = y then den cf 198 37 L st M else den cf 198 59 L st M := den_ic_ne l_198_34
theorem l_198_37 : look (tab 198) 37 = some (.aload_n 0, 1, [], uu) := by decide +kernel
theorem e_198_37 : den cf 198 37 [.ref a, v1, v2] st M = den cf 198 38 [.ref a, v1, v2] (.ref a :: st) M := den_go l_198_37 rfl
theorem l_198_38 : look (tab 198) 38 = some (.getfield 46, 3, [6, 13, 91], uu) := by decide +kernel
theorem e_198_38 : den cf 198 38 L (.ref a :: st) M = oK (gfA (M.2.2 a) 6 13) (fun v => den cf 198 41 L (v :: st) M) := den_gf l_198_38
theorem l_198_41 : look (tab 198) 41 = some (.iload_n 1, 1, [], uu) := by decide +kernel
theorem e_198_41 : den cf 198 41 [v0, .int x, v2] st M = den cf 198 42 [v0, .int x, v2] (.int x :: st) M := den_go l_198_41 rfl
theorem l_198_42 : look (tab 198) 42 = some (.iaload, 1, [], uu) := by decide +kernel
theorem e_198_42 : den cf 198 42 L (.int x :: .ref a :: st) M = oK (ldI (M.2.2 a) x) (fun v => den cf 198 43 L (v :: st) M) := den_al (g := ldI) l_198_42 rfl
theorem l_198_43 : look (tab 198) 43 = some (.aload_n 0, 1, [], uu) := by decide +kernel
theorem e_198_43 : den cf 198 43 [.ref a, v1, v2] st M = den cf 198 44 [.ref a, v1, v2] (.ref a :: st) M := den_go l_198_43 rfl
theorem l_198_44 : look (tab 198) 44 = some (.getfield 46, 3, [6, 13, 91], uu) := by decide +kernel
theorem e_198_44 : den cf 198 44 L (.ref a :: st) M = oK (gfA (M.2.2 a) 6 13) (fun v => den cf 198 47 L (v :: st) M) := den_gf l_198_44
theorem l_198_47 : look (tab 198) 47 = some (.iload_n 2, 1, [], uu) := by decide +kernel
theorem e_198_47 : den cf 198 47 [v0, v1, .int x] st M = den cf 198 48 [v0, v1, .int x] (.int x :: st) M := den_go l_198_47 rfl
theorem l_198_48 : look (tab 198) 48 = some (.iaload, 1, [], uu) := by decide +kernel
theorem e_198_48 : den cf 198 48 L (.int x :: .ref a :: st) M = oK (ldI (M.2.2 a) x) (fun v => den cf 198 49 L (v :: st) M) := den_al (g := ldI) l_198_48 rfl
theorem l_198_49 : look (tab 198) 49 = some (.if_icmp .ne 10, 3, [59], uu) := by decide +kernel
theorem e_198_49 : den cf 198 49 L (.int y :: .int x :: st) M = if x = y then den cf 198 52 L st M else den cf 198 59 L st M := den_ic_ne l_198_49
theorem l_198_52 : look (tab 198) 52 = some (.bipush 20, 2, [], .int (zI 20)) := by decide +kernel
theorem e_198_52 : den cf 198 52 L st M = den cf 198 54 L (.int (zI 20) :: st) M := den_go l_198_52 rfl
theorem l_198_54 : look (tab 198) 54 = some (.iload_n 1, 1, [], uu) := by decide +kernel
theorem e_198_54 : den cf 198 54 [v0, .int x, v2] st M = den cf 198 55 [v0, .int x, v2] (.int x :: st) M := den_go l_198_54 rfl
theorem l_198_55 : look (tab 198) 55 = some (.imul, 1, [], uu) := by decide +kernel
theorem e_198_55 : den cf 198 55 L (.int y :: .int x :: st) M = den cf 198 56 L (.int (x * y) :: st) M := den_go l_198_55 rfl
theorem l_198_56 : look (tab 198) 56 = some (.iload_n 2, 1, [], uu) := by decide +kernel
theorem e_198_56 : den cf 198 56 [v0, v1, .int x] st M = den cf 198 57 [v0, v1, .int x] (.int x :: st) M := den_go l_198_56 rfl
theorem l_198_57 : look (tab 198) 57 = some (.iadd, 1, [], uu) := by decide +kernel
theorem e_198_57 : den cf 198 57 L (.int y :: .int x :: st) M = den cf 198 58 L (.int (x + y) :: st) M := den_go l_198_57 rfl
theorem l_198_58 : look (tab 198) 58 = some (.ireturn, 1, [0], uu) := by decide +kernel
theorem e_198_58 : den cf 198 58 L [.int x] M = some (some (.int x), M) := den_e0 l_198_58
theorem l_198_59 : look (tab 198) 59 = some (.iinc 2 1, 3, [], .int (zI 1)) := by decide +kernel
theorem e_198_59 : den cf 198 59 [v0, v1, .int x] st M = den cf 198 62 [v0, kq v1, .int (x + (zI 1))] st M := den_st (k := 2) (v := .int (x + (zI 1))) l_198_59 rfl
theorem l_198_62 : look (tab 198) 62 = some (.goto (-48), 3, [14], uu) := by decide +kernel
theorem e_198_62 : den cf 198 62 L st M = den cf 198 14 L st M := den_go l_198_62 rfl
theorem l_198_65 : look (tab 198) 65 = some (.iinc 1 1, 3, [], .int (zI 1)) := by decide +kernel
theorem e_198_65 : den cf 198 65 [v0, .int x, v2] st M = den cf 198 68 [kq v0, .int (x + (zI 1)), v2] st M := den_st (k := 1) (v := .int (x + (zI 1))) l_198_65 rfl
theorem l_198_68 : look (tab 198) 68 = some (.goto (-66), 3, [2], uu) := by decide +kernel
theorem e_198_68 : den cf 198 68 L st M = den cf 198 2 L st M := den_go l_198_68 rfl
theorem l_198_71 : look (tab 198) 71 = some (.iconst (-1), 1, [], .int (zI (-1))) := by decide +kernel
theorem e_198_71 : den cf 198 71 L st M = den cf 198 72 L (.int (zI (-1)) :: st) M := den_go l_198_71 rfl
theorem l_198_72 : look (tab 198) 72 = some (.ireturn, 1, [0], uu) := by decide +kernel
theorem e_198_72 : den cf 198 72 L [.int x] M = some (some (.int x), M) := den_e0 l_198_72
/-! yX6_same -/
theorem l_199_0 : look (tab 199) 0 = some (.iload_n 1, 1, [], uu) := by decide +kernel
theorem e_199_0 : den cf 199 0 [v0, .int x, v2, v3] st M = den cf 199 1 [v0, .int x, v2, v3] (.int x :: st) M := den_go l_199_0 rfl
theorem l_199_1 : look (tab 199) 1 = some (.i2l, 1, [], uu) := by decide +kernel
theorem e_199_1 : den cf 199 1 L (.int x :: st) M = den cf 199 2 L (.long x.toInt64 :: st) M := den_go l_199_1 rfl
theorem l_199_2 : look (tab 199) 2 = some (.lconst 0, 1, [], .long (zJ 0)) := by decide +kernel
theorem e_199_2 : den cf 199 2 L st M = den cf 199 3 L (.long (zJ 0) :: st) M := den_go l_199_2 rfl
theorem l_199_3 : look (tab 199) 3 = some (.ldc2_w 147, 3, [398], .long (zJ 2)) := by decide +kernel
theorem e_199_3 : den cf 199 3 L st M = den cf 199 6 L (.long (zJ 2) :: st) M := den_go l_199_3 rfl
theorem l_199_6 : look (tab 199) 6 = some (.invokestatic 83, 3, [1, 137, 3, 130, 131, 5], uu) := by decide +kernel
theorem e_199_6 : den cf 199 6 L (w3 :: w2 :: w1 :: st) M = if st.length ≤ 4 then rK (cf 137 [w1, w2, w3] M) (fun v M' => den cf 199 9 L (pR v st) M') else none := den_ist [w1, w2, w3] l_199_6 rfl
theorem l_199_9 : look (tab 199) 9 = some (.ifCond .ne 10, 3, [19], uu) := by decide +kernel
theorem e_199_9 : den cf 199 9 L (.int x :: st) M = if x = zI 0 then den cf 199 12 L st M else den cf 199 19 L st M := den_if_ne l_199_9
theorem l_199_12 : look (tab 199) 12 = some (.aload_n 0, 1, [], uu) := by decide +kernel
theorem e_199_12 : den cf 199 12 [.ref a, v1, v2, v3] st M = den cf 199 13 [.ref a, v1, v2, v3] (.ref a :: st) M := den_go l_199_12 rfl
theorem l_199_13 : look (tab 199) 13 = some (.bipush (-2), 2, [], .int (zI (-2))) := by decide +kernel
theorem e_199_13 : den cf 199 13 L st M = den cf 199 15 L (.int (zI (-2)) :: st) M := den_go l_199_13 rfl
theorem l_199_15 : look (tab 199) 15 = some (.invokevirtual 93, 3, [6, 136, 2, 133, 134, 135, 5], uu) := by decide +kernel
theorem e_199_15 : den cf 199 15 L (w1 :: .ref a :: st) M = if rcv M 6 [.ref a, w1] = true ∧ st.length ≤ 4 then rK (cf 136 [.ref a, w1] M) (fun v M' => den cf 199 18 L (pR v st) M') else none := den_iv [w1] l_199_15 rfl
theorem l_199_18 : look (tab 199) 18 = some (.ireturn, 1, [0], uu) := by decide +kernel
theorem e_199_18 : den cf 199 18 L [.int x] M = some (some (.int x), M) := den_e0 l_199_18
theorem l_199_19 : look (tab 199) 19 = some (.iconst 0, 1, [], .int (zI 0)) := by decide +kernel
theorem e_199_19 : den cf 199 19 L st M = den cf 199 20 L (.int (zI 0) :: st) M := den_go l_199_19 rfl
theorem l_199_20 : look (tab 199) 20 = some (.istore_n 2, 1, [], uu) := by decide +kernel
theorem e_199_20 : den cf 199 20 [v0, v1, v2, v3] (.int x :: st) M = den cf 199 21 [v0, kq v1, .int x, v3] st M := den_st (k := 2) (v := .int x) l_199_20 rfl
theorem l_199_21 : look (tab 199) 21 = some (.iconst 1, 1, [], .int (zI 1)) := by decide +kernel
theorem e_199_21 : den cf 199 21 L st M = den cf 199 22 L (.int (zI 1) :: st) M := den_go l_199_21 rfl
theorem l_199_22 : look (tab 199) 22 = some (.istore_n 3, 1, [], uu) := by decide +kernel
theorem e_199_22 : den cf 199 22 [v0, v1, v2, v3] (.int x :: st) M = den cf 199 23 [v0, v1, kq v2, .int x] st M := den_st (k := 3) (v := .int x) l_199_22 rfl
theorem l_199_23 : look (tab 199) 23 = some (.iload_n 3, 1, [], uu) := by decide +kernel
theorem e_199_23 : den cf 199 23 [v0, v1, v2, .int x] st M = den cf 199 24 [v0, v1, v2, .int x] (.int x :: st) M := den_go l_199_23 rfl
theorem l_199_24 : look (tab 199) 24 = some (.bipush 8, 2, [], .int (zI 8)) := by decide +kernel
theorem e_199_24 : den cf 199 24 L st M = den cf 199 26 L (.int (zI 8) :: st) M := den_go l_199_24 rfl
theorem l_199_26 : look (tab 199) 26 = some (.if_icmp .ge 28, 3, [54], uu) := by decide +kernel
theorem e_199_26 : den cf 199 26 L (.int y :: .int x :: st) M = if x < y then den cf 199 29 L st M else den cf 199 54 L st M := den_ic_ge l_199_26
theorem l_199_29 : look (tab 199) 29 = some (.aload_n 0, 1, [], uu) := by decide +kernel
theorem e_199_29 : den cf 199 29 [.ref a, v1, v2, v3] st M = den cf 199 30 [.ref a, v1, v2, v3] (.ref a :: st) M := den_go l_199_29 rfl
theorem l_199_30 : look (tab 199) 30 = some (.iload_n 3, 1, [], uu) := by decide +kernel
theorem e_199_30 : den cf 199 30 [v0, v1, v2, .int x] st M = den cf 199 31 [v0, v1, v2, .int x] (.int x :: st) M := den_go l_199_30 rfl
theorem l_199_31 : look (tab 199) 31 = some (.invokevirtual 293, 3, [6, 197, 2, 848, 849, 850, 5], uu) := by decide +kernel
theorem e_199_31 : den cf 199 31 L (w1 :: .ref a :: st) M = if rcv M 6 [.ref a, w1] = true ∧ st.length ≤ 4 then rK (cf 197 [.ref a, w1] M) (fun v M' => den cf 199 34 L (pR v st) M') else none := den_iv [w1] l_199_31 rfl
theorem l_199_34 : look (tab 199) 34 = some (.aload_n 0, 1, [], uu) := by decide +kernel
theorem e_199_34 : den cf 199 34 [.ref a, v1, v2, v3] st M = den cf 199 35 [.ref a, v1, v2, v3] (.ref a :: st) M := den_go l_199_34 rfl
theorem l_199_35 : look (tab 199) 35 = some (.iload_n 2, 1, [], uu) := by decide +kernel
theorem e_199_35 : den cf 199 35 [v0, v1, .int x, v3] st M = den cf 199 36 [v0, v1, .int x, v3] (.int x :: st) M := den_go l_199_35 rfl
theorem l_199_36 : look (tab 199) 36 = some (.invokevirtual 293, 3, [6, 197, 2, 848, 849, 850, 5], uu) := by decide +kernel
theorem e_199_36 : den cf 199 36 L (w1 :: .ref a :: st) M = if rcv M 6 [.ref a, w1] = true ∧ st.length ≤ 4 then rK (cf 197 [.ref a, w1] M) (fun v M' => den cf 199 39 L (pR v st) M') else none := den_iv [w1] l_199_36 rfl
theorem l_199_39 : look (tab 199) 39 = some (.if_icmp .le 7, 3, [46], uu) := by decide +kernel
theorem e_199_39 : den cf 199 39 L (.int y :: .int x :: st) M = if y < x then den cf 199 42 L st M else den cf 199 46 L st M := den_ic_le l_199_39
theorem l_199_42 : look (tab 199) 42 = some (.iload_n 3, 1, [], uu) := by decide +kernel
theorem e_199_42 : den cf 199 42 [v0, v1, v2, .int x] st M = den cf 199 43 [v0, v1, v2, .int x] (.int x :: st) M := den_go l_199_42 rfl
theorem l_199_43 : look (tab 199) 43 = some (.goto 4, 3, [47], uu) := by decide +kernel
theorem e_199_43 : den cf 199 43 L st M = den cf 199 47 L st M := den_go l_199_43 rfl
theorem l_199_46 : look (tab 199) 46 = some (.iload_n 2, 1, [], uu) := by decide +kernel
theorem e_199_46 : den cf 199 46 [v0, v1, .int x, v3] st M = den cf 199 47 [v0, v1, .int x, v3] (.int x :: st) M := den_go l_199_46 rfl
theorem l_199_47 : look (tab 199) 47 = some (.istore_n 2, 1, [], uu) := by decide +kernel
theorem e_199_47 : den cf 199 47 [v0, v1, v2, v3] (.int x :: st) M = den cf 199 48 [v0, kq v1, .int x, v3] st M := den_st (k := 2) (v := .int x) l_199_47 rfl
theorem l_199_48 : look (tab 199) 48 = some (.iinc 3 1, 3, [], .int (zI 1)) := by decide +kernel
theorem e_199_48 : den cf 199 48 [v0, v1, v2, .int x] st M = den cf 199 51 [v0, v1, kq v2, .int (x + (zI 1))] st M := den_st (k := 3) (v := .int (x + (zI 1))) l_199_48 rfl
theorem l_199_51 : look (tab 199) 51 = some (.goto (-28), 3, [23], uu) := by decide +kernel
theorem e_199_51 : den cf 199 51 L st M = den cf 199 23 L st M := den_go l_199_51 rfl
theorem l_199_54 : look (tab 199) 54 = some (.iload_n 1, 1, [], uu) := by decide +kernel
theorem e_199_54 : den cf 199 54 [v0, .int x, v2, v3] st M = den cf 199 55 [v0, .int x, v2, v3] (.int x :: st) M := den_go l_199_54 rfl
theorem l_199_55 : look (tab 199) 55 = some (.ifCond .ne 7, 3, [62], uu) := by decide +kernel
theorem e_199_55 : den cf 199 55 L (.int x :: st) M = if x = zI 0 then den cf 199 58 L st M else den cf 199 62 L st M := den_if_ne l_199_55
theorem l_199_58 : look (tab 199) 58 = some (.iload_n 2, 1, [], uu) := by decide +kernel
theorem e_199_58 : den cf 199 58 [v0, v1, .int x, v3] st M = den cf 199 59 [v0, v1, .int x, v3] (.int x :: st) M := den_go l_199_58 rfl
theorem l_199_59 : look (tab 199) 59 = some (.goto 20, 3, [79], uu) := by decide +kernel
theorem e_199_59 : den cf 199 59 L st M = den cf 199 79 L st M := den_go l_199_59 rfl
theorem l_199_62 : look (tab 199) 62 = some (.iload_n 1, 1, [], uu) := by decide +kernel
theorem e_199_62 : den cf 199 62 [v0, .int x, v2, v3] st M = den cf 199 63 [v0, .int x, v2, v3] (.int x :: st) M := den_go l_199_62 rfl
theorem l_199_63 : look (tab 199) 63 = some (.iconst 1, 1, [], .int (zI 1)) := by decide +kernel
theorem e_199_63 : den cf 199 63 L st M = den cf 199 64 L (.int (zI 1) :: st) M := den_go l_199_63 rfl
theorem l_199_64 : look (tab 199) 64 = some (.if_icmp .ne 11, 3, [75], uu) := by decide +kernel
theorem e_199_64 : den cf 199 64 L (.int y :: .int x :: st) M = if x = y then den cf 199 67 L st M else den cf 199 75 L st M := den_ic_ne l_199_64
theorem l_199_67 : look (tab 199) 67 = some (.aload_n 0, 1, [], uu) := by decide +kernel
theorem e_199_67 : den cf 199 67 [.ref a, v1, v2, v3] st M = den cf 199 68 [.ref a, v1, v2, v3] (.ref a :: st) M := den_go l_199_67 rfl
theorem l_199_68 : look (tab 199) 68 = some (.iload_n 2, 1, [], uu) := by decide +kernel
theorem e_199_68 : den cf 199 68 [v0, v1, .int x, v3] st M = den cf 199 69 [v0, v1, .int x, v3] (.int x :: st) M := den_go l_199_68 rfl
theorem l_199_69 : look (tab 199) 69 = some (.invokevirtual 293, 3, [6, 197, 2, 848, 849, 850, 5], uu) := by decide +kernel
theorem e_199_69 : den cf 199 69 L (w1 :: .ref a :: st) M = if rcv M 6 [.ref a, w1] = true ∧ st.length ≤ 4 then rK (cf 197 [.ref a, w1] M) (fun v M' => den cf 199 72 L (pR v st) M') else none := den_iv [w1] l_199_69 rfl
theorem l_199_72 : look (tab 199) 72 = some (.goto 7, 3, [79], uu) := by decide +kernel
theorem e_199_72 : den cf 199 72 L st M = den cf 199 79 L st M := den_go l_199_72 rfl
theorem l_199_75 : look (tab 199) 75 = some (.aload_n 0, 1, [], uu) := by decide +kernel
theorem e_199_75 : den cf 199 75 [.ref a, v1, v2, v3] st M = den cf 199 76 [.ref a, v1, v2, v3] (.ref a :: st) M := den_go l_199_75 rfl
theorem l_199_76 : look (tab 199) 76 = some (.invokevirtual 296, 3, [6, 198, 1, 852, 853, 854, 5], uu) := by decide +kernel
theorem e_199_76 : den cf 199 76 L (.ref a :: st) M = if rcv M 6 [.ref a] = true ∧ st.length ≤ 4 then rK (cf 198 [.ref a] M) (fun v M' => den cf 199 79 L (pR v st) M') else none := den_iv [] l_199_76 rfl
theorem l_199_79 : look (tab 199) 79 = some (.ireturn, 1, [0], uu) := by decide +kernel
theorem e_199_79 : den cf 199 79 L [.int x] M = some (some (.int x), M) := den_e0 l_199_79
/-! yX6_isFirst -/
theorem l_200_0 : look (tab 200) 0 = some (.aload_n 0, 1, [], uu) := by decide +kernel
theorem e_200_0 : den cf 200 0 [.ref a, v1] st M = den cf 200 1 [.ref a, v1] (.ref a :: st) M := den_go l_200_0 rfl
theorem l_200_1 : look (tab 200) 1 = some (.getfield 43, 3, [6, 12, 90], uu) := by decide +kernel
theorem e_200_1 : den cf 200 1 L (.ref a :: st) M = oK (gfA (M.2.2 a) 6 12) (fun v => den cf 200 4 L (v :: st) M) := den_gf l_200_1
theorem l_200_4 : look (tab 200) 4 = some (.iload_n 1, 1, [], uu) := by decide +kernel
theorem e_200_4 : den cf 200 4 [v0, .int x] st M = den cf 200 5 [v0, .int x] (.int x :: st) M := den_go l_200_4 rfl
theorem l_200_5 : look (tab 200) 5 = some (.iaload, 1, [], uu) := by decide +kernel
theorem e_200_5 : den cf 200 5 L (.int x :: .ref a :: st) M = oK (ldI (M.2.2 a) x) (fun v => den cf 200 6 L (v :: st) M) := den_al (g := ldI) l_200_5 rfl
theorem l_200_6 : look (tab 200) 6 = some (.ifCond .ne 17, 3, [23], uu) := by decide +kernel
theorem e_200_6 : den cf 200 6 L (.int x :: st) M = if x = zI 0 then den cf 200 9 L st M else den cf 200 23 L st M := den_if_ne l_200_6
theorem l_200_9 : look (tab 200) 9 = some (.aload_n 0, 1, [], uu) := by decide +kernel
theorem e_200_9 : den cf 200 9 [.ref a, v1] st M = den cf 200 10 [.ref a, v1] (.ref a :: st) M := den_go l_200_9 rfl
theorem l_200_10 : look (tab 200) 10 = some (.getfield 49, 3, [6, 14, 92], uu) := by decide +kernel
theorem e_200_10 : den cf 200 10 L (.ref a :: st) M = oK (gfA (M.2.2 a) 6 14) (fun v => den cf 200 13 L (v :: st) M) := den_gf l_200_10
theorem l_200_13 : look (tab 200) 13 = some (.iload_n 1, 1, [], uu) := by decide +kernel
theorem e_200_13 : den cf 200 13 [v0, .int x] st M = den cf 200 14 [v0, .int x] (.int x :: st) M := den_go l_200_13 rfl
theorem l_200_14 : look (tab 200) 14 = some (.iaload, 1, [], uu) := by decide +kernel
theorem e_200_14 : den cf 200 14 L (.int x :: .ref a :: st) M = oK (ldI (M.2.2 a) x) (fun v => den cf 200 15 L (v :: st) M) := den_al (g := ldI) l_200_14 rfl
theorem l_200_15 : look (tab 200) 15 = some (.iconst (-1), 1, [], .int (zI (-1))) := by decide +kernel
theorem e_200_15 : den cf 200 15 L st M = den cf 200 16 L (.int (zI (-1)) :: st) M := den_go l_200_15 rfl
theorem l_200_16 : look (tab 200) 16 = some (.if_icmp .eq 7, 3, [23], uu) := by decide +kernel
theorem e_200_16 : den cf 200 16 L (.int y :: .int x :: st) M = if x = y then den cf 200 23 L st M else den cf 200 19 L st M := den_ic_eq l_200_16
theorem l_200_19 : look (tab 200) 19 = some (.iconst 1, 1, [], .int (zI 1)) := by decide +kernel
theorem e_200_19 : den cf 200 19 L st M = den cf 200 20 L (.int (zI 1) :: st) M := den_go l_200_19 rfl
theorem l_200_20 : look (tab 200) 20 = some (.goto 4, 3, [24], uu) := by decide +kernel
theorem e_200_20 : den cf 200 20 L st M = den cf 200 24 L st M := den_go l_200_20 rfl
theorem l_200_23 : look (tab 200) 23 = some (.iconst 0, 1, [], .int (zI 0)) := by decide +kernel
theorem e_200_23 : den cf 200 23 L st M = den cf 200 24 L (.int (zI 0) :: st) M := den_go l_200_23 rfl
theorem l_200_24 : look (tab 200) 24 = some (.ireturn, 1, [1], uu) := by decide +kernel
theorem e_200_24 : den cf 200 24 L [.int x] M = if x = zI 0 ∨ x = zI 1 then some (some (.int x), M) else none := den_e1 l_200_24
/-! yX6_overNow -/
theorem l_201_0 : look (tab 201) 0 = some (.iconst 0, 1, [], .int (zI 0)) := by decide +kernel
theorem e_201_0 : den cf 201 0 L st M = den cf 201 1 L (.int (zI 0) :: st) M := den_go l_201_0 rfl
theorem l_201_1 : look (tab 201) 1 = some (.istore_n 1, 1, [], uu) := by decide +kernel
theorem e_201_1 : den cf 201 1 [v0, v1, v2] (.int x :: st) M = den cf 201 2 [kq v0, .int x, v2] st M := den_st (k := 1) (v := .int x) l_201_1 rfl
theorem l_201_2 : look (tab 201) 2 = some (.iconst 0, 1, [], .int (zI 0)) := by decide +kernel
theorem e_201_2 : den cf 201 2 L st M = den cf 201 3 L (.int (zI 0) :: st) M := den_go l_201_2 rfl
theorem l_201_3 : look (tab 201) 3 = some (.istore_n 2, 1, [], uu) := by decide +kernel
theorem e_201_3 : den cf 201 3 [v0, v1, v2] (.int x :: st) M = den cf 201 4 [v0, kq v1, .int x] st M := den_st (k := 2) (v := .int x) l_201_3 rfl
theorem l_201_4 : look (tab 201) 4 = some (.iload_n 2, 1, [], uu) := by decide +kernel
theorem e_201_4 : den cf 201 4 [v0, v1, .int x] st M = den cf 201 5 [v0, v1, .int x] (.int x :: st) M := den_go l_201_4 rfl
theorem l_201_5 : look (tab 201) 5 = some (.aload_n 0, 1, [], uu) := by decide +kernel
theorem e_201_5 : den cf 201 5 [.ref a, v1, v2] st M = den cf 201 6 [.ref a, v1, v2] (.ref a :: st) M := den_go l_201_5 rfl
theorem l_201_6 : look (tab 201) 6 = some (.getfield 80, 3, [6, 9, 230], uu) := by decide +kernel
theorem e_201_6 : den cf 201 6 L (.ref a :: st) M = oK (gfA (M.2.2 a) 6 9) (fun v => den cf 201 9 L (v :: st) M) := den_gf l_201_6
theorem l_201_9 : look (tab 201) 9 = some (.if_icmp .ge 33, 3, [42], uu) := by decide +kernel
theorem e_201_9 : den cf 201 9 L (.int y :: .int x :: st) M = if x < y then den cf 201 12 L st M else den cf 201 42 L st M := den_ic_ge l_201_9
theorem l_201_12 : look (tab 201) 12 = some (.iload_n 1, 1, [], uu) := by decide +kernel
theorem e_201_12 : den cf 201 12 [v0, .int x, v2] st M = den cf 201 13 [v0, .int x, v2] (.int x :: st) M := den_go l_201_12 rfl
theorem l_201_13 : look (tab 201) 13 = some (.aload_n 0, 1, [], uu) := by decide +kernel
theorem e_201_13 : den cf 201 13 [.ref a, v1, v2] st M = den cf 201 14 [.ref a, v1, v2] (.ref a :: st) M := den_go l_201_13 rfl
theorem l_201_14 : look (tab 201) 14 = some (.iload_n 2, 1, [], uu) := by decide +kernel
theorem e_201_14 : den cf 201 14 [v0, v1, .int x] st M = den cf 201 15 [v0, v1, .int x] (.int x :: st) M := den_go l_201_14 rfl
theorem l_201_15 : look (tab 201) 15 = some (.invokevirtual 299, 3, [6, 200, 2, 881, 882, 883, 5], uu) := by decide +kernel
theorem e_201_15 : den cf 201 15 L (w1 :: .ref a :: st) M = if rcv M 6 [.ref a, w1] = true ∧ st.length ≤ 4 then rK (cf 200 [.ref a, w1] M) (fun v M' => den cf 201 18 L (pR v st) M') else none := den_iv [w1] l_201_15 rfl
theorem l_201_18 : look (tab 201) 18 = some (.ifCond .eq 15, 3, [33], uu) := by decide +kernel
theorem e_201_18 : den cf 201 18 L (.int x :: st) M = if x = zI 0 then den cf 201 33 L st M else den cf 201 21 L st M := den_if_eq l_201_18
theorem l_201_21 : look (tab 201) 21 = some (.aload_n 0, 1, [], uu) := by decide +kernel
theorem e_201_21 : den cf 201 21 [.ref a, v1, v2] st M = den cf 201 22 [.ref a, v1, v2] (.ref a :: st) M := den_go l_201_21 rfl
theorem l_201_22 : look (tab 201) 22 = some (.iload_n 2, 1, [], uu) := by decide +kernel
theorem e_201_22 : den cf 201 22 [v0, v1, .int x] st M = den cf 201 23 [v0, v1, .int x] (.int x :: st) M := den_go l_201_22 rfl
theorem l_201_23 : look (tab 201) 23 = some (.invokevirtual 253, 3, [6, 183, 2, 674, 675, 676, 5], uu) := by decide +kernel
theorem e_201_23 : den cf 201 23 L (w1 :: .ref a :: st) M = if rcv M 6 [.ref a, w1] = true ∧ st.length ≤ 4 then rK (cf 183 [.ref a, w1] M) (fun v M' => den cf 201 26 L (pR v st) M') else none := den_iv [w1] l_201_23 rfl
theorem l_201_26 : look (tab 201) 26 = some (.ifCond .eq 7, 3, [33], uu) := by decide +kernel
theorem e_201_26 : den cf 201 26 L (.int x :: st) M = if x = zI 0 then den cf 201 33 L st M else den cf 201 29 L st M := den_if_eq l_201_26
theorem l_201_29 : look (tab 201) 29 = some (.iconst 1, 1, [], .int (zI 1)) := by decide +kernel
theorem e_201_29 : den cf 201 29 L st M = den cf 201 30 L (.int (zI 1) :: st) M := den_go l_201_29 rfl
theorem l_201_30 : look (tab 201) 30 = some (.goto 4, 3, [34], uu) := by decide +kernel
theorem e_201_30 : den cf 201 30 L st M = den cf 201 34 L st M := den_go l_201_30 rfl
theorem l_201_33 : look (tab 201) 33 = some (.iconst 0, 1, [], .int (zI 0)) := by decide +kernel
theorem e_201_33 : den cf 201 33 L st M = den cf 201 34 L (.int (zI 0) :: st) M := den_go l_201_33 rfl
theorem l_201_34 : look (tab 201) 34 = some (.iadd, 1, [], uu) := by decide +kernel
theorem e_201_34 : den cf 201 34 L (.int y :: .int x :: st) M = den cf 201 35 L (.int (x + y) :: st) M := den_go l_201_34 rfl
theorem l_201_35 : look (tab 201) 35 = some (.istore_n 1, 1, [], uu) := by decide +kernel
theorem e_201_35 : den cf 201 35 [v0, v1, v2] (.int x :: st) M = den cf 201 36 [kq v0, .int x, v2] st M := den_st (k := 1) (v := .int x) l_201_35 rfl
theorem l_201_36 : look (tab 201) 36 = some (.iinc 2 1, 3, [], .int (zI 1)) := by decide +kernel
theorem e_201_36 : den cf 201 36 [v0, v1, .int x] st M = den cf 201 39 [v0, kq v1, .int (x + (zI 1))] st M := den_st (k := 2) (v := .int (x + (zI 1))) l_201_36 rfl
theorem l_201_39 : look (tab 201) 39 = some (.goto (-35), 3, [4], uu) := by decide +kernel
theorem e_201_39 : den cf 201 39 L st M = den cf 201 4 L st M := den_go l_201_39 rfl
theorem l_201_42 : look (tab 201) 42 = some (.iload_n 1, 1, [], uu) := by decide +kernel
theorem e_201_42 : den cf 201 42 [v0, .int x, v2] st M = den cf 201 43 [v0, .int x, v2] (.int x :: st) M := den_go l_201_42 rfl
theorem l_201_43 : look (tab 201) 43 = some (.ireturn, 1, [0], uu) := by decide +kernel
theorem e_201_43 : den cf 201 43 L [.int x] M = some (some (.int x), M) := den_e0 l_201_43
/-! yX6_pairsNow -/
theorem l_202_0 : look (tab 202) 0 = some (.iconst 0, 1, [], .int (zI 0)) := by decide +kernel
theorem e_202_0 : den cf 202 0 L st M = den cf 202 1 L (.int (zI 0) :: st) M := den_go l_202_0 rfl
theorem l_202_1 : look (tab 202) 1 = some (.istore_n 1, 1, [], uu) := by decide +kernel
theorem e_202_1 : den cf 202 1 [v0, v1, v2] (.int x :: st) M = den cf 202 2 [kq v0, .int x, v2] st M := den_st (k := 1) (v := .int x) l_202_1 rfl
theorem l_202_2 : look (tab 202) 2 = some (.iconst 0, 1, [], .int (zI 0)) := by decide +kernel
theorem e_202_2 : den cf 202 2 L st M = den cf 202 3 L (.int (zI 0) :: st) M := den_go l_202_2 rfl
theorem l_202_3 : look (tab 202) 3 = some (.istore_n 2, 1, [], uu) := by decide +kernel
theorem e_202_3 : den cf 202 3 [v0, v1, v2] (.int x :: st) M = den cf 202 4 [v0, kq v1, .int x] st M := den_st (k := 2) (v := .int x) l_202_3 rfl
theorem l_202_4 : look (tab 202) 4 = some (.iload_n 2, 1, [], uu) := by decide +kernel
theorem e_202_4 : den cf 202 4 [v0, v1, .int x] st M = den cf 202 5 [v0, v1, .int x] (.int x :: st) M := den_go l_202_4 rfl
theorem l_202_5 : look (tab 202) 5 = some (.aload_n 0, 1, [], uu) := by decide +kernel
theorem e_202_5 : den cf 202 5 [.ref a, v1, v2] st M = den cf 202 6 [.ref a, v1, v2] (.ref a :: st) M := den_go l_202_5 rfl
theorem l_202_6 : look (tab 202) 6 = some (.getfield 80, 3, [6, 9, 230], uu) := by decide +kernel
theorem e_202_6 : den cf 202 6 L (.ref a :: st) M = oK (gfA (M.2.2 a) 6 9) (fun v => den cf 202 9 L (v :: st) M) := den_gf l_202_6
theorem l_202_9 : look (tab 202) 9 = some (.if_icmp .ge 25, 3, [34], uu) := by decide +kernel
theorem e_202_9 : den cf 202 9 L (.int y :: .int x :: st) M = if x < y then den cf 202 12 L st M else den cf 202 34 L st M := den_ic_ge l_202_9
theorem l_202_12 : look (tab 202) 12 = some (.iload_n 1, 1, [], uu) := by decide +kernel
theorem e_202_12 : den cf 202 12 [v0, .int x, v2] st M = den cf 202 13 [v0, .int x, v2] (.int x :: st) M := den_go l_202_12 rfl
theorem l_202_13 : look (tab 202) 13 = some (.aload_n 0, 1, [], uu) := by decide +kernel
theorem e_202_13 : den cf 202 13 [.ref a, v1, v2] st M = den cf 202 14 [.ref a, v1, v2] (.ref a :: st) M := den_go l_202_13 rfl
theorem l_202_14 : look (tab 202) 14 = some (.iload_n 2, 1, [], uu) := by decide +kernel
theorem e_202_14 : den cf 202 14 [v0, v1, .int x] st M = den cf 202 15 [v0, v1, .int x] (.int x :: st) M := den_go l_202_14 rfl
theorem l_202_15 : look (tab 202) 15 = some (.invokevirtual 299, 3, [6, 200, 2, 881, 882, 883, 5], uu) := by decide +kernel
theorem e_202_15 : den cf 202 15 L (w1 :: .ref a :: st) M = if rcv M 6 [.ref a, w1] = true ∧ st.length ≤ 4 then rK (cf 200 [.ref a, w1] M) (fun v M' => den cf 202 18 L (pR v st) M') else none := den_iv [w1] l_202_15 rfl
theorem l_202_18 : look (tab 202) 18 = some (.ifCond .eq 7, 3, [25], uu) := by decide +kernel
theorem e_202_18 : den cf 202 18 L (.int x :: st) M = if x = zI 0 then den cf 202 25 L st M else den cf 202 21 L st M := den_if_eq l_202_18
theorem l_202_21 : look (tab 202) 21 = some (.iconst 1, 1, [], .int (zI 1)) := by decide +kernel
theorem e_202_21 : den cf 202 21 L st M = den cf 202 22 L (.int (zI 1) :: st) M := den_go l_202_21 rfl
theorem l_202_22 : look (tab 202) 22 = some (.goto 4, 3, [26], uu) := by decide +kernel
theorem e_202_22 : den cf 202 22 L st M = den cf 202 26 L st M := den_go l_202_22 rfl
theorem l_202_25 : look (tab 202) 25 = some (.iconst 0, 1, [], .int (zI 0)) := by decide +kernel
theorem e_202_25 : den cf 202 25 L st M = den cf 202 26 L (.int (zI 0) :: st) M := den_go l_202_25 rfl
theorem l_202_26 : look (tab 202) 26 = some (.iadd, 1, [], uu) := by decide +kernel
theorem e_202_26 : den cf 202 26 L (.int y :: .int x :: st) M = den cf 202 27 L (.int (x + y) :: st) M := den_go l_202_26 rfl
theorem l_202_27 : look (tab 202) 27 = some (.istore_n 1, 1, [], uu) := by decide +kernel
theorem e_202_27 : den cf 202 27 [v0, v1, v2] (.int x :: st) M = den cf 202 28 [kq v0, .int x, v2] st M := den_st (k := 1) (v := .int x) l_202_27 rfl
theorem l_202_28 : look (tab 202) 28 = some (.iinc 2 1, 3, [], .int (zI 1)) := by decide +kernel
theorem e_202_28 : den cf 202 28 [v0, v1, .int x] st M = den cf 202 31 [v0, kq v1, .int (x + (zI 1))] st M := den_st (k := 2) (v := .int (x + (zI 1))) l_202_28 rfl
theorem l_202_31 : look (tab 202) 31 = some (.goto (-27), 3, [4], uu) := by decide +kernel
theorem e_202_31 : den cf 202 31 L st M = den cf 202 4 L st M := den_go l_202_31 rfl
theorem l_202_34 : look (tab 202) 34 = some (.iload_n 1, 1, [], uu) := by decide +kernel
theorem e_202_34 : den cf 202 34 [v0, .int x, v2] st M = den cf 202 35 [v0, .int x, v2] (.int x :: st) M := den_go l_202_34 rfl
theorem l_202_35 : look (tab 202) 35 = some (.ireturn, 1, [0], uu) := by decide +kernel
theorem e_202_35 : den cf 202 35 L [.int x] M = some (some (.int x), M) := den_e0 l_202_35
/-! yX6_may -/
theorem l_203_0 : look (tab 203) 0 = some (.aload_n 0, 1, [], uu) := by decide +kernel
theorem e_203_0 : den cf 203 0 [.ref a] st M = den cf 203 1 [.ref a] (.ref a :: st) M := den_go l_203_0 rfl
theorem l_203_1 : look (tab 203) 1 = some (.invokevirtual 302, 3, [6, 202, 1, 877, 878, 879, 5], uu) := by decide +kernel
theorem e_203_1 : den cf 203 1 L (.ref a :: st) M = if rcv M 6 [.ref a] = true ∧ st.length ≤ 4 then rK (cf 202 [.ref a] M) (fun v M' => den cf 203 4 L (pR v st) M') else none := den_iv [] l_203_1 rfl
theorem l_203_4 : look (tab 203) 4 = some (.aload_n 0, 1, [], uu) := by decide +kernel
theorem e_203_4 : den cf 203 4 [.ref a] st M = den cf 203 5 [.ref a] (.ref a :: st) M := den_go l_203_4 rfl
theorem l_203_5 : look (tab 203) 5 = some (.invokevirtual 305, 3, [6, 201, 1, 885, 886, 887, 5], uu) := by decide +kernel
theorem e_203_5 : den cf 203 5 L (.ref a :: st) M = if rcv M 6 [.ref a] = true ∧ st.length ≤ 4 then rK (cf 201 [.ref a] M) (fun v M' => den cf 203 8 L (pR v st) M') else none := den_iv [] l_203_5 rfl
theorem l_203_8 : look (tab 203) 8 = some (.isub, 1, [], uu) := by decide +kernel
theorem e_203_8 : den cf 203 8 L (.int y :: .int x :: st) M = den cf 203 9 L (.int (x - y) :: st) M := den_go l_203_8 rfl
theorem l_203_9 : look (tab 203) 9 = some (.ireturn, 1, [0], uu) := by decide +kernel
theorem e_203_9 : den cf 203 9 L [.int x] M = some (some (.int x), M) := den_e0 l_203_9
/-! yX6_stillAll -/
theorem l_204_0 : look (tab 204) 0 = some (.aload_n 0, 1, [], uu) := by decide +kernel
theorem e_204_0 : den cf 204 0 [.ref a, v1, v2, v3, v4] st M = den cf 204 1 [.ref a, v1, v2, v3, v4] (.ref a :: st) M := den_go l_204_0 rfl
theorem l_204_1 : look (tab 204) 1 = some (.getfield 61, 3, [6, 18, 96], uu) := by decide +kernel
theorem e_204_1 : den cf 204 1 L (.ref a :: st) M = oK (gfA (M.2.2 a) 6 18) (fun v => den cf 204 4 L (v :: st) M) := den_gf l_204_1
theorem l_204_4 : look (tab 204) 4 = some (.iconst 2, 1, [], .int (zI 2)) := by decide +kernel
theorem e_204_4 : den cf 204 4 L st M = den cf 204 5 L (.int (zI 2) :: st) M := den_go l_204_4 rfl
theorem l_204_5 : look (tab 204) 5 = some (.iaload, 1, [], uu) := by decide +kernel
theorem e_204_5 : den cf 204 5 L (.int x :: .ref a :: st) M = oK (ldI (M.2.2 a) x) (fun v => den cf 204 6 L (v :: st) M) := den_al (g := ldI) l_204_5 rfl
theorem l_204_6 : look (tab 204) 6 = some (.istore_n 2, 1, [], uu) := by decide +kernel
theorem e_204_6 : den cf 204 6 [v0, v1, v2, v3, v4] (.int x :: st) M = den cf 204 7 [v0, kq v1, .int x, v3, v4] st M := den_st (k := 2) (v := .int x) l_204_6 rfl
theorem l_204_7 : look (tab 204) 7 = some (.aload_n 0, 1, [], uu) := by decide +kernel
theorem e_204_7 : den cf 204 7 [.ref a, v1, v2, v3, v4] st M = den cf 204 8 [.ref a, v1, v2, v3, v4] (.ref a :: st) M := den_go l_204_7 rfl
theorem l_204_8 : look (tab 204) 8 = some (.getfield 61, 3, [6, 18, 96], uu) := by decide +kernel
theorem e_204_8 : den cf 204 8 L (.ref a :: st) M = oK (gfA (M.2.2 a) 6 18) (fun v => den cf 204 11 L (v :: st) M) := den_gf l_204_8
theorem l_204_11 : look (tab 204) 11 = some (.iconst 2, 1, [], .int (zI 2)) := by decide +kernel
theorem e_204_11 : den cf 204 11 L st M = den cf 204 12 L (.int (zI 2) :: st) M := den_go l_204_11 rfl
theorem l_204_12 : look (tab 204) 12 = some (.iload_n 1, 1, [], uu) := by decide +kernel
theorem e_204_12 : den cf 204 12 [v0, .int x, v2, v3, v4] st M = den cf 204 13 [v0, .int x, v2, v3, v4] (.int x :: st) M := den_go l_204_12 rfl
theorem l_204_13 : look (tab 204) 13 = some (.iastore, 1, [], uu) := by decide +kernel
theorem e_204_13 : den cf 204 13 L (.int x :: .int y :: .ref a :: st) M = oK (stI (M.2.2 a) y x) (fun c => den cf 204 14 L st (mU M a c)) := den_is l_204_13
theorem l_204_14 : look (tab 204) 14 = some (.iconst 0, 1, [], .int (zI 0)) := by decide +kernel
theorem e_204_14 : den cf 204 14 L st M = den cf 204 15 L (.int (zI 0) :: st) M := den_go l_204_14 rfl
theorem l_204_15 : look (tab 204) 15 = some (.istore_n 3, 1, [], uu) := by decide +kernel
theorem e_204_15 : den cf 204 15 [v0, v1, v2, v3, v4] (.int x :: st) M = den cf 204 16 [v0, v1, kq v2, .int x, v4] st M := den_st (k := 3) (v := .int x) l_204_15 rfl
theorem l_204_16 : look (tab 204) 16 = some (.iconst 0, 1, [], .int (zI 0)) := by decide +kernel
theorem e_204_16 : den cf 204 16 L st M = den cf 204 17 L (.int (zI 0) :: st) M := den_go l_204_16 rfl
theorem l_204_17 : look (tab 204) 17 = some (.istore 4, 2, [], uu) := by decide +kernel
theorem e_204_17 : den cf 204 17 [v0, v1, v2, v3, v4] (.int x :: st) M = den cf 204 19 [v0, v1, v2, kq v3, .int x] st M := den_st (k := 4) (v := .int x) l_204_17 rfl
theorem l_204_19 : look (tab 204) 19 = some (.iload 4, 2, [], uu) := by decide +kernel
theorem e_204_19 : den cf 204 19 [v0, v1, v2, v3, .int x] st M = den cf 204 21 [v0, v1, v2, v3, .int x] (.int x :: st) M := den_go l_204_19 rfl
theorem l_204_21 : look (tab 204) 21 = some (.aload_n 0, 1, [], uu) := by decide +kernel
theorem e_204_21 : den cf 204 21 [.ref a, v1, v2, v3, v4] st M = den cf 204 22 [.ref a, v1, v2, v3, v4] (.ref a :: st) M := den_go l_204_21 rfl
theorem l_204_22 : look (tab 204) 22 = some (.getfield 80, 3, [6, 9, 230], uu) := by decide +kernel
theorem e_204_22 : den cf 204 22 L (.ref a :: st) M = oK (gfA (M.2.2 a) 6 9) (fun v => den cf 204 25 L (v :: st) M) := den_gf l_204_22
theorem l_204_25 : look (tab 204) 25 = some (.if_icmp .ge 32, 3, [57], uu) := by decide +kernel
theorem e_204_25 : den cf 204 25 L (.int y :: .int x :: st) M = if x < y then den cf 204 28 L st M else den cf 204 57 L st M := den_ic_ge l_204_25
theorem l_204_28 : look (tab 204) 28 = some (.iload_n 3, 1, [], uu) := by decide +kernel
theorem e_204_28 : den cf 204 28 [v0, v1, v2, .int x, v4] st M = den cf 204 29 [v0, v1, v2, .int x, v4] (.int x :: st) M := den_go l_204_28 rfl
theorem l_204_29 : look (tab 204) 29 = some (.aload_n 0, 1, [], uu) := by decide +kernel
theorem e_204_29 : den cf 204 29 [.ref a, v1, v2, v3, v4] st M = den cf 204 30 [.ref a, v1, v2, v3, v4] (.ref a :: st) M := den_go l_204_29 rfl
theorem l_204_30 : look (tab 204) 30 = some (.iload 4, 2, [], uu) := by decide +kernel
theorem e_204_30 : den cf 204 30 [v0, v1, v2, v3, .int x] st M = den cf 204 32 [v0, v1, v2, v3, .int x] (.int x :: st) M := den_go l_204_30 rfl
theorem l_204_32 : look (tab 204) 32 = some (.invokevirtual 299, 3, [6, 200, 2, 881, 882, 883, 5], uu) := by decide +kernel
theorem e_204_32 : den cf 204 32 L (w1 :: .ref a :: st) M = if rcv M 6 [.ref a, w1] = true ∧ st.length ≤ 4 then rK (cf 200 [.ref a, w1] M) (fun v M' => den cf 204 35 L (pR v st) M') else none := den_iv [w1] l_204_32 rfl
theorem l_204_35 : look (tab 204) 35 = some (.ifCond .eq 13, 3, [48], uu) := by decide +kernel
theorem e_204_35 : den cf 204 35 L (.int x :: st) M = if x = zI 0 then den cf 204 48 L st M else den cf 204 38 L st M := den_if_eq l_204_35
theorem l_204_38 : look (tab 204) 38 = some (.aload_n 0, 1, [], uu) := by decide +kernel
theorem e_204_38 : den cf 204 38 [.ref a, v1, v2, v3, v4] st M = den cf 204 39 [.ref a, v1, v2, v3, v4] (.ref a :: st) M := den_go l_204_38 rfl
theorem l_204_39 : look (tab 204) 39 = some (.iload 4, 2, [], uu) := by decide +kernel
theorem e_204_39 : den cf 204 39 [v0, v1, v2, v3, .int x] st M = den cf 204 41 [v0, v1, v2, v3, .int x] (.int x :: st) M := den_go l_204_39 rfl
theorem l_204_41 : look (tab 204) 41 = some (.iconst 4, 1, [], .int (zI 4)) := by decide +kernel
theorem e_204_41 : den cf 204 41 L st M = den cf 204 42 L (.int (zI 4) :: st) M := den_go l_204_41 rfl
theorem l_204_42 : look (tab 204) 42 = some (.invokevirtual 263, 3, [6, 187, 3, 695, 696, 697, 5], uu) := by decide +kernel
theorem e_204_42 : den cf 204 42 L (w2 :: w1 :: .ref a :: st) M = if rcv M 6 [.ref a, w1, w2] = true ∧ st.length ≤ 4 then rK (cf 187 [.ref a, w1, w2] M) (fun v M' => den cf 204 45 L (pR v st) M') else none := den_iv [w1, w2] l_204_42 rfl
theorem l_204_45 : look (tab 204) 45 = some (.goto 4, 3, [49], uu) := by decide +kernel
theorem e_204_45 : den cf 204 45 L st M = den cf 204 49 L st M := den_go l_204_45 rfl
theorem l_204_48 : look (tab 204) 48 = some (.iconst 0, 1, [], .int (zI 0)) := by decide +kernel
theorem e_204_48 : den cf 204 48 L st M = den cf 204 49 L (.int (zI 0) :: st) M := den_go l_204_48 rfl
theorem l_204_49 : look (tab 204) 49 = some (.iadd, 1, [], uu) := by decide +kernel
theorem e_204_49 : den cf 204 49 L (.int y :: .int x :: st) M = den cf 204 50 L (.int (x + y) :: st) M := den_go l_204_49 rfl
theorem l_204_50 : look (tab 204) 50 = some (.istore_n 3, 1, [], uu) := by decide +kernel
theorem e_204_50 : den cf 204 50 [v0, v1, v2, v3, v4] (.int x :: st) M = den cf 204 51 [v0, v1, kq v2, .int x, v4] st M := den_st (k := 3) (v := .int x) l_204_50 rfl
theorem l_204_51 : look (tab 204) 51 = some (.iinc 4 1, 3, [], .int (zI 1)) := by decide +kernel
theorem e_204_51 : den cf 204 51 [v0, v1, v2, v3, .int x] st M = den cf 204 54 [v0, v1, v2, kq v3, .int (x + (zI 1))] st M := den_st (k := 4) (v := .int (x + (zI 1))) l_204_51 rfl
theorem l_204_54 : look (tab 204) 54 = some (.goto (-35), 3, [19], uu) := by decide +kernel
theorem e_204_54 : den cf 204 54 L st M = den cf 204 19 L st M := den_go l_204_54 rfl
theorem l_204_57 : look (tab 204) 57 = some (.aload_n 0, 1, [], uu) := by decide +kernel
theorem e_204_57 : den cf 204 57 [.ref a, v1, v2, v3, v4] st M = den cf 204 58 [.ref a, v1, v2, v3, v4] (.ref a :: st) M := den_go l_204_57 rfl
theorem l_204_58 : look (tab 204) 58 = some (.getfield 61, 3, [6, 18, 96], uu) := by decide +kernel
theorem e_204_58 : den cf 204 58 L (.ref a :: st) M = oK (gfA (M.2.2 a) 6 18) (fun v => den cf 204 61 L (v :: st) M) := den_gf l_204_58
theorem l_204_61 : look (tab 204) 61 = some (.iconst 2, 1, [], .int (zI 2)) := by decide +kernel
theorem e_204_61 : den cf 204 61 L st M = den cf 204 62 L (.int (zI 2) :: st) M := den_go l_204_61 rfl
theorem l_204_62 : look (tab 204) 62 = some (.iload_n 2, 1, [], uu) := by decide +kernel
theorem e_204_62 : den cf 204 62 [v0, v1, .int x, v3, v4] st M = den cf 204 63 [v0, v1, .int x, v3, v4] (.int x :: st) M := den_go l_204_62 rfl
theorem l_204_63 : look (tab 204) 63 = some (.iastore, 1, [], uu) := by decide +kernel
theorem e_204_63 : den cf 204 63 L (.int x :: .int y :: .ref a :: st) M = oK (stI (M.2.2 a) y x) (fun c => den cf 204 64 L st (mU M a c)) := den_is l_204_63
theorem l_204_64 : look (tab 204) 64 = some (.iload_n 3, 1, [], uu) := by decide +kernel
theorem e_204_64 : den cf 204 64 [v0, v1, v2, .int x, v4] st M = den cf 204 65 [v0, v1, v2, .int x, v4] (.int x :: st) M := den_go l_204_64 rfl
theorem l_204_65 : look (tab 204) 65 = some (.ireturn, 1, [0], uu) := by decide +kernel
theorem e_204_65 : den cf 204 65 L [.int x] M = some (some (.int x), M) := den_e0 l_204_65
/-! yX6_fridays -/
theorem l_205_0 : look (tab 205) 0 = some (.aload_n 0, 1, [], uu) := by decide +kernel
theorem e_205_0 : den cf 205 0 [.ref a] st M = den cf 205 1 [.ref a] (.ref a :: st) M := den_go l_205_0 rfl
theorem l_205_1 : look (tab 205) 1 = some (.iconst 1, 1, [], .int (zI 1)) := by decide +kernel
theorem e_205_1 : den cf 205 1 L st M = den cf 205 2 L (.int (zI 1) :: st) M := den_go l_205_1 rfl
theorem l_205_2 : look (tab 205) 2 = some (.invokevirtual 308, 3, [6, 204, 2, 902, 903, 904, 5], uu) := by decide +kernel
theorem e_205_2 : den cf 205 2 L (w1 :: .ref a :: st) M = if rcv M 6 [.ref a, w1] = true ∧ st.length ≤ 4 then rK (cf 204 [.ref a, w1] M) (fun v M' => den cf 205 5 L (pR v st) M') else none := den_iv [w1] l_205_2 rfl
theorem l_205_5 : look (tab 205) 5 = some (.aload_n 0, 1, [], uu) := by decide +kernel
theorem e_205_5 : den cf 205 5 [.ref a] st M = den cf 205 6 [.ref a] (.ref a :: st) M := den_go l_205_5 rfl
theorem l_205_6 : look (tab 205) 6 = some (.iconst 0, 1, [], .int (zI 0)) := by decide +kernel
theorem e_205_6 : den cf 205 6 L st M = den cf 205 7 L (.int (zI 0) :: st) M := den_go l_205_6 rfl
theorem l_205_7 : look (tab 205) 7 = some (.invokevirtual 308, 3, [6, 204, 2, 902, 903, 904, 5], uu) := by decide +kernel
theorem e_205_7 : den cf 205 7 L (w1 :: .ref a :: st) M = if rcv M 6 [.ref a, w1] = true ∧ st.length ≤ 4 then rK (cf 204 [.ref a, w1] M) (fun v M' => den cf 205 10 L (pR v st) M') else none := den_iv [w1] l_205_7 rfl
theorem l_205_10 : look (tab 205) 10 = some (.isub, 1, [], uu) := by decide +kernel
theorem e_205_10 : den cf 205 10 L (.int y :: .int x :: st) M = den cf 205 11 L (.int (x - y) :: st) M := den_go l_205_10 rfl
theorem l_205_11 : look (tab 205) 11 = some (.ireturn, 1, [0], uu) := by decide +kernel
theorem e_205_11 : den cf 205 11 L [.int x] M = some (some (.int x), M) := den_e0 l_205_11
/-! yX6_tongue -/
theorem l_206_0 : look (tab 206) 0 = some (.aload_n 0, 1, [], uu) := by decide +kernel
theorem e_206_0 : den cf 206 0 [.ref a, v1, v2, v3] st M = den cf 206 1 [.ref a, v1, v2, v3] (.ref a :: st) M := den_go l_206_0 rfl
theorem l_206_1 : look (tab 206) 1 = some (.getfield 61, 3, [6, 18, 96], uu) := by decide +kernel
theorem e_206_1 : den cf 206 1 L (.ref a :: st) M = oK (gfA (M.2.2 a) 6 18) (fun v => den cf 206 4 L (v :: st) M) := den_gf l_206_1
theorem l_206_4 : look (tab 206) 4 = some (.iconst 1, 1, [], .int (zI 1)) := by decide +kernel
theorem e_206_4 : den cf 206 4 L st M = den cf 206 5 L (.int (zI 1) :: st) M := den_go l_206_4 rfl
theorem l_206_5 : look (tab 206) 5 = some (.iaload, 1, [], uu) := by decide +kernel
theorem e_206_5 : den cf 206 5 L (.int x :: .ref a :: st) M = oK (ldI (M.2.2 a) x) (fun v => den cf 206 6 L (v :: st) M) := den_al (g := ldI) l_206_5 rfl
theorem l_206_6 : look (tab 206) 6 = some (.istore_n 1, 1, [], uu) := by decide +kernel
theorem e_206_6 : den cf 206 6 [v0, v1, v2, v3] (.int x :: st) M = den cf 206 7 [kq v0, .int x, v2, v3] st M := den_st (k := 1) (v := .int x) l_206_6 rfl
theorem l_206_7 : look (tab 206) 7 = some (.iconst (-1), 1, [], .int (zI (-1))) := by decide +kernel
theorem e_206_7 : den cf 206 7 L st M = den cf 206 8 L (.int (zI (-1)) :: st) M := den_go l_206_7 rfl
theorem l_206_8 : look (tab 206) 8 = some (.istore_n 2, 1, [], uu) := by decide +kernel
theorem e_206_8 : den cf 206 8 [v0, v1, v2, v3] (.int x :: st) M = den cf 206 9 [v0, kq v1, .int x, v3] st M := den_st (k := 2) (v := .int x) l_206_8 rfl
theorem l_206_9 : look (tab 206) 9 = some (.iconst 0, 1, [], .int (zI 0)) := by decide +kernel
theorem e_206_9 : den cf 206 9 L st M = den cf 206 10 L (.int (zI 0) :: st) M := den_go l_206_9 rfl
theorem l_206_10 : look (tab 206) 10 = some (.istore_n 3, 1, [], uu) := by decide +kernel
theorem e_206_10 : den cf 206 10 [v0, v1, v2, v3] (.int x :: st) M = den cf 206 11 [v0, v1, kq v2, .int x] st M := den_st (k := 3) (v := .int x) l_206_10 rfl
theorem l_206_11 : look (tab 206) 11 = some (.iload_n 3, 1, [], uu) := by decide +kernel
theorem e_206_11 : den cf 206 11 [v0, v1, v2, .int x] st M = den cf 206 12 [v0, v1, v2, .int x] (.int x :: st) M := den_go l_206_11 rfl
theorem l_206_12 : look (tab 206) 12 = some (.bipush 9, 2, [], .int (zI 9)) := by decide +kernel
theorem e_206_12 : den cf 206 12 L st M = den cf 206 14 L (.int (zI 9) :: st) M := den_go l_206_12 rfl
theorem l_206_14 : look (tab 206) 14 = some (.if_icmp .gt 29, 3, [43], uu) := by decide +kernel
theorem e_206_14 : den cf 206 14 L (.int y :: .int x :: st) M = if y < x then den cf 206 43 L st M else den cf 206 17 L st M := den_ic_gt l_206_14
theorem l_206_17 : look (tab 206) 17 = some (.aload_n 0, 1, [], uu) := by decide +kernel
theorem e_206_17 : den cf 206 17 [.ref a, v1, v2, v3] st M = den cf 206 18 [.ref a, v1, v2, v3] (.ref a :: st) M := den_go l_206_17 rfl
theorem l_206_18 : look (tab 206) 18 = some (.getfield 61, 3, [6, 18, 96], uu) := by decide +kernel
theorem e_206_18 : den cf 206 18 L (.ref a :: st) M = oK (gfA (M.2.2 a) 6 18) (fun v => den cf 206 21 L (v :: st) M) := den_gf l_206_18
theorem l_206_21 : look (tab 206) 21 = some (.iconst 1, 1, [], .int (zI 1)) := by decide +kernel
theorem e_206_21 : den cf 206 21 L st M = den cf 206 22 L (.int (zI 1) :: st) M := den_go l_206_21 rfl
theorem l_206_22 : look (tab 206) 22 = some (.iload_n 3, 1, [], uu) := by decide +kernel
theorem e_206_22 : den cf 206 22 [v0, v1, v2, .int x] st M = den cf 206 23 [v0, v1, v2, .int x] (.int x :: st) M := den_go l_206_22 rfl
theorem l_206_23 : look (tab 206) 23 = some (.iastore, 1, [], uu) := by decide +kernel
theorem e_206_23 : den cf 206 23 L (.int x :: .int y :: .ref a :: st) M = oK (stI (M.2.2 a) y x) (fun c => den cf 206 24 L st (mU M a c)) := den_is l_206_23
theorem l_206_24 : look (tab 206) 24 = some (.aload_n 0, 1, [], uu) := by decide +kernel
theorem e_206_24 : den cf 206 24 [.ref a, v1, v2, v3] st M = den cf 206 25 [.ref a, v1, v2, v3] (.ref a :: st) M := den_go l_206_24 rfl
theorem l_206_25 : look (tab 206) 25 = some (.invokevirtual 305, 3, [6, 201, 1, 885, 886, 887, 5], uu) := by decide +kernel
theorem e_206_25 : den cf 206 25 L (.ref a :: st) M = if rcv M 6 [.ref a] = true ∧ st.length ≤ 4 then rK (cf 201 [.ref a] M) (fun v M' => den cf 206 28 L (pR v st) M') else none := den_iv [] l_206_25 rfl
theorem l_206_28 : look (tab 206) 28 = some (.ifCond .ne 7, 3, [35], uu) := by decide +kernel
theorem e_206_28 : den cf 206 28 L (.int x :: st) M = if x = zI 0 then den cf 206 31 L st M else den cf 206 35 L st M := den_if_ne l_206_28
theorem l_206_31 : look (tab 206) 31 = some (.iload_n 3, 1, [], uu) := by decide +kernel
theorem e_206_31 : den cf 206 31 [v0, v1, v2, .int x] st M = den cf 206 32 [v0, v1, v2, .int x] (.int x :: st) M := den_go l_206_31 rfl
theorem l_206_32 : look (tab 206) 32 = some (.goto 4, 3, [36], uu) := by decide +kernel
theorem e_206_32 : den cf 206 32 L st M = den cf 206 36 L st M := den_go l_206_32 rfl
theorem l_206_35 : look (tab 206) 35 = some (.iload_n 2, 1, [], uu) := by decide +kernel
theorem e_206_35 : den cf 206 35 [v0, v1, .int x, v3] st M = den cf 206 36 [v0, v1, .int x, v3] (.int x :: st) M := den_go l_206_35 rfl
theorem l_206_36 : look (tab 206) 36 = some (.istore_n 2, 1, [], uu) := by decide +kernel
theorem e_206_36 : den cf 206 36 [v0, v1, v2, v3] (.int x :: st) M = den cf 206 37 [v0, kq v1, .int x, v3] st M := den_st (k := 2) (v := .int x) l_206_36 rfl
theorem l_206_37 : look (tab 206) 37 = some (.iinc 3 1, 3, [], .int (zI 1)) := by decide +kernel
theorem e_206_37 : den cf 206 37 [v0, v1, v2, .int x] st M = den cf 206 40 [v0, v1, kq v2, .int (x + (zI 1))] st M := den_st (k := 3) (v := .int (x + (zI 1))) l_206_37 rfl
theorem l_206_40 : look (tab 206) 40 = some (.goto (-29), 3, [11], uu) := by decide +kernel
theorem e_206_40 : den cf 206 40 L st M = den cf 206 11 L st M := den_go l_206_40 rfl
theorem l_206_43 : look (tab 206) 43 = some (.aload_n 0, 1, [], uu) := by decide +kernel
theorem e_206_43 : den cf 206 43 [.ref a, v1, v2, v3] st M = den cf 206 44 [.ref a, v1, v2, v3] (.ref a :: st) M := den_go l_206_43 rfl
theorem l_206_44 : look (tab 206) 44 = some (.getfield 61, 3, [6, 18, 96], uu) := by decide +kernel
theorem e_206_44 : den cf 206 44 L (.ref a :: st) M = oK (gfA (M.2.2 a) 6 18) (fun v => den cf 206 47 L (v :: st) M) := den_gf l_206_44
theorem l_206_47 : look (tab 206) 47 = some (.iconst 1, 1, [], .int (zI 1)) := by decide +kernel
theorem e_206_47 : den cf 206 47 L st M = den cf 206 48 L (.int (zI 1) :: st) M := den_go l_206_47 rfl
theorem l_206_48 : look (tab 206) 48 = some (.iload_n 1, 1, [], uu) := by decide +kernel
theorem e_206_48 : den cf 206 48 [v0, .int x, v2, v3] st M = den cf 206 49 [v0, .int x, v2, v3] (.int x :: st) M := den_go l_206_48 rfl
theorem l_206_49 : look (tab 206) 49 = some (.iastore, 1, [], uu) := by decide +kernel
theorem e_206_49 : den cf 206 49 L (.int x :: .int y :: .ref a :: st) M = oK (stI (M.2.2 a) y x) (fun c => den cf 206 50 L st (mU M a c)) := den_is l_206_49
theorem l_206_50 : look (tab 206) 50 = some (.iload_n 2, 1, [], uu) := by decide +kernel
theorem e_206_50 : den cf 206 50 [v0, v1, .int x, v3] st M = den cf 206 51 [v0, v1, .int x, v3] (.int x :: st) M := den_go l_206_50 rfl
theorem l_206_51 : look (tab 206) 51 = some (.ireturn, 1, [0], uu) := by decide +kernel
theorem e_206_51 : den cf 206 51 L [.int x] M = some (some (.int x), M) := den_e0 l_206_51
/-! yX6_valueOf -/
theorem l_207_0 : look (tab 207) 0 = some (.iload_n 2, 1, [], uu) := by decide +kernel
theorem e_207_0 : den cf 207 0 [v0, v1, .int x] st M = den cf 207 1 [v0, v1, .int x] (.int x :: st) M := den_go l_207_0 rfl
theorem l_207_1 : look (tab 207) 1 = some (.ifCond .ne 12, 3, [13], uu) := by decide +kernel
theorem e_207_1 : den cf 207 1 L (.int x :: st) M = if x = zI 0 then den cf 207 4 L st M else den cf 207 13 L st M := den_if_ne l_207_1
theorem l_207_4 : look (tab 207) 4 = some (.aload_n 0, 1, [], uu) := by decide +kernel
theorem e_207_4 : den cf 207 4 [.ref a, v1, v2] st M = den cf 207 5 [.ref a, v1, v2] (.ref a :: st) M := den_go l_207_4 rfl
theorem l_207_5 : look (tab 207) 5 = some (.getfield 58, 3, [6, 17, 95], uu) := by decide +kernel
theorem e_207_5 : den cf 207 5 L (.ref a :: st) M = oK (gfA (M.2.2 a) 6 17) (fun v => den cf 207 8 L (v :: st) M) := den_gf l_207_5
theorem l_207_8 : look (tab 207) 8 = some (.iload_n 1, 1, [], uu) := by decide +kernel
theorem e_207_8 : den cf 207 8 [v0, .int x, v2] st M = den cf 207 9 [v0, .int x, v2] (.int x :: st) M := den_go l_207_8 rfl
theorem l_207_9 : look (tab 207) 9 = some (.iaload, 1, [], uu) := by decide +kernel
theorem e_207_9 : den cf 207 9 L (.int x :: .ref a :: st) M = oK (ldI (M.2.2 a) x) (fun v => den cf 207 10 L (v :: st) M) := den_al (g := ldI) l_207_9 rfl
theorem l_207_10 : look (tab 207) 10 = some (.goto 26, 3, [36], uu) := by decide +kernel
theorem e_207_10 : den cf 207 10 L st M = den cf 207 36 L st M := den_go l_207_10 rfl
theorem l_207_13 : look (tab 207) 13 = some (.iload_n 2, 1, [], uu) := by decide +kernel
theorem e_207_13 : den cf 207 13 [v0, v1, .int x] st M = den cf 207 14 [v0, v1, .int x] (.int x :: st) M := den_go l_207_13 rfl
theorem l_207_14 : look (tab 207) 14 = some (.iconst 1, 1, [], .int (zI 1)) := by decide +kernel
theorem e_207_14 : den cf 207 14 L st M = den cf 207 15 L (.int (zI 1) :: st) M := den_go l_207_14 rfl
theorem l_207_15 : look (tab 207) 15 = some (.if_icmp .ne 12, 3, [27], uu) := by decide +kernel
theorem e_207_15 : den cf 207 15 L (.int y :: .int x :: st) M = if x = y then den cf 207 18 L st M else den cf 207 27 L st M := den_ic_ne l_207_15
theorem l_207_18 : look (tab 207) 18 = some (.aload_n 0, 1, [], uu) := by decide +kernel
theorem e_207_18 : den cf 207 18 [.ref a, v1, v2] st M = den cf 207 19 [.ref a, v1, v2] (.ref a :: st) M := den_go l_207_18 rfl
theorem l_207_19 : look (tab 207) 19 = some (.getfield 55, 3, [6, 16, 94], uu) := by decide +kernel
theorem e_207_19 : den cf 207 19 L (.ref a :: st) M = oK (gfA (M.2.2 a) 6 16) (fun v => den cf 207 22 L (v :: st) M) := den_gf l_207_19
theorem l_207_22 : look (tab 207) 22 = some (.iload_n 1, 1, [], uu) := by decide +kernel
theorem e_207_22 : den cf 207 22 [v0, .int x, v2] st M = den cf 207 23 [v0, .int x, v2] (.int x :: st) M := den_go l_207_22 rfl
theorem l_207_23 : look (tab 207) 23 = some (.iaload, 1, [], uu) := by decide +kernel
theorem e_207_23 : den cf 207 23 L (.int x :: .ref a :: st) M = oK (ldI (M.2.2 a) x) (fun v => den cf 207 24 L (v :: st) M) := den_al (g := ldI) l_207_23 rfl
theorem l_207_24 : look (tab 207) 24 = some (.goto 12, 3, [36], uu) := by decide +kernel
theorem e_207_24 : den cf 207 24 L st M = den cf 207 36 L st M := den_go l_207_24 rfl
theorem l_207_27 : look (tab 207) 27 = some (.aload_n 0, 1, [], uu) := by decide +kernel
theorem e_207_27 : den cf 207 27 [.ref a, v1, v2] st M = den cf 207 28 [.ref a, v1, v2] (.ref a :: st) M := den_go l_207_27 rfl
theorem l_207_28 : look (tab 207) 28 = some (.getfield 46, 3, [6, 13, 91], uu) := by decide +kernel
theorem e_207_28 : den cf 207 28 L (.ref a :: st) M = oK (gfA (M.2.2 a) 6 13) (fun v => den cf 207 31 L (v :: st) M) := den_gf l_207_28
theorem l_207_31 : look (tab 207) 31 = some (.iload_n 1, 1, [], uu) := by decide +kernel
theorem e_207_31 : den cf 207 31 [v0, .int x, v2] st M = den cf 207 32 [v0, .int x, v2] (.int x :: st) M := den_go l_207_31 rfl
theorem l_207_32 : look (tab 207) 32 = some (.iaload, 1, [], uu) := by decide +kernel
theorem e_207_32 : den cf 207 32 L (.int x :: .ref a :: st) M = oK (ldI (M.2.2 a) x) (fun v => den cf 207 33 L (v :: st) M) := den_al (g := ldI) l_207_32 rfl
theorem l_207_33 : look (tab 207) 33 = some (.invokestatic 127, 3, [1, 139, 1, 292, 293, 5], uu) := by decide +kernel
theorem e_207_33 : den cf 207 33 L (w1 :: st) M = if st.length ≤ 4 then rK (cf 139 [w1] M) (fun v M' => den cf 207 36 L (pR v st) M') else none := den_ist [w1] l_207_33 rfl
theorem l_207_36 : look (tab 207) 36 = some (.ireturn, 1, [0], uu) := by decide +kernel
theorem e_207_36 : den cf 207 36 L [.int x] M = some (some (.int x), M) := den_e0 l_207_36
/-! yX6_first -/
theorem l_208_0 : look (tab 208) 0 = some (.iload_n 1, 1, [], uu) := by decide +kernel
theorem e_208_0 : den cf 208 0 [v0, .int x, v2, v3, v4] st M = den cf 208 1 [v0, .int x, v2, v3, v4] (.int x :: st) M := den_go l_208_0 rfl
theorem l_208_1 : look (tab 208) 1 = some (.i2l, 1, [], uu) := by decide +kernel
theorem e_208_1 : den cf 208 1 L (.int x :: st) M = den cf 208 2 L (.long x.toInt64 :: st) M := den_go l_208_1 rfl
theorem l_208_2 : look (tab 208) 2 = some (.lconst 0, 1, [], .long (zJ 0)) := by decide +kernel
theorem e_208_2 : den cf 208 2 L st M = den cf 208 3 L (.long (zJ 0) :: st) M := den_go l_208_2 rfl
theorem l_208_3 : look (tab 208) 3 = some (.lconst 1, 1, [], .long (zJ 1)) := by decide +kernel
theorem e_208_3 : den cf 208 3 L st M = den cf 208 4 L (.long (zJ 1) :: st) M := den_go l_208_3 rfl
theorem l_208_4 : look (tab 208) 4 = some (.invokestatic 83, 3, [1, 137, 3, 130, 131, 5], uu) := by decide +kernel
theorem e_208_4 : den cf 208 4 L (w3 :: w2 :: w1 :: st) M = if st.length ≤ 4 then rK (cf 137 [w1, w2, w3] M) (fun v M' => den cf 208 7 L (pR v st) M') else none := den_ist [w1, w2, w3] l_208_4 rfl
theorem l_208_7 : look (tab 208) 7 = some (.ifCond .eq 15, 3, [22], uu) := by decide +kernel
theorem e_208_7 : den cf 208 7 L (.int x :: st) M = if x = zI 0 then den cf 208 22 L st M else den cf 208 10 L st M := den_if_eq l_208_7
theorem l_208_10 : look (tab 208) 10 = some (.iload_n 2, 1, [], uu) := by decide +kernel
theorem e_208_10 : den cf 208 10 [v0, v1, .int x, v3, v4] st M = den cf 208 11 [v0, v1, .int x, v3, v4] (.int x :: st) M := den_go l_208_10 rfl
theorem l_208_11 : look (tab 208) 11 = some (.i2l, 1, [], uu) := by decide +kernel
theorem e_208_11 : den cf 208 11 L (.int x :: st) M = den cf 208 12 L (.long x.toInt64 :: st) M := den_go l_208_11 rfl
theorem l_208_12 : look (tab 208) 12 = some (.lconst 0, 1, [], .long (zJ 0)) := by decide +kernel
theorem e_208_12 : den cf 208 12 L st M = den cf 208 13 L (.long (zJ 0) :: st) M := den_go l_208_12 rfl
theorem l_208_13 : look (tab 208) 13 = some (.ldc2_w 147, 3, [398], .long (zJ 2)) := by decide +kernel
theorem e_208_13 : den cf 208 13 L st M = den cf 208 16 L (.long (zJ 2) :: st) M := den_go l_208_13 rfl
theorem l_208_16 : look (tab 208) 16 = some (.invokestatic 83, 3, [1, 137, 3, 130, 131, 5], uu) := by decide +kernel
theorem e_208_16 : den cf 208 16 L (w3 :: w2 :: w1 :: st) M = if st.length ≤ 4 then rK (cf 137 [w1, w2, w3] M) (fun v M' => den cf 208 19 L (pR v st) M') else none := den_ist [w1, w2, w3] l_208_16 rfl
theorem l_208_19 : look (tab 208) 19 = some (.ifCond .ne 10, 3, [29], uu) := by decide +kernel
theorem e_208_19 : den cf 208 19 L (.int x :: st) M = if x = zI 0 then den cf 208 22 L st M else den cf 208 29 L st M := den_if_ne l_208_19
theorem l_208_22 : look (tab 208) 22 = some (.aload_n 0, 1, [], uu) := by decide +kernel
theorem e_208_22 : den cf 208 22 [.ref a, v1, v2, v3, v4] st M = den cf 208 23 [.ref a, v1, v2, v3, v4] (.ref a :: st) M := den_go l_208_22 rfl
theorem l_208_23 : look (tab 208) 23 = some (.bipush (-2), 2, [], .int (zI (-2))) := by decide +kernel
theorem e_208_23 : den cf 208 23 L st M = den cf 208 25 L (.int (zI (-2)) :: st) M := den_go l_208_23 rfl
theorem l_208_25 : look (tab 208) 25 = some (.invokevirtual 93, 3, [6, 136, 2, 133, 134, 135, 5], uu) := by decide +kernel
theorem e_208_25 : den cf 208 25 L (w1 :: .ref a :: st) M = if rcv M 6 [.ref a, w1] = true ∧ st.length ≤ 4 then rK (cf 136 [.ref a, w1] M) (fun v M' => den cf 208 28 L (pR v st) M') else none := den_iv [w1] l_208_25 rfl
theorem l_208_28 : look (tab 208) 28 = some (.ireturn, 1, [0], uu) := by decide +kernel
theorem e_208_28 : den cf 208 28 L [.int x] M = some (some (.int x), M) := den_e0 l_208_28
theorem l_208_29 : look (tab 208) 29 = some (.iconst (-1), 1, [], .int (zI (-1))) := by decide +kernel
theorem e_208_29 : den cf 208 29 L st M = den cf 208 30 L (.int (zI (-1)) :: st) M := den_go l_208_29 rfl
theorem l_208_30 : look (tab 208) 30 = some (.istore_n 3, 1, [], uu) := by decide +kernel
theorem e_208_30 : den cf 208 30 [v0, v1, v2, v3, v4] (.int x :: st) M = den cf 208 31 [v0, v1, kq v2, .int x, v4] st M := den_st (k := 3) (v := .int x) l_208_30 rfl
theorem l_208_31 : look (tab 208) 31 = some (.iconst 0, 1, [], .int (zI 0)) := by decide +kernel
theorem e_208_31 : den cf 208 31 L st M = den cf 208 32 L (.int (zI 0) :: st) M := den_go l_208_31 rfl
theorem l_208_32 : look (tab 208) 32 = some (.istore 4, 2, [], uu) := by decide +kernel
theorem e_208_32 : den cf 208 32 [v0, v1, v2, v3, v4] (.int x :: st) M = den cf 208 34 [v0, v1, v2, kq v3, .int x] st M := den_st (k := 4) (v := .int x) l_208_32 rfl
theorem l_208_34 : look (tab 208) 34 = some (.iload 4, 2, [], uu) := by decide +kernel
theorem e_208_34 : den cf 208 34 [v0, v1, v2, v3, .int x] st M = den cf 208 36 [v0, v1, v2, v3, .int x] (.int x :: st) M := den_go l_208_34 rfl
theorem l_208_36 : look (tab 208) 36 = some (.aload_n 0, 1, [], uu) := by decide +kernel
theorem e_208_36 : den cf 208 36 [.ref a, v1, v2, v3, v4] st M = den cf 208 37 [.ref a, v1, v2, v3, v4] (.ref a :: st) M := den_go l_208_36 rfl
theorem l_208_37 : look (tab 208) 37 = some (.getfield 80, 3, [6, 9, 230], uu) := by decide +kernel
theorem e_208_37 : den cf 208 37 L (.ref a :: st) M = oK (gfA (M.2.2 a) 6 9) (fun v => den cf 208 40 L (v :: st) M) := den_gf l_208_37
theorem l_208_40 : look (tab 208) 40 = some (.if_icmp .ge 44, 3, [84], uu) := by decide +kernel
theorem e_208_40 : den cf 208 40 L (.int y :: .int x :: st) M = if x < y then den cf 208 43 L st M else den cf 208 84 L st M := den_ic_ge l_208_40
theorem l_208_43 : look (tab 208) 43 = some (.aload_n 0, 1, [], uu) := by decide +kernel
theorem e_208_43 : den cf 208 43 [.ref a, v1, v2, v3, v4] st M = den cf 208 44 [.ref a, v1, v2, v3, v4] (.ref a :: st) M := den_go l_208_43 rfl
theorem l_208_44 : look (tab 208) 44 = some (.getfield 43, 3, [6, 12, 90], uu) := by decide +kernel
theorem e_208_44 : den cf 208 44 L (.ref a :: st) M = oK (gfA (M.2.2 a) 6 12) (fun v => den cf 208 47 L (v :: st) M) := den_gf l_208_44
theorem l_208_47 : look (tab 208) 47 = some (.iload 4, 2, [], uu) := by decide +kernel
theorem e_208_47 : den cf 208 47 [v0, v1, v2, v3, .int x] st M = den cf 208 49 [v0, v1, v2, v3, .int x] (.int x :: st) M := den_go l_208_47 rfl
theorem l_208_49 : look (tab 208) 49 = some (.iaload, 1, [], uu) := by decide +kernel
theorem e_208_49 : den cf 208 49 L (.int x :: .ref a :: st) M = oK (ldI (M.2.2 a) x) (fun v => den cf 208 50 L (v :: st) M) := den_al (g := ldI) l_208_49 rfl
theorem l_208_50 : look (tab 208) 50 = some (.iload_n 1, 1, [], uu) := by decide +kernel
theorem e_208_50 : den cf 208 50 [v0, .int x, v2, v3, v4] st M = den cf 208 51 [v0, .int x, v2, v3, v4] (.int x :: st) M := den_go l_208_50 rfl
theorem l_208_51 : look (tab 208) 51 = some (.if_icmp .ne 27, 3, [78], uu) := by decide +kernel
theorem e_208_51 : den cf 208 51 L (.int y :: .int x :: st) M = if x = y then den cf 208 54 L st M else den cf 208 78 L st M := den_ic_ne l_208_51
theorem l_208_54 : look (tab 208) 54 = some (.iload_n 3, 1, [], uu) := by decide +kernel
theorem e_208_54 : den cf 208 54 [v0, v1, v2, .int x, v4] st M = den cf 208 55 [v0, v1, v2, .int x, v4] (.int x :: st) M := den_go l_208_54 rfl
theorem l_208_55 : look (tab 208) 55 = some (.iconst (-1), 1, [], .int (zI (-1))) := by decide +kernel
theorem e_208_55 : den cf 208 55 L st M = den cf 208 56 L (.int (zI (-1)) :: st) M := den_go l_208_55 rfl
theorem l_208_56 : look (tab 208) 56 = some (.if_icmp .eq 19, 3, [75], uu) := by decide +kernel
theorem e_208_56 : den cf 208 56 L (.int y :: .int x :: st) M = if x = y then den cf 208 75 L st M else den cf 208 59 L st M := den_ic_eq l_208_56
theorem l_208_59 : look (tab 208) 59 = some (.aload_n 0, 1, [], uu) := by decide +kernel
theorem e_208_59 : den cf 208 59 [.ref a, v1, v2, v3, v4] st M = den cf 208 60 [.ref a, v1, v2, v3, v4] (.ref a :: st) M := den_go l_208_59 rfl
theorem l_208_60 : look (tab 208) 60 = some (.iload 4, 2, [], uu) := by decide +kernel
theorem e_208_60 : den cf 208 60 [v0, v1, v2, v3, .int x] st M = den cf 208 62 [v0, v1, v2, v3, .int x] (.int x :: st) M := den_go l_208_60 rfl
theorem l_208_62 : look (tab 208) 62 = some (.iload_n 2, 1, [], uu) := by decide +kernel
theorem e_208_62 : den cf 208 62 [v0, v1, .int x, v3, v4] st M = den cf 208 63 [v0, v1, .int x, v3, v4] (.int x :: st) M := den_go l_208_62 rfl
theorem l_208_63 : look (tab 208) 63 = some (.invokevirtual 311, 3, [6, 207, 3, 927, 928, 929, 5], uu) := by decide +kernel
theorem e_208_63 : den cf 208 63 L (w2 :: w1 :: .ref a :: st) M = if rcv M 6 [.ref a, w1, w2] = true ∧ st.length ≤ 4 then rK (cf 207 [.ref a, w1, w2] M) (fun v M' => den cf 208 66 L (pR v st) M') else none := den_iv [w1, w2] l_208_63 rfl
theorem l_208_66 : look (tab 208) 66 = some (.aload_n 0, 1, [], uu) := by decide +kernel
theorem e_208_66 : den cf 208 66 [.ref a, v1, v2, v3, v4] st M = den cf 208 67 [.ref a, v1, v2, v3, v4] (.ref a :: st) M := den_go l_208_66 rfl
theorem l_208_67 : look (tab 208) 67 = some (.iload_n 3, 1, [], uu) := by decide +kernel
theorem e_208_67 : den cf 208 67 [v0, v1, v2, .int x, v4] st M = den cf 208 68 [v0, v1, v2, .int x, v4] (.int x :: st) M := den_go l_208_67 rfl
theorem l_208_68 : look (tab 208) 68 = some (.iload_n 2, 1, [], uu) := by decide +kernel
theorem e_208_68 : den cf 208 68 [v0, v1, .int x, v3, v4] st M = den cf 208 69 [v0, v1, .int x, v3, v4] (.int x :: st) M := den_go l_208_68 rfl
theorem l_208_69 : look (tab 208) 69 = some (.invokevirtual 311, 3, [6, 207, 3, 927, 928, 929, 5], uu) := by decide +kernel
theorem e_208_69 : den cf 208 69 L (w2 :: w1 :: .ref a :: st) M = if rcv M 6 [.ref a, w1, w2] = true ∧ st.length ≤ 4 then rK (cf 207 [.ref a, w1, w2] M) (fun v M' => den cf 208 72 L (pR v st) M') else none := den_iv [w1, w2] l_208_69 rfl
theorem l_208_72 : look (tab 208) 72 = some (.if_icmp .le 6, 3, [78], uu) := by decide +kernel
theorem e_208_72 : den cf 208 72 L (.int y :: .int x :: st) M = if y < x then den cf 208 75 L st M else den cf 208 78 L st M := den_ic_le l_208_72
theorem l_208_75 : look (tab 208) 75 = some (.iload 4, 2, [], uu) := by decide +kernel
theorem e_208_75 : den cf 208 75 [v0, v1, v2, v3, .int x] st M = den cf 208 77 [v0, v1, v2, v3, .int x] (.int x :: st) M := den_go l_208_75 rfl
theorem l_208_77 : look (tab 208) 77 = some (.istore_n 3, 1, [], uu) := by decide +kernel
theorem e_208_77 : den cf 208 77 [v0, v1, v2, v3, v4] (.int x :: st) M = den cf 208 78 [v0, v1, kq v2, .int x, v4] st M := den_st (k := 3) (v := .int x) l_208_77 rfl
theorem l_208_78 : look (tab 208) 78 = some (.iinc 4 1, 3, [], .int (zI 1)) := by decide +kernel
theorem e_208_78 : den cf 208 78 [v0, v1, v2, v3, .int x] st M = den cf 208 81 [v0, v1, v2, kq v3, .int (x + (zI 1))] st M := den_st (k := 4) (v := .int (x + (zI 1))) l_208_78 rfl
theorem l_208_81 : look (tab 208) 81 = some (.goto (-47), 3, [34], uu) := by decide +kernel
theorem e_208_81 : den cf 208 81 L st M = den cf 208 34 L st M := den_go l_208_81 rfl
theorem l_208_84 : look (tab 208) 84 = some (.iload_n 3, 1, [], uu) := by decide +kernel
theorem e_208_84 : den cf 208 84 [v0, v1, v2, .int x, v4] st M = den cf 208 85 [v0, v1, v2, .int x, v4] (.int x :: st) M := den_go l_208_84 rfl
theorem l_208_85 : look (tab 208) 85 = some (.iconst (-1), 1, [], .int (zI (-1))) := by decide +kernel
theorem e_208_85 : den cf 208 85 L st M = den cf 208 86 L (.int (zI (-1)) :: st) M := den_go l_208_85 rfl
theorem l_208_86 : look (tab 208) 86 = some (.if_icmp .ne 12, 3, [98], uu) := by decide +kernel
theorem e_208_86 : den cf 208 86 L (.int y :: .int x :: st) M = if x = y then den cf 208 89 L st M else den cf 208 98 L st M := den_ic_ne l_208_86
theorem l_208_89 : look (tab 208) 89 = some (.aload_n 0, 1, [], uu) := by decide +kernel
theorem e_208_89 : den cf 208 89 [.ref a, v1, v2, v3, v4] st M = den cf 208 90 [.ref a, v1, v2, v3, v4] (.ref a :: st) M := den_go l_208_89 rfl
theorem l_208_90 : look (tab 208) 90 = some (.bipush (-5), 2, [], .int (zI (-5))) := by decide +kernel
theorem e_208_90 : den cf 208 90 L st M = den cf 208 92 L (.int (zI (-5)) :: st) M := den_go l_208_90 rfl
theorem l_208_92 : look (tab 208) 92 = some (.invokevirtual 93, 3, [6, 136, 2, 133, 134, 135, 5], uu) := by decide +kernel
theorem e_208_92 : den cf 208 92 L (w1 :: .ref a :: st) M = if rcv M 6 [.ref a, w1] = true ∧ st.length ≤ 4 then rK (cf 136 [.ref a, w1] M) (fun v M' => den cf 208 95 L (pR v st) M') else none := den_iv [w1] l_208_92 rfl
theorem l_208_95 : look (tab 208) 95 = some (.goto 4, 3, [99], uu) := by decide +kernel
theorem e_208_95 : den cf 208 95 L st M = den cf 208 99 L st M := den_go l_208_95 rfl
theorem l_208_98 : look (tab 208) 98 = some (.iload_n 3, 1, [], uu) := by decide +kernel
theorem e_208_98 : den cf 208 98 [v0, v1, v2, .int x, v4] st M = den cf 208 99 [v0, v1, v2, .int x, v4] (.int x :: st) M := den_go l_208_98 rfl
theorem l_208_99 : look (tab 208) 99 = some (.ireturn, 1, [0], uu) := by decide +kernel
theorem e_208_99 : den cf 208 99 L [.int x] M = some (some (.int x), M) := den_e0 l_208_99
/-! yX6_mean -/
theorem l_209_0 : look (tab 209) 0 = some (.iconst 0, 1, [], .int (zI 0)) := by decide +kernel
theorem e_209_0 : den cf 209 0 L st M = den cf 209 1 L (.int (zI 0) :: st) M := den_go l_209_0 rfl
theorem l_209_1 : look (tab 209) 1 = some (.istore_n 1, 1, [], uu) := by decide +kernel
theorem e_209_1 : den cf 209 1 [v0, v1, v2] (.int x :: st) M = den cf 209 2 [kq v0, .int x, v2] st M := den_st (k := 1) (v := .int x) l_209_1 rfl
theorem l_209_2 : look (tab 209) 2 = some (.iconst 0, 1, [], .int (zI 0)) := by decide +kernel
theorem e_209_2 : den cf 209 2 L st M = den cf 209 3 L (.int (zI 0) :: st) M := den_go l_209_2 rfl
theorem l_209_3 : look (tab 209) 3 = some (.istore_n 2, 1, [], uu) := by decide +kernel
theorem e_209_3 : den cf 209 3 [v0, v1, v2] (.int x :: st) M = den cf 209 4 [v0, kq v1, .int x] st M := den_st (k := 2) (v := .int x) l_209_3 rfl
theorem l_209_4 : look (tab 209) 4 = some (.iload_n 2, 1, [], uu) := by decide +kernel
theorem e_209_4 : den cf 209 4 [v0, v1, .int x] st M = den cf 209 5 [v0, v1, .int x] (.int x :: st) M := den_go l_209_4 rfl
theorem l_209_5 : look (tab 209) 5 = some (.aload_n 0, 1, [], uu) := by decide +kernel
theorem e_209_5 : den cf 209 5 [.ref a, v1, v2] st M = den cf 209 6 [.ref a, v1, v2] (.ref a :: st) M := den_go l_209_5 rfl
theorem l_209_6 : look (tab 209) 6 = some (.getfield 80, 3, [6, 9, 230], uu) := by decide +kernel
theorem e_209_6 : den cf 209 6 L (.ref a :: st) M = oK (gfA (M.2.2 a) 6 9) (fun v => den cf 209 9 L (v :: st) M) := den_gf l_209_6
theorem l_209_9 : look (tab 209) 9 = some (.if_icmp .ge 35, 3, [44], uu) := by decide +kernel
theorem e_209_9 : den cf 209 9 L (.int y :: .int x :: st) M = if x < y then den cf 209 12 L st M else den cf 209 44 L st M := den_ic_ge l_209_9
theorem l_209_12 : look (tab 209) 12 = some (.iload_n 1, 1, [], uu) := by decide +kernel
theorem e_209_12 : den cf 209 12 [v0, .int x, v2] st M = den cf 209 13 [v0, .int x, v2] (.int x :: st) M := den_go l_209_12 rfl
theorem l_209_13 : look (tab 209) 13 = some (.aload_n 0, 1, [], uu) := by decide +kernel
theorem e_209_13 : den cf 209 13 [.ref a, v1, v2] st M = den cf 209 14 [.ref a, v1, v2] (.ref a :: st) M := den_go l_209_13 rfl
theorem l_209_14 : look (tab 209) 14 = some (.iload_n 2, 1, [], uu) := by decide +kernel
theorem e_209_14 : den cf 209 14 [v0, v1, .int x] st M = den cf 209 15 [v0, v1, .int x] (.int x :: st) M := den_go l_209_14 rfl
theorem l_209_15 : look (tab 209) 15 = some (.invokevirtual 299, 3, [6, 200, 2, 881, 882, 883, 5], uu) := by decide +kernel
theorem e_209_15 : den cf 209 15 L (w1 :: .ref a :: st) M = if rcv M 6 [.ref a, w1] = true ∧ st.length ≤ 4 then rK (cf 200 [.ref a, w1] M) (fun v M' => den cf 209 18 L (pR v st) M') else none := den_iv [w1] l_209_15 rfl
theorem l_209_18 : look (tab 209) 18 = some (.ifCond .eq 17, 3, [35], uu) := by decide +kernel
theorem e_209_18 : den cf 209 18 L (.int x :: st) M = if x = zI 0 then den cf 209 35 L st M else den cf 209 21 L st M := den_if_eq l_209_18
theorem l_209_21 : look (tab 209) 21 = some (.aload_n 0, 1, [], uu) := by decide +kernel
theorem e_209_21 : den cf 209 21 [.ref a, v1, v2] st M = den cf 209 22 [.ref a, v1, v2] (.ref a :: st) M := den_go l_209_21 rfl
theorem l_209_22 : look (tab 209) 22 = some (.iload_n 2, 1, [], uu) := by decide +kernel
theorem e_209_22 : den cf 209 22 [v0, v1, .int x] st M = den cf 209 23 [v0, v1, .int x] (.int x :: st) M := den_go l_209_22 rfl
theorem l_209_23 : look (tab 209) 23 = some (.aload_n 0, 1, [], uu) := by decide +kernel
theorem e_209_23 : den cf 209 23 [.ref a, v1, v2] st M = den cf 209 24 [.ref a, v1, v2] (.ref a :: st) M := den_go l_209_23 rfl
theorem l_209_24 : look (tab 209) 24 = some (.getfield 49, 3, [6, 14, 92], uu) := by decide +kernel
theorem e_209_24 : den cf 209 24 L (.ref a :: st) M = oK (gfA (M.2.2 a) 6 14) (fun v => den cf 209 27 L (v :: st) M) := den_gf l_209_24
theorem l_209_27 : look (tab 209) 27 = some (.iload_n 2, 1, [], uu) := by decide +kernel
theorem e_209_27 : den cf 209 27 [v0, v1, .int x] st M = den cf 209 28 [v0, v1, .int x] (.int x :: st) M := den_go l_209_27 rfl
theorem l_209_28 : look (tab 209) 28 = some (.iaload, 1, [], uu) := by decide +kernel
theorem e_209_28 : den cf 209 28 L (.int x :: .ref a :: st) M = oK (ldI (M.2.2 a) x) (fun v => den cf 209 29 L (v :: st) M) := den_al (g := ldI) l_209_28 rfl
theorem l_209_29 : look (tab 209) 29 = some (.invokevirtual 140, 3, [6, 153, 3, 288, 289, 290, 5], uu) := by decide +kernel
theorem e_209_29 : den cf 209 29 L (w2 :: w1 :: .ref a :: st) M = if rcv M 6 [.ref a, w1, w2] = true ∧ st.length ≤ 4 then rK (cf 153 [.ref a, w1, w2] M) (fun v M' => den cf 209 32 L (pR v st) M') else none := den_iv [w1, w2] l_209_29 rfl
theorem l_209_32 : look (tab 209) 32 = some (.goto 4, 3, [36], uu) := by decide +kernel
theorem e_209_32 : den cf 209 32 L st M = den cf 209 36 L st M := den_go l_209_32 rfl
theorem l_209_35 : look (tab 209) 35 = some (.iconst 0, 1, [], .int (zI 0)) := by decide +kernel
theorem e_209_35 : den cf 209 35 L st M = den cf 209 36 L (.int (zI 0) :: st) M := den_go l_209_35 rfl
theorem l_209_36 : look (tab 209) 36 = some (.iadd, 1, [], uu) := by decide +kernel
theorem e_209_36 : den cf 209 36 L (.int y :: .int x :: st) M = den cf 209 37 L (.int (x + y) :: st) M := den_go l_209_36 rfl
theorem l_209_37 : look (tab 209) 37 = some (.istore_n 1, 1, [], uu) := by decide +kernel
theorem e_209_37 : den cf 209 37 [v0, v1, v2] (.int x :: st) M = den cf 209 38 [kq v0, .int x, v2] st M := den_st (k := 1) (v := .int x) l_209_37 rfl
theorem l_209_38 : look (tab 209) 38 = some (.iinc 2 1, 3, [], .int (zI 1)) := by decide +kernel
theorem e_209_38 : den cf 209 38 [v0, v1, .int x] st M = den cf 209 41 [v0, kq v1, .int (x + (zI 1))] st M := den_st (k := 2) (v := .int (x + (zI 1))) l_209_38 rfl
theorem l_209_41 : look (tab 209) 41 = some (.goto (-37), 3, [4], uu) := by decide +kernel
theorem e_209_41 : den cf 209 41 L st M = den cf 209 4 L st M := den_go l_209_41 rfl
theorem l_209_44 : look (tab 209) 44 = some (.aload_n 0, 1, [], uu) := by decide +kernel
theorem e_209_44 : den cf 209 44 [.ref a, v1, v2] st M = den cf 209 45 [.ref a, v1, v2] (.ref a :: st) M := den_go l_209_44 rfl
theorem l_209_45 : look (tab 209) 45 = some (.invokevirtual 302, 3, [6, 202, 1, 877, 878, 879, 5], uu) := by decide +kernel
theorem e_209_45 : den cf 209 45 L (.ref a :: st) M = if rcv M 6 [.ref a] = true ∧ st.length ≤ 4 then rK (cf 202 [.ref a] M) (fun v M' => den cf 209 48 L (pR v st) M') else none := den_iv [] l_209_45 rfl
theorem l_209_48 : look (tab 209) 48 = some (.ifCond .ne 12, 3, [60], uu) := by decide +kernel
theorem e_209_48 : den cf 209 48 L (.int x :: st) M = if x = zI 0 then den cf 209 51 L st M else den cf 209 60 L st M := den_if_ne l_209_48
theorem l_209_51 : look (tab 209) 51 = some (.aload_n 0, 1, [], uu) := by decide +kernel
theorem e_209_51 : den cf 209 51 [.ref a, v1, v2] st M = den cf 209 52 [.ref a, v1, v2] (.ref a :: st) M := den_go l_209_51 rfl
theorem l_209_52 : look (tab 209) 52 = some (.bipush (-5), 2, [], .int (zI (-5))) := by decide +kernel
theorem e_209_52 : den cf 209 52 L st M = den cf 209 54 L (.int (zI (-5)) :: st) M := den_go l_209_52 rfl
theorem l_209_54 : look (tab 209) 54 = some (.invokevirtual 93, 3, [6, 136, 2, 133, 134, 135, 5], uu) := by decide +kernel
theorem e_209_54 : den cf 209 54 L (w1 :: .ref a :: st) M = if rcv M 6 [.ref a, w1] = true ∧ st.length ≤ 4 then rK (cf 136 [.ref a, w1] M) (fun v M' => den cf 209 57 L (pR v st) M') else none := den_iv [w1] l_209_54 rfl
theorem l_209_57 : look (tab 209) 57 = some (.goto 13, 3, [70], uu) := by decide +kernel
theorem e_209_57 : den cf 209 57 L st M = den cf 209 70 L st M := den_go l_209_57 rfl
theorem l_209_60 : look (tab 209) 60 = some (.sipush 1000, 3, [], .int (zI 1000)) := by decide +kernel
theorem e_209_60 : den cf 209 60 L st M = den cf 209 63 L (.int (zI 1000) :: st) M := den_go l_209_60 rfl
theorem l_209_63 : look (tab 209) 63 = some (.iload_n 1, 1, [], uu) := by decide +kernel
theorem e_209_63 : den cf 209 63 [v0, .int x, v2] st M = den cf 209 64 [v0, .int x, v2] (.int x :: st) M := den_go l_209_63 rfl
theorem l_209_64 : look (tab 209) 64 = some (.imul, 1, [], uu) := by decide +kernel
theorem e_209_64 : den cf 209 64 L (.int y :: .int x :: st) M = den cf 209 65 L (.int (x * y) :: st) M := den_go l_209_64 rfl
theorem l_209_65 : look (tab 209) 65 = some (.aload_n 0, 1, [], uu) := by decide +kernel
theorem e_209_65 : den cf 209 65 [.ref a, v1, v2] st M = den cf 209 66 [.ref a, v1, v2] (.ref a :: st) M := den_go l_209_65 rfl
theorem l_209_66 : look (tab 209) 66 = some (.invokevirtual 302, 3, [6, 202, 1, 877, 878, 879, 5], uu) := by decide +kernel
theorem e_209_66 : den cf 209 66 L (.ref a :: st) M = if rcv M 6 [.ref a] = true ∧ st.length ≤ 4 then rK (cf 202 [.ref a] M) (fun v M' => den cf 209 69 L (pR v st) M') else none := den_iv [] l_209_66 rfl
theorem l_209_69 : look (tab 209) 69 = some (.idiv, 1, [], uu) := by decide +kernel
theorem e_209_69 : den cf 209 69 L (.int y :: .int x :: st) M = if y = zI 0 then none else den cf 209 70 L (.int (x / y) :: st) M := den_dv (f := fun x y => x / y) l_209_69 rfl
theorem l_209_70 : look (tab 209) 70 = some (.ireturn, 1, [0], uu) := by decide +kernel
theorem e_209_70 : den cf 209 70 L [.int x] M = some (some (.int x), M) := den_e0 l_209_70
/-! yX6_weakest -/
theorem l_210_0 : look (tab 210) 0 = some (.iload_n 1, 1, [], uu) := by decide +kernel
theorem e_210_0 : den cf 210 0 [v0, .int x, v2, v3] st M = den cf 210 1 [v0, .int x, v2, v3] (.int x :: st) M := den_go l_210_0 rfl
theorem l_210_1 : look (tab 210) 1 = some (.i2l, 1, [], uu) := by decide +kernel
theorem e_210_1 : den cf 210 1 L (.int x :: st) M = den cf 210 2 L (.long x.toInt64 :: st) M := den_go l_210_1 rfl
theorem l_210_2 : look (tab 210) 2 = some (.lconst 0, 1, [], .long (zJ 0)) := by decide +kernel
theorem e_210_2 : den cf 210 2 L st M = den cf 210 3 L (.long (zJ 0) :: st) M := den_go l_210_2 rfl
theorem l_210_3 : look (tab 210) 3 = some (.ldc2_w 149, 3, [399], .long (zJ 12)) := by decide +kernel
theorem e_210_3 : den cf 210 3 L st M = den cf 210 6 L (.long (zJ 12) :: st) M := den_go l_210_3 rfl
theorem l_210_6 : look (tab 210) 6 = some (.invokestatic 83, 3, [1, 137, 3, 130, 131, 5], uu) := by decide +kernel
theorem e_210_6 : den cf 210 6 L (w3 :: w2 :: w1 :: st) M = if st.length ≤ 4 then rK (cf 137 [w1, w2, w3] M) (fun v M' => den cf 210 9 L (pR v st) M') else none := den_ist [w1, w2, w3] l_210_6 rfl
theorem l_210_9 : look (tab 210) 9 = some (.ifCond .ne 10, 3, [19], uu) := by decide +kernel
theorem e_210_9 : den cf 210 9 L (.int x :: st) M = if x = zI 0 then den cf 210 12 L st M else den cf 210 19 L st M := den_if_ne l_210_9
theorem l_210_12 : look (tab 210) 12 = some (.aload_n 0, 1, [], uu) := by decide +kernel
theorem e_210_12 : den cf 210 12 [.ref a, v1, v2, v3] st M = den cf 210 13 [.ref a, v1, v2, v3] (.ref a :: st) M := den_go l_210_12 rfl
theorem l_210_13 : look (tab 210) 13 = some (.bipush (-2), 2, [], .int (zI (-2))) := by decide +kernel
theorem e_210_13 : den cf 210 13 L st M = den cf 210 15 L (.int (zI (-2)) :: st) M := den_go l_210_13 rfl
theorem l_210_15 : look (tab 210) 15 = some (.invokevirtual 93, 3, [6, 136, 2, 133, 134, 135, 5], uu) := by decide +kernel
theorem e_210_15 : den cf 210 15 L (w1 :: .ref a :: st) M = if rcv M 6 [.ref a, w1] = true ∧ st.length ≤ 4 then rK (cf 136 [.ref a, w1] M) (fun v M' => den cf 210 18 L (pR v st) M') else none := den_iv [w1] l_210_15 rfl
theorem l_210_18 : look (tab 210) 18 = some (.ireturn, 1, [0], uu) := by decide +kernel
theorem e_210_18 : den cf 210 18 L [.int x] M = some (some (.int x), M) := den_e0 l_210_18
theorem l_210_19 : look (tab 210) 19 = some (.iconst (-1), 1, [], .int (zI (-1))) := by decide +kernel
theorem e_210_19 : den cf 210 19 L st M = den cf 210 20 L (.int (zI (-1)) :: st) M := den_go l_210_19 rfl
theorem l_210_20 : look (tab 210) 20 = some (.istore_n 2, 1, [], uu) := by decide +kernel
theorem e_210_20 : den cf 210 20 [v0, v1, v2, v3] (.int x :: st) M = den cf 210 21 [v0, kq v1, .int x, v3] st M := den_st (k := 2) (v := .int x) l_210_20 rfl
theorem l_210_21 : look (tab 210) 21 = some (.iconst 0, 1, [], .int (zI 0)) := by decide +kernel
theorem e_210_21 : den cf 210 21 L st M = den cf 210 22 L (.int (zI 0) :: st) M := den_go l_210_21 rfl
theorem l_210_22 : look (tab 210) 22 = some (.istore_n 3, 1, [], uu) := by decide +kernel
theorem e_210_22 : den cf 210 22 [v0, v1, v2, v3] (.int x :: st) M = den cf 210 23 [v0, v1, kq v2, .int x] st M := den_st (k := 3) (v := .int x) l_210_22 rfl
theorem l_210_23 : look (tab 210) 23 = some (.iload_n 3, 1, [], uu) := by decide +kernel
theorem e_210_23 : den cf 210 23 [v0, v1, v2, .int x] st M = den cf 210 24 [v0, v1, v2, .int x] (.int x :: st) M := den_go l_210_23 rfl
theorem l_210_24 : look (tab 210) 24 = some (.aload_n 0, 1, [], uu) := by decide +kernel
theorem e_210_24 : den cf 210 24 [.ref a, v1, v2, v3] st M = den cf 210 25 [.ref a, v1, v2, v3] (.ref a :: st) M := den_go l_210_24 rfl
theorem l_210_25 : look (tab 210) 25 = some (.getfield 80, 3, [6, 9, 230], uu) := by decide +kernel
theorem e_210_25 : den cf 210 25 L (.ref a :: st) M = oK (gfA (M.2.2 a) 6 9) (fun v => den cf 210 28 L (v :: st) M) := den_gf l_210_25
theorem l_210_28 : look (tab 210) 28 = some (.if_icmp .ge 39, 3, [67], uu) := by decide +kernel
theorem e_210_28 : den cf 210 28 L (.int y :: .int x :: st) M = if x < y then den cf 210 31 L st M else den cf 210 67 L st M := den_ic_ge l_210_28
theorem l_210_31 : look (tab 210) 31 = some (.aload_n 0, 1, [], uu) := by decide +kernel
theorem e_210_31 : den cf 210 31 [.ref a, v1, v2, v3] st M = den cf 210 32 [.ref a, v1, v2, v3] (.ref a :: st) M := den_go l_210_31 rfl
theorem l_210_32 : look (tab 210) 32 = some (.iload_n 3, 1, [], uu) := by decide +kernel
theorem e_210_32 : den cf 210 32 [v0, v1, v2, .int x] st M = den cf 210 33 [v0, v1, v2, .int x] (.int x :: st) M := den_go l_210_32 rfl
theorem l_210_33 : look (tab 210) 33 = some (.invokevirtual 299, 3, [6, 200, 2, 881, 882, 883, 5], uu) := by decide +kernel
theorem e_210_33 : den cf 210 33 L (w1 :: .ref a :: st) M = if rcv M 6 [.ref a, w1] = true ∧ st.length ≤ 4 then rK (cf 200 [.ref a, w1] M) (fun v M' => den cf 210 36 L (pR v st) M') else none := den_iv [w1] l_210_33 rfl
theorem l_210_36 : look (tab 210) 36 = some (.ifCond .eq 25, 3, [61], uu) := by decide +kernel
theorem e_210_36 : den cf 210 36 L (.int x :: st) M = if x = zI 0 then den cf 210 61 L st M else den cf 210 39 L st M := den_if_eq l_210_36
theorem l_210_39 : look (tab 210) 39 = some (.iload_n 2, 1, [], uu) := by decide +kernel
theorem e_210_39 : den cf 210 39 [v0, v1, .int x, v3] st M = den cf 210 40 [v0, v1, .int x, v3] (.int x :: st) M := den_go l_210_39 rfl
theorem l_210_40 : look (tab 210) 40 = some (.iconst (-1), 1, [], .int (zI (-1))) := by decide +kernel
theorem e_210_40 : den cf 210 40 L st M = den cf 210 41 L (.int (zI (-1)) :: st) M := den_go l_210_40 rfl
theorem l_210_41 : look (tab 210) 41 = some (.if_icmp .eq 18, 3, [59], uu) := by decide +kernel
theorem e_210_41 : den cf 210 41 L (.int y :: .int x :: st) M = if x = y then den cf 210 59 L st M else den cf 210 44 L st M := den_ic_eq l_210_41
theorem l_210_44 : look (tab 210) 44 = some (.aload_n 0, 1, [], uu) := by decide +kernel
theorem e_210_44 : den cf 210 44 [.ref a, v1, v2, v3] st M = den cf 210 45 [.ref a, v1, v2, v3] (.ref a :: st) M := den_go l_210_44 rfl
theorem l_210_45 : look (tab 210) 45 = some (.iload_n 3, 1, [], uu) := by decide +kernel
theorem e_210_45 : den cf 210 45 [v0, v1, v2, .int x] st M = den cf 210 46 [v0, v1, v2, .int x] (.int x :: st) M := den_go l_210_45 rfl
theorem l_210_46 : look (tab 210) 46 = some (.iload_n 1, 1, [], uu) := by decide +kernel
theorem e_210_46 : den cf 210 46 [v0, .int x, v2, v3] st M = den cf 210 47 [v0, .int x, v2, v3] (.int x :: st) M := den_go l_210_46 rfl
theorem l_210_47 : look (tab 210) 47 = some (.invokevirtual 263, 3, [6, 187, 3, 695, 696, 697, 5], uu) := by decide +kernel
theorem e_210_47 : den cf 210 47 L (w2 :: w1 :: .ref a :: st) M = if rcv M 6 [.ref a, w1, w2] = true ∧ st.length ≤ 4 then rK (cf 187 [.ref a, w1, w2] M) (fun v M' => den cf 210 50 L (pR v st) M') else none := den_iv [w1, w2] l_210_47 rfl
theorem l_210_50 : look (tab 210) 50 = some (.aload_n 0, 1, [], uu) := by decide +kernel
theorem e_210_50 : den cf 210 50 [.ref a, v1, v2, v3] st M = den cf 210 51 [.ref a, v1, v2, v3] (.ref a :: st) M := den_go l_210_50 rfl
theorem l_210_51 : look (tab 210) 51 = some (.iload_n 2, 1, [], uu) := by decide +kernel
theorem e_210_51 : den cf 210 51 [v0, v1, .int x, v3] st M = den cf 210 52 [v0, v1, .int x, v3] (.int x :: st) M := den_go l_210_51 rfl
theorem l_210_52 : look (tab 210) 52 = some (.iload_n 1, 1, [], uu) := by decide +kernel
theorem e_210_52 : den cf 210 52 [v0, .int x, v2, v3] st M = den cf 210 53 [v0, .int x, v2, v3] (.int x :: st) M := den_go l_210_52 rfl
theorem l_210_53 : look (tab 210) 53 = some (.invokevirtual 263, 3, [6, 187, 3, 695, 696, 697, 5], uu) := by decide +kernel
theorem e_210_53 : den cf 210 53 L (w2 :: w1 :: .ref a :: st) M = if rcv M 6 [.ref a, w1, w2] = true ∧ st.length ≤ 4 then rK (cf 187 [.ref a, w1, w2] M) (fun v M' => den cf 210 56 L (pR v st) M') else none := den_iv [w1, w2] l_210_53 rfl
theorem l_210_56 : look (tab 210) 56 = some (.if_icmp .ge 5, 3, [61], uu) := by decide +kernel
theorem e_210_56 : den cf 210 56 L (.int y :: .int x :: st) M = if x < y then den cf 210 59 L st M else den cf 210 61 L st M := den_ic_ge l_210_56
theorem l_210_59 : look (tab 210) 59 = some (.iload_n 3, 1, [], uu) := by decide +kernel
theorem e_210_59 : den cf 210 59 [v0, v1, v2, .int x] st M = den cf 210 60 [v0, v1, v2, .int x] (.int x :: st) M := den_go l_210_59 rfl
theorem l_210_60 : look (tab 210) 60 = some (.istore_n 2, 1, [], uu) := by decide +kernel
theorem e_210_60 : den cf 210 60 [v0, v1, v2, v3] (.int x :: st) M = den cf 210 61 [v0, kq v1, .int x, v3] st M := den_st (k := 2) (v := .int x) l_210_60 rfl
theorem l_210_61 : look (tab 210) 61 = some (.iinc 3 1, 3, [], .int (zI 1)) := by decide +kernel
theorem e_210_61 : den cf 210 61 [v0, v1, v2, .int x] st M = den cf 210 64 [v0, v1, kq v2, .int (x + (zI 1))] st M := den_st (k := 3) (v := .int (x + (zI 1))) l_210_61 rfl
theorem l_210_64 : look (tab 210) 64 = some (.goto (-41), 3, [23], uu) := by decide +kernel
theorem e_210_64 : den cf 210 64 L st M = den cf 210 23 L st M := den_go l_210_64 rfl
theorem l_210_67 : look (tab 210) 67 = some (.iload_n 2, 1, [], uu) := by decide +kernel
theorem e_210_67 : den cf 210 67 [v0, v1, .int x, v3] st M = den cf 210 68 [v0, v1, .int x, v3] (.int x :: st) M := den_go l_210_67 rfl
theorem l_210_68 : look (tab 210) 68 = some (.iconst (-1), 1, [], .int (zI (-1))) := by decide +kernel
theorem e_210_68 : den cf 210 68 L st M = den cf 210 69 L (.int (zI (-1)) :: st) M := den_go l_210_68 rfl
theorem l_210_69 : look (tab 210) 69 = some (.if_icmp .ne 12, 3, [81], uu) := by decide +kernel
theorem e_210_69 : den cf 210 69 L (.int y :: .int x :: st) M = if x = y then den cf 210 72 L st M else den cf 210 81 L st M := den_ic_ne l_210_69
theorem l_210_72 : look (tab 210) 72 = some (.aload_n 0, 1, [], uu) := by decide +kernel
theorem e_210_72 : den cf 210 72 [.ref a, v1, v2, v3] st M = den cf 210 73 [.ref a, v1, v2, v3] (.ref a :: st) M := den_go l_210_72 rfl
theorem l_210_73 : look (tab 210) 73 = some (.bipush (-5), 2, [], .int (zI (-5))) := by decide +kernel
theorem e_210_73 : den cf 210 73 L st M = den cf 210 75 L (.int (zI (-5)) :: st) M := den_go l_210_73 rfl
theorem l_210_75 : look (tab 210) 75 = some (.invokevirtual 93, 3, [6, 136, 2, 133, 134, 135, 5], uu) := by decide +kernel
theorem e_210_75 : den cf 210 75 L (w1 :: .ref a :: st) M = if rcv M 6 [.ref a, w1] = true ∧ st.length ≤ 4 then rK (cf 136 [.ref a, w1] M) (fun v M' => den cf 210 78 L (pR v st) M') else none := den_iv [w1] l_210_75 rfl
theorem l_210_78 : look (tab 210) 78 = some (.goto 4, 3, [82], uu) := by decide +kernel
theorem e_210_78 : den cf 210 78 L st M = den cf 210 82 L st M := den_go l_210_78 rfl
theorem l_210_81 : look (tab 210) 81 = some (.iload_n 2, 1, [], uu) := by decide +kernel
theorem e_210_81 : den cf 210 81 [v0, v1, .int x, v3] st M = den cf 210 82 [v0, v1, .int x, v3] (.int x :: st) M := den_go l_210_81 rfl
theorem l_210_82 : look (tab 210) 82 = some (.ireturn, 1, [0], uu) := by decide +kernel
theorem e_210_82 : den cf 210 82 L [.int x] M = some (some (.int x), M) := den_e0 l_210_82
/-! yX6_with -/
theorem l_211_0 : look (tab 211) 0 = some (.iload_n 1, 1, [], uu) := by decide +kernel
theorem e_211_0 : den cf 211 0 [v0, .int x, v2, v3] st M = den cf 211 1 [v0, .int x, v2, v3] (.int x :: st) M := den_go l_211_0 rfl
theorem l_211_1 : look (tab 211) 1 = some (.i2l, 1, [], uu) := by decide +kernel
theorem e_211_1 : den cf 211 1 L (.int x :: st) M = den cf 211 2 L (.long x.toInt64 :: st) M := den_go l_211_1 rfl
theorem l_211_2 : look (tab 211) 2 = some (.lconst 0, 1, [], .long (zJ 0)) := by decide +kernel
theorem e_211_2 : den cf 211 2 L st M = den cf 211 3 L (.long (zJ 0) :: st) M := den_go l_211_2 rfl
theorem l_211_3 : look (tab 211) 3 = some (.ldc2_w 314, 3, [957], .long (zJ 8)) := by decide +kernel
theorem e_211_3 : den cf 211 3 L st M = den cf 211 6 L (.long (zJ 8) :: st) M := den_go l_211_3 rfl
theorem l_211_6 : look (tab 211) 6 = some (.invokestatic 83, 3, [1, 137, 3, 130, 131, 5], uu) := by decide +kernel
theorem e_211_6 : den cf 211 6 L (w3 :: w2 :: w1 :: st) M = if st.length ≤ 4 then rK (cf 137 [w1, w2, w3] M) (fun v M' => den cf 211 9 L (pR v st) M') else none := den_ist [w1, w2, w3] l_211_6 rfl
theorem l_211_9 : look (tab 211) 9 = some (.ifCond .ne 10, 3, [19], uu) := by decide +kernel
theorem e_211_9 : den cf 211 9 L (.int x :: st) M = if x = zI 0 then den cf 211 12 L st M else den cf 211 19 L st M := den_if_ne l_211_9
theorem l_211_12 : look (tab 211) 12 = some (.aload_n 0, 1, [], uu) := by decide +kernel
theorem e_211_12 : den cf 211 12 [.ref a, v1, v2, v3] st M = den cf 211 13 [.ref a, v1, v2, v3] (.ref a :: st) M := den_go l_211_12 rfl
theorem l_211_13 : look (tab 211) 13 = some (.bipush (-2), 2, [], .int (zI (-2))) := by decide +kernel
theorem e_211_13 : den cf 211 13 L st M = den cf 211 15 L (.int (zI (-2)) :: st) M := den_go l_211_13 rfl
theorem l_211_15 : look (tab 211) 15 = some (.invokevirtual 93, 3, [6, 136, 2, 133, 134, 135, 5], uu) := by decide +kernel
theorem e_211_15 : den cf 211 15 L (w1 :: .ref a :: st) M = if rcv M 6 [.ref a, w1] = true ∧ st.length ≤ 4 then rK (cf 136 [.ref a, w1] M) (fun v M' => den cf 211 18 L (pR v st) M') else none := den_iv [w1] l_211_15 rfl
theorem l_211_18 : look (tab 211) 18 = some (.ireturn, 1, [0], uu) := by decide +kernel
theorem e_211_18 : den cf 211 18 L [.int x] M = some (some (.int x), M) := den_e0 l_211_18
theorem l_211_19 : look (tab 211) 19 = some (.iconst 0, 1, [], .int (zI 0)) := by decide +kernel
theorem e_211_19 : den cf 211 19 L st M = den cf 211 20 L (.int (zI 0) :: st) M := den_go l_211_19 rfl
theorem l_211_20 : look (tab 211) 20 = some (.istore_n 2, 1, [], uu) := by decide +kernel
theorem e_211_20 : den cf 211 20 [v0, v1, v2, v3] (.int x :: st) M = den cf 211 21 [v0, kq v1, .int x, v3] st M := den_st (k := 2) (v := .int x) l_211_20 rfl
theorem l_211_21 : look (tab 211) 21 = some (.iconst 0, 1, [], .int (zI 0)) := by decide +kernel
theorem e_211_21 : den cf 211 21 L st M = den cf 211 22 L (.int (zI 0) :: st) M := den_go l_211_21 rfl
theorem l_211_22 : look (tab 211) 22 = some (.istore_n 3, 1, [], uu) := by decide +kernel
theorem e_211_22 : den cf 211 22 [v0, v1, v2, v3] (.int x :: st) M = den cf 211 23 [v0, v1, kq v2, .int x] st M := den_st (k := 3) (v := .int x) l_211_22 rfl
theorem l_211_23 : look (tab 211) 23 = some (.iload_n 3, 1, [], uu) := by decide +kernel
theorem e_211_23 : den cf 211 23 [v0, v1, v2, .int x] st M = den cf 211 24 [v0, v1, v2, .int x] (.int x :: st) M := den_go l_211_23 rfl
theorem l_211_24 : look (tab 211) 24 = some (.aload_n 0, 1, [], uu) := by decide +kernel
theorem e_211_24 : den cf 211 24 [.ref a, v1, v2, v3] st M = den cf 211 25 [.ref a, v1, v2, v3] (.ref a :: st) M := den_go l_211_24 rfl
theorem l_211_25 : look (tab 211) 25 = some (.getfield 80, 3, [6, 9, 230], uu) := by decide +kernel
theorem e_211_25 : den cf 211 25 L (.ref a :: st) M = oK (gfA (M.2.2 a) 6 9) (fun v => den cf 211 28 L (v :: st) M) := den_gf l_211_25
theorem l_211_28 : look (tab 211) 28 = some (.if_icmp .ge 32, 3, [60], uu) := by decide +kernel
theorem e_211_28 : den cf 211 28 L (.int y :: .int x :: st) M = if x < y then den cf 211 31 L st M else den cf 211 60 L st M := den_ic_ge l_211_28
theorem l_211_31 : look (tab 211) 31 = some (.iload_n 2, 1, [], uu) := by decide +kernel
theorem e_211_31 : den cf 211 31 [v0, v1, .int x, v3] st M = den cf 211 32 [v0, v1, .int x, v3] (.int x :: st) M := den_go l_211_31 rfl
theorem l_211_32 : look (tab 211) 32 = some (.aload_n 0, 1, [], uu) := by decide +kernel
theorem e_211_32 : den cf 211 32 [.ref a, v1, v2, v3] st M = den cf 211 33 [.ref a, v1, v2, v3] (.ref a :: st) M := den_go l_211_32 rfl
theorem l_211_33 : look (tab 211) 33 = some (.getfield 46, 3, [6, 13, 91], uu) := by decide +kernel
theorem e_211_33 : den cf 211 33 L (.ref a :: st) M = oK (gfA (M.2.2 a) 6 13) (fun v => den cf 211 36 L (v :: st) M) := den_gf l_211_33
theorem l_211_36 : look (tab 211) 36 = some (.iload_n 3, 1, [], uu) := by decide +kernel
theorem e_211_36 : den cf 211 36 [v0, v1, v2, .int x] st M = den cf 211 37 [v0, v1, v2, .int x] (.int x :: st) M := den_go l_211_36 rfl
theorem l_211_37 : look (tab 211) 37 = some (.iaload, 1, [], uu) := by decide +kernel
theorem e_211_37 : den cf 211 37 L (.int x :: .ref a :: st) M = oK (ldI (M.2.2 a) x) (fun v => den cf 211 38 L (v :: st) M) := den_al (g := ldI) l_211_37 rfl
theorem l_211_38 : look (tab 211) 38 = some (.invokestatic 127, 3, [1, 139, 1, 292, 293, 5], uu) := by decide +kernel
theorem e_211_38 : den cf 211 38 L (w1 :: st) M = if st.length ≤ 4 then rK (cf 139 [w1] M) (fun v M' => den cf 211 41 L (pR v st) M') else none := den_ist [w1] l_211_38 rfl
theorem l_211_41 : look (tab 211) 41 = some (.iload_n 1, 1, [], uu) := by decide +kernel
theorem e_211_41 : den cf 211 41 [v0, .int x, v2, v3] st M = den cf 211 42 [v0, .int x, v2, v3] (.int x :: st) M := den_go l_211_41 rfl
theorem l_211_42 : look (tab 211) 42 = some (.if_icmp .ne 9, 3, [51], uu) := by decide +kernel
theorem e_211_42 : den cf 211 42 L (.int y :: .int x :: st) M = if x = y then den cf 211 45 L st M else den cf 211 51 L st M := den_ic_ne l_211_42
theorem l_211_45 : look (tab 211) 45 = some (.iconst 1, 1, [], .int (zI 1)) := by decide +kernel
theorem e_211_45 : den cf 211 45 L st M = den cf 211 46 L (.int (zI 1) :: st) M := den_go l_211_45 rfl
theorem l_211_46 : look (tab 211) 46 = some (.iload_n 3, 1, [], uu) := by decide +kernel
theorem e_211_46 : den cf 211 46 [v0, v1, v2, .int x] st M = den cf 211 47 [v0, v1, v2, .int x] (.int x :: st) M := den_go l_211_46 rfl
theorem l_211_47 : look (tab 211) 47 = some (.ishl, 1, [], uu) := by decide +kernel
theorem e_211_47 : den cf 211 47 L (.int y :: .int x :: st) M = den cf 211 48 L (.int (x <<< (y &&& 31)) :: st) M := den_go l_211_47 rfl
theorem l_211_48 : look (tab 211) 48 = some (.goto 4, 3, [52], uu) := by decide +kernel
theorem e_211_48 : den cf 211 48 L st M = den cf 211 52 L st M := den_go l_211_48 rfl
theorem l_211_51 : look (tab 211) 51 = some (.iconst 0, 1, [], .int (zI 0)) := by decide +kernel
theorem e_211_51 : den cf 211 51 L st M = den cf 211 52 L (.int (zI 0) :: st) M := den_go l_211_51 rfl
theorem l_211_52 : look (tab 211) 52 = some (.ior, 1, [], uu) := by decide +kernel
theorem e_211_52 : den cf 211 52 L (.int y :: .int x :: st) M = den cf 211 53 L (.int (x ||| y) :: st) M := den_go l_211_52 rfl
theorem l_211_53 : look (tab 211) 53 = some (.istore_n 2, 1, [], uu) := by decide +kernel
theorem e_211_53 : den cf 211 53 [v0, v1, v2, v3] (.int x :: st) M = den cf 211 54 [v0, kq v1, .int x, v3] st M := den_st (k := 2) (v := .int x) l_211_53 rfl
theorem l_211_54 : look (tab 211) 54 = some (.iinc 3 1, 3, [], .int (zI 1)) := by decide +kernel
theorem e_211_54 : den cf 211 54 [v0, v1, v2, .int x] st M = den cf 211 57 [v0, v1, kq v2, .int (x + (zI 1))] st M := den_st (k := 3) (v := .int (x + (zI 1))) l_211_54 rfl
theorem l_211_57 : look (tab 211) 57 = some (.goto (-34), 3, [23], uu) := by decide +kernel
theorem e_211_57 : den cf 211 57 L st M = den cf 211 23 L st M := den_go l_211_57 rfl
theorem l_211_60 : look (tab 211) 60 = some (.iload_n 2, 1, [], uu) := by decide +kernel
theorem e_211_60 : den cf 211 60 [v0, v1, .int x, v3] st M = den cf 211 61 [v0, v1, .int x, v3] (.int x :: st) M := den_go l_211_60 rfl
theorem l_211_61 : look (tab 211) 61 = some (.ireturn, 1, [0], uu) := by decide +kernel
theorem e_211_61 : den cf 211 61 L [.int x] M = some (some (.int x), M) := den_e0 l_211_61
/-! yX6_near -/
theorem l_212_0 : look (tab 212) 0 = some (.aload_n 0, 1, [], uu) := by decide +kernel
theorem e_212_0 : den cf 212 0 [.ref a, v1, v2, v3, v4] st M = den cf 212 1 [.ref a, v1, v2, v3, v4] (.ref a :: st) M := den_go l_212_0 rfl
theorem l_212_1 : look (tab 212) 1 = some (.iload_n 1, 1, [], uu) := by decide +kernel
theorem e_212_1 : den cf 212 1 [v0, .int x, v2, v3, v4] st M = den cf 212 2 [v0, .int x, v2, v3, v4] (.int x :: st) M := den_go l_212_1 rfl
theorem l_212_2 : look (tab 212) 2 = some (.invokevirtual 104, 3, [6, 138, 2, 226, 227, 228, 5], uu) := by decide +kernel
theorem e_212_2 : den cf 212 2 L (w1 :: .ref a :: st) M = if rcv M 6 [.ref a, w1] = true ∧ st.length ≤ 4 then rK (cf 138 [.ref a, w1] M) (fun v M' => den cf 212 5 L (pR v st) M') else none := den_iv [w1] l_212_2 rfl
theorem l_212_5 : look (tab 212) 5 = some (.ifCond .eq 15, 3, [20], uu) := by decide +kernel
theorem e_212_5 : den cf 212 5 L (.int x :: st) M = if x = zI 0 then den cf 212 20 L st M else den cf 212 8 L st M := den_if_eq l_212_5
theorem l_212_8 : look (tab 212) 8 = some (.iload_n 2, 1, [], uu) := by decide +kernel
theorem e_212_8 : den cf 212 8 [v0, v1, .int x, v3, v4] st M = den cf 212 9 [v0, v1, .int x, v3, v4] (.int x :: st) M := den_go l_212_8 rfl
theorem l_212_9 : look (tab 212) 9 = some (.i2l, 1, [], uu) := by decide +kernel
theorem e_212_9 : den cf 212 9 L (.int x :: st) M = den cf 212 10 L (.long x.toInt64 :: st) M := den_go l_212_9 rfl
theorem l_212_10 : look (tab 212) 10 = some (.lconst 0, 1, [], .long (zJ 0)) := by decide +kernel
theorem e_212_10 : den cf 212 10 L st M = den cf 212 11 L (.long (zJ 0) :: st) M := den_go l_212_10 rfl
theorem l_212_11 : look (tab 212) 11 = some (.ldc2_w 314, 3, [957], .long (zJ 8)) := by decide +kernel
theorem e_212_11 : den cf 212 11 L st M = den cf 212 14 L (.long (zJ 8) :: st) M := den_go l_212_11 rfl
theorem l_212_14 : look (tab 212) 14 = some (.invokestatic 83, 3, [1, 137, 3, 130, 131, 5], uu) := by decide +kernel
theorem e_212_14 : den cf 212 14 L (w3 :: w2 :: w1 :: st) M = if st.length ≤ 4 then rK (cf 137 [w1, w2, w3] M) (fun v M' => den cf 212 17 L (pR v st) M') else none := den_ist [w1, w2, w3] l_212_14 rfl
theorem l_212_17 : look (tab 212) 17 = some (.ifCond .ne 10, 3, [27], uu) := by decide +kernel
theorem e_212_17 : den cf 212 17 L (.int x :: st) M = if x = zI 0 then den cf 212 20 L st M else den cf 212 27 L st M := den_if_ne l_212_17
theorem l_212_20 : look (tab 212) 20 = some (.aload_n 0, 1, [], uu) := by decide +kernel
theorem e_212_20 : den cf 212 20 [.ref a, v1, v2, v3, v4] st M = den cf 212 21 [.ref a, v1, v2, v3, v4] (.ref a :: st) M := den_go l_212_20 rfl
theorem l_212_21 : look (tab 212) 21 = some (.bipush (-2), 2, [], .int (zI (-2))) := by decide +kernel
theorem e_212_21 : den cf 212 21 L st M = den cf 212 23 L (.int (zI (-2)) :: st) M := den_go l_212_21 rfl
theorem l_212_23 : look (tab 212) 23 = some (.invokevirtual 93, 3, [6, 136, 2, 133, 134, 135, 5], uu) := by decide +kernel
theorem e_212_23 : den cf 212 23 L (w1 :: .ref a :: st) M = if rcv M 6 [.ref a, w1] = true ∧ st.length ≤ 4 then rK (cf 136 [.ref a, w1] M) (fun v M' => den cf 212 26 L (pR v st) M') else none := den_iv [w1] l_212_23 rfl
theorem l_212_26 : look (tab 212) 26 = some (.ireturn, 1, [0], uu) := by decide +kernel
theorem e_212_26 : den cf 212 26 L [.int x] M = some (some (.int x), M) := den_e0 l_212_26
theorem l_212_27 : look (tab 212) 27 = some (.iconst 0, 1, [], .int (zI 0)) := by decide +kernel
theorem e_212_27 : den cf 212 27 L st M = den cf 212 28 L (.int (zI 0) :: st) M := den_go l_212_27 rfl
theorem l_212_28 : look (tab 212) 28 = some (.istore_n 3, 1, [], uu) := by decide +kernel
theorem e_212_28 : den cf 212 28 [v0, v1, v2, v3, v4] (.int x :: st) M = den cf 212 29 [v0, v1, kq v2, .int x, v4] st M := den_st (k := 3) (v := .int x) l_212_28 rfl
theorem l_212_29 : look (tab 212) 29 = some (.iconst 0, 1, [], .int (zI 0)) := by decide +kernel
theorem e_212_29 : den cf 212 29 L st M = den cf 212 30 L (.int (zI 0) :: st) M := den_go l_212_29 rfl
theorem l_212_30 : look (tab 212) 30 = some (.istore 4, 2, [], uu) := by decide +kernel
theorem e_212_30 : den cf 212 30 [v0, v1, v2, v3, v4] (.int x :: st) M = den cf 212 32 [v0, v1, v2, kq v3, .int x] st M := den_st (k := 4) (v := .int x) l_212_30 rfl
theorem l_212_32 : look (tab 212) 32 = some (.iload 4, 2, [], uu) := by decide +kernel
theorem e_212_32 : den cf 212 32 [v0, v1, v2, v3, .int x] st M = den cf 212 34 [v0, v1, v2, v3, .int x] (.int x :: st) M := den_go l_212_32 rfl
theorem l_212_34 : look (tab 212) 34 = some (.aload_n 0, 1, [], uu) := by decide +kernel
theorem e_212_34 : den cf 212 34 [.ref a, v1, v2, v3, v4] st M = den cf 212 35 [.ref a, v1, v2, v3, v4] (.ref a :: st) M := den_go l_212_34 rfl
theorem l_212_35 : look (tab 212) 35 = some (.getfield 80, 3, [6, 9, 230], uu) := by decide +kernel
theorem e_212_35 : den cf 212 35 L (.ref a :: st) M = oK (gfA (M.2.2 a) 6 9) (fun v => den cf 212 38 L (v :: st) M) := den_gf l_212_35
theorem l_212_38 : look (tab 212) 38 = some (.if_icmp .ge 47, 3, [85], uu) := by decide +kernel
theorem e_212_38 : den cf 212 38 L (.int y :: .int x :: st) M = if x < y then den cf 212 41 L st M else den cf 212 85 L st M := den_ic_ge l_212_38
theorem l_212_41 : look (tab 212) 41 = some (.iload_n 3, 1, [], uu) := by decide +kernel
theorem e_212_41 : den cf 212 41 [v0, v1, v2, .int x, v4] st M = den cf 212 42 [v0, v1, v2, .int x, v4] (.int x :: st) M := den_go l_212_41 rfl
theorem l_212_42 : look (tab 212) 42 = some (.aload_n 0, 1, [], uu) := by decide +kernel
theorem e_212_42 : den cf 212 42 [.ref a, v1, v2, v3, v4] st M = den cf 212 43 [.ref a, v1, v2, v3, v4] (.ref a :: st) M := den_go l_212_42 rfl
theorem l_212_43 : look (tab 212) 43 = some (.getfield 43, 3, [6, 12, 90], uu) := by decide +kernel
theorem e_212_43 : den cf 212 43 L (.ref a :: st) M = oK (gfA (M.2.2 a) 6 12) (fun v => den cf 212 46 L (v :: st) M) := den_gf l_212_43
theorem l_212_46 : look (tab 212) 46 = some (.iload 4, 2, [], uu) := by decide +kernel
theorem e_212_46 : den cf 212 46 [v0, v1, v2, v3, .int x] st M = den cf 212 48 [v0, v1, v2, v3, .int x] (.int x :: st) M := den_go l_212_46 rfl
theorem l_212_48 : look (tab 212) 48 = some (.iaload, 1, [], uu) := by decide +kernel
theorem e_212_48 : den cf 212 48 L (.int x :: .ref a :: st) M = oK (ldI (M.2.2 a) x) (fun v => den cf 212 49 L (v :: st) M) := den_al (g := ldI) l_212_48 rfl
theorem l_212_49 : look (tab 212) 49 = some (.aload_n 0, 1, [], uu) := by decide +kernel
theorem e_212_49 : den cf 212 49 [.ref a, v1, v2, v3, v4] st M = den cf 212 50 [.ref a, v1, v2, v3, v4] (.ref a :: st) M := den_go l_212_49 rfl
theorem l_212_50 : look (tab 212) 50 = some (.getfield 43, 3, [6, 12, 90], uu) := by decide +kernel
theorem e_212_50 : den cf 212 50 L (.ref a :: st) M = oK (gfA (M.2.2 a) 6 12) (fun v => den cf 212 53 L (v :: st) M) := den_gf l_212_50
theorem l_212_53 : look (tab 212) 53 = some (.iload_n 1, 1, [], uu) := by decide +kernel
theorem e_212_53 : den cf 212 53 [v0, .int x, v2, v3, v4] st M = den cf 212 54 [v0, .int x, v2, v3, v4] (.int x :: st) M := den_go l_212_53 rfl
theorem l_212_54 : look (tab 212) 54 = some (.iaload, 1, [], uu) := by decide +kernel
theorem e_212_54 : den cf 212 54 L (.int x :: .ref a :: st) M = oK (ldI (M.2.2 a) x) (fun v => den cf 212 55 L (v :: st) M) := den_al (g := ldI) l_212_54 rfl
theorem l_212_55 : look (tab 212) 55 = some (.if_icmp .eq 21, 3, [76], uu) := by decide +kernel
theorem e_212_55 : den cf 212 55 L (.int y :: .int x :: st) M = if x = y then den cf 212 76 L st M else den cf 212 58 L st M := den_ic_eq l_212_55
theorem l_212_58 : look (tab 212) 58 = some (.aload_n 0, 1, [], uu) := by decide +kernel
theorem e_212_58 : den cf 212 58 [.ref a, v1, v2, v3, v4] st M = den cf 212 59 [.ref a, v1, v2, v3, v4] (.ref a :: st) M := den_go l_212_58 rfl
theorem l_212_59 : look (tab 212) 59 = some (.iload_n 1, 1, [], uu) := by decide +kernel
theorem e_212_59 : den cf 212 59 [v0, .int x, v2, v3, v4] st M = den cf 212 60 [v0, .int x, v2, v3, v4] (.int x :: st) M := den_go l_212_59 rfl
theorem l_212_60 : look (tab 212) 60 = some (.iload 4, 2, [], uu) := by decide +kernel
theorem e_212_60 : den cf 212 60 [v0, v1, v2, v3, .int x] st M = den cf 212 62 [v0, v1, v2, v3, .int x] (.int x :: st) M := den_go l_212_60 rfl
theorem l_212_62 : look (tab 212) 62 = some (.invokevirtual 140, 3, [6, 153, 3, 288, 289, 290, 5], uu) := by decide +kernel
theorem e_212_62 : den cf 212 62 L (w2 :: w1 :: .ref a :: st) M = if rcv M 6 [.ref a, w1, w2] = true ∧ st.length ≤ 4 then rK (cf 153 [.ref a, w1, w2] M) (fun v M' => den cf 212 65 L (pR v st) M') else none := den_iv [w1, w2] l_212_62 rfl
theorem l_212_65 : look (tab 212) 65 = some (.iload_n 2, 1, [], uu) := by decide +kernel
theorem e_212_65 : den cf 212 65 [v0, v1, .int x, v3, v4] st M = den cf 212 66 [v0, v1, .int x, v3, v4] (.int x :: st) M := den_go l_212_65 rfl
theorem l_212_66 : look (tab 212) 66 = some (.if_icmp .lt 10, 3, [76], uu) := by decide +kernel
theorem e_212_66 : den cf 212 66 L (.int y :: .int x :: st) M = if x < y then den cf 212 76 L st M else den cf 212 69 L st M := den_ic_lt l_212_66
theorem l_212_69 : look (tab 212) 69 = some (.iconst 1, 1, [], .int (zI 1)) := by decide +kernel
theorem e_212_69 : den cf 212 69 L st M = den cf 212 70 L (.int (zI 1) :: st) M := den_go l_212_69 rfl
theorem l_212_70 : look (tab 212) 70 = some (.iload 4, 2, [], uu) := by decide +kernel
theorem e_212_70 : den cf 212 70 [v0, v1, v2, v3, .int x] st M = den cf 212 72 [v0, v1, v2, v3, .int x] (.int x :: st) M := den_go l_212_70 rfl
theorem l_212_72 : look (tab 212) 72 = some (.ishl, 1, [], uu) := by decide +kernel
theorem e_212_72 : den cf 212 72 L (.int y :: .int x :: st) M = den cf 212 73 L (.int (x <<< (y &&& 31)) :: st) M := den_go l_212_72 rfl
theorem l_212_73 : look (tab 212) 73 = some (.goto 4, 3, [77], uu) := by decide +kernel
theorem e_212_73 : den cf 212 73 L st M = den cf 212 77 L st M := den_go l_212_73 rfl
theorem l_212_76 : look (tab 212) 76 = some (.iconst 0, 1, [], .int (zI 0)) := by decide +kernel
theorem e_212_76 : den cf 212 76 L st M = den cf 212 77 L (.int (zI 0) :: st) M := den_go l_212_76 rfl
theorem l_212_77 : look (tab 212) 77 = some (.ior, 1, [], uu) := by decide +kernel
theorem e_212_77 : den cf 212 77 L (.int y :: .int x :: st) M = den cf 212 78 L (.int (x ||| y) :: st) M := den_go l_212_77 rfl
theorem l_212_78 : look (tab 212) 78 = some (.istore_n 3, 1, [], uu) := by decide +kernel
theorem e_212_78 : den cf 212 78 [v0, v1, v2, v3, v4] (.int x :: st) M = den cf 212 79 [v0, v1, kq v2, .int x, v4] st M := den_st (k := 3) (v := .int x) l_212_78 rfl
theorem l_212_79 : look (tab 212) 79 = some (.iinc 4 1, 3, [], .int (zI 1)) := by decide +kernel
theorem e_212_79 : den cf 212 79 [v0, v1, v2, v3, .int x] st M = den cf 212 82 [v0, v1, v2, kq v3, .int (x + (zI 1))] st M := den_st (k := 4) (v := .int (x + (zI 1))) l_212_79 rfl
theorem l_212_82 : look (tab 212) 82 = some (.goto (-50), 3, [32], uu) := by decide +kernel
theorem e_212_82 : den cf 212 82 L st M = den cf 212 32 L st M := den_go l_212_82 rfl
theorem l_212_85 : look (tab 212) 85 = some (.iload_n 3, 1, [], uu) := by decide +kernel
theorem e_212_85 : den cf 212 85 [v0, v1, v2, .int x, v4] st M = den cf 212 86 [v0, v1, v2, .int x, v4] (.int x :: st) M := den_go l_212_85 rfl
theorem l_212_86 : look (tab 212) 86 = some (.ireturn, 1, [0], uu) := by decide +kernel
theorem e_212_86 : den cf 212 86 L [.int x] M = some (some (.int x), M) := den_e0 l_212_86
/-! yX6_lasts -/
theorem l_213_0 : look (tab 213) 0 = some (.aload_n 0, 1, [], uu) := by decide +kernel
theorem e_213_0 : den cf 213 0 [.ref a, v1, v2, v3, v4] st M = den cf 213 1 [.ref a, v1, v2, v3, v4] (.ref a :: st) M := den_go l_213_0 rfl
theorem l_213_1 : look (tab 213) 1 = some (.iload_n 1, 1, [], uu) := by decide +kernel
theorem e_213_1 : den cf 213 1 [v0, .int x, v2, v3, v4] st M = den cf 213 2 [v0, .int x, v2, v3, v4] (.int x :: st) M := den_go l_213_1 rfl
theorem l_213_2 : look (tab 213) 2 = some (.invokevirtual 247, 3, [6, 180, 2, 653, 654, 655, 5], uu) := by decide +kernel
theorem e_213_2 : den cf 213 2 L (w1 :: .ref a :: st) M = if rcv M 6 [.ref a, w1] = true ∧ st.length ≤ 4 then rK (cf 180 [.ref a, w1] M) (fun v M' => den cf 213 5 L (pR v st) M') else none := den_iv [w1] l_213_2 rfl
theorem l_213_5 : look (tab 213) 5 = some (.istore_n 2, 1, [], uu) := by decide +kernel
theorem e_213_5 : den cf 213 5 [v0, v1, v2, v3, v4] (.int x :: st) M = den cf 213 6 [v0, kq v1, .int x, v3, v4] st M := den_st (k := 2) (v := .int x) l_213_5 rfl
theorem l_213_6 : look (tab 213) 6 = some (.iload_n 2, 1, [], uu) := by decide +kernel
theorem e_213_6 : den cf 213 6 [v0, v1, .int x, v3, v4] st M = den cf 213 7 [v0, v1, .int x, v3, v4] (.int x :: st) M := den_go l_213_6 rfl
theorem l_213_7 : look (tab 213) 7 = some (.ifCond .eq 5, 3, [12], uu) := by decide +kernel
theorem e_213_7 : den cf 213 7 L (.int x :: st) M = if x = zI 0 then den cf 213 12 L st M else den cf 213 10 L st M := den_if_eq l_213_7
theorem l_213_10 : look (tab 213) 10 = some (.iload_n 2, 1, [], uu) := by decide +kernel
theorem e_213_10 : den cf 213 10 [v0, v1, .int x, v3, v4] st M = den cf 213 11 [v0, v1, .int x, v3, v4] (.int x :: st) M := den_go l_213_10 rfl
theorem l_213_11 : look (tab 213) 11 = some (.ireturn, 1, [0], uu) := by decide +kernel
theorem e_213_11 : den cf 213 11 L [.int x] M = some (some (.int x), M) := den_e0 l_213_11
theorem l_213_12 : look (tab 213) 12 = some (.aload_n 0, 1, [], uu) := by decide +kernel
theorem e_213_12 : den cf 213 12 [.ref a, v1, v2, v3, v4] st M = den cf 213 13 [.ref a, v1, v2, v3, v4] (.ref a :: st) M := den_go l_213_12 rfl
theorem l_213_13 : look (tab 213) 13 = some (.invokevirtual 240, 3, [6, 174, 1, 561, 562, 563, 5], uu) := by decide +kernel
theorem e_213_13 : den cf 213 13 L (.ref a :: st) M = if rcv M 6 [.ref a] = true ∧ st.length ≤ 4 then rK (cf 174 [.ref a] M) (fun v M' => den cf 213 16 L (pR v st) M') else none := den_iv [] l_213_13 rfl
theorem l_213_16 : look (tab 213) 16 = some (.astore_n 3, 1, [], uu) := by decide +kernel
theorem e_213_16 : den cf 213 16 [v0, v1, v2, v3, v4] (v :: st) M = if isRf v = true then den cf 213 17 [v0, v1, kq v2, v, v4] st M else none := den_as (k := 3) (v := v) l_213_16 rfl (Nat.le_of_ble_eq_true rfl)
theorem l_213_17 : look (tab 213) 17 = some (.iconst 0, 1, [], .int (zI 0)) := by decide +kernel
theorem e_213_17 : den cf 213 17 L st M = den cf 213 18 L (.int (zI 0) :: st) M := den_go l_213_17 rfl
theorem l_213_18 : look (tab 213) 18 = some (.istore 4, 2, [], uu) := by decide +kernel
theorem e_213_18 : den cf 213 18 [v0, v1, v2, v3, v4] (.int x :: st) M = den cf 213 20 [v0, v1, v2, kq v3, .int x] st M := den_st (k := 4) (v := .int x) l_213_18 rfl
theorem l_213_20 : look (tab 213) 20 = some (.iload 4, 2, [], uu) := by decide +kernel
theorem e_213_20 : den cf 213 20 [v0, v1, v2, v3, .int x] st M = den cf 213 22 [v0, v1, v2, v3, .int x] (.int x :: st) M := den_go l_213_20 rfl
theorem l_213_22 : look (tab 213) 22 = some (.bipush 99, 2, [], .int (zI 99)) := by decide +kernel
theorem e_213_22 : den cf 213 22 L st M = den cf 213 24 L (.int (zI 99) :: st) M := den_go l_213_22 rfl
theorem l_213_24 : look (tab 213) 24 = some (.if_icmp .gt 31, 3, [55], uu) := by decide +kernel
theorem e_213_24 : den cf 213 24 L (.int y :: .int x :: st) M = if y < x then den cf 213 55 L st M else den cf 213 27 L st M := den_ic_gt l_213_24
theorem l_213_27 : look (tab 213) 27 = some (.aload_n 3, 1, [], uu) := by decide +kernel
theorem e_213_27 : den cf 213 27 [v0, v1, v2, v3, v4] st M = if isRf v3 = true then den cf 213 28 [v0, v1, v2, v3, v4] (v3 :: st) M else none := den_g l_213_27 rfl
theorem l_213_28 : look (tab 213) 28 = some (.iload_n 1, 1, [], uu) := by decide +kernel
theorem e_213_28 : den cf 213 28 [v0, .int x, v2, v3, v4] st M = den cf 213 29 [v0, .int x, v2, v3, v4] (.int x :: st) M := den_go l_213_28 rfl
theorem l_213_29 : look (tab 213) 29 = some (.aload_n 0, 1, [], uu) := by decide +kernel
theorem e_213_29 : den cf 213 29 [.ref a, v1, v2, v3, v4] st M = den cf 213 30 [.ref a, v1, v2, v3, v4] (.ref a :: st) M := den_go l_213_29 rfl
theorem l_213_30 : look (tab 213) 30 = some (.getfield 37, 3, [6, 10, 88], uu) := by decide +kernel
theorem e_213_30 : den cf 213 30 L (.ref a :: st) M = oK (gfA (M.2.2 a) 6 10) (fun v => den cf 213 33 L (v :: st) M) := den_gf l_213_30
theorem l_213_33 : look (tab 213) 33 = some (.iload_n 1, 1, [], uu) := by decide +kernel
theorem e_213_33 : den cf 213 33 [v0, .int x, v2, v3, v4] st M = den cf 213 34 [v0, .int x, v2, v3, v4] (.int x :: st) M := den_go l_213_33 rfl
theorem l_213_34 : look (tab 213) 34 = some (.iaload, 1, [], uu) := by decide +kernel
theorem e_213_34 : den cf 213 34 L (.int x :: .ref a :: st) M = oK (ldI (M.2.2 a) x) (fun v => den cf 213 35 L (v :: st) M) := den_al (g := ldI) l_213_34 rfl
theorem l_213_35 : look (tab 213) 35 = some (.invokevirtual 114, 3, [6, 177, 3, 284, 285, 286, 5], uu) := by decide +kernel
theorem e_213_35 : den cf 213 35 L (w2 :: w1 :: .ref a :: st) M = if rcv M 6 [.ref a, w1, w2] = true ∧ st.length ≤ 4 then rK (cf 177 [.ref a, w1, w2] M) (fun v M' => den cf 213 38 L (pR v st) M') else none := den_iv [w1, w2] l_213_35 rfl
theorem l_213_38 : look (tab 213) 38 = some (.ifCond .ne 6, 3, [44], uu) := by decide +kernel
theorem e_213_38 : den cf 213 38 L (.int x :: st) M = if x = zI 0 then den cf 213 41 L st M else den cf 213 44 L st M := den_if_ne l_213_38
theorem l_213_41 : look (tab 213) 41 = some (.iload 4, 2, [], uu) := by decide +kernel
theorem e_213_41 : den cf 213 41 [v0, v1, v2, v3, .int x] st M = den cf 213 43 [v0, v1, v2, v3, .int x] (.int x :: st) M := den_go l_213_41 rfl
theorem l_213_43 : look (tab 213) 43 = some (.ireturn, 1, [0], uu) := by decide +kernel
theorem e_213_43 : den cf 213 43 L [.int x] M = some (some (.int x), M) := den_e0 l_213_43
theorem l_213_44 : look (tab 213) 44 = some (.aload_n 3, 1, [], uu) := by decide +kernel
theorem e_213_44 : den cf 213 44 [v0, v1, v2, v3, v4] st M = if isRf v3 = true then den cf 213 45 [v0, v1, v2, v3, v4] (v3 :: st) M else none := den_g l_213_44 rfl
theorem l_213_45 : look (tab 213) 45 = some (.iload_n 1, 1, [], uu) := by decide +kernel
theorem e_213_45 : den cf 213 45 [v0, .int x, v2, v3, v4] st M = den cf 213 46 [v0, .int x, v2, v3, v4] (.int x :: st) M := den_go l_213_45 rfl
theorem l_213_46 : look (tab 213) 46 = some (.invokevirtual 260, 3, [6, 185, 2, 701, 702, 703, 5], uu) := by decide +kernel
theorem e_213_46 : den cf 213 46 L (w1 :: .ref a :: st) M = if rcv M 6 [.ref a, w1] = true ∧ st.length ≤ 4 then rK (cf 185 [.ref a, w1] M) (fun v M' => den cf 213 49 L (pR v st) M') else none := den_iv [w1] l_213_46 rfl
theorem l_213_49 : look (tab 213) 49 = some (.iinc 4 1, 3, [], .int (zI 1)) := by decide +kernel
theorem e_213_49 : den cf 213 49 [v0, v1, v2, v3, .int x] st M = den cf 213 52 [v0, v1, v2, kq v3, .int (x + (zI 1))] st M := den_st (k := 4) (v := .int (x + (zI 1))) l_213_49 rfl
theorem l_213_52 : look (tab 213) 52 = some (.goto (-32), 3, [20], uu) := by decide +kernel
theorem e_213_52 : den cf 213 52 L st M = den cf 213 20 L st M := den_go l_213_52 rfl
theorem l_213_55 : look (tab 213) 55 = some (.iconst (-1), 1, [], .int (zI (-1))) := by decide +kernel
theorem e_213_55 : den cf 213 55 L st M = den cf 213 56 L (.int (zI (-1)) :: st) M := den_go l_213_55 rfl
theorem l_213_56 : look (tab 213) 56 = some (.ireturn, 1, [0], uu) := by decide +kernel
theorem e_213_56 : den cf 213 56 L [.int x] M = some (some (.int x), M) := den_e0 l_213_56
