variable {cf : Nat → List Value → AM → Option AR} {L st : List Value} {M : AM} {x y : Int32} {p q : Int64} {a b : Nat} {v w : Value} {o : Option Nat} {v0 v1 v2 v3 v4 v5 v6 v7 v8 v9 v10 v11 v12 v13 v14 v15 v16 v17 v18 v19 v20 w1 w2 w3 w4 w5 w6 : Value}
/-! yX6_lengths -/
theorem l_228_0 : look (tab 228) 0 = some (.iconst 0, 1, [], .int (zI 0)) := by decide +kernel
theorem e_228_0 : den cf 228 0 L st M = den cf 228 1 L (.int (zI 0) :: st) M := den_go l_228_0 rfl
theorem l_228_1 : look (tab 228) 1 = some (.istore_n 1, 1, [], uu) := by decide +kernel
theorem e_228_1 : den cf 228 1 [v0, v1, v2] (.int x :: st) M = den cf 228 2 [kq v0, .int x, v2] st M := den_st (k := 1) (v := .int x) l_228_1 rfl
theorem l_228_2 : look (tab 228) 2 = some (.iconst 0, 1, [], .int (zI 0)) := by decide +kernel
theorem e_228_2 : den cf 228 2 L st M = den cf 228 3 L (.int (zI 0) :: st) M := den_go l_228_2 rfl
theorem l_228_3 : look (tab 228) 3 = some (.istore_n 2, 1, [], uu) := by decide +kernel
theorem e_228_3 : den cf 228 3 [v0, v1, v2] (.int x :: st) M = den cf 228 4 [v0, kq v1, .int x] st M := den_st (k := 2) (v := .int x) l_228_3 rfl
theorem l_228_4 : look (tab 228) 4 = some (.iload_n 2, 1, [], uu) := by decide +kernel
theorem e_228_4 : den cf 228 4 [v0, v1, .int x] st M = den cf 228 5 [v0, v1, .int x] (.int x :: st) M := den_go l_228_4 rfl
theorem l_228_5 : look (tab 228) 5 = some (.aload_n 0, 1, [], uu) := by decide +kernel
theorem e_228_5 : den cf 228 5 [.ref a, v1, v2] st M = den cf 228 6 [.ref a, v1, v2] (.ref a :: st) M := den_go l_228_5 rfl
theorem l_228_6 : look (tab 228) 6 = some (.getfield 80, 3, [6, 9, 230], uu) := by decide +kernel
theorem e_228_6 : den cf 228 6 L (.ref a :: st) M = oK (gfA (M.2.2 a) 6 9) (fun v => den cf 228 9 L (v :: st) M) := den_gf l_228_6
theorem l_228_9 : look (tab 228) 9 = some (.if_icmp .ge 18, 3, [27], uu) := by decide +kernel
theorem e_228_9 : den cf 228 9 L (.int y :: .int x :: st) M = if x < y then den cf 228 12 L st M else den cf 228 27 L st M := den_ic_ge l_228_9
theorem l_228_12 : look (tab 228) 12 = some (.iload_n 1, 1, [], uu) := by decide +kernel
theorem e_228_12 : den cf 228 12 [v0, .int x, v2] st M = den cf 228 13 [v0, .int x, v2] (.int x :: st) M := den_go l_228_12 rfl
theorem l_228_13 : look (tab 228) 13 = some (.aload_n 0, 1, [], uu) := by decide +kernel
theorem e_228_13 : den cf 228 13 [.ref a, v1, v2] st M = den cf 228 14 [.ref a, v1, v2] (.ref a :: st) M := den_go l_228_13 rfl
theorem l_228_14 : look (tab 228) 14 = some (.getfield 58, 3, [6, 17, 95], uu) := by decide +kernel
theorem e_228_14 : den cf 228 14 L (.ref a :: st) M = oK (gfA (M.2.2 a) 6 17) (fun v => den cf 228 17 L (v :: st) M) := den_gf l_228_14
theorem l_228_17 : look (tab 228) 17 = some (.iload_n 2, 1, [], uu) := by decide +kernel
theorem e_228_17 : den cf 228 17 [v0, v1, .int x] st M = den cf 228 18 [v0, v1, .int x] (.int x :: st) M := den_go l_228_17 rfl
theorem l_228_18 : look (tab 228) 18 = some (.iaload, 1, [], uu) := by decide +kernel
theorem e_228_18 : den cf 228 18 L (.int x :: .ref a :: st) M = oK (ldI (M.2.2 a) x) (fun v => den cf 228 19 L (v :: st) M) := den_al (g := ldI) l_228_18 rfl
theorem l_228_19 : look (tab 228) 19 = some (.iadd, 1, [], uu) := by decide +kernel
theorem e_228_19 : den cf 228 19 L (.int y :: .int x :: st) M = den cf 228 20 L (.int (x + y) :: st) M := den_go l_228_19 rfl
theorem l_228_20 : look (tab 228) 20 = some (.istore_n 1, 1, [], uu) := by decide +kernel
theorem e_228_20 : den cf 228 20 [v0, v1, v2] (.int x :: st) M = den cf 228 21 [kq v0, .int x, v2] st M := den_st (k := 1) (v := .int x) l_228_20 rfl
theorem l_228_21 : look (tab 228) 21 = some (.iinc 2 1, 3, [], .int (zI 1)) := by decide +kernel
theorem e_228_21 : den cf 228 21 [v0, v1, .int x] st M = den cf 228 24 [v0, kq v1, .int (x + (zI 1))] st M := den_st (k := 2) (v := .int (x + (zI 1))) l_228_21 rfl
theorem l_228_24 : look (tab 228) 24 = some (.goto (-20), 3, [4], uu) := by decide +kernel
theorem e_228_24 : den cf 228 24 L st M = den cf 228 4 L st M := den_go l_228_24 rfl
theorem l_228_27 : look (tab 228) 27 = some (.iload_n 1, 1, [], uu) := by decide +kernel
theorem e_228_27 : den cf 228 27 [v0, .int x, v2] st M = den cf 228 28 [v0, .int x, v2] (.int x :: st) M := den_go l_228_27 rfl
theorem l_228_28 : look (tab 228) 28 = some (.ireturn, 1, [0], uu) := by decide +kernel
theorem e_228_28 : den cf 228 28 L [.int x] M = some (some (.int x), M) := den_e0 l_228_28
/-! yX6_mostSilent -/
theorem l_229_0 : look (tab 229) 0 = some (.iconst 0, 1, [], .int (zI 0)) := by decide +kernel
theorem e_229_0 : den cf 229 0 L st M = den cf 229 1 L (.int (zI 0) :: st) M := den_go l_229_0 rfl
theorem l_229_1 : look (tab 229) 1 = some (.istore_n 1, 1, [], uu) := by decide +kernel
theorem e_229_1 : den cf 229 1 [v0, v1, v2] (.int x :: st) M = den cf 229 2 [kq v0, .int x, v2] st M := den_st (k := 1) (v := .int x) l_229_1 rfl
theorem l_229_2 : look (tab 229) 2 = some (.iconst 0, 1, [], .int (zI 0)) := by decide +kernel
theorem e_229_2 : den cf 229 2 L st M = den cf 229 3 L (.int (zI 0) :: st) M := den_go l_229_2 rfl
theorem l_229_3 : look (tab 229) 3 = some (.istore_n 2, 1, [], uu) := by decide +kernel
theorem e_229_3 : den cf 229 3 [v0, v1, v2] (.int x :: st) M = den cf 229 4 [v0, kq v1, .int x] st M := den_st (k := 2) (v := .int x) l_229_3 rfl
theorem l_229_4 : look (tab 229) 4 = some (.iload_n 2, 1, [], uu) := by decide +kernel
theorem e_229_4 : den cf 229 4 [v0, v1, .int x] st M = den cf 229 5 [v0, v1, .int x] (.int x :: st) M := den_go l_229_4 rfl
theorem l_229_5 : look (tab 229) 5 = some (.aload_n 0, 1, [], uu) := by decide +kernel
theorem e_229_5 : den cf 229 5 [.ref a, v1, v2] st M = den cf 229 6 [.ref a, v1, v2] (.ref a :: st) M := den_go l_229_5 rfl
theorem l_229_6 : look (tab 229) 6 = some (.getfield 80, 3, [6, 9, 230], uu) := by decide +kernel
theorem e_229_6 : den cf 229 6 L (.ref a :: st) M = oK (gfA (M.2.2 a) 6 9) (fun v => den cf 229 9 L (v :: st) M) := den_gf l_229_6
theorem l_229_9 : look (tab 229) 9 = some (.if_icmp .ge 30, 3, [39], uu) := by decide +kernel
theorem e_229_9 : den cf 229 9 L (.int y :: .int x :: st) M = if x < y then den cf 229 12 L st M else den cf 229 39 L st M := den_ic_ge l_229_9
theorem l_229_12 : look (tab 229) 12 = some (.aload_n 0, 1, [], uu) := by decide +kernel
theorem e_229_12 : den cf 229 12 [.ref a, v1, v2] st M = den cf 229 13 [.ref a, v1, v2] (.ref a :: st) M := den_go l_229_12 rfl
theorem l_229_13 : look (tab 229) 13 = some (.getfield 55, 3, [6, 16, 94], uu) := by decide +kernel
theorem e_229_13 : den cf 229 13 L (.ref a :: st) M = oK (gfA (M.2.2 a) 6 16) (fun v => den cf 229 16 L (v :: st) M) := den_gf l_229_13
theorem l_229_16 : look (tab 229) 16 = some (.iload_n 2, 1, [], uu) := by decide +kernel
theorem e_229_16 : den cf 229 16 [v0, v1, .int x] st M = den cf 229 17 [v0, v1, .int x] (.int x :: st) M := den_go l_229_16 rfl
theorem l_229_17 : look (tab 229) 17 = some (.iaload, 1, [], uu) := by decide +kernel
theorem e_229_17 : den cf 229 17 L (.int x :: .ref a :: st) M = oK (ldI (M.2.2 a) x) (fun v => den cf 229 18 L (v :: st) M) := den_al (g := ldI) l_229_17 rfl
theorem l_229_18 : look (tab 229) 18 = some (.iload_n 1, 1, [], uu) := by decide +kernel
theorem e_229_18 : den cf 229 18 [v0, .int x, v2] st M = den cf 229 19 [v0, .int x, v2] (.int x :: st) M := den_go l_229_18 rfl
theorem l_229_19 : look (tab 229) 19 = some (.if_icmp .le 12, 3, [31], uu) := by decide +kernel
theorem e_229_19 : den cf 229 19 L (.int y :: .int x :: st) M = if y < x then den cf 229 22 L st M else den cf 229 31 L st M := den_ic_le l_229_19
theorem l_229_22 : look (tab 229) 22 = some (.aload_n 0, 1, [], uu) := by decide +kernel
theorem e_229_22 : den cf 229 22 [.ref a, v1, v2] st M = den cf 229 23 [.ref a, v1, v2] (.ref a :: st) M := den_go l_229_22 rfl
theorem l_229_23 : look (tab 229) 23 = some (.getfield 55, 3, [6, 16, 94], uu) := by decide +kernel
theorem e_229_23 : den cf 229 23 L (.ref a :: st) M = oK (gfA (M.2.2 a) 6 16) (fun v => den cf 229 26 L (v :: st) M) := den_gf l_229_23
theorem l_229_26 : look (tab 229) 26 = some (.iload_n 2, 1, [], uu) := by decide +kernel
theorem e_229_26 : den cf 229 26 [v0, v1, .int x] st M = den cf 229 27 [v0, v1, .int x] (.int x :: st) M := den_go l_229_26 rfl
theorem l_229_27 : look (tab 229) 27 = some (.iaload, 1, [], uu) := by decide +kernel
theorem e_229_27 : den cf 229 27 L (.int x :: .ref a :: st) M = oK (ldI (M.2.2 a) x) (fun v => den cf 229 28 L (v :: st) M) := den_al (g := ldI) l_229_27 rfl
theorem l_229_28 : look (tab 229) 28 = some (.goto 4, 3, [32], uu) := by decide +kernel
theorem e_229_28 : den cf 229 28 L st M = den cf 229 32 L st M := den_go l_229_28 rfl
theorem l_229_31 : look (tab 229) 31 = some (.iload_n 1, 1, [], uu) := by decide +kernel
theorem e_229_31 : den cf 229 31 [v0, .int x, v2] st M = den cf 229 32 [v0, .int x, v2] (.int x :: st) M := den_go l_229_31 rfl
theorem l_229_32 : look (tab 229) 32 = some (.istore_n 1, 1, [], uu) := by decide +kernel
theorem e_229_32 : den cf 229 32 [v0, v1, v2] (.int x :: st) M = den cf 229 33 [kq v0, .int x, v2] st M := den_st (k := 1) (v := .int x) l_229_32 rfl
theorem l_229_33 : look (tab 229) 33 = some (.iinc 2 1, 3, [], .int (zI 1)) := by decide +kernel
theorem e_229_33 : den cf 229 33 [v0, v1, .int x] st M = den cf 229 36 [v0, kq v1, .int (x + (zI 1))] st M := den_st (k := 2) (v := .int (x + (zI 1))) l_229_33 rfl
theorem l_229_36 : look (tab 229) 36 = some (.goto (-32), 3, [4], uu) := by decide +kernel
theorem e_229_36 : den cf 229 36 L st M = den cf 229 4 L st M := den_go l_229_36 rfl
theorem l_229_39 : look (tab 229) 39 = some (.iload_n 1, 1, [], uu) := by decide +kernel
theorem e_229_39 : den cf 229 39 [v0, .int x, v2] st M = den cf 229 40 [v0, .int x, v2] (.int x :: st) M := den_go l_229_39 rfl
theorem l_229_40 : look (tab 229) 40 = some (.ireturn, 1, [0], uu) := by decide +kernel
theorem e_229_40 : den cf 229 40 L [.int x] M = some (some (.int x), M) := den_e0 l_229_40
/-! yX6_behind -/
theorem l_230_0 : look (tab 230) 0 = some (.iload_n 1, 1, [], uu) := by decide +kernel
theorem e_230_0 : den cf 230 0 [v0, .int x, v2, v3, v4] st M = den cf 230 1 [v0, .int x, v2, v3, v4] (.int x :: st) M := den_go l_230_0 rfl
theorem l_230_1 : look (tab 230) 1 = some (.i2l, 1, [], uu) := by decide +kernel
theorem e_230_1 : den cf 230 1 L (.int x :: st) M = den cf 230 2 L (.long x.toInt64 :: st) M := den_go l_230_1 rfl
theorem l_230_2 : look (tab 230) 2 = some (.lconst 0, 1, [], .long (zJ 0)) := by decide +kernel
theorem e_230_2 : den cf 230 2 L st M = den cf 230 3 L (.long (zJ 0) :: st) M := den_go l_230_2 rfl
theorem l_230_3 : look (tab 230) 3 = some (.ldc2_w 87, 3, [127], .long (zJ 7)) := by decide +kernel
theorem e_230_3 : den cf 230 3 L st M = den cf 230 6 L (.long (zJ 7) :: st) M := den_go l_230_3 rfl
theorem l_230_6 : look (tab 230) 6 = some (.invokestatic 83, 3, [1, 137, 3, 130, 131, 5], uu) := by decide +kernel
theorem e_230_6 : den cf 230 6 L (w3 :: w2 :: w1 :: st) M = if st.length ≤ 4 then rK (cf 137 [w1, w2, w3] M) (fun v M' => den cf 230 9 L (pR v st) M') else none := den_ist [w1, w2, w3] l_230_6 rfl
theorem l_230_9 : look (tab 230) 9 = some (.ifCond .eq 27, 3, [36], uu) := by decide +kernel
theorem e_230_9 : den cf 230 9 L (.int x :: st) M = if x = zI 0 then den cf 230 36 L st M else den cf 230 12 L st M := den_if_eq l_230_9
theorem l_230_12 : look (tab 230) 12 = some (.iload_n 2, 1, [], uu) := by decide +kernel
theorem e_230_12 : den cf 230 12 [v0, v1, .int x, v3, v4] st M = den cf 230 13 [v0, v1, .int x, v3, v4] (.int x :: st) M := den_go l_230_12 rfl
theorem l_230_13 : look (tab 230) 13 = some (.i2l, 1, [], uu) := by decide +kernel
theorem e_230_13 : den cf 230 13 L (.int x :: st) M = den cf 230 14 L (.long x.toInt64 :: st) M := den_go l_230_13 rfl
theorem l_230_14 : look (tab 230) 14 = some (.lconst 0, 1, [], .long (zJ 0)) := by decide +kernel
theorem e_230_14 : den cf 230 14 L st M = den cf 230 15 L (.long (zJ 0) :: st) M := den_go l_230_14 rfl
theorem l_230_15 : look (tab 230) 15 = some (.ldc2_w 91, 3, [129], .long (zJ 40)) := by decide +kernel
theorem e_230_15 : den cf 230 15 L st M = den cf 230 18 L (.long (zJ 40) :: st) M := den_go l_230_15 rfl
theorem l_230_18 : look (tab 230) 18 = some (.invokestatic 83, 3, [1, 137, 3, 130, 131, 5], uu) := by decide +kernel
theorem e_230_18 : den cf 230 18 L (w3 :: w2 :: w1 :: st) M = if st.length ≤ 4 then rK (cf 137 [w1, w2, w3] M) (fun v M' => den cf 230 21 L (pR v st) M') else none := den_ist [w1, w2, w3] l_230_18 rfl
theorem l_230_21 : look (tab 230) 21 = some (.ifCond .eq 15, 3, [36], uu) := by decide +kernel
theorem e_230_21 : den cf 230 21 L (.int x :: st) M = if x = zI 0 then den cf 230 36 L st M else den cf 230 24 L st M := den_if_eq l_230_21
theorem l_230_24 : look (tab 230) 24 = some (.iload_n 3, 1, [], uu) := by decide +kernel
theorem e_230_24 : den cf 230 24 [v0, v1, v2, .int x, v4] st M = den cf 230 25 [v0, v1, v2, .int x, v4] (.int x :: st) M := den_go l_230_24 rfl
theorem l_230_25 : look (tab 230) 25 = some (.i2l, 1, [], uu) := by decide +kernel
theorem e_230_25 : den cf 230 25 L (.int x :: st) M = den cf 230 26 L (.long x.toInt64 :: st) M := den_go l_230_25 rfl
theorem l_230_26 : look (tab 230) 26 = some (.lconst 0, 1, [], .long (zJ 0)) := by decide +kernel
theorem e_230_26 : den cf 230 26 L st M = den cf 230 27 L (.long (zJ 0) :: st) M := den_go l_230_26 rfl
theorem l_230_27 : look (tab 230) 27 = some (.ldc2_w 147, 3, [398], .long (zJ 2)) := by decide +kernel
theorem e_230_27 : den cf 230 27 L st M = den cf 230 30 L (.long (zJ 2) :: st) M := den_go l_230_27 rfl
theorem l_230_30 : look (tab 230) 30 = some (.invokestatic 83, 3, [1, 137, 3, 130, 131, 5], uu) := by decide +kernel
theorem e_230_30 : den cf 230 30 L (w3 :: w2 :: w1 :: st) M = if st.length ≤ 4 then rK (cf 137 [w1, w2, w3] M) (fun v M' => den cf 230 33 L (pR v st) M') else none := den_ist [w1, w2, w3] l_230_30 rfl
theorem l_230_33 : look (tab 230) 33 = some (.ifCond .ne 10, 3, [43], uu) := by decide +kernel
theorem e_230_33 : den cf 230 33 L (.int x :: st) M = if x = zI 0 then den cf 230 36 L st M else den cf 230 43 L st M := den_if_ne l_230_33
theorem l_230_36 : look (tab 230) 36 = some (.aload_n 0, 1, [], uu) := by decide +kernel
theorem e_230_36 : den cf 230 36 [.ref a, v1, v2, v3, v4] st M = den cf 230 37 [.ref a, v1, v2, v3, v4] (.ref a :: st) M := den_go l_230_36 rfl
theorem l_230_37 : look (tab 230) 37 = some (.bipush (-2), 2, [], .int (zI (-2))) := by decide +kernel
theorem e_230_37 : den cf 230 37 L st M = den cf 230 39 L (.int (zI (-2)) :: st) M := den_go l_230_37 rfl
theorem l_230_39 : look (tab 230) 39 = some (.invokevirtual 93, 3, [6, 136, 2, 133, 134, 135, 5], uu) := by decide +kernel
theorem e_230_39 : den cf 230 39 L (w1 :: .ref a :: st) M = if rcv M 6 [.ref a, w1] = true ∧ st.length ≤ 4 then rK (cf 136 [.ref a, w1] M) (fun v M' => den cf 230 42 L (pR v st) M') else none := den_iv [w1] l_230_39 rfl
theorem l_230_42 : look (tab 230) 42 = some (.ireturn, 1, [0], uu) := by decide +kernel
theorem e_230_42 : den cf 230 42 L [.int x] M = some (some (.int x), M) := den_e0 l_230_42
theorem l_230_43 : look (tab 230) 43 = some (.aload_n 0, 1, [], uu) := by decide +kernel
theorem e_230_43 : den cf 230 43 [.ref a, v1, v2, v3, v4] st M = den cf 230 44 [.ref a, v1, v2, v3, v4] (.ref a :: st) M := den_go l_230_43 rfl
theorem l_230_44 : look (tab 230) 44 = some (.iload_n 1, 1, [], uu) := by decide +kernel
theorem e_230_44 : den cf 230 44 [v0, .int x, v2, v3, v4] st M = den cf 230 45 [v0, .int x, v2, v3, v4] (.int x :: st) M := den_go l_230_44 rfl
theorem l_230_45 : look (tab 230) 45 = some (.iload_n 2, 1, [], uu) := by decide +kernel
theorem e_230_45 : den cf 230 45 [v0, v1, .int x, v3, v4] st M = den cf 230 46 [v0, v1, .int x, v3, v4] (.int x :: st) M := den_go l_230_45 rfl
theorem l_230_46 : look (tab 230) 46 = some (.invokevirtual 320, 3, [6, 222, 3, 1078, 1079, 1080, 5], uu) := by decide +kernel
theorem e_230_46 : den cf 230 46 L (w2 :: w1 :: .ref a :: st) M = if rcv M 6 [.ref a, w1, w2] = true ∧ st.length ≤ 4 then rK (cf 222 [.ref a, w1, w2] M) (fun v M' => den cf 230 49 L (pR v st) M') else none := den_iv [w1, w2] l_230_46 rfl
theorem l_230_49 : look (tab 230) 49 = some (.istore 4, 2, [], uu) := by decide +kernel
theorem e_230_49 : den cf 230 49 [v0, v1, v2, v3, v4] (.int x :: st) M = den cf 230 51 [v0, v1, v2, kq v3, .int x] st M := den_st (k := 4) (v := .int x) l_230_49 rfl
theorem l_230_51 : look (tab 230) 51 = some (.iload 4, 2, [], uu) := by decide +kernel
theorem e_230_51 : den cf 230 51 [v0, v1, v2, v3, .int x] st M = den cf 230 53 [v0, v1, v2, v3, .int x] (.int x :: st) M := den_go l_230_51 rfl
theorem l_230_53 : look (tab 230) 53 = some (.ifCond .eq 6, 3, [59], uu) := by decide +kernel
theorem e_230_53 : den cf 230 53 L (.int x :: st) M = if x = zI 0 then den cf 230 59 L st M else den cf 230 56 L st M := den_if_eq l_230_53
theorem l_230_56 : look (tab 230) 56 = some (.iload 4, 2, [], uu) := by decide +kernel
theorem e_230_56 : den cf 230 56 [v0, v1, v2, v3, .int x] st M = den cf 230 58 [v0, v1, v2, v3, .int x] (.int x :: st) M := den_go l_230_56 rfl
theorem l_230_58 : look (tab 230) 58 = some (.ireturn, 1, [0], uu) := by decide +kernel
theorem e_230_58 : den cf 230 58 L [.int x] M = some (some (.int x), M) := den_e0 l_230_58
theorem l_230_59 : look (tab 230) 59 = some (.aload_n 0, 1, [], uu) := by decide +kernel
theorem e_230_59 : den cf 230 59 [.ref a, v1, v2, v3, v4] st M = den cf 230 60 [.ref a, v1, v2, v3, v4] (.ref a :: st) M := den_go l_230_59 rfl
theorem l_230_60 : look (tab 230) 60 = some (.aload_n 0, 1, [], uu) := by decide +kernel
theorem e_230_60 : den cf 230 60 [.ref a, v1, v2, v3, v4] st M = den cf 230 61 [.ref a, v1, v2, v3, v4] (.ref a :: st) M := den_go l_230_60 rfl
theorem l_230_61 : look (tab 230) 61 = some (.getfield 21, 3, [6, 3, 83], uu) := by decide +kernel
theorem e_230_61 : den cf 230 61 L (.ref a :: st) M = oK (gfA (M.2.2 a) 6 3) (fun v => den cf 230 64 L (v :: st) M) := den_gf l_230_61
theorem l_230_64 : look (tab 230) 64 = some (.iload_n 1, 1, [], uu) := by decide +kernel
theorem e_230_64 : den cf 230 64 [v0, .int x, v2, v3, v4] st M = den cf 230 65 [v0, .int x, v2, v3, v4] (.int x :: st) M := den_go l_230_64 rfl
theorem l_230_65 : look (tab 230) 65 = some (.aaload, 1, [], uu) := by decide +kernel
theorem e_230_65 : den cf 230 65 L (.int x :: .ref a :: st) M = oK (ldQ (M.2.2 a) x) (fun v => den cf 230 66 L (v :: st) M) := den_al (g := ldQ) l_230_65 rfl
theorem l_230_66 : look (tab 230) 66 = some (.iload_n 2, 1, [], uu) := by decide +kernel
theorem e_230_66 : den cf 230 66 [v0, v1, .int x, v3, v4] st M = den cf 230 67 [v0, v1, .int x, v3, v4] (.int x :: st) M := den_go l_230_66 rfl
theorem l_230_67 : look (tab 230) 67 = some (.invokevirtual 339, 3, [6, 226, 3, 1108, 1109, 1110, 5], uu) := by decide +kernel
theorem e_230_67 : den cf 230 67 L (w2 :: w1 :: .ref a :: st) M = if rcv M 6 [.ref a, w1, w2] = true ∧ st.length ≤ 4 then rK (cf 226 [.ref a, w1, w2] M) (fun v M' => den cf 230 70 L (pR v st) M') else none := den_iv [w1, w2] l_230_67 rfl
theorem l_230_70 : look (tab 230) 70 = some (.iconst (-1), 1, [], .int (zI (-1))) := by decide +kernel
theorem e_230_70 : den cf 230 70 L st M = den cf 230 71 L (.int (zI (-1)) :: st) M := den_go l_230_70 rfl
theorem l_230_71 : look (tab 230) 71 = some (.if_icmp .eq 10, 3, [81], uu) := by decide +kernel
theorem e_230_71 : den cf 230 71 L (.int y :: .int x :: st) M = if x = y then den cf 230 81 L st M else den cf 230 74 L st M := den_ic_eq l_230_71
theorem l_230_74 : look (tab 230) 74 = some (.aload_n 0, 1, [], uu) := by decide +kernel
theorem e_230_74 : den cf 230 74 [.ref a, v1, v2, v3, v4] st M = den cf 230 75 [.ref a, v1, v2, v3, v4] (.ref a :: st) M := den_go l_230_74 rfl
theorem l_230_75 : look (tab 230) 75 = some (.bipush (-5), 2, [], .int (zI (-5))) := by decide +kernel
theorem e_230_75 : den cf 230 75 L st M = den cf 230 77 L (.int (zI (-5)) :: st) M := den_go l_230_75 rfl
theorem l_230_77 : look (tab 230) 77 = some (.invokevirtual 93, 3, [6, 136, 2, 133, 134, 135, 5], uu) := by decide +kernel
theorem e_230_77 : den cf 230 77 L (w1 :: .ref a :: st) M = if rcv M 6 [.ref a, w1] = true ∧ st.length ≤ 4 then rK (cf 136 [.ref a, w1] M) (fun v M' => den cf 230 80 L (pR v st) M') else none := den_iv [w1] l_230_77 rfl
theorem l_230_80 : look (tab 230) 80 = some (.ireturn, 1, [0], uu) := by decide +kernel
theorem e_230_80 : den cf 230 80 L [.int x] M = some (some (.int x), M) := den_e0 l_230_80
theorem l_230_81 : look (tab 230) 81 = some (.iload_n 3, 1, [], uu) := by decide +kernel
theorem e_230_81 : den cf 230 81 [v0, v1, v2, .int x, v4] st M = den cf 230 82 [v0, v1, v2, .int x, v4] (.int x :: st) M := den_go l_230_81 rfl
theorem l_230_82 : look (tab 230) 82 = some (.ifCond .ne 13, 3, [95], uu) := by decide +kernel
theorem e_230_82 : den cf 230 82 L (.int x :: st) M = if x = zI 0 then den cf 230 85 L st M else den cf 230 95 L st M := den_if_ne l_230_82
theorem l_230_85 : look (tab 230) 85 = some (.aload_n 0, 1, [], uu) := by decide +kernel
theorem e_230_85 : den cf 230 85 [.ref a, v1, v2, v3, v4] st M = den cf 230 86 [.ref a, v1, v2, v3, v4] (.ref a :: st) M := den_go l_230_85 rfl
theorem l_230_86 : look (tab 230) 86 = some (.getfield 231, 3, [6, 22, 565], uu) := by decide +kernel
theorem e_230_86 : den cf 230 86 L (.ref a :: st) M = oK (gfA (M.2.2 a) 6 22) (fun v => den cf 230 89 L (v :: st) M) := den_gf l_230_86
theorem l_230_89 : look (tab 230) 89 = some (.invokevirtual 343, 3, [6, 228, 1, 1136, 1137, 1138, 5], uu) := by decide +kernel
theorem e_230_89 : den cf 230 89 L (.ref a :: st) M = if rcv M 6 [.ref a] = true ∧ st.length ≤ 4 then rK (cf 228 [.ref a] M) (fun v M' => den cf 230 92 L (pR v st) M') else none := den_iv [] l_230_89 rfl
theorem l_230_92 : look (tab 230) 92 = some (.goto 25, 3, [117], uu) := by decide +kernel
theorem e_230_92 : den cf 230 92 L st M = den cf 230 117 L st M := den_go l_230_92 rfl
theorem l_230_95 : look (tab 230) 95 = some (.iload_n 3, 1, [], uu) := by decide +kernel
theorem e_230_95 : den cf 230 95 [v0, v1, v2, .int x, v4] st M = den cf 230 96 [v0, v1, v2, .int x, v4] (.int x :: st) M := den_go l_230_95 rfl
theorem l_230_96 : look (tab 230) 96 = some (.iconst 1, 1, [], .int (zI 1)) := by decide +kernel
theorem e_230_96 : den cf 230 96 L st M = den cf 230 97 L (.int (zI 1) :: st) M := den_go l_230_96 rfl
theorem l_230_97 : look (tab 230) 97 = some (.if_icmp .ne 13, 3, [110], uu) := by decide +kernel
theorem e_230_97 : den cf 230 97 L (.int y :: .int x :: st) M = if x = y then den cf 230 100 L st M else den cf 230 110 L st M := den_ic_ne l_230_97
theorem l_230_100 : look (tab 230) 100 = some (.aload_n 0, 1, [], uu) := by decide +kernel
theorem e_230_100 : den cf 230 100 [.ref a, v1, v2, v3, v4] st M = den cf 230 101 [.ref a, v1, v2, v3, v4] (.ref a :: st) M := den_go l_230_100 rfl
theorem l_230_101 : look (tab 230) 101 = some (.getfield 231, 3, [6, 22, 565], uu) := by decide +kernel
theorem e_230_101 : den cf 230 101 L (.ref a :: st) M = oK (gfA (M.2.2 a) 6 22) (fun v => den cf 230 104 L (v :: st) M) := den_gf l_230_101
theorem l_230_104 : look (tab 230) 104 = some (.invokevirtual 346, 3, [6, 229, 1, 1140, 1141, 1142, 5], uu) := by decide +kernel
theorem e_230_104 : den cf 230 104 L (.ref a :: st) M = if rcv M 6 [.ref a] = true ∧ st.length ≤ 4 then rK (cf 229 [.ref a] M) (fun v M' => den cf 230 107 L (pR v st) M') else none := den_iv [] l_230_104 rfl
theorem l_230_107 : look (tab 230) 107 = some (.goto 10, 3, [117], uu) := by decide +kernel
theorem e_230_107 : den cf 230 107 L st M = den cf 230 117 L st M := den_go l_230_107 rfl
theorem l_230_110 : look (tab 230) 110 = some (.aload_n 0, 1, [], uu) := by decide +kernel
theorem e_230_110 : den cf 230 110 [.ref a, v1, v2, v3, v4] st M = den cf 230 111 [.ref a, v1, v2, v3, v4] (.ref a :: st) M := den_go l_230_110 rfl
theorem l_230_111 : look (tab 230) 111 = some (.getfield 231, 3, [6, 22, 565], uu) := by decide +kernel
theorem e_230_111 : den cf 230 111 L (.ref a :: st) M = oK (gfA (M.2.2 a) 6 22) (fun v => den cf 230 114 L (v :: st) M) := den_gf l_230_111
theorem l_230_114 : look (tab 230) 114 = some (.invokevirtual 305, 3, [6, 201, 1, 885, 886, 887, 5], uu) := by decide +kernel
theorem e_230_114 : den cf 230 114 L (.ref a :: st) M = if rcv M 6 [.ref a] = true ∧ st.length ≤ 4 then rK (cf 201 [.ref a] M) (fun v M' => den cf 230 117 L (pR v st) M') else none := den_iv [] l_230_114 rfl
theorem l_230_117 : look (tab 230) 117 = some (.ireturn, 1, [0], uu) := by decide +kernel
theorem e_230_117 : den cf 230 117 L [.int x] M = some (some (.int x), M) := den_e0 l_230_117
/-! yX6_done -/
theorem l_231_0 : look (tab 231) 0 = some (.aload_n 0, 1, [], uu) := by decide +kernel
theorem e_231_0 : den cf 231 0 [.ref a, v1, v2, v3] st M = den cf 231 1 [.ref a, v1, v2, v3] (.ref a :: st) M := den_go l_231_0 rfl
theorem l_231_1 : look (tab 231) 1 = some (.iload_n 1, 1, [], uu) := by decide +kernel
theorem e_231_1 : den cf 231 1 [v0, .int x, v2, v3] st M = den cf 231 2 [v0, .int x, v2, v3] (.int x :: st) M := den_go l_231_1 rfl
theorem l_231_2 : look (tab 231) 2 = some (.iload_n 2, 1, [], uu) := by decide +kernel
theorem e_231_2 : den cf 231 2 [v0, v1, .int x, v3] st M = den cf 231 3 [v0, v1, .int x, v3] (.int x :: st) M := den_go l_231_2 rfl
theorem l_231_3 : look (tab 231) 3 = some (.invokevirtual 320, 3, [6, 222, 3, 1078, 1079, 1080, 5], uu) := by decide +kernel
theorem e_231_3 : den cf 231 3 L (w2 :: w1 :: .ref a :: st) M = if rcv M 6 [.ref a, w1, w2] = true ∧ st.length ≤ 4 then rK (cf 222 [.ref a, w1, w2] M) (fun v M' => den cf 231 6 L (pR v st) M') else none := den_iv [w1, w2] l_231_3 rfl
theorem l_231_6 : look (tab 231) 6 = some (.istore_n 3, 1, [], uu) := by decide +kernel
theorem e_231_6 : den cf 231 6 [v0, v1, v2, v3] (.int x :: st) M = den cf 231 7 [v0, v1, kq v2, .int x] st M := den_st (k := 3) (v := .int x) l_231_6 rfl
theorem l_231_7 : look (tab 231) 7 = some (.iload_n 3, 1, [], uu) := by decide +kernel
theorem e_231_7 : den cf 231 7 [v0, v1, v2, .int x] st M = den cf 231 8 [v0, v1, v2, .int x] (.int x :: st) M := den_go l_231_7 rfl
theorem l_231_8 : look (tab 231) 8 = some (.ifCond .eq 5, 3, [13], uu) := by decide +kernel
theorem e_231_8 : den cf 231 8 L (.int x :: st) M = if x = zI 0 then den cf 231 13 L st M else den cf 231 11 L st M := den_if_eq l_231_8
theorem l_231_11 : look (tab 231) 11 = some (.iload_n 3, 1, [], uu) := by decide +kernel
theorem e_231_11 : den cf 231 11 [v0, v1, v2, .int x] st M = den cf 231 12 [v0, v1, v2, .int x] (.int x :: st) M := den_go l_231_11 rfl
theorem l_231_12 : look (tab 231) 12 = some (.ireturn, 1, [0], uu) := by decide +kernel
theorem e_231_12 : den cf 231 12 L [.int x] M = some (some (.int x), M) := den_e0 l_231_12
theorem l_231_13 : look (tab 231) 13 = some (.aload_n 0, 1, [], uu) := by decide +kernel
theorem e_231_13 : den cf 231 13 [.ref a, v1, v2, v3] st M = den cf 231 14 [.ref a, v1, v2, v3] (.ref a :: st) M := den_go l_231_13 rfl
theorem l_231_14 : look (tab 231) 14 = some (.aload_n 0, 1, [], uu) := by decide +kernel
theorem e_231_14 : den cf 231 14 [.ref a, v1, v2, v3] st M = den cf 231 15 [.ref a, v1, v2, v3] (.ref a :: st) M := den_go l_231_14 rfl
theorem l_231_15 : look (tab 231) 15 = some (.getfield 21, 3, [6, 3, 83], uu) := by decide +kernel
theorem e_231_15 : den cf 231 15 L (.ref a :: st) M = oK (gfA (M.2.2 a) 6 3) (fun v => den cf 231 18 L (v :: st) M) := den_gf l_231_15
theorem l_231_18 : look (tab 231) 18 = some (.iload_n 1, 1, [], uu) := by decide +kernel
theorem e_231_18 : den cf 231 18 [v0, .int x, v2, v3] st M = den cf 231 19 [v0, .int x, v2, v3] (.int x :: st) M := den_go l_231_18 rfl
theorem l_231_19 : look (tab 231) 19 = some (.aaload, 1, [], uu) := by decide +kernel
theorem e_231_19 : den cf 231 19 L (.int x :: .ref a :: st) M = oK (ldQ (M.2.2 a) x) (fun v => den cf 231 20 L (v :: st) M) := den_al (g := ldQ) l_231_19 rfl
theorem l_231_20 : look (tab 231) 20 = some (.iload_n 2, 1, [], uu) := by decide +kernel
theorem e_231_20 : den cf 231 20 [v0, v1, .int x, v3] st M = den cf 231 21 [v0, v1, .int x, v3] (.int x :: st) M := den_go l_231_20 rfl
theorem l_231_21 : look (tab 231) 21 = some (.invokevirtual 339, 3, [6, 226, 3, 1108, 1109, 1110, 5], uu) := by decide +kernel
theorem e_231_21 : den cf 231 21 L (w2 :: w1 :: .ref a :: st) M = if rcv M 6 [.ref a, w1, w2] = true ∧ st.length ≤ 4 then rK (cf 226 [.ref a, w1, w2] M) (fun v M' => den cf 231 24 L (pR v st) M') else none := den_iv [w1, w2] l_231_21 rfl
theorem l_231_24 : look (tab 231) 24 = some (.iconst (-1), 1, [], .int (zI (-1))) := by decide +kernel
theorem e_231_24 : den cf 231 24 L st M = den cf 231 25 L (.int (zI (-1)) :: st) M := den_go l_231_24 rfl
theorem l_231_25 : look (tab 231) 25 = some (.if_icmp .eq 10, 3, [35], uu) := by decide +kernel
theorem e_231_25 : den cf 231 25 L (.int y :: .int x :: st) M = if x = y then den cf 231 35 L st M else den cf 231 28 L st M := den_ic_eq l_231_25
theorem l_231_28 : look (tab 231) 28 = some (.aload_n 0, 1, [], uu) := by decide +kernel
theorem e_231_28 : den cf 231 28 [.ref a, v1, v2, v3] st M = den cf 231 29 [.ref a, v1, v2, v3] (.ref a :: st) M := den_go l_231_28 rfl
theorem l_231_29 : look (tab 231) 29 = some (.bipush (-5), 2, [], .int (zI (-5))) := by decide +kernel
theorem e_231_29 : den cf 231 29 L st M = den cf 231 31 L (.int (zI (-5)) :: st) M := den_go l_231_29 rfl
theorem l_231_31 : look (tab 231) 31 = some (.invokevirtual 93, 3, [6, 136, 2, 133, 134, 135, 5], uu) := by decide +kernel
theorem e_231_31 : den cf 231 31 L (w1 :: .ref a :: st) M = if rcv M 6 [.ref a, w1] = true ∧ st.length ≤ 4 then rK (cf 136 [.ref a, w1] M) (fun v M' => den cf 231 34 L (pR v st) M') else none := den_iv [w1] l_231_31 rfl
theorem l_231_34 : look (tab 231) 34 = some (.ireturn, 1, [0], uu) := by decide +kernel
theorem e_231_34 : den cf 231 34 L [.int x] M = some (some (.int x), M) := den_e0 l_231_34
theorem l_231_35 : look (tab 231) 35 = some (.aload_n 0, 1, [], uu) := by decide +kernel
theorem e_231_35 : den cf 231 35 [.ref a, v1, v2, v3] st M = den cf 231 36 [.ref a, v1, v2, v3] (.ref a :: st) M := den_go l_231_35 rfl
theorem l_231_36 : look (tab 231) 36 = some (.aload_n 0, 1, [], uu) := by decide +kernel
theorem e_231_36 : den cf 231 36 [.ref a, v1, v2, v3] st M = den cf 231 37 [.ref a, v1, v2, v3] (.ref a :: st) M := den_go l_231_36 rfl
theorem l_231_37 : look (tab 231) 37 = some (.getfield 231, 3, [6, 22, 565], uu) := by decide +kernel
theorem e_231_37 : den cf 231 37 L (.ref a :: st) M = oK (gfA (M.2.2 a) 6 22) (fun v => den cf 231 40 L (v :: st) M) := den_gf l_231_37
theorem l_231_40 : look (tab 231) 40 = some (.invokevirtual 236, 3, [6, 238, 2, 568, 569, 570, 5], uu) := by decide +kernel
theorem e_231_40 : den cf 231 40 L (w1 :: .ref a :: st) M = if rcv M 6 [.ref a, w1] = true ∧ st.length ≤ 4 then rK (cf 238 [.ref a, w1] M) (fun v M' => den cf 231 43 L (pR v st) M') else none := den_iv [w1] l_231_40 rfl
theorem l_231_43 : look (tab 231) 43 = some (.aload_n 0, 1, [], uu) := by decide +kernel
theorem e_231_43 : den cf 231 43 [.ref a, v1, v2, v3] st M = den cf 231 44 [.ref a, v1, v2, v3] (.ref a :: st) M := den_go l_231_43 rfl
theorem l_231_44 : look (tab 231) 44 = some (.invokevirtual 343, 3, [6, 228, 1, 1136, 1137, 1138, 5], uu) := by decide +kernel
theorem e_231_44 : den cf 231 44 L (.ref a :: st) M = if rcv M 6 [.ref a] = true ∧ st.length ≤ 4 then rK (cf 228 [.ref a] M) (fun v M' => den cf 231 47 L (pR v st) M') else none := den_iv [] l_231_44 rfl
theorem l_231_47 : look (tab 231) 47 = some (.ireturn, 1, [0], uu) := by decide +kernel
theorem e_231_47 : den cf 231 47 L [.int x] M = some (some (.int x), M) := den_e0 l_231_47
/-! yX6_below -/
theorem l_232_0 : look (tab 232) 0 = some (.aload_n 0, 1, [], uu) := by decide +kernel
theorem e_232_0 : den cf 232 0 [.ref a, v1] st M = den cf 232 1 [.ref a, v1] (.ref a :: st) M := den_go l_232_0 rfl
theorem l_232_1 : look (tab 232) 1 = some (.aload_n 0, 1, [], uu) := by decide +kernel
theorem e_232_1 : den cf 232 1 [.ref a, v1] st M = den cf 232 2 [.ref a, v1] (.ref a :: st) M := den_go l_232_1 rfl
theorem l_232_2 : look (tab 232) 2 = some (.getfield 64, 3, [6, 20, 97], uu) := by decide +kernel
theorem e_232_2 : den cf 232 2 L (.ref a :: st) M = oK (gfA (M.2.2 a) 6 20) (fun v => den cf 232 5 L (v :: st) M) := den_gf l_232_2
theorem l_232_5 : look (tab 232) 5 = some (.ldc_w 349, 3, [1178], .int (zI 1103515245)) := by decide +kernel
theorem e_232_5 : den cf 232 5 L st M = den cf 232 8 L (.int (zI 1103515245) :: st) M := den_go l_232_5 rfl
theorem l_232_8 : look (tab 232) 8 = some (.imul, 1, [], uu) := by decide +kernel
theorem e_232_8 : den cf 232 8 L (.int y :: .int x :: st) M = den cf 232 9 L (.int (x * y) :: st) M := den_go l_232_8 rfl
theorem l_232_9 : look (tab 232) 9 = some (.sipush 12345, 3, [], .int (zI 12345)) := by decide +kernel
theorem e_232_9 : den cf 232 9 L st M = den cf 232 12 L (.int (zI 12345) :: st) M := den_go l_232_9 rfl
theorem l_232_12 : look (tab 232) 12 = some (.iadd, 1, [], uu) := by decide +kernel
theorem e_232_12 : den cf 232 12 L (.int y :: .int x :: st) M = den cf 232 13 L (.int (x + y) :: st) M := den_go l_232_12 rfl
theorem l_232_13 : look (tab 232) 13 = some (.putfield 64, 3, [6, 20, 0, 97, 0], uu) := by decide +kernel
theorem e_232_13 : den cf 232 13 L (.int x :: .ref a :: st) M = oK (pfA (M.2.2 a) 6 20 (.int x)) (fun c => den cf 232 16 L st (mU M a c)) := den_pf0 l_232_13
theorem l_232_16 : look (tab 232) 16 = some (.aload_n 0, 1, [], uu) := by decide +kernel
theorem e_232_16 : den cf 232 16 [.ref a, v1] st M = den cf 232 17 [.ref a, v1] (.ref a :: st) M := den_go l_232_16 rfl
theorem l_232_17 : look (tab 232) 17 = some (.getfield 64, 3, [6, 20, 97], uu) := by decide +kernel
theorem e_232_17 : den cf 232 17 L (.ref a :: st) M = oK (gfA (M.2.2 a) 6 20) (fun v => den cf 232 20 L (v :: st) M) := den_gf l_232_17
theorem l_232_20 : look (tab 232) 20 = some (.bipush 16, 2, [], .int (zI 16)) := by decide +kernel
theorem e_232_20 : den cf 232 20 L st M = den cf 232 22 L (.int (zI 16) :: st) M := den_go l_232_20 rfl
theorem l_232_22 : look (tab 232) 22 = some (.iushr, 1, [], uu) := by decide +kernel
theorem e_232_22 : den cf 232 22 L (.int y :: .int x :: st) M = den cf 232 23 L (.int ((x.toUInt32 >>> (y.toUInt32 &&& Int32.toUInt32 31)).toInt32) :: st) M := den_go l_232_22 rfl
theorem l_232_23 : look (tab 232) 23 = some (.iload_n 1, 1, [], uu) := by decide +kernel
theorem e_232_23 : den cf 232 23 [v0, .int x] st M = den cf 232 24 [v0, .int x] (.int x :: st) M := den_go l_232_23 rfl
theorem l_232_24 : look (tab 232) 24 = some (.irem, 1, [], uu) := by decide +kernel
theorem e_232_24 : den cf 232 24 L (.int y :: .int x :: st) M = if y = zI 0 then none else den cf 232 25 L (.int (x - x / y * y) :: st) M := den_dv (f := fun x y => x - x / y * y) l_232_24 rfl
theorem l_232_25 : look (tab 232) 25 = some (.ireturn, 1, [0], uu) := by decide +kernel
theorem e_232_25 : den cf 232 25 L [.int x] M = some (some (.int x), M) := den_e0 l_232_25
/-! yX6_goesWeek -/
theorem l_233_0 : look (tab 233) 0 = some (.aload_n 0, 1, [], uu) := by decide +kernel
theorem e_233_0 : den cf 233 0 [.ref a, v1, v2, v3] st M = den cf 233 1 [.ref a, v1, v2, v3] (.ref a :: st) M := den_go l_233_0 rfl
theorem l_233_1 : look (tab 233) 1 = some (.iload_n 1, 1, [], uu) := by decide +kernel
theorem e_233_1 : den cf 233 1 [v0, .int x, v2, v3] st M = den cf 233 2 [v0, .int x, v2, v3] (.int x :: st) M := den_go l_233_1 rfl
theorem l_233_2 : look (tab 233) 2 = some (.invokevirtual 250, 3, [6, 182, 2, 678, 679, 680, 5], uu) := by decide +kernel
theorem e_233_2 : den cf 233 2 L (w1 :: .ref a :: st) M = if rcv M 6 [.ref a, w1] = true ∧ st.length ≤ 4 then rK (cf 182 [.ref a, w1] M) (fun v M' => den cf 233 5 L (pR v st) M') else none := den_iv [w1] l_233_2 rfl
theorem l_233_5 : look (tab 233) 5 = some (.istore_n 2, 1, [], uu) := by decide +kernel
theorem e_233_5 : den cf 233 5 [v0, v1, v2, v3] (.int x :: st) M = den cf 233 6 [v0, kq v1, .int x, v3] st M := den_st (k := 2) (v := .int x) l_233_5 rfl
theorem l_233_6 : look (tab 233) 6 = some (.aload_n 0, 1, [], uu) := by decide +kernel
theorem e_233_6 : den cf 233 6 [.ref a, v1, v2, v3] st M = den cf 233 7 [.ref a, v1, v2, v3] (.ref a :: st) M := den_go l_233_6 rfl
theorem l_233_7 : look (tab 233) 7 = some (.bipush 12, 2, [], .int (zI 12)) := by decide +kernel
theorem e_233_7 : den cf 233 7 L st M = den cf 233 9 L (.int (zI 12) :: st) M := den_go l_233_7 rfl
theorem l_233_9 : look (tab 233) 9 = some (.invokevirtual 350, 3, [6, 232, 2, 1174, 1175, 1176, 5], uu) := by decide +kernel
theorem e_233_9 : den cf 233 9 L (w1 :: .ref a :: st) M = if rcv M 6 [.ref a, w1] = true ∧ st.length ≤ 4 then rK (cf 232 [.ref a, w1] M) (fun v M' => den cf 233 12 L (pR v st) M') else none := den_iv [w1] l_233_9 rfl
theorem l_233_12 : look (tab 233) 12 = some (.aload_n 0, 1, [], uu) := by decide +kernel
theorem e_233_12 : den cf 233 12 [.ref a, v1, v2, v3] st M = den cf 233 13 [.ref a, v1, v2, v3] (.ref a :: st) M := den_go l_233_12 rfl
theorem l_233_13 : look (tab 233) 13 = some (.iload_n 2, 1, [], uu) := by decide +kernel
theorem e_233_13 : den cf 233 13 [v0, v1, .int x, v3] st M = den cf 233 14 [v0, v1, .int x, v3] (.int x :: st) M := den_go l_233_13 rfl
theorem l_233_14 : look (tab 233) 14 = some (.aload_n 0, 1, [], uu) := by decide +kernel
theorem e_233_14 : den cf 233 14 [.ref a, v1, v2, v3] st M = den cf 233 15 [.ref a, v1, v2, v3] (.ref a :: st) M := den_go l_233_14 rfl
theorem l_233_15 : look (tab 233) 15 = some (.getfield 37, 3, [6, 10, 88], uu) := by decide +kernel
theorem e_233_15 : den cf 233 15 L (.ref a :: st) M = oK (gfA (M.2.2 a) 6 10) (fun v => den cf 233 18 L (v :: st) M) := den_gf l_233_15
theorem l_233_18 : look (tab 233) 18 = some (.iload_n 2, 1, [], uu) := by decide +kernel
theorem e_233_18 : den cf 233 18 [v0, v1, .int x, v3] st M = den cf 233 19 [v0, v1, .int x, v3] (.int x :: st) M := den_go l_233_18 rfl
theorem l_233_19 : look (tab 233) 19 = some (.iaload, 1, [], uu) := by decide +kernel
theorem e_233_19 : den cf 233 19 L (.int x :: .ref a :: st) M = oK (ldI (M.2.2 a) x) (fun v => den cf 233 20 L (v :: st) M) := den_al (g := ldI) l_233_19 rfl
theorem l_233_20 : look (tab 233) 20 = some (.invokevirtual 114, 3, [6, 177, 3, 284, 285, 286, 5], uu) := by decide +kernel
theorem e_233_20 : den cf 233 20 L (w2 :: w1 :: .ref a :: st) M = if rcv M 6 [.ref a, w1, w2] = true ∧ st.length ≤ 4 then rK (cf 177 [.ref a, w1, w2] M) (fun v M' => den cf 233 23 L (pR v st) M') else none := den_iv [w1, w2] l_233_20 rfl
theorem l_233_23 : look (tab 233) 23 = some (.if_icmp .lt 10, 3, [33], uu) := by decide +kernel
theorem e_233_23 : den cf 233 23 L (.int y :: .int x :: st) M = if x < y then den cf 233 33 L st M else den cf 233 26 L st M := den_ic_lt l_233_23
theorem l_233_26 : look (tab 233) 26 = some (.aload_n 0, 1, [], uu) := by decide +kernel
theorem e_233_26 : den cf 233 26 [.ref a, v1, v2, v3] st M = den cf 233 27 [.ref a, v1, v2, v3] (.ref a :: st) M := den_go l_233_26 rfl
theorem l_233_27 : look (tab 233) 27 = some (.iload_n 2, 1, [], uu) := by decide +kernel
theorem e_233_27 : den cf 233 27 [v0, v1, .int x, v3] st M = den cf 233 28 [v0, v1, .int x, v3] (.int x :: st) M := den_go l_233_27 rfl
theorem l_233_28 : look (tab 233) 28 = some (.invokevirtual 260, 3, [6, 185, 2, 701, 702, 703, 5], uu) := by decide +kernel
theorem e_233_28 : den cf 233 28 L (w1 :: .ref a :: st) M = if rcv M 6 [.ref a, w1] = true ∧ st.length ≤ 4 then rK (cf 185 [.ref a, w1] M) (fun v M' => den cf 233 31 L (pR v st) M') else none := den_iv [w1] l_233_28 rfl
theorem l_233_31 : look (tab 233) 31 = some (.iconst 0, 1, [], .int (zI 0)) := by decide +kernel
theorem e_233_31 : den cf 233 31 L st M = den cf 233 32 L (.int (zI 0) :: st) M := den_go l_233_31 rfl
theorem l_233_32 : look (tab 233) 32 = some (.ireturn, 1, [1], uu) := by decide +kernel
theorem e_233_32 : den cf 233 32 L [.int x] M = if x = zI 0 ∨ x = zI 1 then some (some (.int x), M) else none := den_e1 l_233_32
theorem l_233_33 : look (tab 233) 33 = some (.aload_n 0, 1, [], uu) := by decide +kernel
theorem e_233_33 : den cf 233 33 [.ref a, v1, v2, v3] st M = den cf 233 34 [.ref a, v1, v2, v3] (.ref a :: st) M := den_go l_233_33 rfl
theorem l_233_34 : look (tab 233) 34 = some (.bipush 12, 2, [], .int (zI 12)) := by decide +kernel
theorem e_233_34 : den cf 233 34 L st M = den cf 233 36 L (.int (zI 12) :: st) M := den_go l_233_34 rfl
theorem l_233_36 : look (tab 233) 36 = some (.invokevirtual 350, 3, [6, 232, 2, 1174, 1175, 1176, 5], uu) := by decide +kernel
theorem e_233_36 : den cf 233 36 L (w1 :: .ref a :: st) M = if rcv M 6 [.ref a, w1] = true ∧ st.length ≤ 4 then rK (cf 232 [.ref a, w1] M) (fun v M' => den cf 233 39 L (pR v st) M') else none := den_iv [w1] l_233_36 rfl
theorem l_233_39 : look (tab 233) 39 = some (.aload_n 0, 1, [], uu) := by decide +kernel
theorem e_233_39 : den cf 233 39 [.ref a, v1, v2, v3] st M = den cf 233 40 [.ref a, v1, v2, v3] (.ref a :: st) M := den_go l_233_39 rfl
theorem l_233_40 : look (tab 233) 40 = some (.getfield 61, 3, [6, 18, 96], uu) := by decide +kernel
theorem e_233_40 : den cf 233 40 L (.ref a :: st) M = oK (gfA (M.2.2 a) 6 18) (fun v => den cf 233 43 L (v :: st) M) := den_gf l_233_40
theorem l_233_43 : look (tab 233) 43 = some (.iconst 0, 1, [], .int (zI 0)) := by decide +kernel
theorem e_233_43 : den cf 233 43 L st M = den cf 233 44 L (.int (zI 0) :: st) M := den_go l_233_43 rfl
theorem l_233_44 : look (tab 233) 44 = some (.iaload, 1, [], uu) := by decide +kernel
theorem e_233_44 : den cf 233 44 L (.int x :: .ref a :: st) M = oK (ldI (M.2.2 a) x) (fun v => den cf 233 45 L (v :: st) M) := den_al (g := ldI) l_233_44 rfl
theorem l_233_45 : look (tab 233) 45 = some (.if_icmp .lt 7, 3, [52], uu) := by decide +kernel
theorem e_233_45 : den cf 233 45 L (.int y :: .int x :: st) M = if x < y then den cf 233 52 L st M else den cf 233 48 L st M := den_ic_lt l_233_45
theorem l_233_48 : look (tab 233) 48 = some (.iconst 1, 1, [], .int (zI 1)) := by decide +kernel
theorem e_233_48 : den cf 233 48 L st M = den cf 233 49 L (.int (zI 1) :: st) M := den_go l_233_48 rfl
theorem l_233_49 : look (tab 233) 49 = some (.goto 4, 3, [53], uu) := by decide +kernel
theorem e_233_49 : den cf 233 49 L st M = den cf 233 53 L st M := den_go l_233_49 rfl
theorem l_233_52 : look (tab 233) 52 = some (.iconst 0, 1, [], .int (zI 0)) := by decide +kernel
theorem e_233_52 : den cf 233 52 L st M = den cf 233 53 L (.int (zI 0) :: st) M := den_go l_233_52 rfl
theorem l_233_53 : look (tab 233) 53 = some (.istore_n 3, 1, [], uu) := by decide +kernel
theorem e_233_53 : den cf 233 53 [v0, v1, v2, v3] (.int x :: st) M = den cf 233 54 [v0, v1, kq v2, .int x] st M := den_st (k := 3) (v := .int x) l_233_53 rfl
theorem l_233_54 : look (tab 233) 54 = some (.aload_n 0, 1, [], uu) := by decide +kernel
theorem e_233_54 : den cf 233 54 [.ref a, v1, v2, v3] st M = den cf 233 55 [.ref a, v1, v2, v3] (.ref a :: st) M := den_go l_233_54 rfl
theorem l_233_55 : look (tab 233) 55 = some (.iload_n 2, 1, [], uu) := by decide +kernel
theorem e_233_55 : den cf 233 55 [v0, v1, .int x, v3] st M = den cf 233 56 [v0, v1, .int x, v3] (.int x :: st) M := den_go l_233_55 rfl
theorem l_233_56 : look (tab 233) 56 = some (.iload_n 3, 1, [], uu) := by decide +kernel
theorem e_233_56 : den cf 233 56 [v0, v1, v2, .int x] st M = den cf 233 57 [v0, v1, v2, .int x] (.int x :: st) M := den_go l_233_56 rfl
theorem l_233_57 : look (tab 233) 57 = some (.invokevirtual 316, 3, [6, 186, 3, 1022, 1023, 1024, 5], uu) := by decide +kernel
theorem e_233_57 : den cf 233 57 L (w2 :: w1 :: .ref a :: st) M = if rcv M 6 [.ref a, w1, w2] = true ∧ st.length ≤ 4 then rK (cf 186 [.ref a, w1, w2] M) (fun v M' => den cf 233 60 L (pR v st) M') else none := den_iv [w1, w2] l_233_57 rfl
theorem l_233_60 : look (tab 233) 60 = some (.iload_n 3, 1, [], uu) := by decide +kernel
theorem e_233_60 : den cf 233 60 [v0, v1, v2, .int x] st M = den cf 233 61 [v0, v1, v2, .int x] (.int x :: st) M := den_go l_233_60 rfl
theorem l_233_61 : look (tab 233) 61 = some (.ireturn, 1, [1], uu) := by decide +kernel
theorem e_233_61 : den cf 233 61 L [.int x] M = if x = zI 0 ∨ x = zI 1 then some (some (.int x), M) else none := den_e1 l_233_61
/-! yX6_weeks -/
theorem l_234_0 : look (tab 234) 0 = some (.iload_n 1, 1, [], uu) := by decide +kernel
theorem e_234_0 : den cf 234 0 [v0, .int x, v2, v3, v4] st M = den cf 234 1 [v0, .int x, v2, v3, v4] (.int x :: st) M := den_go l_234_0 rfl
theorem l_234_1 : look (tab 234) 1 = some (.i2l, 1, [], uu) := by decide +kernel
theorem e_234_1 : den cf 234 1 L (.int x :: st) M = den cf 234 2 L (.long x.toInt64 :: st) M := den_go l_234_1 rfl
theorem l_234_2 : look (tab 234) 2 = some (.lconst 1, 1, [], .long (zJ 1)) := by decide +kernel
theorem e_234_2 : den cf 234 2 L st M = den cf 234 3 L (.long (zJ 1) :: st) M := den_go l_234_2 rfl
theorem l_234_3 : look (tab 234) 3 = some (.ldc2_w 353, 3, [1169], .long (zJ 99)) := by decide +kernel
theorem e_234_3 : den cf 234 3 L st M = den cf 234 6 L (.long (zJ 99) :: st) M := den_go l_234_3 rfl
theorem l_234_6 : look (tab 234) 6 = some (.invokestatic 83, 3, [1, 137, 3, 130, 131, 5], uu) := by decide +kernel
theorem e_234_6 : den cf 234 6 L (w3 :: w2 :: w1 :: st) M = if st.length ≤ 4 then rK (cf 137 [w1, w2, w3] M) (fun v M' => den cf 234 9 L (pR v st) M') else none := den_ist [w1, w2, w3] l_234_6 rfl
theorem l_234_9 : look (tab 234) 9 = some (.ifCond .ne 10, 3, [19], uu) := by decide +kernel
theorem e_234_9 : den cf 234 9 L (.int x :: st) M = if x = zI 0 then den cf 234 12 L st M else den cf 234 19 L st M := den_if_ne l_234_9
theorem l_234_12 : look (tab 234) 12 = some (.aload_n 0, 1, [], uu) := by decide +kernel
theorem e_234_12 : den cf 234 12 [.ref a, v1, v2, v3, v4] st M = den cf 234 13 [.ref a, v1, v2, v3, v4] (.ref a :: st) M := den_go l_234_12 rfl
theorem l_234_13 : look (tab 234) 13 = some (.bipush (-2), 2, [], .int (zI (-2))) := by decide +kernel
theorem e_234_13 : den cf 234 13 L st M = den cf 234 15 L (.int (zI (-2)) :: st) M := den_go l_234_13 rfl
theorem l_234_15 : look (tab 234) 15 = some (.invokevirtual 93, 3, [6, 136, 2, 133, 134, 135, 5], uu) := by decide +kernel
theorem e_234_15 : den cf 234 15 L (w1 :: .ref a :: st) M = if rcv M 6 [.ref a, w1] = true ∧ st.length ≤ 4 then rK (cf 136 [.ref a, w1] M) (fun v M' => den cf 234 18 L (pR v st) M') else none := den_iv [w1] l_234_15 rfl
theorem l_234_18 : look (tab 234) 18 = some (.ireturn, 1, [0], uu) := by decide +kernel
theorem e_234_18 : den cf 234 18 L [.int x] M = some (some (.int x), M) := den_e0 l_234_18
theorem l_234_19 : look (tab 234) 19 = some (.iconst 0, 1, [], .int (zI 0)) := by decide +kernel
theorem e_234_19 : den cf 234 19 L st M = den cf 234 20 L (.int (zI 0) :: st) M := den_go l_234_19 rfl
theorem l_234_20 : look (tab 234) 20 = some (.istore_n 2, 1, [], uu) := by decide +kernel
theorem e_234_20 : den cf 234 20 [v0, v1, v2, v3, v4] (.int x :: st) M = den cf 234 21 [v0, kq v1, .int x, v3, v4] st M := den_st (k := 2) (v := .int x) l_234_20 rfl
theorem l_234_21 : look (tab 234) 21 = some (.iconst 0, 1, [], .int (zI 0)) := by decide +kernel
theorem e_234_21 : den cf 234 21 L st M = den cf 234 22 L (.int (zI 0) :: st) M := den_go l_234_21 rfl
theorem l_234_22 : look (tab 234) 22 = some (.istore_n 3, 1, [], uu) := by decide +kernel
theorem e_234_22 : den cf 234 22 [v0, v1, v2, v3, v4] (.int x :: st) M = den cf 234 23 [v0, v1, kq v2, .int x, v4] st M := den_st (k := 3) (v := .int x) l_234_22 rfl
theorem l_234_23 : look (tab 234) 23 = some (.iload_n 3, 1, [], uu) := by decide +kernel
theorem e_234_23 : den cf 234 23 [v0, v1, v2, .int x, v4] st M = den cf 234 24 [v0, v1, v2, .int x, v4] (.int x :: st) M := den_go l_234_23 rfl
theorem l_234_24 : look (tab 234) 24 = some (.iload_n 1, 1, [], uu) := by decide +kernel
theorem e_234_24 : den cf 234 24 [v0, .int x, v2, v3, v4] st M = den cf 234 25 [v0, .int x, v2, v3, v4] (.int x :: st) M := den_go l_234_24 rfl
theorem l_234_25 : look (tab 234) 25 = some (.if_icmp .ge 63, 3, [88], uu) := by decide +kernel
theorem e_234_25 : den cf 234 25 L (.int y :: .int x :: st) M = if x < y then den cf 234 28 L st M else den cf 234 88 L st M := den_ic_ge l_234_25
theorem l_234_28 : look (tab 234) 28 = some (.aload_n 0, 1, [], uu) := by decide +kernel
theorem e_234_28 : den cf 234 28 [.ref a, v1, v2, v3, v4] st M = den cf 234 29 [.ref a, v1, v2, v3, v4] (.ref a :: st) M := den_go l_234_28 rfl
theorem l_234_29 : look (tab 234) 29 = some (.dup, 1, [], uu) := by decide +kernel
theorem e_234_29 : den cf 234 29 L (.ref a :: st) M = den cf 234 30 L (.ref a :: .ref a :: st) M := den_go l_234_29 rfl
theorem e_234_29_i : den cf 234 29 L (.int x :: st) M = den cf 234 30 L (.int x :: .int x :: st) M := den_go l_234_29 rfl
theorem l_234_30 : look (tab 234) 30 = some (.getfield 355, 3, [6, 19, 572], uu) := by decide +kernel
theorem e_234_30 : den cf 234 30 L (.ref a :: st) M = oK (gfA (M.2.2 a) 6 19) (fun v => den cf 234 33 L (v :: st) M) := den_gf l_234_30
theorem l_234_33 : look (tab 234) 33 = some (.iconst 1, 1, [], .int (zI 1)) := by decide +kernel
theorem e_234_33 : den cf 234 33 L st M = den cf 234 34 L (.int (zI 1) :: st) M := den_go l_234_33 rfl
theorem l_234_34 : look (tab 234) 34 = some (.iadd, 1, [], uu) := by decide +kernel
theorem e_234_34 : den cf 234 34 L (.int y :: .int x :: st) M = den cf 234 35 L (.int (x + y) :: st) M := den_go l_234_34 rfl
theorem l_234_35 : look (tab 234) 35 = some (.putfield 355, 3, [6, 19, 0, 572, 0], uu) := by decide +kernel
theorem e_234_35 : den cf 234 35 L (.int x :: .ref a :: st) M = oK (pfA (M.2.2 a) 6 19 (.int x)) (fun c => den cf 234 38 L st (mU M a c)) := den_pf0 l_234_35
theorem l_234_38 : look (tab 234) 38 = some (.iconst 0, 1, [], .int (zI 0)) := by decide +kernel
theorem e_234_38 : den cf 234 38 L st M = den cf 234 39 L (.int (zI 0) :: st) M := den_go l_234_38 rfl
theorem l_234_39 : look (tab 234) 39 = some (.istore 4, 2, [], uu) := by decide +kernel
theorem e_234_39 : den cf 234 39 [v0, v1, v2, v3, v4] (.int x :: st) M = den cf 234 41 [v0, v1, v2, kq v3, .int x] st M := den_st (k := 4) (v := .int x) l_234_39 rfl
theorem l_234_41 : look (tab 234) 41 = some (.iload 4, 2, [], uu) := by decide +kernel
theorem e_234_41 : den cf 234 41 [v0, v1, v2, v3, .int x] st M = den cf 234 43 [v0, v1, v2, v3, .int x] (.int x :: st) M := den_go l_234_41 rfl
theorem l_234_43 : look (tab 234) 43 = some (.aload_n 0, 1, [], uu) := by decide +kernel
theorem e_234_43 : den cf 234 43 [.ref a, v1, v2, v3, v4] st M = den cf 234 44 [.ref a, v1, v2, v3, v4] (.ref a :: st) M := den_go l_234_43 rfl
theorem l_234_44 : look (tab 234) 44 = some (.getfield 80, 3, [6, 9, 230], uu) := by decide +kernel
theorem e_234_44 : den cf 234 44 L (.ref a :: st) M = oK (gfA (M.2.2 a) 6 9) (fun v => den cf 234 47 L (v :: st) M) := den_gf l_234_44
theorem l_234_47 : look (tab 234) 47 = some (.if_icmp .ge 35, 3, [82], uu) := by decide +kernel
theorem e_234_47 : den cf 234 47 L (.int y :: .int x :: st) M = if x < y then den cf 234 50 L st M else den cf 234 82 L st M := den_ic_ge l_234_47
theorem l_234_50 : look (tab 234) 50 = some (.iload_n 2, 1, [], uu) := by decide +kernel
theorem e_234_50 : den cf 234 50 [v0, v1, .int x, v3, v4] st M = den cf 234 51 [v0, v1, .int x, v3, v4] (.int x :: st) M := den_go l_234_50 rfl
theorem l_234_51 : look (tab 234) 51 = some (.aload_n 0, 1, [], uu) := by decide +kernel
theorem e_234_51 : den cf 234 51 [.ref a, v1, v2, v3, v4] st M = den cf 234 52 [.ref a, v1, v2, v3, v4] (.ref a :: st) M := den_go l_234_51 rfl
theorem l_234_52 : look (tab 234) 52 = some (.iload 4, 2, [], uu) := by decide +kernel
theorem e_234_52 : den cf 234 52 [v0, v1, v2, v3, .int x] st M = den cf 234 54 [v0, v1, v2, v3, .int x] (.int x :: st) M := den_go l_234_52 rfl
theorem l_234_54 : look (tab 234) 54 = some (.invokevirtual 299, 3, [6, 200, 2, 881, 882, 883, 5], uu) := by decide +kernel
theorem e_234_54 : den cf 234 54 L (w1 :: .ref a :: st) M = if rcv M 6 [.ref a, w1] = true ∧ st.length ≤ 4 then rK (cf 200 [.ref a, w1] M) (fun v M' => den cf 234 57 L (pR v st) M') else none := den_iv [w1] l_234_54 rfl
theorem l_234_57 : look (tab 234) 57 = some (.ifCond .eq 16, 3, [73], uu) := by decide +kernel
theorem e_234_57 : den cf 234 57 L (.int x :: st) M = if x = zI 0 then den cf 234 73 L st M else den cf 234 60 L st M := den_if_eq l_234_57
theorem l_234_60 : look (tab 234) 60 = some (.aload_n 0, 1, [], uu) := by decide +kernel
theorem e_234_60 : den cf 234 60 [.ref a, v1, v2, v3, v4] st M = den cf 234 61 [.ref a, v1, v2, v3, v4] (.ref a :: st) M := den_go l_234_60 rfl
theorem l_234_61 : look (tab 234) 61 = some (.iload 4, 2, [], uu) := by decide +kernel
theorem e_234_61 : den cf 234 61 [v0, v1, v2, v3, .int x] st M = den cf 234 63 [v0, v1, v2, v3, .int x] (.int x :: st) M := den_go l_234_61 rfl
theorem l_234_63 : look (tab 234) 63 = some (.invokevirtual 358, 3, [6, 233, 2, 1170, 1171, 1172, 5], uu) := by decide +kernel
theorem e_234_63 : den cf 234 63 L (w1 :: .ref a :: st) M = if rcv M 6 [.ref a, w1] = true ∧ st.length ≤ 4 then rK (cf 233 [.ref a, w1] M) (fun v M' => den cf 234 66 L (pR v st) M') else none := den_iv [w1] l_234_63 rfl
theorem l_234_66 : look (tab 234) 66 = some (.ifCond .eq 7, 3, [73], uu) := by decide +kernel
theorem e_234_66 : den cf 234 66 L (.int x :: st) M = if x = zI 0 then den cf 234 73 L st M else den cf 234 69 L st M := den_if_eq l_234_66
theorem l_234_69 : look (tab 234) 69 = some (.iconst 1, 1, [], .int (zI 1)) := by decide +kernel
theorem e_234_69 : den cf 234 69 L st M = den cf 234 70 L (.int (zI 1) :: st) M := den_go l_234_69 rfl
theorem l_234_70 : look (tab 234) 70 = some (.goto 4, 3, [74], uu) := by decide +kernel
theorem e_234_70 : den cf 234 70 L st M = den cf 234 74 L st M := den_go l_234_70 rfl
theorem l_234_73 : look (tab 234) 73 = some (.iconst 0, 1, [], .int (zI 0)) := by decide +kernel
theorem e_234_73 : den cf 234 73 L st M = den cf 234 74 L (.int (zI 0) :: st) M := den_go l_234_73 rfl
theorem l_234_74 : look (tab 234) 74 = some (.iadd, 1, [], uu) := by decide +kernel
theorem e_234_74 : den cf 234 74 L (.int y :: .int x :: st) M = den cf 234 75 L (.int (x + y) :: st) M := den_go l_234_74 rfl
theorem l_234_75 : look (tab 234) 75 = some (.istore_n 2, 1, [], uu) := by decide +kernel
theorem e_234_75 : den cf 234 75 [v0, v1, v2, v3, v4] (.int x :: st) M = den cf 234 76 [v0, kq v1, .int x, v3, v4] st M := den_st (k := 2) (v := .int x) l_234_75 rfl
theorem l_234_76 : look (tab 234) 76 = some (.iinc 4 1, 3, [], .int (zI 1)) := by decide +kernel
theorem e_234_76 : den cf 234 76 [v0, v1, v2, v3, .int x] st M = den cf 234 79 [v0, v1, v2, kq v3, .int (x + (zI 1))] st M := den_st (k := 4) (v := .int (x + (zI 1))) l_234_76 rfl
theorem l_234_79 : look (tab 234) 79 = some (.goto (-38), 3, [41], uu) := by decide +kernel
theorem e_234_79 : den cf 234 79 L st M = den cf 234 41 L st M := den_go l_234_79 rfl
theorem l_234_82 : look (tab 234) 82 = some (.iinc 3 1, 3, [], .int (zI 1)) := by decide +kernel
theorem e_234_82 : den cf 234 82 [v0, v1, v2, .int x, v4] st M = den cf 234 85 [v0, v1, kq v2, .int (x + (zI 1)), v4] st M := den_st (k := 3) (v := .int (x + (zI 1))) l_234_82 rfl
theorem l_234_85 : look (tab 234) 85 = some (.goto (-62), 3, [23], uu) := by decide +kernel
theorem e_234_85 : den cf 234 85 L st M = den cf 234 23 L st M := den_go l_234_85 rfl
theorem l_234_88 : look (tab 234) 88 = some (.iload_n 2, 1, [], uu) := by decide +kernel
theorem e_234_88 : den cf 234 88 [v0, v1, .int x, v3, v4] st M = den cf 234 89 [v0, v1, .int x, v3, v4] (.int x :: st) M := den_go l_234_88 rfl
theorem l_234_89 : look (tab 234) 89 = some (.ireturn, 1, [0], uu) := by decide +kernel
theorem e_234_89 : den cf 234 89 L [.int x] M = some (some (.int x), M) := den_e0 l_234_89
/-! yX6_anew -/
theorem l_235_0 : look (tab 235) 0 = some (.iconst 0, 1, [], .int (zI 0)) := by decide +kernel
theorem e_235_0 : den cf 235 0 L st M = den cf 235 1 L (.int (zI 0) :: st) M := den_go l_235_0 rfl
theorem l_235_1 : look (tab 235) 1 = some (.istore_n 1, 1, [], uu) := by decide +kernel
theorem e_235_1 : den cf 235 1 [v0, v1] (.int x :: st) M = den cf 235 2 [kq v0, .int x] st M := den_st (k := 1) (v := .int x) l_235_1 rfl
theorem l_235_2 : look (tab 235) 2 = some (.iload_n 1, 1, [], uu) := by decide +kernel
theorem e_235_2 : den cf 235 2 [v0, .int x] st M = den cf 235 3 [v0, .int x] (.int x :: st) M := den_go l_235_2 rfl
theorem l_235_3 : look (tab 235) 3 = some (.aload_n 0, 1, [], uu) := by decide +kernel
theorem e_235_3 : den cf 235 3 [.ref a, v1] st M = den cf 235 4 [.ref a, v1] (.ref a :: st) M := den_go l_235_3 rfl
theorem l_235_4 : look (tab 235) 4 = some (.getfield 80, 3, [6, 9, 230], uu) := by decide +kernel
theorem e_235_4 : den cf 235 4 L (.ref a :: st) M = oK (gfA (M.2.2 a) 6 9) (fun v => den cf 235 7 L (v :: st) M) := den_gf l_235_4
theorem l_235_7 : look (tab 235) 7 = some (.if_icmp .ge 30, 3, [37], uu) := by decide +kernel
theorem e_235_7 : den cf 235 7 L (.int y :: .int x :: st) M = if x < y then den cf 235 10 L st M else den cf 235 37 L st M := den_ic_ge l_235_7
theorem l_235_10 : look (tab 235) 10 = some (.aload_n 0, 1, [], uu) := by decide +kernel
theorem e_235_10 : den cf 235 10 [.ref a, v1] st M = den cf 235 11 [.ref a, v1] (.ref a :: st) M := den_go l_235_10 rfl
theorem l_235_11 : look (tab 235) 11 = some (.iload_n 1, 1, [], uu) := by decide +kernel
theorem e_235_11 : den cf 235 11 [v0, .int x] st M = den cf 235 12 [v0, .int x] (.int x :: st) M := den_go l_235_11 rfl
theorem l_235_12 : look (tab 235) 12 = some (.invokevirtual 299, 3, [6, 200, 2, 881, 882, 883, 5], uu) := by decide +kernel
theorem e_235_12 : den cf 235 12 L (w1 :: .ref a :: st) M = if rcv M 6 [.ref a, w1] = true ∧ st.length ≤ 4 then rK (cf 200 [.ref a, w1] M) (fun v M' => den cf 235 15 L (pR v st) M') else none := den_iv [w1] l_235_12 rfl
theorem l_235_15 : look (tab 235) 15 = some (.ifCond .eq 16, 3, [31], uu) := by decide +kernel
theorem e_235_15 : den cf 235 15 L (.int x :: st) M = if x = zI 0 then den cf 235 31 L st M else den cf 235 18 L st M := den_if_eq l_235_15
theorem l_235_18 : look (tab 235) 18 = some (.aload_n 0, 1, [], uu) := by decide +kernel
theorem e_235_18 : den cf 235 18 [.ref a, v1] st M = den cf 235 19 [.ref a, v1] (.ref a :: st) M := den_go l_235_18 rfl
theorem l_235_19 : look (tab 235) 19 = some (.iload_n 1, 1, [], uu) := by decide +kernel
theorem e_235_19 : den cf 235 19 [v0, .int x] st M = den cf 235 20 [v0, .int x] (.int x :: st) M := den_go l_235_19 rfl
theorem l_235_20 : look (tab 235) 20 = some (.invokevirtual 253, 3, [6, 183, 2, 674, 675, 676, 5], uu) := by decide +kernel
theorem e_235_20 : den cf 235 20 L (w1 :: .ref a :: st) M = if rcv M 6 [.ref a, w1] = true ∧ st.length ≤ 4 then rK (cf 183 [.ref a, w1] M) (fun v M' => den cf 235 23 L (pR v st) M') else none := den_iv [w1] l_235_20 rfl
theorem l_235_23 : look (tab 235) 23 = some (.ifCond .eq 8, 3, [31], uu) := by decide +kernel
theorem e_235_23 : den cf 235 23 L (.int x :: st) M = if x = zI 0 then den cf 235 31 L st M else den cf 235 26 L st M := den_if_eq l_235_23
theorem l_235_26 : look (tab 235) 26 = some (.aload_n 0, 1, [], uu) := by decide +kernel
theorem e_235_26 : den cf 235 26 [.ref a, v1] st M = den cf 235 27 [.ref a, v1] (.ref a :: st) M := den_go l_235_26 rfl
theorem l_235_27 : look (tab 235) 27 = some (.iload_n 1, 1, [], uu) := by decide +kernel
theorem e_235_27 : den cf 235 27 [v0, .int x] st M = den cf 235 28 [v0, .int x] (.int x :: st) M := den_go l_235_27 rfl
theorem l_235_28 : look (tab 235) 28 = some (.invokevirtual 143, 3, [6, 158, 2, 383, 384, 385, 5], uu) := by decide +kernel
theorem e_235_28 : den cf 235 28 L (w1 :: .ref a :: st) M = if rcv M 6 [.ref a, w1] = true ∧ st.length ≤ 4 then rK (cf 158 [.ref a, w1] M) (fun v M' => den cf 235 31 L (pR v st) M') else none := den_iv [w1] l_235_28 rfl
theorem l_235_31 : look (tab 235) 31 = some (.iinc 1 1, 3, [], .int (zI 1)) := by decide +kernel
theorem e_235_31 : den cf 235 31 [v0, .int x] st M = den cf 235 34 [kq v0, .int (x + (zI 1))] st M := den_st (k := 1) (v := .int (x + (zI 1))) l_235_31 rfl
theorem l_235_34 : look (tab 235) 34 = some (.goto (-32), 3, [2], uu) := by decide +kernel
theorem e_235_34 : den cf 235 34 L st M = den cf 235 2 L st M := den_go l_235_34 rfl
theorem l_235_37 : look (tab 235) 37 = some (.aload_n 0, 1, [], uu) := by decide +kernel
theorem e_235_37 : den cf 235 37 [.ref a, v1] st M = den cf 235 38 [.ref a, v1] (.ref a :: st) M := den_go l_235_37 rfl
theorem l_235_38 : look (tab 235) 38 = some (.invokevirtual 285, 3, [6, 192, 1, 789, 790, 791, 5], uu) := by decide +kernel
theorem e_235_38 : den cf 235 38 L (.ref a :: st) M = if rcv M 6 [.ref a] = true ∧ st.length ≤ 4 then rK (cf 192 [.ref a] M) (fun v M' => den cf 235 41 L (pR v st) M') else none := den_iv [] l_235_38 rfl
theorem l_235_41 : look (tab 235) 41 = some (.iconst 0, 1, [], .int (zI 0)) := by decide +kernel
theorem e_235_41 : den cf 235 41 L st M = den cf 235 42 L (.int (zI 0) :: st) M := den_go l_235_41 rfl
theorem l_235_42 : look (tab 235) 42 = some (.istore_n 1, 1, [], uu) := by decide +kernel
theorem e_235_42 : den cf 235 42 [v0, v1] (.int x :: st) M = den cf 235 43 [kq v0, .int x] st M := den_st (k := 1) (v := .int x) l_235_42 rfl
theorem l_235_43 : look (tab 235) 43 = some (.iload_n 1, 1, [], uu) := by decide +kernel
theorem e_235_43 : den cf 235 43 [v0, .int x] st M = den cf 235 44 [v0, .int x] (.int x :: st) M := den_go l_235_43 rfl
theorem l_235_44 : look (tab 235) 44 = some (.aload_n 0, 1, [], uu) := by decide +kernel
theorem e_235_44 : den cf 235 44 [.ref a, v1] st M = den cf 235 45 [.ref a, v1] (.ref a :: st) M := den_go l_235_44 rfl
theorem l_235_45 : look (tab 235) 45 = some (.getfield 268, 3, [6, 31, 787], uu) := by decide +kernel
theorem e_235_45 : den cf 235 45 L (.ref a :: st) M = oK (gfA (M.2.2 a) 6 31) (fun v => den cf 235 48 L (v :: st) M) := den_gf l_235_45
theorem l_235_48 : look (tab 235) 48 = some (.if_icmp .ge 35, 3, [83], uu) := by decide +kernel
theorem e_235_48 : den cf 235 48 L (.int y :: .int x :: st) M = if x < y then den cf 235 51 L st M else den cf 235 83 L st M := den_ic_ge l_235_48
theorem l_235_51 : look (tab 235) 51 = some (.aload_n 0, 1, [], uu) := by decide +kernel
theorem e_235_51 : den cf 235 51 [.ref a, v1] st M = den cf 235 52 [.ref a, v1] (.ref a :: st) M := den_go l_235_51 rfl
theorem l_235_52 : look (tab 235) 52 = some (.getfield 77, 3, [6, 33, 101], uu) := by decide +kernel
theorem e_235_52 : den cf 235 52 L (.ref a :: st) M = oK (gfA (M.2.2 a) 6 33) (fun v => den cf 235 55 L (v :: st) M) := den_gf l_235_52
theorem l_235_55 : look (tab 235) 55 = some (.iload_n 1, 1, [], uu) := by decide +kernel
theorem e_235_55 : den cf 235 55 [v0, .int x] st M = den cf 235 56 [v0, .int x] (.int x :: st) M := den_go l_235_55 rfl
theorem l_235_56 : look (tab 235) 56 = some (.iaload, 1, [], uu) := by decide +kernel
theorem e_235_56 : den cf 235 56 L (.int x :: .ref a :: st) M = oK (ldI (M.2.2 a) x) (fun v => den cf 235 57 L (v :: st) M) := den_al (g := ldI) l_235_56 rfl
theorem l_235_57 : look (tab 235) 57 = some (.iconst (-1), 1, [], .int (zI (-1))) := by decide +kernel
theorem e_235_57 : den cf 235 57 L st M = den cf 235 58 L (.int (zI (-1)) :: st) M := den_go l_235_57 rfl
theorem l_235_58 : look (tab 235) 58 = some (.if_icmp .eq 19, 3, [77], uu) := by decide +kernel
theorem e_235_58 : den cf 235 58 L (.int y :: .int x :: st) M = if x = y then den cf 235 77 L st M else den cf 235 61 L st M := den_ic_eq l_235_58
theorem l_235_61 : look (tab 235) 61 = some (.aload_n 0, 1, [], uu) := by decide +kernel
theorem e_235_61 : den cf 235 61 [.ref a, v1] st M = den cf 235 62 [.ref a, v1] (.ref a :: st) M := den_go l_235_61 rfl
theorem l_235_62 : look (tab 235) 62 = some (.aload_n 0, 1, [], uu) := by decide +kernel
theorem e_235_62 : den cf 235 62 [.ref a, v1] st M = den cf 235 63 [.ref a, v1] (.ref a :: st) M := den_go l_235_62 rfl
theorem l_235_63 : look (tab 235) 63 = some (.getfield 71, 3, [6, 30, 99], uu) := by decide +kernel
theorem e_235_63 : den cf 235 63 L (.ref a :: st) M = oK (gfA (M.2.2 a) 6 30) (fun v => den cf 235 66 L (v :: st) M) := den_gf l_235_63
theorem l_235_66 : look (tab 235) 66 = some (.iload_n 1, 1, [], uu) := by decide +kernel
theorem e_235_66 : den cf 235 66 [v0, .int x] st M = den cf 235 67 [v0, .int x] (.int x :: st) M := den_go l_235_66 rfl
theorem l_235_67 : look (tab 235) 67 = some (.iaload, 1, [], uu) := by decide +kernel
theorem e_235_67 : den cf 235 67 L (.int x :: .ref a :: st) M = oK (ldI (M.2.2 a) x) (fun v => den cf 235 68 L (v :: st) M) := den_al (g := ldI) l_235_67 rfl
theorem l_235_68 : look (tab 235) 68 = some (.aload_n 0, 1, [], uu) := by decide +kernel
theorem e_235_68 : den cf 235 68 [.ref a, v1] st M = den cf 235 69 [.ref a, v1] (.ref a :: st) M := den_go l_235_68 rfl
theorem l_235_69 : look (tab 235) 69 = some (.getfield 77, 3, [6, 33, 101], uu) := by decide +kernel
theorem e_235_69 : den cf 235 69 L (.ref a :: st) M = oK (gfA (M.2.2 a) 6 33) (fun v => den cf 235 72 L (v :: st) M) := den_gf l_235_69
theorem l_235_72 : look (tab 235) 72 = some (.iload_n 1, 1, [], uu) := by decide +kernel
theorem e_235_72 : den cf 235 72 [v0, .int x] st M = den cf 235 73 [v0, .int x] (.int x :: st) M := den_go l_235_72 rfl
theorem l_235_73 : look (tab 235) 73 = some (.iaload, 1, [], uu) := by decide +kernel
theorem e_235_73 : den cf 235 73 L (.int x :: .ref a :: st) M = oK (ldI (M.2.2 a) x) (fun v => den cf 235 74 L (v :: st) M) := den_al (g := ldI) l_235_73 rfl
theorem l_235_74 : look (tab 235) 74 = some (.invokevirtual 136, 3, [6, 155, 3, 362, 363, 364, 5], uu) := by decide +kernel
theorem e_235_74 : den cf 235 74 L (w2 :: w1 :: .ref a :: st) M = if rcv M 6 [.ref a, w1, w2] = true ∧ st.length ≤ 4 then rK (cf 155 [.ref a, w1, w2] M) (fun v M' => den cf 235 77 L (pR v st) M') else none := den_iv [w1, w2] l_235_74 rfl
theorem l_235_77 : look (tab 235) 77 = some (.iinc 1 1, 3, [], .int (zI 1)) := by decide +kernel
theorem e_235_77 : den cf 235 77 [v0, .int x] st M = den cf 235 80 [kq v0, .int (x + (zI 1))] st M := den_st (k := 1) (v := .int (x + (zI 1))) l_235_77 rfl
theorem l_235_80 : look (tab 235) 80 = some (.goto (-37), 3, [43], uu) := by decide +kernel
theorem e_235_80 : den cf 235 80 L st M = den cf 235 43 L st M := den_go l_235_80 rfl
theorem l_235_83 : look (tab 235) 83 = some (.aload_n 0, 1, [], uu) := by decide +kernel
theorem e_235_83 : den cf 235 83 [.ref a, v1] st M = den cf 235 84 [.ref a, v1] (.ref a :: st) M := den_go l_235_83 rfl
theorem l_235_84 : look (tab 235) 84 = some (.getfield 274, 3, [6, 35, 793], uu) := by decide +kernel
theorem e_235_84 : den cf 235 84 L (.ref a :: st) M = oK (gfA (M.2.2 a) 6 35) (fun v => den cf 235 87 L (v :: st) M) := den_gf l_235_84
theorem l_235_87 : look (tab 235) 87 = some (.ireturn, 1, [0], uu) := by decide +kernel
theorem e_235_87 : den cf 235 87 L [.int x] M = some (some (.int x), M) := den_e0 l_235_87
/-! yX6_seed -/
theorem l_236_0 : look (tab 236) 0 = some (.aload_n 0, 1, [], uu) := by decide +kernel
theorem e_236_0 : den cf 236 0 [.ref a, v1, v2] st M = den cf 236 1 [.ref a, v1, v2] (.ref a :: st) M := den_go l_236_0 rfl
theorem l_236_1 : look (tab 236) 1 = some (.getfield 64, 3, [6, 20, 97], uu) := by decide +kernel
theorem e_236_1 : den cf 236 1 L (.ref a :: st) M = oK (gfA (M.2.2 a) 6 20) (fun v => den cf 236 4 L (v :: st) M) := den_gf l_236_1
theorem l_236_4 : look (tab 236) 4 = some (.istore_n 2, 1, [], uu) := by decide +kernel
theorem e_236_4 : den cf 236 4 [v0, v1, v2] (.int x :: st) M = den cf 236 5 [v0, kq v1, .int x] st M := den_st (k := 2) (v := .int x) l_236_4 rfl
theorem l_236_5 : look (tab 236) 5 = some (.aload_n 0, 1, [], uu) := by decide +kernel
theorem e_236_5 : den cf 236 5 [.ref a, v1, v2] st M = den cf 236 6 [.ref a, v1, v2] (.ref a :: st) M := den_go l_236_5 rfl
theorem l_236_6 : look (tab 236) 6 = some (.iload_n 1, 1, [], uu) := by decide +kernel
theorem e_236_6 : den cf 236 6 [v0, .int x, v2] st M = den cf 236 7 [v0, .int x, v2] (.int x :: st) M := den_go l_236_6 rfl
theorem l_236_7 : look (tab 236) 7 = some (.putfield 64, 3, [6, 20, 0, 97, 0], uu) := by decide +kernel
theorem e_236_7 : den cf 236 7 L (.int x :: .ref a :: st) M = oK (pfA (M.2.2 a) 6 20 (.int x)) (fun c => den cf 236 10 L st (mU M a c)) := den_pf0 l_236_7
theorem l_236_10 : look (tab 236) 10 = some (.iload_n 2, 1, [], uu) := by decide +kernel
theorem e_236_10 : den cf 236 10 [v0, v1, .int x] st M = den cf 236 11 [v0, v1, .int x] (.int x :: st) M := den_go l_236_10 rfl
theorem l_236_11 : look (tab 236) 11 = some (.ireturn, 1, [0], uu) := by decide +kernel
theorem e_236_11 : den cf 236 11 L [.int x] M = some (some (.int x), M) := den_e0 l_236_11
/-! yX6_copied -/
theorem l_237_0 : look (tab 237) 0 = some (.iconst 0, 1, [], .int (zI 0)) := by decide +kernel
theorem e_237_0 : den cf 237 0 L st M = den cf 237 1 L (.int (zI 0) :: st) M := den_go l_237_0 rfl
theorem l_237_1 : look (tab 237) 1 = some (.istore_n 2, 1, [], uu) := by decide +kernel
theorem e_237_1 : den cf 237 1 [v0, v1, v2] (.int x :: st) M = den cf 237 2 [v0, kq v1, .int x] st M := den_st (k := 2) (v := .int x) l_237_1 rfl
theorem l_237_2 : look (tab 237) 2 = some (.iload_n 2, 1, [], uu) := by decide +kernel
theorem e_237_2 : den cf 237 2 [v0, v1, .int x] st M = den cf 237 3 [v0, v1, .int x] (.int x :: st) M := den_go l_237_2 rfl
theorem l_237_3 : look (tab 237) 3 = some (.aload_n 0, 1, [], uu) := by decide +kernel
theorem e_237_3 : den cf 237 3 [v0, v1, v2] st M = if isRf v0 = true then den cf 237 4 [v0, v1, v2] (v0 :: st) M else none := den_g l_237_3 rfl
theorem l_237_4 : look (tab 237) 4 = some (.arraylength, 1, [], uu) := by decide +kernel
theorem e_237_4 : den cf 237 4 L (.ref a :: st) M = oK (lenA (M.2.2 a)) (fun n => den cf 237 5 L (.int (zI n) :: st) M) := den_len l_237_4
theorem l_237_5 : look (tab 237) 5 = some (.if_icmp .ge 15, 3, [20], uu) := by decide +kernel
theorem e_237_5 : den cf 237 5 L (.int y :: .int x :: st) M = if x < y then den cf 237 8 L st M else den cf 237 20 L st M := den_ic_ge l_237_5
theorem l_237_8 : look (tab 237) 8 = some (.aload_n 1, 1, [], uu) := by decide +kernel
theorem e_237_8 : den cf 237 8 [v0, v1, v2] st M = if isRf v1 = true then den cf 237 9 [v0, v1, v2] (v1 :: st) M else none := den_g l_237_8 rfl
theorem l_237_9 : look (tab 237) 9 = some (.iload_n 2, 1, [], uu) := by decide +kernel
theorem e_237_9 : den cf 237 9 [v0, v1, .int x] st M = den cf 237 10 [v0, v1, .int x] (.int x :: st) M := den_go l_237_9 rfl
theorem l_237_10 : look (tab 237) 10 = some (.aload_n 0, 1, [], uu) := by decide +kernel
theorem e_237_10 : den cf 237 10 [v0, v1, v2] st M = if isRf v0 = true then den cf 237 11 [v0, v1, v2] (v0 :: st) M else none := den_g l_237_10 rfl
theorem l_237_11 : look (tab 237) 11 = some (.iload_n 2, 1, [], uu) := by decide +kernel
theorem e_237_11 : den cf 237 11 [v0, v1, .int x] st M = den cf 237 12 [v0, v1, .int x] (.int x :: st) M := den_go l_237_11 rfl
theorem l_237_12 : look (tab 237) 12 = some (.iaload, 1, [], uu) := by decide +kernel
theorem e_237_12 : den cf 237 12 L (.int x :: .ref a :: st) M = oK (ldI (M.2.2 a) x) (fun v => den cf 237 13 L (v :: st) M) := den_al (g := ldI) l_237_12 rfl
theorem l_237_13 : look (tab 237) 13 = some (.iastore, 1, [], uu) := by decide +kernel
theorem e_237_13 : den cf 237 13 L (.int x :: .int y :: .ref a :: st) M = oK (stI (M.2.2 a) y x) (fun c => den cf 237 14 L st (mU M a c)) := den_is l_237_13
theorem l_237_14 : look (tab 237) 14 = some (.iinc 2 1, 3, [], .int (zI 1)) := by decide +kernel
theorem e_237_14 : den cf 237 14 [v0, v1, .int x] st M = den cf 237 17 [v0, kq v1, .int (x + (zI 1))] st M := den_st (k := 2) (v := .int (x + (zI 1))) l_237_14 rfl
theorem l_237_17 : look (tab 237) 17 = some (.goto (-15), 3, [2], uu) := by decide +kernel
theorem e_237_17 : den cf 237 17 L st M = den cf 237 2 L st M := den_go l_237_17 rfl
theorem l_237_20 : look (tab 237) 20 = some (.return_, 1, [], uu) := by decide +kernel
theorem e_237_20 : den cf 237 20 L [] M = some (none, M) := den_e4 l_237_20
/-! yX6_takeFrom -/
theorem l_238_0 : look (tab 238) 0 = some (.aload_n 0, 1, [], uu) := by decide +kernel
theorem e_238_0 : den cf 238 0 [.ref a, v1] st M = den cf 238 1 [.ref a, v1] (.ref a :: st) M := den_go l_238_0 rfl
theorem l_238_1 : look (tab 238) 1 = some (.aload_n 1, 1, [], uu) := by decide +kernel
theorem e_238_1 : den cf 238 1 [v0, v1] st M = if isRf v1 = true then den cf 238 2 [v0, v1] (v1 :: st) M else none := den_g l_238_1 rfl
theorem l_238_2 : look (tab 238) 2 = some (.getfield 80, 3, [6, 9, 230], uu) := by decide +kernel
theorem e_238_2 : den cf 238 2 L (.ref a :: st) M = oK (gfA (M.2.2 a) 6 9) (fun v => den cf 238 5 L (v :: st) M) := den_gf l_238_2
theorem l_238_5 : look (tab 238) 5 = some (.putfield 80, 3, [6, 9, 0, 230, 0], uu) := by decide +kernel
theorem e_238_5 : den cf 238 5 L (.int x :: .ref a :: st) M = oK (pfA (M.2.2 a) 6 9 (.int x)) (fun c => den cf 238 8 L st (mU M a c)) := den_pf0 l_238_5
theorem l_238_8 : look (tab 238) 8 = some (.aload_n 1, 1, [], uu) := by decide +kernel
theorem e_238_8 : den cf 238 8 [v0, v1] st M = if isRf v1 = true then den cf 238 9 [v0, v1] (v1 :: st) M else none := den_g l_238_8 rfl
theorem l_238_9 : look (tab 238) 9 = some (.getfield 37, 3, [6, 10, 88], uu) := by decide +kernel
theorem e_238_9 : den cf 238 9 L (.ref a :: st) M = oK (gfA (M.2.2 a) 6 10) (fun v => den cf 238 12 L (v :: st) M) := den_gf l_238_9
theorem l_238_12 : look (tab 238) 12 = some (.aload_n 0, 1, [], uu) := by decide +kernel
theorem e_238_12 : den cf 238 12 [.ref a, v1] st M = den cf 238 13 [.ref a, v1] (.ref a :: st) M := den_go l_238_12 rfl
theorem l_238_13 : look (tab 238) 13 = some (.getfield 37, 3, [6, 10, 88], uu) := by decide +kernel
theorem e_238_13 : den cf 238 13 L (.ref a :: st) M = oK (gfA (M.2.2 a) 6 10) (fun v => den cf 238 16 L (v :: st) M) := den_gf l_238_13
theorem l_238_16 : look (tab 238) 16 = some (.invokestatic 277, 3, [1, 237, 2, 573, 574, 5], uu) := by decide +kernel
theorem e_238_16 : den cf 238 16 L (w2 :: w1 :: st) M = if st.length ≤ 4 then rK (cf 237 [w1, w2] M) (fun v M' => den cf 238 19 L (pR v st) M') else none := den_ist [w1, w2] l_238_16 rfl
theorem l_238_19 : look (tab 238) 19 = some (.aload_n 1, 1, [], uu) := by decide +kernel
theorem e_238_19 : den cf 238 19 [v0, v1] st M = if isRf v1 = true then den cf 238 20 [v0, v1] (v1 :: st) M else none := den_g l_238_19 rfl
theorem l_238_20 : look (tab 238) 20 = some (.getfield 40, 3, [6, 11, 89], uu) := by decide +kernel
theorem e_238_20 : den cf 238 20 L (.ref a :: st) M = oK (gfA (M.2.2 a) 6 11) (fun v => den cf 238 23 L (v :: st) M) := den_gf l_238_20
theorem l_238_23 : look (tab 238) 23 = some (.aload_n 0, 1, [], uu) := by decide +kernel
theorem e_238_23 : den cf 238 23 [.ref a, v1] st M = den cf 238 24 [.ref a, v1] (.ref a :: st) M := den_go l_238_23 rfl
theorem l_238_24 : look (tab 238) 24 = some (.getfield 40, 3, [6, 11, 89], uu) := by decide +kernel
theorem e_238_24 : den cf 238 24 L (.ref a :: st) M = oK (gfA (M.2.2 a) 6 11) (fun v => den cf 238 27 L (v :: st) M) := den_gf l_238_24
theorem l_238_27 : look (tab 238) 27 = some (.invokestatic 277, 3, [1, 237, 2, 573, 574, 5], uu) := by decide +kernel
theorem e_238_27 : den cf 238 27 L (w2 :: w1 :: st) M = if st.length ≤ 4 then rK (cf 237 [w1, w2] M) (fun v M' => den cf 238 30 L (pR v st) M') else none := den_ist [w1, w2] l_238_27 rfl
theorem l_238_30 : look (tab 238) 30 = some (.aload_n 1, 1, [], uu) := by decide +kernel
theorem e_238_30 : den cf 238 30 [v0, v1] st M = if isRf v1 = true then den cf 238 31 [v0, v1] (v1 :: st) M else none := den_g l_238_30 rfl
theorem l_238_31 : look (tab 238) 31 = some (.getfield 43, 3, [6, 12, 90], uu) := by decide +kernel
theorem e_238_31 : den cf 238 31 L (.ref a :: st) M = oK (gfA (M.2.2 a) 6 12) (fun v => den cf 238 34 L (v :: st) M) := den_gf l_238_31
theorem l_238_34 : look (tab 238) 34 = some (.aload_n 0, 1, [], uu) := by decide +kernel
theorem e_238_34 : den cf 238 34 [.ref a, v1] st M = den cf 238 35 [.ref a, v1] (.ref a :: st) M := den_go l_238_34 rfl
theorem l_238_35 : look (tab 238) 35 = some (.getfield 43, 3, [6, 12, 90], uu) := by decide +kernel
theorem e_238_35 : den cf 238 35 L (.ref a :: st) M = oK (gfA (M.2.2 a) 6 12) (fun v => den cf 238 38 L (v :: st) M) := den_gf l_238_35
theorem l_238_38 : look (tab 238) 38 = some (.invokestatic 277, 3, [1, 237, 2, 573, 574, 5], uu) := by decide +kernel
theorem e_238_38 : den cf 238 38 L (w2 :: w1 :: st) M = if st.length ≤ 4 then rK (cf 237 [w1, w2] M) (fun v M' => den cf 238 41 L (pR v st) M') else none := den_ist [w1, w2] l_238_38 rfl
theorem l_238_41 : look (tab 238) 41 = some (.aload_n 1, 1, [], uu) := by decide +kernel
theorem e_238_41 : den cf 238 41 [v0, v1] st M = if isRf v1 = true then den cf 238 42 [v0, v1] (v1 :: st) M else none := den_g l_238_41 rfl
theorem l_238_42 : look (tab 238) 42 = some (.getfield 46, 3, [6, 13, 91], uu) := by decide +kernel
theorem e_238_42 : den cf 238 42 L (.ref a :: st) M = oK (gfA (M.2.2 a) 6 13) (fun v => den cf 238 45 L (v :: st) M) := den_gf l_238_42
theorem l_238_45 : look (tab 238) 45 = some (.aload_n 0, 1, [], uu) := by decide +kernel
theorem e_238_45 : den cf 238 45 [.ref a, v1] st M = den cf 238 46 [.ref a, v1] (.ref a :: st) M := den_go l_238_45 rfl
theorem l_238_46 : look (tab 238) 46 = some (.getfield 46, 3, [6, 13, 91], uu) := by decide +kernel
theorem e_238_46 : den cf 238 46 L (.ref a :: st) M = oK (gfA (M.2.2 a) 6 13) (fun v => den cf 238 49 L (v :: st) M) := den_gf l_238_46
theorem l_238_49 : look (tab 238) 49 = some (.invokestatic 277, 3, [1, 237, 2, 573, 574, 5], uu) := by decide +kernel
theorem e_238_49 : den cf 238 49 L (w2 :: w1 :: st) M = if st.length ≤ 4 then rK (cf 237 [w1, w2] M) (fun v M' => den cf 238 52 L (pR v st) M') else none := den_ist [w1, w2] l_238_49 rfl
theorem l_238_52 : look (tab 238) 52 = some (.aload_n 1, 1, [], uu) := by decide +kernel
theorem e_238_52 : den cf 238 52 [v0, v1] st M = if isRf v1 = true then den cf 238 53 [v0, v1] (v1 :: st) M else none := den_g l_238_52 rfl
theorem l_238_53 : look (tab 238) 53 = some (.getfield 49, 3, [6, 14, 92], uu) := by decide +kernel
theorem e_238_53 : den cf 238 53 L (.ref a :: st) M = oK (gfA (M.2.2 a) 6 14) (fun v => den cf 238 56 L (v :: st) M) := den_gf l_238_53
theorem l_238_56 : look (tab 238) 56 = some (.aload_n 0, 1, [], uu) := by decide +kernel
theorem e_238_56 : den cf 238 56 [.ref a, v1] st M = den cf 238 57 [.ref a, v1] (.ref a :: st) M := den_go l_238_56 rfl
theorem l_238_57 : look (tab 238) 57 = some (.getfield 49, 3, [6, 14, 92], uu) := by decide +kernel
theorem e_238_57 : den cf 238 57 L (.ref a :: st) M = oK (gfA (M.2.2 a) 6 14) (fun v => den cf 238 60 L (v :: st) M) := den_gf l_238_57
theorem l_238_60 : look (tab 238) 60 = some (.invokestatic 277, 3, [1, 237, 2, 573, 574, 5], uu) := by decide +kernel
theorem e_238_60 : den cf 238 60 L (w2 :: w1 :: st) M = if st.length ≤ 4 then rK (cf 237 [w1, w2] M) (fun v M' => den cf 238 63 L (pR v st) M') else none := den_ist [w1, w2] l_238_60 rfl
theorem l_238_63 : look (tab 238) 63 = some (.aload_n 1, 1, [], uu) := by decide +kernel
theorem e_238_63 : den cf 238 63 [v0, v1] st M = if isRf v1 = true then den cf 238 64 [v0, v1] (v1 :: st) M else none := den_g l_238_63 rfl
theorem l_238_64 : look (tab 238) 64 = some (.getfield 52, 3, [6, 15, 93], uu) := by decide +kernel
theorem e_238_64 : den cf 238 64 L (.ref a :: st) M = oK (gfA (M.2.2 a) 6 15) (fun v => den cf 238 67 L (v :: st) M) := den_gf l_238_64
theorem l_238_67 : look (tab 238) 67 = some (.aload_n 0, 1, [], uu) := by decide +kernel
theorem e_238_67 : den cf 238 67 [.ref a, v1] st M = den cf 238 68 [.ref a, v1] (.ref a :: st) M := den_go l_238_67 rfl
theorem l_238_68 : look (tab 238) 68 = some (.getfield 52, 3, [6, 15, 93], uu) := by decide +kernel
theorem e_238_68 : den cf 238 68 L (.ref a :: st) M = oK (gfA (M.2.2 a) 6 15) (fun v => den cf 238 71 L (v :: st) M) := den_gf l_238_68
theorem l_238_71 : look (tab 238) 71 = some (.invokestatic 277, 3, [1, 237, 2, 573, 574, 5], uu) := by decide +kernel
theorem e_238_71 : den cf 238 71 L (w2 :: w1 :: st) M = if st.length ≤ 4 then rK (cf 237 [w1, w2] M) (fun v M' => den cf 238 74 L (pR v st) M') else none := den_ist [w1, w2] l_238_71 rfl
theorem l_238_74 : look (tab 238) 74 = some (.aload_n 1, 1, [], uu) := by decide +kernel
theorem e_238_74 : den cf 238 74 [v0, v1] st M = if isRf v1 = true then den cf 238 75 [v0, v1] (v1 :: st) M else none := den_g l_238_74 rfl
theorem l_238_75 : look (tab 238) 75 = some (.getfield 55, 3, [6, 16, 94], uu) := by decide +kernel
theorem e_238_75 : den cf 238 75 L (.ref a :: st) M = oK (gfA (M.2.2 a) 6 16) (fun v => den cf 238 78 L (v :: st) M) := den_gf l_238_75
theorem l_238_78 : look (tab 238) 78 = some (.aload_n 0, 1, [], uu) := by decide +kernel
theorem e_238_78 : den cf 238 78 [.ref a, v1] st M = den cf 238 79 [.ref a, v1] (.ref a :: st) M := den_go l_238_78 rfl
theorem l_238_79 : look (tab 238) 79 = some (.getfield 55, 3, [6, 16, 94], uu) := by decide +kernel
theorem e_238_79 : den cf 238 79 L (.ref a :: st) M = oK (gfA (M.2.2 a) 6 16) (fun v => den cf 238 82 L (v :: st) M) := den_gf l_238_79
theorem l_238_82 : look (tab 238) 82 = some (.invokestatic 277, 3, [1, 237, 2, 573, 574, 5], uu) := by decide +kernel
theorem e_238_82 : den cf 238 82 L (w2 :: w1 :: st) M = if st.length ≤ 4 then rK (cf 237 [w1, w2] M) (fun v M' => den cf 238 85 L (pR v st) M') else none := den_ist [w1, w2] l_238_82 rfl
theorem l_238_85 : look (tab 238) 85 = some (.aload_n 1, 1, [], uu) := by decide +kernel
theorem e_238_85 : den cf 238 85 [v0, v1] st M = if isRf v1 = true then den cf 238 86 [v0, v1] (v1 :: st) M else none := den_g l_238_85 rfl
theorem l_238_86 : look (tab 238) 86 = some (.getfield 58, 3, [6, 17, 95], uu) := by decide +kernel
theorem e_238_86 : den cf 238 86 L (.ref a :: st) M = oK (gfA (M.2.2 a) 6 17) (fun v => den cf 238 89 L (v :: st) M) := den_gf l_238_86
theorem l_238_89 : look (tab 238) 89 = some (.aload_n 0, 1, [], uu) := by decide +kernel
theorem e_238_89 : den cf 238 89 [.ref a, v1] st M = den cf 238 90 [.ref a, v1] (.ref a :: st) M := den_go l_238_89 rfl
theorem l_238_90 : look (tab 238) 90 = some (.getfield 58, 3, [6, 17, 95], uu) := by decide +kernel
theorem e_238_90 : den cf 238 90 L (.ref a :: st) M = oK (gfA (M.2.2 a) 6 17) (fun v => den cf 238 93 L (v :: st) M) := den_gf l_238_90
theorem l_238_93 : look (tab 238) 93 = some (.invokestatic 277, 3, [1, 237, 2, 573, 574, 5], uu) := by decide +kernel
theorem e_238_93 : den cf 238 93 L (w2 :: w1 :: st) M = if st.length ≤ 4 then rK (cf 237 [w1, w2] M) (fun v M' => den cf 238 96 L (pR v st) M') else none := den_ist [w1, w2] l_238_93 rfl
theorem l_238_96 : look (tab 238) 96 = some (.aload_n 1, 1, [], uu) := by decide +kernel
theorem e_238_96 : den cf 238 96 [v0, v1] st M = if isRf v1 = true then den cf 238 97 [v0, v1] (v1 :: st) M else none := den_g l_238_96 rfl
theorem l_238_97 : look (tab 238) 97 = some (.getfield 61, 3, [6, 18, 96], uu) := by decide +kernel
theorem e_238_97 : den cf 238 97 L (.ref a :: st) M = oK (gfA (M.2.2 a) 6 18) (fun v => den cf 238 100 L (v :: st) M) := den_gf l_238_97
theorem l_238_100 : look (tab 238) 100 = some (.aload_n 0, 1, [], uu) := by decide +kernel
theorem e_238_100 : den cf 238 100 [.ref a, v1] st M = den cf 238 101 [.ref a, v1] (.ref a :: st) M := den_go l_238_100 rfl
theorem l_238_101 : look (tab 238) 101 = some (.getfield 61, 3, [6, 18, 96], uu) := by decide +kernel
theorem e_238_101 : den cf 238 101 L (.ref a :: st) M = oK (gfA (M.2.2 a) 6 18) (fun v => den cf 238 104 L (v :: st) M) := den_gf l_238_101
theorem l_238_104 : look (tab 238) 104 = some (.invokestatic 277, 3, [1, 237, 2, 573, 574, 5], uu) := by decide +kernel
theorem e_238_104 : den cf 238 104 L (w2 :: w1 :: st) M = if st.length ≤ 4 then rK (cf 237 [w1, w2] M) (fun v M' => den cf 238 107 L (pR v st) M') else none := den_ist [w1, w2] l_238_104 rfl
theorem l_238_107 : look (tab 238) 107 = some (.aload_n 0, 1, [], uu) := by decide +kernel
theorem e_238_107 : den cf 238 107 [.ref a, v1] st M = den cf 238 108 [.ref a, v1] (.ref a :: st) M := den_go l_238_107 rfl
theorem l_238_108 : look (tab 238) 108 = some (.aload_n 1, 1, [], uu) := by decide +kernel
theorem e_238_108 : den cf 238 108 [v0, v1] st M = if isRf v1 = true then den cf 238 109 [v0, v1] (v1 :: st) M else none := den_g l_238_108 rfl
theorem l_238_109 : look (tab 238) 109 = some (.getfield 355, 3, [6, 19, 572], uu) := by decide +kernel
theorem e_238_109 : den cf 238 109 L (.ref a :: st) M = oK (gfA (M.2.2 a) 6 19) (fun v => den cf 238 112 L (v :: st) M) := den_gf l_238_109
theorem l_238_112 : look (tab 238) 112 = some (.putfield 355, 3, [6, 19, 0, 572, 0], uu) := by decide +kernel
theorem e_238_112 : den cf 238 112 L (.int x :: .ref a :: st) M = oK (pfA (M.2.2 a) 6 19 (.int x)) (fun c => den cf 238 115 L st (mU M a c)) := den_pf0 l_238_112
theorem l_238_115 : look (tab 238) 115 = some (.aload_n 0, 1, [], uu) := by decide +kernel
theorem e_238_115 : den cf 238 115 [.ref a, v1] st M = den cf 238 116 [.ref a, v1] (.ref a :: st) M := den_go l_238_115 rfl
theorem l_238_116 : look (tab 238) 116 = some (.aload_n 1, 1, [], uu) := by decide +kernel
theorem e_238_116 : den cf 238 116 [v0, v1] st M = if isRf v1 = true then den cf 238 117 [v0, v1] (v1 :: st) M else none := den_g l_238_116 rfl
theorem l_238_117 : look (tab 238) 117 = some (.getfield 64, 3, [6, 20, 97], uu) := by decide +kernel
theorem e_238_117 : den cf 238 117 L (.ref a :: st) M = oK (gfA (M.2.2 a) 6 20) (fun v => den cf 238 120 L (v :: st) M) := den_gf l_238_117
theorem l_238_120 : look (tab 238) 120 = some (.putfield 64, 3, [6, 20, 0, 97, 0], uu) := by decide +kernel
theorem e_238_120 : den cf 238 120 L (.int x :: .ref a :: st) M = oK (pfA (M.2.2 a) 6 20 (.int x)) (fun c => den cf 238 123 L st (mU M a c)) := den_pf0 l_238_120
theorem l_238_123 : look (tab 238) 123 = some (.return_, 1, [], uu) := by decide +kernel
theorem e_238_123 : den cf 238 123 L [] M = some (none, M) := den_e4 l_238_123
/-! yX6_image -/
theorem l_239_0 : look (tab 239) 0 = some (.aload_n 0, 1, [], uu) := by decide +kernel
theorem e_239_0 : den cf 239 0 [.ref a] st M = den cf 239 1 [.ref a] (.ref a :: st) M := den_go l_239_0 rfl
theorem l_239_1 : look (tab 239) 1 = some (.getfield 361, 3, [6, 21, 1205], uu) := by decide +kernel
theorem e_239_1 : den cf 239 1 L (.ref a :: st) M = oK (gfA (M.2.2 a) 6 21) (fun v => den cf 239 4 L (v :: st) M) := den_gf l_239_1
theorem l_239_4 : look (tab 239) 4 = some (.ifnonnull 14, 3, [18], uu) := by decide +kernel
theorem e_239_4 : den cf 239 4 L (va_rf o :: st) M = oN o (den cf 239 7 L st M) (den cf 239 18 L st M) := den_nn l_239_4
theorem e_239_4_n : den cf 239 4 L (.null :: st) M = den cf 239 7 L st M := den_go l_239_4 rfl
theorem e_239_4_r : den cf 239 4 L (.ref a :: st) M = den cf 239 18 L st M := den_go l_239_4 rfl
theorem l_239_7 : look (tab 239) 7 = some (.aload_n 0, 1, [], uu) := by decide +kernel
theorem e_239_7 : den cf 239 7 [.ref a] st M = den cf 239 8 [.ref a] (.ref a :: st) M := den_go l_239_7 rfl
theorem l_239_8 : look (tab 239) 8 = some (.new 8, 3, [6, 566, 4, 5], uu) := by decide +kernel
theorem e_239_8 : den cf 239 8 L st M = if M.1 < 600000 then den cf 239 11 L (.ref M.1 :: st) (mN M 36 (.inl (6, dflA 6))) else none := den_g l_239_8 rfl
theorem l_239_11 : look (tab 239) 11 = some (.dup, 1, [], uu) := by decide +kernel
theorem e_239_11 : den cf 239 11 L (.ref a :: st) M = den cf 239 12 L (.ref a :: .ref a :: st) M := den_go l_239_11 rfl
theorem e_239_11_i : den cf 239 11 L (.int x :: st) M = den cf 239 12 L (.int x :: .int x :: st) M := den_go l_239_11 rfl
theorem l_239_12 : look (tab 239) 12 = some (.invokespecial 235, 3, [1, 6, 135, 1, 567, 76, 5], uu) := by decide +kernel
theorem e_239_12 : den cf 239 12 L (.ref a :: st) M = if rcv M 6 [.ref a] = true ∧ st.length ≤ 4 then rK (cf 135 [.ref a] M) (fun v M' => den cf 239 15 L (pR v st) M') else none := den_isp [] l_239_12 rfl
theorem l_239_15 : look (tab 239) 15 = some (.putfield 361, 3, [6, 21, 2, 1205, 0], uu) := by decide +kernel
theorem e_239_15 : den cf 239 15 L (v :: .ref a :: st) M = if okv 2 v = true then oK (pfA (M.2.2 a) 6 21 v) (fun c => den cf 239 18 L st (mU M a c)) else none := den_pf l_239_15
theorem l_239_18 : look (tab 239) 18 = some (.aload_n 0, 1, [], uu) := by decide +kernel
theorem e_239_18 : den cf 239 18 [.ref a] st M = den cf 239 19 [.ref a] (.ref a :: st) M := den_go l_239_18 rfl
theorem l_239_19 : look (tab 239) 19 = some (.getfield 361, 3, [6, 21, 1205], uu) := by decide +kernel
theorem e_239_19 : den cf 239 19 L (.ref a :: st) M = oK (gfA (M.2.2 a) 6 21) (fun v => den cf 239 22 L (v :: st) M) := den_gf l_239_19
theorem l_239_22 : look (tab 239) 22 = some (.aload_n 0, 1, [], uu) := by decide +kernel
theorem e_239_22 : den cf 239 22 [.ref a] st M = den cf 239 23 [.ref a] (.ref a :: st) M := den_go l_239_22 rfl
theorem l_239_23 : look (tab 239) 23 = some (.invokevirtual 236, 3, [6, 238, 2, 568, 569, 570, 5], uu) := by decide +kernel
theorem e_239_23 : den cf 239 23 L (w1 :: .ref a :: st) M = if rcv M 6 [.ref a, w1] = true ∧ st.length ≤ 4 then rK (cf 238 [.ref a, w1] M) (fun v M' => den cf 239 26 L (pR v st) M') else none := den_iv [w1] l_239_23 rfl
theorem l_239_26 : look (tab 239) 26 = some (.iconst 1, 1, [], .int (zI 1)) := by decide +kernel
theorem e_239_26 : den cf 239 26 L st M = den cf 239 27 L (.int (zI 1) :: st) M := den_go l_239_26 rfl
theorem l_239_27 : look (tab 239) 27 = some (.ireturn, 1, [0], uu) := by decide +kernel
theorem e_239_27 : den cf 239 27 L [.int x] M = some (some (.int x), M) := den_e0 l_239_27
/-! yX6_back -/
theorem l_240_0 : look (tab 240) 0 = some (.aload_n 0, 1, [], uu) := by decide +kernel
theorem e_240_0 : den cf 240 0 [.ref a, v1] st M = den cf 240 1 [.ref a, v1] (.ref a :: st) M := den_go l_240_0 rfl
theorem l_240_1 : look (tab 240) 1 = some (.getfield 361, 3, [6, 21, 1205], uu) := by decide +kernel
theorem e_240_1 : den cf 240 1 L (.ref a :: st) M = oK (gfA (M.2.2 a) 6 21) (fun v => den cf 240 4 L (v :: st) M) := den_gf l_240_1
theorem l_240_4 : look (tab 240) 4 = some (.ifnonnull 10, 3, [14], uu) := by decide +kernel
theorem e_240_4 : den cf 240 4 L (va_rf o :: st) M = oN o (den cf 240 7 L st M) (den cf 240 14 L st M) := den_nn l_240_4
theorem e_240_4_n : den cf 240 4 L (.null :: st) M = den cf 240 7 L st M := den_go l_240_4 rfl
theorem e_240_4_r : den cf 240 4 L (.ref a :: st) M = den cf 240 14 L st M := den_go l_240_4 rfl
theorem l_240_7 : look (tab 240) 7 = some (.aload_n 0, 1, [], uu) := by decide +kernel
theorem e_240_7 : den cf 240 7 [.ref a, v1] st M = den cf 240 8 [.ref a, v1] (.ref a :: st) M := den_go l_240_7 rfl
theorem l_240_8 : look (tab 240) 8 = some (.bipush (-5), 2, [], .int (zI (-5))) := by decide +kernel
theorem e_240_8 : den cf 240 8 L st M = den cf 240 10 L (.int (zI (-5)) :: st) M := den_go l_240_8 rfl
theorem l_240_10 : look (tab 240) 10 = some (.invokevirtual 93, 3, [6, 136, 2, 133, 134, 135, 5], uu) := by decide +kernel
theorem e_240_10 : den cf 240 10 L (w1 :: .ref a :: st) M = if rcv M 6 [.ref a, w1] = true ∧ st.length ≤ 4 then rK (cf 136 [.ref a, w1] M) (fun v M' => den cf 240 13 L (pR v st) M') else none := den_iv [w1] l_240_10 rfl
theorem l_240_13 : look (tab 240) 13 = some (.ireturn, 1, [0], uu) := by decide +kernel
theorem e_240_13 : den cf 240 13 L [.int x] M = some (some (.int x), M) := den_e0 l_240_13
theorem l_240_14 : look (tab 240) 14 = some (.aload_n 0, 1, [], uu) := by decide +kernel
theorem e_240_14 : den cf 240 14 [.ref a, v1] st M = den cf 240 15 [.ref a, v1] (.ref a :: st) M := den_go l_240_14 rfl
theorem l_240_15 : look (tab 240) 15 = some (.aload_n 0, 1, [], uu) := by decide +kernel
theorem e_240_15 : den cf 240 15 [.ref a, v1] st M = den cf 240 16 [.ref a, v1] (.ref a :: st) M := den_go l_240_15 rfl
theorem l_240_16 : look (tab 240) 16 = some (.getfield 361, 3, [6, 21, 1205], uu) := by decide +kernel
theorem e_240_16 : den cf 240 16 L (.ref a :: st) M = oK (gfA (M.2.2 a) 6 21) (fun v => den cf 240 19 L (v :: st) M) := den_gf l_240_16
theorem l_240_19 : look (tab 240) 19 = some (.invokevirtual 236, 3, [6, 238, 2, 568, 569, 570, 5], uu) := by decide +kernel
theorem e_240_19 : den cf 240 19 L (w1 :: .ref a :: st) M = if rcv M 6 [.ref a, w1] = true ∧ st.length ≤ 4 then rK (cf 238 [.ref a, w1] M) (fun v M' => den cf 240 22 L (pR v st) M') else none := den_iv [w1] l_240_19 rfl
theorem l_240_22 : look (tab 240) 22 = some (.iconst 0, 1, [], .int (zI 0)) := by decide +kernel
theorem e_240_22 : den cf 240 22 L st M = den cf 240 23 L (.int (zI 0) :: st) M := den_go l_240_22 rfl
theorem l_240_23 : look (tab 240) 23 = some (.istore_n 1, 1, [], uu) := by decide +kernel
theorem e_240_23 : den cf 240 23 [v0, v1] (.int x :: st) M = den cf 240 24 [kq v0, .int x] st M := den_st (k := 1) (v := .int x) l_240_23 rfl
theorem l_240_24 : look (tab 240) 24 = some (.iload_n 1, 1, [], uu) := by decide +kernel
theorem e_240_24 : den cf 240 24 [v0, .int x] st M = den cf 240 25 [v0, .int x] (.int x :: st) M := den_go l_240_24 rfl
theorem l_240_25 : look (tab 240) 25 = some (.bipush 8, 2, [], .int (zI 8)) := by decide +kernel
theorem e_240_25 : den cf 240 25 L st M = den cf 240 27 L (.int (zI 8) :: st) M := den_go l_240_25 rfl
theorem l_240_27 : look (tab 240) 27 = some (.if_icmp .ge 39, 3, [66], uu) := by decide +kernel
theorem e_240_27 : den cf 240 27 L (.int y :: .int x :: st) M = if x < y then den cf 240 30 L st M else den cf 240 66 L st M := den_ic_ge l_240_27
theorem l_240_30 : look (tab 240) 30 = some (.aload_n 0, 1, [], uu) := by decide +kernel
theorem e_240_30 : den cf 240 30 [.ref a, v1] st M = den cf 240 31 [.ref a, v1] (.ref a :: st) M := den_go l_240_30 rfl
theorem l_240_31 : look (tab 240) 31 = some (.getfield 7, 3, [6, 0, 79], uu) := by decide +kernel
theorem e_240_31 : den cf 240 31 L (.ref a :: st) M = oK (gfA (M.2.2 a) 6 0) (fun v => den cf 240 34 L (v :: st) M) := den_gf l_240_31
theorem l_240_34 : look (tab 240) 34 = some (.iload_n 1, 1, [], uu) := by decide +kernel
theorem e_240_34 : den cf 240 34 [v0, .int x] st M = den cf 240 35 [v0, .int x] (.int x :: st) M := den_go l_240_34 rfl
theorem l_240_35 : look (tab 240) 35 = some (.iaload, 1, [], uu) := by decide +kernel
theorem e_240_35 : den cf 240 35 L (.int x :: .ref a :: st) M = oK (ldI (M.2.2 a) x) (fun v => den cf 240 36 L (v :: st) M) := den_al (g := ldI) l_240_35 rfl
theorem l_240_36 : look (tab 240) 36 = some (.iconst 2, 1, [], .int (zI 2)) := by decide +kernel
theorem e_240_36 : den cf 240 36 L st M = den cf 240 37 L (.int (zI 2) :: st) M := den_go l_240_36 rfl
theorem l_240_37 : look (tab 240) 37 = some (.if_icmp .ne 23, 3, [60], uu) := by decide +kernel
theorem e_240_37 : den cf 240 37 L (.int y :: .int x :: st) M = if x = y then den cf 240 40 L st M else den cf 240 60 L st M := den_ic_ne l_240_37
theorem l_240_40 : look (tab 240) 40 = some (.aload_n 0, 1, [], uu) := by decide +kernel
theorem e_240_40 : den cf 240 40 [.ref a, v1] st M = den cf 240 41 [.ref a, v1] (.ref a :: st) M := den_go l_240_40 rfl
theorem l_240_41 : look (tab 240) 41 = some (.getfield 28, 3, [6, 5, 85], uu) := by decide +kernel
theorem e_240_41 : den cf 240 41 L (.ref a :: st) M = oK (gfA (M.2.2 a) 6 5) (fun v => den cf 240 44 L (v :: st) M) := den_gf l_240_41
theorem l_240_44 : look (tab 240) 44 = some (.iload_n 1, 1, [], uu) := by decide +kernel
theorem e_240_44 : den cf 240 44 [v0, .int x] st M = den cf 240 45 [v0, .int x] (.int x :: st) M := den_go l_240_44 rfl
theorem l_240_45 : look (tab 240) 45 = some (.iaload, 1, [], uu) := by decide +kernel
theorem e_240_45 : den cf 240 45 L (.int x :: .ref a :: st) M = oK (ldI (M.2.2 a) x) (fun v => den cf 240 46 L (v :: st) M) := den_al (g := ldI) l_240_45 rfl
theorem l_240_46 : look (tab 240) 46 = some (.aload_n 0, 1, [], uu) := by decide +kernel
theorem e_240_46 : den cf 240 46 [.ref a, v1] st M = den cf 240 47 [.ref a, v1] (.ref a :: st) M := den_go l_240_46 rfl
theorem l_240_47 : look (tab 240) 47 = some (.getfield 80, 3, [6, 9, 230], uu) := by decide +kernel
theorem e_240_47 : den cf 240 47 L (.ref a :: st) M = oK (gfA (M.2.2 a) 6 9) (fun v => den cf 240 50 L (v :: st) M) := den_gf l_240_47
theorem l_240_50 : look (tab 240) 50 = some (.if_icmp .lt 10, 3, [60], uu) := by decide +kernel
theorem e_240_50 : den cf 240 50 L (.int y :: .int x :: st) M = if x < y then den cf 240 60 L st M else den cf 240 53 L st M := den_ic_lt l_240_50
theorem l_240_53 : look (tab 240) 53 = some (.aload_n 0, 1, [], uu) := by decide +kernel
theorem e_240_53 : den cf 240 53 [.ref a, v1] st M = den cf 240 54 [.ref a, v1] (.ref a :: st) M := den_go l_240_53 rfl
theorem l_240_54 : look (tab 240) 54 = some (.getfield 7, 3, [6, 0, 79], uu) := by decide +kernel
theorem e_240_54 : den cf 240 54 L (.ref a :: st) M = oK (gfA (M.2.2 a) 6 0) (fun v => den cf 240 57 L (v :: st) M) := den_gf l_240_54
theorem l_240_57 : look (tab 240) 57 = some (.iload_n 1, 1, [], uu) := by decide +kernel
theorem e_240_57 : den cf 240 57 [v0, .int x] st M = den cf 240 58 [v0, .int x] (.int x :: st) M := den_go l_240_57 rfl
theorem l_240_58 : look (tab 240) 58 = some (.iconst 0, 1, [], .int (zI 0)) := by decide +kernel
theorem e_240_58 : den cf 240 58 L st M = den cf 240 59 L (.int (zI 0) :: st) M := den_go l_240_58 rfl
theorem l_240_59 : look (tab 240) 59 = some (.iastore, 1, [], uu) := by decide +kernel
theorem e_240_59 : den cf 240 59 L (.int x :: .int y :: .ref a :: st) M = oK (stI (M.2.2 a) y x) (fun c => den cf 240 60 L st (mU M a c)) := den_is l_240_59
theorem l_240_60 : look (tab 240) 60 = some (.iinc 1 1, 3, [], .int (zI 1)) := by decide +kernel
theorem e_240_60 : den cf 240 60 [v0, .int x] st M = den cf 240 63 [kq v0, .int (x + (zI 1))] st M := den_st (k := 1) (v := .int (x + (zI 1))) l_240_60 rfl
theorem l_240_63 : look (tab 240) 63 = some (.goto (-39), 3, [24], uu) := by decide +kernel
theorem e_240_63 : den cf 240 63 L st M = den cf 240 24 L st M := den_go l_240_63 rfl
theorem l_240_66 : look (tab 240) 66 = some (.iconst 1, 1, [], .int (zI 1)) := by decide +kernel
theorem e_240_66 : den cf 240 66 L st M = den cf 240 67 L (.int (zI 1) :: st) M := den_go l_240_66 rfl
theorem l_240_67 : look (tab 240) 67 = some (.ireturn, 1, [0], uu) := by decide +kernel
theorem e_240_67 : den cf 240 67 L [.int x] M = some (some (.int x), M) := den_e0 l_240_67
/-! yX6_status -/
theorem l_241_0 : look (tab 241) 0 = some (.iconst 0, 1, [], .int (zI 0)) := by decide +kernel
theorem e_241_0 : den cf 241 0 L st M = den cf 241 1 L (.int (zI 0) :: st) M := den_go l_241_0 rfl
theorem l_241_1 : look (tab 241) 1 = some (.istore_n 2, 1, [], uu) := by decide +kernel
theorem e_241_1 : den cf 241 1 [v0, v1, v2, v3] (.int x :: st) M = den cf 241 2 [v0, kq v1, .int x, v3] st M := den_st (k := 2) (v := .int x) l_241_1 rfl
theorem l_241_2 : look (tab 241) 2 = some (.iload_n 1, 1, [], uu) := by decide +kernel
theorem e_241_2 : den cf 241 2 [v0, .int x, v2, v3] st M = den cf 241 3 [v0, .int x, v2, v3] (.int x :: st) M := den_go l_241_2 rfl
theorem l_241_3 : look (tab 241) 3 = some (.tableswitch 125 0 9 #[53, 58, 63, 63, 63, 72, 77, 82, 87, 92], 53, [128, 56, 61, 66, 66, 66, 75, 80, 85, 90, 95], uu) := by decide +kernel
theorem e_241_3 : den cf 241 3 L (.int x :: st) M = if x.toInt < 0 ∨ 9 < x.toInt then den cf 241 128 L st M else oK ([56, 61, 66, 66, 66, 75, 80, 85, 90, 95] : List Nat)[(x.toInt - 0).toNat]? (fun t => den cf 241 t L st M) := den_ts l_241_3
theorem l_241_56 : look (tab 241) 56 = some (.aload_n 0, 1, [], uu) := by decide +kernel
theorem e_241_56 : den cf 241 56 [.ref a, v1, v2, v3] st M = den cf 241 57 [.ref a, v1, v2, v3] (.ref a :: st) M := den_go l_241_56 rfl
theorem l_241_57 : look (tab 241) 57 = some (.getfield 80, 3, [6, 9, 230], uu) := by decide +kernel
theorem e_241_57 : den cf 241 57 L (.ref a :: st) M = oK (gfA (M.2.2 a) 6 9) (fun v => den cf 241 60 L (v :: st) M) := den_gf l_241_57
theorem l_241_60 : look (tab 241) 60 = some (.ireturn, 1, [0], uu) := by decide +kernel
theorem e_241_60 : den cf 241 60 L [.int x] M = some (some (.int x), M) := den_e0 l_241_60
theorem l_241_61 : look (tab 241) 61 = some (.aload_n 0, 1, [], uu) := by decide +kernel
theorem e_241_61 : den cf 241 61 [.ref a, v1, v2, v3] st M = den cf 241 62 [.ref a, v1, v2, v3] (.ref a :: st) M := den_go l_241_61 rfl
theorem l_241_62 : look (tab 241) 62 = some (.invokevirtual 302, 3, [6, 202, 1, 877, 878, 879, 5], uu) := by decide +kernel
theorem e_241_62 : den cf 241 62 L (.ref a :: st) M = if rcv M 6 [.ref a] = true ∧ st.length ≤ 4 then rK (cf 202 [.ref a] M) (fun v M' => den cf 241 65 L (pR v st) M') else none := den_iv [] l_241_62 rfl
theorem l_241_65 : look (tab 241) 65 = some (.ireturn, 1, [0], uu) := by decide +kernel
theorem e_241_65 : den cf 241 65 L [.int x] M = some (some (.int x), M) := den_e0 l_241_65
theorem l_241_66 : look (tab 241) 66 = some (.aload_n 0, 1, [], uu) := by decide +kernel
theorem e_241_66 : den cf 241 66 [.ref a, v1, v2, v3] st M = den cf 241 67 [.ref a, v1, v2, v3] (.ref a :: st) M := den_go l_241_66 rfl
theorem l_241_67 : look (tab 241) 67 = some (.getfield 61, 3, [6, 18, 96], uu) := by decide +kernel
theorem e_241_67 : den cf 241 67 L (.ref a :: st) M = oK (gfA (M.2.2 a) 6 18) (fun v => den cf 241 70 L (v :: st) M) := den_gf l_241_67
theorem l_241_70 : look (tab 241) 70 = some (.iload_n 1, 1, [], uu) := by decide +kernel
theorem e_241_70 : den cf 241 70 [v0, .int x, v2, v3] st M = den cf 241 71 [v0, .int x, v2, v3] (.int x :: st) M := den_go l_241_70 rfl
theorem l_241_71 : look (tab 241) 71 = some (.iconst 2, 1, [], .int (zI 2)) := by decide +kernel
theorem e_241_71 : den cf 241 71 L st M = den cf 241 72 L (.int (zI 2) :: st) M := den_go l_241_71 rfl
theorem l_241_72 : look (tab 241) 72 = some (.isub, 1, [], uu) := by decide +kernel
theorem e_241_72 : den cf 241 72 L (.int y :: .int x :: st) M = den cf 241 73 L (.int (x - y) :: st) M := den_go l_241_72 rfl
theorem l_241_73 : look (tab 241) 73 = some (.iaload, 1, [], uu) := by decide +kernel
theorem e_241_73 : den cf 241 73 L (.int x :: .ref a :: st) M = oK (ldI (M.2.2 a) x) (fun v => den cf 241 74 L (v :: st) M) := den_al (g := ldI) l_241_73 rfl
theorem l_241_74 : look (tab 241) 74 = some (.ireturn, 1, [0], uu) := by decide +kernel
theorem e_241_74 : den cf 241 74 L [.int x] M = some (some (.int x), M) := den_e0 l_241_74
theorem l_241_75 : look (tab 241) 75 = some (.aload_n 0, 1, [], uu) := by decide +kernel
theorem e_241_75 : den cf 241 75 [.ref a, v1, v2, v3] st M = den cf 241 76 [.ref a, v1, v2, v3] (.ref a :: st) M := den_go l_241_75 rfl
theorem l_241_76 : look (tab 241) 76 = some (.getfield 355, 3, [6, 19, 572], uu) := by decide +kernel
theorem e_241_76 : den cf 241 76 L (.ref a :: st) M = oK (gfA (M.2.2 a) 6 19) (fun v => den cf 241 79 L (v :: st) M) := den_gf l_241_76
theorem l_241_79 : look (tab 241) 79 = some (.ireturn, 1, [0], uu) := by decide +kernel
theorem e_241_79 : den cf 241 79 L [.int x] M = some (some (.int x), M) := den_e0 l_241_79
theorem l_241_80 : look (tab 241) 80 = some (.aload_n 0, 1, [], uu) := by decide +kernel
theorem e_241_80 : den cf 241 80 [.ref a, v1, v2, v3] st M = den cf 241 81 [.ref a, v1, v2, v3] (.ref a :: st) M := den_go l_241_80 rfl
theorem l_241_81 : look (tab 241) 81 = some (.invokevirtual 343, 3, [6, 228, 1, 1136, 1137, 1138, 5], uu) := by decide +kernel
theorem e_241_81 : den cf 241 81 L (.ref a :: st) M = if rcv M 6 [.ref a] = true ∧ st.length ≤ 4 then rK (cf 228 [.ref a] M) (fun v M' => den cf 241 84 L (pR v st) M') else none := den_iv [] l_241_81 rfl
theorem l_241_84 : look (tab 241) 84 = some (.ireturn, 1, [0], uu) := by decide +kernel
theorem e_241_84 : den cf 241 84 L [.int x] M = some (some (.int x), M) := den_e0 l_241_84
theorem l_241_85 : look (tab 241) 85 = some (.aload_n 0, 1, [], uu) := by decide +kernel
theorem e_241_85 : den cf 241 85 [.ref a, v1, v2, v3] st M = den cf 241 86 [.ref a, v1, v2, v3] (.ref a :: st) M := den_go l_241_85 rfl
theorem l_241_86 : look (tab 241) 86 = some (.getfield 153, 3, [6, 7, 414], uu) := by decide +kernel
theorem e_241_86 : den cf 241 86 L (.ref a :: st) M = oK (gfA (M.2.2 a) 6 7) (fun v => den cf 241 89 L (v :: st) M) := den_gf l_241_86
theorem l_241_89 : look (tab 241) 89 = some (.ireturn, 1, [0], uu) := by decide +kernel
theorem e_241_89 : den cf 241 89 L [.int x] M = some (some (.int x), M) := den_e0 l_241_89
theorem l_241_90 : look (tab 241) 90 = some (.aload_n 0, 1, [], uu) := by decide +kernel
theorem e_241_90 : den cf 241 90 [.ref a, v1, v2, v3] st M = den cf 241 91 [.ref a, v1, v2, v3] (.ref a :: st) M := den_go l_241_90 rfl
theorem l_241_91 : look (tab 241) 91 = some (.getfield 64, 3, [6, 20, 97], uu) := by decide +kernel
theorem e_241_91 : den cf 241 91 L (.ref a :: st) M = oK (gfA (M.2.2 a) 6 20) (fun v => den cf 241 94 L (v :: st) M) := den_gf l_241_91
theorem l_241_94 : look (tab 241) 94 = some (.ireturn, 1, [0], uu) := by decide +kernel
theorem e_241_94 : den cf 241 94 L [.int x] M = some (some (.int x), M) := den_e0 l_241_94
theorem l_241_95 : look (tab 241) 95 = some (.iconst 0, 1, [], .int (zI 0)) := by decide +kernel
theorem e_241_95 : den cf 241 95 L st M = den cf 241 96 L (.int (zI 0) :: st) M := den_go l_241_95 rfl
theorem l_241_96 : look (tab 241) 96 = some (.istore_n 3, 1, [], uu) := by decide +kernel
theorem e_241_96 : den cf 241 96 [v0, v1, v2, v3] (.int x :: st) M = den cf 241 97 [v0, v1, kq v2, .int x] st M := den_st (k := 3) (v := .int x) l_241_96 rfl
theorem l_241_97 : look (tab 241) 97 = some (.iload_n 3, 1, [], uu) := by decide +kernel
theorem e_241_97 : den cf 241 97 [v0, v1, v2, .int x] st M = den cf 241 98 [v0, v1, v2, .int x] (.int x :: st) M := den_go l_241_97 rfl
theorem l_241_98 : look (tab 241) 98 = some (.bipush 8, 2, [], .int (zI 8)) := by decide +kernel
theorem e_241_98 : den cf 241 98 L st M = den cf 241 100 L (.int (zI 8) :: st) M := den_go l_241_98 rfl
theorem l_241_100 : look (tab 241) 100 = some (.if_icmp .ge 26, 3, [126], uu) := by decide +kernel
theorem e_241_100 : den cf 241 100 L (.int y :: .int x :: st) M = if x < y then den cf 241 103 L st M else den cf 241 126 L st M := den_ic_ge l_241_100
theorem l_241_103 : look (tab 241) 103 = some (.iload_n 2, 1, [], uu) := by decide +kernel
theorem e_241_103 : den cf 241 103 [v0, v1, .int x, v3] st M = den cf 241 104 [v0, v1, .int x, v3] (.int x :: st) M := den_go l_241_103 rfl
theorem l_241_104 : look (tab 241) 104 = some (.aload_n 0, 1, [], uu) := by decide +kernel
theorem e_241_104 : den cf 241 104 [.ref a, v1, v2, v3] st M = den cf 241 105 [.ref a, v1, v2, v3] (.ref a :: st) M := den_go l_241_104 rfl
theorem l_241_105 : look (tab 241) 105 = some (.getfield 7, 3, [6, 0, 79], uu) := by decide +kernel
theorem e_241_105 : den cf 241 105 L (.ref a :: st) M = oK (gfA (M.2.2 a) 6 0) (fun v => den cf 241 108 L (v :: st) M) := den_gf l_241_105
theorem l_241_108 : look (tab 241) 108 = some (.iload_n 3, 1, [], uu) := by decide +kernel
theorem e_241_108 : den cf 241 108 [v0, v1, v2, .int x] st M = den cf 241 109 [v0, v1, v2, .int x] (.int x :: st) M := den_go l_241_108 rfl
theorem l_241_109 : look (tab 241) 109 = some (.iaload, 1, [], uu) := by decide +kernel
theorem e_241_109 : den cf 241 109 L (.int x :: .ref a :: st) M = oK (ldI (M.2.2 a) x) (fun v => den cf 241 110 L (v :: st) M) := den_al (g := ldI) l_241_109 rfl
theorem l_241_110 : look (tab 241) 110 = some (.ifCond .eq 7, 3, [117], uu) := by decide +kernel
theorem e_241_110 : den cf 241 110 L (.int x :: st) M = if x = zI 0 then den cf 241 117 L st M else den cf 241 113 L st M := den_if_eq l_241_110
theorem l_241_113 : look (tab 241) 113 = some (.iconst 1, 1, [], .int (zI 1)) := by decide +kernel
theorem e_241_113 : den cf 241 113 L st M = den cf 241 114 L (.int (zI 1) :: st) M := den_go l_241_113 rfl
theorem l_241_114 : look (tab 241) 114 = some (.goto 4, 3, [118], uu) := by decide +kernel
theorem e_241_114 : den cf 241 114 L st M = den cf 241 118 L st M := den_go l_241_114 rfl
theorem l_241_117 : look (tab 241) 117 = some (.iconst 0, 1, [], .int (zI 0)) := by decide +kernel
theorem e_241_117 : den cf 241 117 L st M = den cf 241 118 L (.int (zI 0) :: st) M := den_go l_241_117 rfl
theorem l_241_118 : look (tab 241) 118 = some (.iadd, 1, [], uu) := by decide +kernel
theorem e_241_118 : den cf 241 118 L (.int y :: .int x :: st) M = den cf 241 119 L (.int (x + y) :: st) M := den_go l_241_118 rfl
theorem l_241_119 : look (tab 241) 119 = some (.istore_n 2, 1, [], uu) := by decide +kernel
theorem e_241_119 : den cf 241 119 [v0, v1, v2, v3] (.int x :: st) M = den cf 241 120 [v0, kq v1, .int x, v3] st M := den_st (k := 2) (v := .int x) l_241_119 rfl
theorem l_241_120 : look (tab 241) 120 = some (.iinc 3 1, 3, [], .int (zI 1)) := by decide +kernel
theorem e_241_120 : den cf 241 120 [v0, v1, v2, .int x] st M = den cf 241 123 [v0, v1, kq v2, .int (x + (zI 1))] st M := den_st (k := 3) (v := .int (x + (zI 1))) l_241_120 rfl
theorem l_241_123 : look (tab 241) 123 = some (.goto (-26), 3, [97], uu) := by decide +kernel
theorem e_241_123 : den cf 241 123 L st M = den cf 241 97 L st M := den_go l_241_123 rfl
theorem l_241_126 : look (tab 241) 126 = some (.iload_n 2, 1, [], uu) := by decide +kernel
theorem e_241_126 : den cf 241 126 [v0, v1, .int x, v3] st M = den cf 241 127 [v0, v1, .int x, v3] (.int x :: st) M := den_go l_241_126 rfl
theorem l_241_127 : look (tab 241) 127 = some (.ireturn, 1, [0], uu) := by decide +kernel
theorem e_241_127 : den cf 241 127 L [.int x] M = some (some (.int x), M) := den_e0 l_241_127
theorem l_241_128 : look (tab 241) 128 = some (.iload_n 1, 1, [], uu) := by decide +kernel
theorem e_241_128 : den cf 241 128 [v0, .int x, v2, v3] st M = den cf 241 129 [v0, .int x, v2, v3] (.int x :: st) M := den_go l_241_128 rfl
theorem l_241_129 : look (tab 241) 129 = some (.i2l, 1, [], uu) := by decide +kernel
theorem e_241_129 : den cf 241 129 L (.int x :: st) M = den cf 241 130 L (.long x.toInt64 :: st) M := den_go l_241_129 rfl
theorem l_241_130 : look (tab 241) 130 = some (.ldc2_w 149, 3, [399], .long (zJ 12)) := by decide +kernel
theorem e_241_130 : den cf 241 130 L st M = den cf 241 133 L (.long (zJ 12) :: st) M := den_go l_241_130 rfl
theorem l_241_133 : look (tab 241) 133 = some (.ldc2_w 364, 3, [1227], .long (zJ 16)) := by decide +kernel
theorem e_241_133 : den cf 241 133 L st M = den cf 241 136 L (.long (zJ 16) :: st) M := den_go l_241_133 rfl
theorem l_241_136 : look (tab 241) 136 = some (.invokestatic 83, 3, [1, 137, 3, 130, 131, 5], uu) := by decide +kernel
theorem e_241_136 : den cf 241 136 L (w3 :: w2 :: w1 :: st) M = if st.length ≤ 4 then rK (cf 137 [w1, w2, w3] M) (fun v M' => den cf 241 139 L (pR v st) M') else none := den_ist [w1, w2, w3] l_241_136 rfl
theorem l_241_139 : look (tab 241) 139 = some (.ifCond .eq 15, 3, [154], uu) := by decide +kernel
theorem e_241_139 : den cf 241 139 L (.int x :: st) M = if x = zI 0 then den cf 241 154 L st M else den cf 241 142 L st M := den_if_eq l_241_139
theorem l_241_142 : look (tab 241) 142 = some (.aload_n 0, 1, [], uu) := by decide +kernel
theorem e_241_142 : den cf 241 142 [.ref a, v1, v2, v3] st M = den cf 241 143 [.ref a, v1, v2, v3] (.ref a :: st) M := den_go l_241_142 rfl
theorem l_241_143 : look (tab 241) 143 = some (.getfield 34, 3, [6, 8, 87], uu) := by decide +kernel
theorem e_241_143 : den cf 241 143 L (.ref a :: st) M = oK (gfA (M.2.2 a) 6 8) (fun v => den cf 241 146 L (v :: st) M) := den_gf l_241_143
theorem l_241_146 : look (tab 241) 146 = some (.iload_n 1, 1, [], uu) := by decide +kernel
theorem e_241_146 : den cf 241 146 [v0, .int x, v2, v3] st M = den cf 241 147 [v0, .int x, v2, v3] (.int x :: st) M := den_go l_241_146 rfl
theorem l_241_147 : look (tab 241) 147 = some (.bipush 10, 2, [], .int (zI 10)) := by decide +kernel
theorem e_241_147 : den cf 241 147 L st M = den cf 241 149 L (.int (zI 10) :: st) M := den_go l_241_147 rfl
theorem l_241_149 : look (tab 241) 149 = some (.isub, 1, [], uu) := by decide +kernel
theorem e_241_149 : den cf 241 149 L (.int y :: .int x :: st) M = den cf 241 150 L (.int (x - y) :: st) M := den_go l_241_149 rfl
theorem l_241_150 : look (tab 241) 150 = some (.iaload, 1, [], uu) := by decide +kernel
theorem e_241_150 : den cf 241 150 L (.int x :: .ref a :: st) M = oK (ldI (M.2.2 a) x) (fun v => den cf 241 151 L (v :: st) M) := den_al (g := ldI) l_241_150 rfl
theorem l_241_151 : look (tab 241) 151 = some (.goto 4, 3, [155], uu) := by decide +kernel
theorem e_241_151 : den cf 241 151 L st M = den cf 241 155 L st M := den_go l_241_151 rfl
theorem l_241_154 : look (tab 241) 154 = some (.iconst (-1), 1, [], .int (zI (-1))) := by decide +kernel
theorem e_241_154 : den cf 241 154 L st M = den cf 241 155 L (.int (zI (-1)) :: st) M := den_go l_241_154 rfl
theorem l_241_155 : look (tab 241) 155 = some (.ireturn, 1, [0], uu) := by decide +kernel
theorem e_241_155 : den cf 241 155 L [.int x] M = some (some (.int x), M) := den_e0 l_241_155
/-! yJ6_bitCount_0f7a4 -/
theorem l_242_0 : look (tab 242) 0 = some (.iload_n 0, 1, [], uu) := by decide +kernel
theorem e_242_0 : den cf 242 0 [.int x] st M = den cf 242 1 [.int x] (.int x :: st) M := den_go l_242_0 rfl
theorem l_242_1 : look (tab 242) 1 = some (.iload_n 0, 1, [], uu) := by decide +kernel
theorem e_242_1 : den cf 242 1 [.int x] st M = den cf 242 2 [.int x] (.int x :: st) M := den_go l_242_1 rfl
theorem l_242_2 : look (tab 242) 2 = some (.iconst 1, 1, [], .int (zI 1)) := by decide +kernel
theorem e_242_2 : den cf 242 2 L st M = den cf 242 3 L (.int (zI 1) :: st) M := den_go l_242_2 rfl
theorem l_242_3 : look (tab 242) 3 = some (.iushr, 1, [], uu) := by decide +kernel
theorem e_242_3 : den cf 242 3 L (.int y :: .int x :: st) M = den cf 242 4 L (.int ((x.toUInt32 >>> (y.toUInt32 &&& Int32.toUInt32 31)).toInt32) :: st) M := den_go l_242_3 rfl
theorem l_242_4 : look (tab 242) 4 = some (.ldc_w 265, 3, [269], .int (zI 1431655765)) := by decide +kernel
theorem e_242_4 : den cf 242 4 L st M = den cf 242 7 L (.int (zI 1431655765) :: st) M := den_go l_242_4 rfl
theorem l_242_7 : look (tab 242) 7 = some (.iand, 1, [], uu) := by decide +kernel
theorem e_242_7 : den cf 242 7 L (.int y :: .int x :: st) M = den cf 242 8 L (.int (x &&& y) :: st) M := den_go l_242_7 rfl
theorem l_242_8 : look (tab 242) 8 = some (.isub, 1, [], uu) := by decide +kernel
theorem e_242_8 : den cf 242 8 L (.int y :: .int x :: st) M = den cf 242 9 L (.int (x - y) :: st) M := den_go l_242_8 rfl
theorem l_242_9 : look (tab 242) 9 = some (.istore_n 0, 1, [], uu) := by decide +kernel
theorem e_242_9 : den cf 242 9 [v0] (.int x :: st) M = den cf 242 10 [.int x] st M := den_st (k := 0) (v := .int x) l_242_9 rfl
theorem l_242_10 : look (tab 242) 10 = some (.iload_n 0, 1, [], uu) := by decide +kernel
theorem e_242_10 : den cf 242 10 [.int x] st M = den cf 242 11 [.int x] (.int x :: st) M := den_go l_242_10 rfl
theorem l_242_11 : look (tab 242) 11 = some (.ldc_w 266, 3, [270], .int (zI 858993459)) := by decide +kernel
theorem e_242_11 : den cf 242 11 L st M = den cf 242 14 L (.int (zI 858993459) :: st) M := den_go l_242_11 rfl
theorem l_242_14 : look (tab 242) 14 = some (.iand, 1, [], uu) := by decide +kernel
theorem e_242_14 : den cf 242 14 L (.int y :: .int x :: st) M = den cf 242 15 L (.int (x &&& y) :: st) M := den_go l_242_14 rfl
theorem l_242_15 : look (tab 242) 15 = some (.iload_n 0, 1, [], uu) := by decide +kernel
theorem e_242_15 : den cf 242 15 [.int x] st M = den cf 242 16 [.int x] (.int x :: st) M := den_go l_242_15 rfl
theorem l_242_16 : look (tab 242) 16 = some (.iconst 2, 1, [], .int (zI 2)) := by decide +kernel
theorem e_242_16 : den cf 242 16 L st M = den cf 242 17 L (.int (zI 2) :: st) M := den_go l_242_16 rfl
theorem l_242_17 : look (tab 242) 17 = some (.iushr, 1, [], uu) := by decide +kernel
theorem e_242_17 : den cf 242 17 L (.int y :: .int x :: st) M = den cf 242 18 L (.int ((x.toUInt32 >>> (y.toUInt32 &&& Int32.toUInt32 31)).toInt32) :: st) M := den_go l_242_17 rfl
theorem l_242_18 : look (tab 242) 18 = some (.ldc_w 266, 3, [270], .int (zI 858993459)) := by decide +kernel
theorem e_242_18 : den cf 242 18 L st M = den cf 242 21 L (.int (zI 858993459) :: st) M := den_go l_242_18 rfl
theorem l_242_21 : look (tab 242) 21 = some (.iand, 1, [], uu) := by decide +kernel
theorem e_242_21 : den cf 242 21 L (.int y :: .int x :: st) M = den cf 242 22 L (.int (x &&& y) :: st) M := den_go l_242_21 rfl
theorem l_242_22 : look (tab 242) 22 = some (.iadd, 1, [], uu) := by decide +kernel
theorem e_242_22 : den cf 242 22 L (.int y :: .int x :: st) M = den cf 242 23 L (.int (x + y) :: st) M := den_go l_242_22 rfl
theorem l_242_23 : look (tab 242) 23 = some (.istore_n 0, 1, [], uu) := by decide +kernel
theorem e_242_23 : den cf 242 23 [v0] (.int x :: st) M = den cf 242 24 [.int x] st M := den_st (k := 0) (v := .int x) l_242_23 rfl
theorem l_242_24 : look (tab 242) 24 = some (.iload_n 0, 1, [], uu) := by decide +kernel
theorem e_242_24 : den cf 242 24 [.int x] st M = den cf 242 25 [.int x] (.int x :: st) M := den_go l_242_24 rfl
theorem l_242_25 : look (tab 242) 25 = some (.iload_n 0, 1, [], uu) := by decide +kernel
theorem e_242_25 : den cf 242 25 [.int x] st M = den cf 242 26 [.int x] (.int x :: st) M := den_go l_242_25 rfl
theorem l_242_26 : look (tab 242) 26 = some (.iconst 4, 1, [], .int (zI 4)) := by decide +kernel
theorem e_242_26 : den cf 242 26 L st M = den cf 242 27 L (.int (zI 4) :: st) M := den_go l_242_26 rfl
theorem l_242_27 : look (tab 242) 27 = some (.iushr, 1, [], uu) := by decide +kernel
theorem e_242_27 : den cf 242 27 L (.int y :: .int x :: st) M = den cf 242 28 L (.int ((x.toUInt32 >>> (y.toUInt32 &&& Int32.toUInt32 31)).toInt32) :: st) M := den_go l_242_27 rfl
theorem l_242_28 : look (tab 242) 28 = some (.iadd, 1, [], uu) := by decide +kernel
theorem e_242_28 : den cf 242 28 L (.int y :: .int x :: st) M = den cf 242 29 L (.int (x + y) :: st) M := den_go l_242_28 rfl
theorem l_242_29 : look (tab 242) 29 = some (.ldc_w 267, 3, [271], .int (zI 252645135)) := by decide +kernel
theorem e_242_29 : den cf 242 29 L st M = den cf 242 32 L (.int (zI 252645135) :: st) M := den_go l_242_29 rfl
theorem l_242_32 : look (tab 242) 32 = some (.iand, 1, [], uu) := by decide +kernel
theorem e_242_32 : den cf 242 32 L (.int y :: .int x :: st) M = den cf 242 33 L (.int (x &&& y) :: st) M := den_go l_242_32 rfl
theorem l_242_33 : look (tab 242) 33 = some (.istore_n 0, 1, [], uu) := by decide +kernel
theorem e_242_33 : den cf 242 33 [v0] (.int x :: st) M = den cf 242 34 [.int x] st M := den_st (k := 0) (v := .int x) l_242_33 rfl
theorem l_242_34 : look (tab 242) 34 = some (.iload_n 0, 1, [], uu) := by decide +kernel
theorem e_242_34 : den cf 242 34 [.int x] st M = den cf 242 35 [.int x] (.int x :: st) M := den_go l_242_34 rfl
theorem l_242_35 : look (tab 242) 35 = some (.iload_n 0, 1, [], uu) := by decide +kernel
theorem e_242_35 : den cf 242 35 [.int x] st M = den cf 242 36 [.int x] (.int x :: st) M := den_go l_242_35 rfl
theorem l_242_36 : look (tab 242) 36 = some (.bipush 8, 2, [], .int (zI 8)) := by decide +kernel
theorem e_242_36 : den cf 242 36 L st M = den cf 242 38 L (.int (zI 8) :: st) M := den_go l_242_36 rfl
theorem l_242_38 : look (tab 242) 38 = some (.iushr, 1, [], uu) := by decide +kernel
theorem e_242_38 : den cf 242 38 L (.int y :: .int x :: st) M = den cf 242 39 L (.int ((x.toUInt32 >>> (y.toUInt32 &&& Int32.toUInt32 31)).toInt32) :: st) M := den_go l_242_38 rfl
theorem l_242_39 : look (tab 242) 39 = some (.iadd, 1, [], uu) := by decide +kernel
theorem e_242_39 : den cf 242 39 L (.int y :: .int x :: st) M = den cf 242 40 L (.int (x + y) :: st) M := den_go l_242_39 rfl
theorem l_242_40 : look (tab 242) 40 = some (.istore_n 0, 1, [], uu) := by decide +kernel
theorem e_242_40 : den cf 242 40 [v0] (.int x :: st) M = den cf 242 41 [.int x] st M := den_st (k := 0) (v := .int x) l_242_40 rfl
theorem l_242_41 : look (tab 242) 41 = some (.iload_n 0, 1, [], uu) := by decide +kernel
theorem e_242_41 : den cf 242 41 [.int x] st M = den cf 242 42 [.int x] (.int x :: st) M := den_go l_242_41 rfl
theorem l_242_42 : look (tab 242) 42 = some (.iload_n 0, 1, [], uu) := by decide +kernel
theorem e_242_42 : den cf 242 42 [.int x] st M = den cf 242 43 [.int x] (.int x :: st) M := den_go l_242_42 rfl
theorem l_242_43 : look (tab 242) 43 = some (.bipush 16, 2, [], .int (zI 16)) := by decide +kernel
theorem e_242_43 : den cf 242 43 L st M = den cf 242 45 L (.int (zI 16) :: st) M := den_go l_242_43 rfl
theorem l_242_45 : look (tab 242) 45 = some (.iushr, 1, [], uu) := by decide +kernel
theorem e_242_45 : den cf 242 45 L (.int y :: .int x :: st) M = den cf 242 46 L (.int ((x.toUInt32 >>> (y.toUInt32 &&& Int32.toUInt32 31)).toInt32) :: st) M := den_go l_242_45 rfl
theorem l_242_46 : look (tab 242) 46 = some (.iadd, 1, [], uu) := by decide +kernel
theorem e_242_46 : den cf 242 46 L (.int y :: .int x :: st) M = den cf 242 47 L (.int (x + y) :: st) M := den_go l_242_46 rfl
theorem l_242_47 : look (tab 242) 47 = some (.istore_n 0, 1, [], uu) := by decide +kernel
theorem e_242_47 : den cf 242 47 [v0] (.int x :: st) M = den cf 242 48 [.int x] st M := den_st (k := 0) (v := .int x) l_242_47 rfl
theorem l_242_48 : look (tab 242) 48 = some (.iload_n 0, 1, [], uu) := by decide +kernel
theorem e_242_48 : den cf 242 48 [.int x] st M = den cf 242 49 [.int x] (.int x :: st) M := den_go l_242_48 rfl
theorem l_242_49 : look (tab 242) 49 = some (.bipush 63, 2, [], .int (zI 63)) := by decide +kernel
theorem e_242_49 : den cf 242 49 L st M = den cf 242 51 L (.int (zI 63) :: st) M := den_go l_242_49 rfl
theorem l_242_51 : look (tab 242) 51 = some (.iand, 1, [], uu) := by decide +kernel
theorem e_242_51 : den cf 242 51 L (.int y :: .int x :: st) M = den cf 242 52 L (.int (x &&& y) :: st) M := den_go l_242_51 rfl
theorem l_242_52 : look (tab 242) 52 = some (.ireturn, 1, [0], uu) := by decide +kernel
theorem e_242_52 : den cf 242 52 L [.int x] M = some (some (.int x), M) := den_e0 l_242_52
/-! yJ9_max_7cf53 -/
theorem l_243_0 : look (tab 243) 0 = some (.iload_n 0, 1, [], uu) := by decide +kernel
theorem e_243_0 : den cf 243 0 [.int x, v1] st M = den cf 243 1 [.int x, v1] (.int x :: st) M := den_go l_243_0 rfl
theorem l_243_1 : look (tab 243) 1 = some (.iload_n 1, 1, [], uu) := by decide +kernel
theorem e_243_1 : den cf 243 1 [v0, .int x] st M = den cf 243 2 [v0, .int x] (.int x :: st) M := den_go l_243_1 rfl
theorem l_243_2 : look (tab 243) 2 = some (.if_icmp .lt 7, 3, [9], uu) := by decide +kernel
theorem e_243_2 : den cf 243 2 L (.int y :: .int x :: st) M = if x < y then den cf 243 9 L st M else den cf 243 5 L st M := den_ic_lt l_243_2
theorem l_243_5 : look (tab 243) 5 = some (.iload_n 0, 1, [], uu) := by decide +kernel
theorem e_243_5 : den cf 243 5 [.int x, v1] st M = den cf 243 6 [.int x, v1] (.int x :: st) M := den_go l_243_5 rfl
theorem l_243_6 : look (tab 243) 6 = some (.goto 4, 3, [10], uu) := by decide +kernel
theorem e_243_6 : den cf 243 6 L st M = den cf 243 10 L st M := den_go l_243_6 rfl
theorem l_243_9 : look (tab 243) 9 = some (.iload_n 1, 1, [], uu) := by decide +kernel
theorem e_243_9 : den cf 243 9 [v0, .int x] st M = den cf 243 10 [v0, .int x] (.int x :: st) M := den_go l_243_9 rfl
theorem l_243_10 : look (tab 243) 10 = some (.ireturn, 1, [0], uu) := by decide +kernel
theorem e_243_10 : den cf 243 10 L [.int x] M = some (some (.int x), M) := den_e0 l_243_10
/-! yJ9_min_7cf53 -/
theorem l_244_0 : look (tab 244) 0 = some (.iload_n 0, 1, [], uu) := by decide +kernel
theorem e_244_0 : den cf 244 0 [.int x, v1] st M = den cf 244 1 [.int x, v1] (.int x :: st) M := den_go l_244_0 rfl
theorem l_244_1 : look (tab 244) 1 = some (.iload_n 1, 1, [], uu) := by decide +kernel
theorem e_244_1 : den cf 244 1 [v0, .int x] st M = den cf 244 2 [v0, .int x] (.int x :: st) M := den_go l_244_1 rfl
theorem l_244_2 : look (tab 244) 2 = some (.if_icmp .gt 7, 3, [9], uu) := by decide +kernel
theorem e_244_2 : den cf 244 2 L (.int y :: .int x :: st) M = if y < x then den cf 244 9 L st M else den cf 244 5 L st M := den_ic_gt l_244_2
theorem l_244_5 : look (tab 244) 5 = some (.iload_n 0, 1, [], uu) := by decide +kernel
theorem e_244_5 : den cf 244 5 [.int x, v1] st M = den cf 244 6 [.int x, v1] (.int x :: st) M := den_go l_244_5 rfl
theorem l_244_6 : look (tab 244) 6 = some (.goto 4, 3, [10], uu) := by decide +kernel
theorem e_244_6 : den cf 244 6 L st M = den cf 244 10 L st M := den_go l_244_6 rfl
theorem l_244_9 : look (tab 244) 9 = some (.iload_n 1, 1, [], uu) := by decide +kernel
theorem e_244_9 : den cf 244 9 [v0, .int x] st M = den cf 244 10 [v0, .int x] (.int x :: st) M := den_go l_244_9 rfl
theorem l_244_10 : look (tab 244) 10 = some (.ireturn, 1, [0], uu) := by decide +kernel
theorem e_244_10 : den cf 244 10 L [.int x] M = some (some (.int x), M) := den_e0 l_244_10
