variable {cf : Nat → List Value → AM → Option AR} {L st : List Value} {M : AM} {x y : Int32} {p q : Int64} {a b : Nat} {v w : Value} {o : Option Nat} {v0 v1 v2 v3 v4 v5 v6 v7 v8 v9 v10 v11 v12 v13 v14 v15 v16 v17 v18 v19 v20 w1 w2 w3 w4 w5 w6 : Value}
/-! yX6_feed -/
theorem l_161_0 : look (tab 161) 0 = some (.iload_n 1, 1, [], uu) := by decide +kernel
theorem e_161_0 : den cf 161 0 [v0, .int x] st M = den cf 161 1 [v0, .int x] (.int x :: st) M := den_go l_161_0 rfl
theorem l_161_1 : look (tab 161) 1 = some (.i2l, 1, [], uu) := by decide +kernel
theorem e_161_1 : den cf 161 1 L (.int x :: st) M = den cf 161 2 L (.long x.toInt64 :: st) M := den_go l_161_1 rfl
theorem l_161_2 : look (tab 161) 2 = some (.lconst 0, 1, [], .long (zJ 0)) := by decide +kernel
theorem e_161_2 : den cf 161 2 L st M = den cf 161 3 L (.long (zJ 0) :: st) M := den_go l_161_2 rfl
theorem l_161_3 : look (tab 161) 3 = some (.ldc2_w 151, 3, [413], .long (zJ 255)) := by decide +kernel
theorem e_161_3 : den cf 161 3 L st M = den cf 161 6 L (.long (zJ 255) :: st) M := den_go l_161_3 rfl
theorem l_161_6 : look (tab 161) 6 = some (.invokestatic 83, 3, [1, 137, 3, 130, 131, 5], uu) := by decide +kernel
theorem e_161_6 : den cf 161 6 L (w3 :: w2 :: w1 :: st) M = if st.length ≤ 4 then rK (cf 137 [w1, w2, w3] M) (fun v M' => den cf 161 9 L (pR v st) M') else none := den_ist [w1, w2, w3] l_161_6 rfl
theorem l_161_9 : look (tab 161) 9 = some (.ifCond .ne 10, 3, [19], uu) := by decide +kernel
theorem e_161_9 : den cf 161 9 L (.int x :: st) M = if x = zI 0 then den cf 161 12 L st M else den cf 161 19 L st M := den_if_ne l_161_9
theorem l_161_12 : look (tab 161) 12 = some (.aload_n 0, 1, [], uu) := by decide +kernel
theorem e_161_12 : den cf 161 12 [.ref a, v1] st M = den cf 161 13 [.ref a, v1] (.ref a :: st) M := den_go l_161_12 rfl
theorem l_161_13 : look (tab 161) 13 = some (.bipush (-2), 2, [], .int (zI (-2))) := by decide +kernel
theorem e_161_13 : den cf 161 13 L st M = den cf 161 15 L (.int (zI (-2)) :: st) M := den_go l_161_13 rfl
theorem l_161_15 : look (tab 161) 15 = some (.invokevirtual 93, 3, [6, 136, 2, 133, 134, 135, 5], uu) := by decide +kernel
theorem e_161_15 : den cf 161 15 L (w1 :: .ref a :: st) M = if rcv M 6 [.ref a, w1] = true ∧ st.length ≤ 4 then rK (cf 136 [.ref a, w1] M) (fun v M' => den cf 161 18 L (pR v st) M') else none := den_iv [w1] l_161_15 rfl
theorem l_161_18 : look (tab 161) 18 = some (.ireturn, 1, [0], uu) := by decide +kernel
theorem e_161_18 : den cf 161 18 L [.int x] M = some (some (.int x), M) := den_e0 l_161_18
theorem l_161_19 : look (tab 161) 19 = some (.aload_n 0, 1, [], uu) := by decide +kernel
theorem e_161_19 : den cf 161 19 [.ref a, v1] st M = den cf 161 20 [.ref a, v1] (.ref a :: st) M := den_go l_161_19 rfl
theorem l_161_20 : look (tab 161) 20 = some (.getfield 153, 3, [6, 7, 414], uu) := by decide +kernel
theorem e_161_20 : den cf 161 20 L (.ref a :: st) M = oK (gfA (M.2.2 a) 6 7) (fun v => den cf 161 23 L (v :: st) M) := den_gf l_161_20
theorem l_161_23 : look (tab 161) 23 = some (.sipush 250, 3, [], .int (zI 250)) := by decide +kernel
theorem e_161_23 : den cf 161 23 L st M = den cf 161 26 L (.int (zI 250) :: st) M := den_go l_161_23 rfl
theorem l_161_26 : look (tab 161) 26 = some (.if_icmp .ne 10, 3, [36], uu) := by decide +kernel
theorem e_161_26 : den cf 161 26 L (.int y :: .int x :: st) M = if x = y then den cf 161 29 L st M else den cf 161 36 L st M := den_ic_ne l_161_26
theorem l_161_29 : look (tab 161) 29 = some (.aload_n 0, 1, [], uu) := by decide +kernel
theorem e_161_29 : den cf 161 29 [.ref a, v1] st M = den cf 161 30 [.ref a, v1] (.ref a :: st) M := den_go l_161_29 rfl
theorem l_161_30 : look (tab 161) 30 = some (.bipush (-6), 2, [], .int (zI (-6))) := by decide +kernel
theorem e_161_30 : den cf 161 30 L st M = den cf 161 32 L (.int (zI (-6)) :: st) M := den_go l_161_30 rfl
theorem l_161_32 : look (tab 161) 32 = some (.invokevirtual 93, 3, [6, 136, 2, 133, 134, 135, 5], uu) := by decide +kernel
theorem e_161_32 : den cf 161 32 L (w1 :: .ref a :: st) M = if rcv M 6 [.ref a, w1] = true ∧ st.length ≤ 4 then rK (cf 136 [.ref a, w1] M) (fun v M' => den cf 161 35 L (pR v st) M') else none := den_iv [w1] l_161_32 rfl
theorem l_161_35 : look (tab 161) 35 = some (.ireturn, 1, [0], uu) := by decide +kernel
theorem e_161_35 : den cf 161 35 L [.int x] M = some (some (.int x), M) := den_e0 l_161_35
theorem l_161_36 : look (tab 161) 36 = some (.aload_n 0, 1, [], uu) := by decide +kernel
theorem e_161_36 : den cf 161 36 [.ref a, v1] st M = den cf 161 37 [.ref a, v1] (.ref a :: st) M := den_go l_161_36 rfl
theorem l_161_37 : look (tab 161) 37 = some (.getfield 31, 3, [6, 6, 86], uu) := by decide +kernel
theorem e_161_37 : den cf 161 37 L (.ref a :: st) M = oK (gfA (M.2.2 a) 6 6) (fun v => den cf 161 40 L (v :: st) M) := den_gf l_161_37
theorem l_161_40 : look (tab 161) 40 = some (.aload_n 0, 1, [], uu) := by decide +kernel
theorem e_161_40 : den cf 161 40 [.ref a, v1] st M = den cf 161 41 [.ref a, v1] (.ref a :: st) M := den_go l_161_40 rfl
theorem l_161_41 : look (tab 161) 41 = some (.dup, 1, [], uu) := by decide +kernel
theorem e_161_41 : den cf 161 41 L (.ref a :: st) M = den cf 161 42 L (.ref a :: .ref a :: st) M := den_go l_161_41 rfl
theorem e_161_41_i : den cf 161 41 L (.int x :: st) M = den cf 161 42 L (.int x :: .int x :: st) M := den_go l_161_41 rfl
theorem l_161_42 : look (tab 161) 42 = some (.getfield 153, 3, [6, 7, 414], uu) := by decide +kernel
theorem e_161_42 : den cf 161 42 L (.ref a :: st) M = oK (gfA (M.2.2 a) 6 7) (fun v => den cf 161 45 L (v :: st) M) := den_gf l_161_42
theorem l_161_45 : look (tab 161) 45 = some (.dup_x1, 1, [], uu) := by decide +kernel
theorem e_161_45 : den cf 161 45 L (.int x :: .ref a :: st) M = den cf 161 46 L (.int x :: .ref a :: .int x :: st) M := den_go l_161_45 rfl
theorem l_161_46 : look (tab 161) 46 = some (.iconst 1, 1, [], .int (zI 1)) := by decide +kernel
theorem e_161_46 : den cf 161 46 L st M = den cf 161 47 L (.int (zI 1) :: st) M := den_go l_161_46 rfl
theorem l_161_47 : look (tab 161) 47 = some (.iadd, 1, [], uu) := by decide +kernel
theorem e_161_47 : den cf 161 47 L (.int y :: .int x :: st) M = den cf 161 48 L (.int (x + y) :: st) M := den_go l_161_47 rfl
theorem l_161_48 : look (tab 161) 48 = some (.putfield 153, 3, [6, 7, 0, 414, 0], uu) := by decide +kernel
theorem e_161_48 : den cf 161 48 L (.int x :: .ref a :: st) M = oK (pfA (M.2.2 a) 6 7 (.int x)) (fun c => den cf 161 51 L st (mU M a c)) := den_pf0 l_161_48
theorem l_161_51 : look (tab 161) 51 = some (.iload_n 1, 1, [], uu) := by decide +kernel
theorem e_161_51 : den cf 161 51 [v0, .int x] st M = den cf 161 52 [v0, .int x] (.int x :: st) M := den_go l_161_51 rfl
theorem l_161_52 : look (tab 161) 52 = some (.iastore, 1, [], uu) := by decide +kernel
theorem e_161_52 : den cf 161 52 L (.int x :: .int y :: .ref a :: st) M = oK (stI (M.2.2 a) y x) (fun c => den cf 161 53 L st (mU M a c)) := den_is l_161_52
theorem l_161_53 : look (tab 161) 53 = some (.aload_n 0, 1, [], uu) := by decide +kernel
theorem e_161_53 : den cf 161 53 [.ref a, v1] st M = den cf 161 54 [.ref a, v1] (.ref a :: st) M := den_go l_161_53 rfl
theorem l_161_54 : look (tab 161) 54 = some (.getfield 153, 3, [6, 7, 414], uu) := by decide +kernel
theorem e_161_54 : den cf 161 54 L (.ref a :: st) M = oK (gfA (M.2.2 a) 6 7) (fun v => den cf 161 57 L (v :: st) M) := den_gf l_161_54
theorem l_161_57 : look (tab 161) 57 = some (.ireturn, 1, [0], uu) := by decide +kernel
theorem e_161_57 : den cf 161 57 L [.int x] M = some (some (.int x), M) := den_e0 l_161_57
/-! yX6_wipe -/
theorem l_162_0 : look (tab 162) 0 = some (.aload_n 0, 1, [], uu) := by decide +kernel
theorem e_162_0 : den cf 162 0 [.ref a, v1] st M = den cf 162 1 [.ref a, v1] (.ref a :: st) M := den_go l_162_0 rfl
theorem l_162_1 : look (tab 162) 1 = some (.getfield 153, 3, [6, 7, 414], uu) := by decide +kernel
theorem e_162_1 : den cf 162 1 L (.ref a :: st) M = oK (gfA (M.2.2 a) 6 7) (fun v => den cf 162 4 L (v :: st) M) := den_gf l_162_1
theorem l_162_4 : look (tab 162) 4 = some (.istore_n 1, 1, [], uu) := by decide +kernel
theorem e_162_4 : den cf 162 4 [v0, v1] (.int x :: st) M = den cf 162 5 [kq v0, .int x] st M := den_st (k := 1) (v := .int x) l_162_4 rfl
theorem l_162_5 : look (tab 162) 5 = some (.aload_n 0, 1, [], uu) := by decide +kernel
theorem e_162_5 : den cf 162 5 [.ref a, v1] st M = den cf 162 6 [.ref a, v1] (.ref a :: st) M := den_go l_162_5 rfl
theorem l_162_6 : look (tab 162) 6 = some (.iconst 0, 1, [], .int (zI 0)) := by decide +kernel
theorem e_162_6 : den cf 162 6 L st M = den cf 162 7 L (.int (zI 0) :: st) M := den_go l_162_6 rfl
theorem l_162_7 : look (tab 162) 7 = some (.putfield 153, 3, [6, 7, 0, 414, 0], uu) := by decide +kernel
theorem e_162_7 : den cf 162 7 L (.int x :: .ref a :: st) M = oK (pfA (M.2.2 a) 6 7 (.int x)) (fun c => den cf 162 10 L st (mU M a c)) := den_pf0 l_162_7
theorem l_162_10 : look (tab 162) 10 = some (.iload_n 1, 1, [], uu) := by decide +kernel
theorem e_162_10 : den cf 162 10 [v0, .int x] st M = den cf 162 11 [v0, .int x] (.int x :: st) M := den_go l_162_10 rfl
theorem l_162_11 : look (tab 162) 11 = some (.ireturn, 1, [0], uu) := by decide +kernel
theorem e_162_11 : den cf 162 11 L [.int x] M = some (some (.int x), M) := den_e0 l_162_11
/-! yX6_isLetter -/
theorem l_163_0 : look (tab 163) 0 = some (.iload_n 0, 1, [], uu) := by decide +kernel
theorem e_163_0 : den cf 163 0 [.int x] st M = den cf 163 1 [.int x] (.int x :: st) M := den_go l_163_0 rfl
theorem l_163_1 : look (tab 163) 1 = some (.bipush 97, 2, [], .int (zI 97)) := by decide +kernel
theorem e_163_1 : den cf 163 1 L st M = den cf 163 3 L (.int (zI 97) :: st) M := den_go l_163_1 rfl
theorem l_163_3 : look (tab 163) 3 = some (.if_icmp .lt 13, 3, [16], uu) := by decide +kernel
theorem e_163_3 : den cf 163 3 L (.int y :: .int x :: st) M = if x < y then den cf 163 16 L st M else den cf 163 6 L st M := den_ic_lt l_163_3
theorem l_163_6 : look (tab 163) 6 = some (.iload_n 0, 1, [], uu) := by decide +kernel
theorem e_163_6 : den cf 163 6 [.int x] st M = den cf 163 7 [.int x] (.int x :: st) M := den_go l_163_6 rfl
theorem l_163_7 : look (tab 163) 7 = some (.bipush 122, 2, [], .int (zI 122)) := by decide +kernel
theorem e_163_7 : den cf 163 7 L st M = den cf 163 9 L (.int (zI 122) :: st) M := den_go l_163_7 rfl
theorem l_163_9 : look (tab 163) 9 = some (.if_icmp .gt 7, 3, [16], uu) := by decide +kernel
theorem e_163_9 : den cf 163 9 L (.int y :: .int x :: st) M = if y < x then den cf 163 16 L st M else den cf 163 12 L st M := den_ic_gt l_163_9
theorem l_163_12 : look (tab 163) 12 = some (.iconst 1, 1, [], .int (zI 1)) := by decide +kernel
theorem e_163_12 : den cf 163 12 L st M = den cf 163 13 L (.int (zI 1) :: st) M := den_go l_163_12 rfl
theorem l_163_13 : look (tab 163) 13 = some (.goto 4, 3, [17], uu) := by decide +kernel
theorem e_163_13 : den cf 163 13 L st M = den cf 163 17 L st M := den_go l_163_13 rfl
theorem l_163_16 : look (tab 163) 16 = some (.iconst 0, 1, [], .int (zI 0)) := by decide +kernel
theorem e_163_16 : den cf 163 16 L st M = den cf 163 17 L (.int (zI 0) :: st) M := den_go l_163_16 rfl
theorem l_163_17 : look (tab 163) 17 = some (.ireturn, 1, [1], uu) := by decide +kernel
theorem e_163_17 : den cf 163 17 L [.int x] M = if x = zI 0 ∨ x = zI 1 then some (some (.int x), M) else none := den_e1 l_163_17
/-! yX6_isDigit -/
theorem l_164_0 : look (tab 164) 0 = some (.iload_n 0, 1, [], uu) := by decide +kernel
theorem e_164_0 : den cf 164 0 [.int x] st M = den cf 164 1 [.int x] (.int x :: st) M := den_go l_164_0 rfl
theorem l_164_1 : look (tab 164) 1 = some (.bipush 48, 2, [], .int (zI 48)) := by decide +kernel
theorem e_164_1 : den cf 164 1 L st M = den cf 164 3 L (.int (zI 48) :: st) M := den_go l_164_1 rfl
theorem l_164_3 : look (tab 164) 3 = some (.if_icmp .lt 13, 3, [16], uu) := by decide +kernel
theorem e_164_3 : den cf 164 3 L (.int y :: .int x :: st) M = if x < y then den cf 164 16 L st M else den cf 164 6 L st M := den_ic_lt l_164_3
theorem l_164_6 : look (tab 164) 6 = some (.iload_n 0, 1, [], uu) := by decide +kernel
theorem e_164_6 : den cf 164 6 [.int x] st M = den cf 164 7 [.int x] (.int x :: st) M := den_go l_164_6 rfl
theorem l_164_7 : look (tab 164) 7 = some (.bipush 57, 2, [], .int (zI 57)) := by decide +kernel
theorem e_164_7 : den cf 164 7 L st M = den cf 164 9 L (.int (zI 57) :: st) M := den_go l_164_7 rfl
theorem l_164_9 : look (tab 164) 9 = some (.if_icmp .gt 7, 3, [16], uu) := by decide +kernel
theorem e_164_9 : den cf 164 9 L (.int y :: .int x :: st) M = if y < x then den cf 164 16 L st M else den cf 164 12 L st M := den_ic_gt l_164_9
theorem l_164_12 : look (tab 164) 12 = some (.iconst 1, 1, [], .int (zI 1)) := by decide +kernel
theorem e_164_12 : den cf 164 12 L st M = den cf 164 13 L (.int (zI 1) :: st) M := den_go l_164_12 rfl
theorem l_164_13 : look (tab 164) 13 = some (.goto 4, 3, [17], uu) := by decide +kernel
theorem e_164_13 : den cf 164 13 L st M = den cf 164 17 L st M := den_go l_164_13 rfl
theorem l_164_16 : look (tab 164) 16 = some (.iconst 0, 1, [], .int (zI 0)) := by decide +kernel
theorem e_164_16 : den cf 164 16 L st M = den cf 164 17 L (.int (zI 0) :: st) M := den_go l_164_16 rfl
theorem l_164_17 : look (tab 164) 17 = some (.ireturn, 1, [1], uu) := by decide +kernel
theorem e_164_17 : den cf 164 17 L [.int x] M = if x = zI 0 ∨ x = zI 1 then some (some (.int x), M) else none := den_e1 l_164_17
/-! yX6_look -/
theorem l_165_0 : look (tab 165) 0 = some (.aload_n 0, 1, [], uu) := by decide +kernel
theorem e_165_0 : den cf 165 0 [.ref a] st M = den cf 165 1 [.ref a] (.ref a :: st) M := den_go l_165_0 rfl
theorem l_165_1 : look (tab 165) 1 = some (.getfield 156, 3, [6, 23, 580], uu) := by decide +kernel
theorem e_165_1 : den cf 165 1 L (.ref a :: st) M = oK (gfA (M.2.2 a) 6 23) (fun v => den cf 165 4 L (v :: st) M) := den_gf l_165_1
theorem l_165_4 : look (tab 165) 4 = some (.aload_n 0, 1, [], uu) := by decide +kernel
theorem e_165_4 : den cf 165 4 [.ref a] st M = den cf 165 5 [.ref a] (.ref a :: st) M := den_go l_165_4 rfl
theorem l_165_5 : look (tab 165) 5 = some (.getfield 153, 3, [6, 7, 414], uu) := by decide +kernel
theorem e_165_5 : den cf 165 5 L (.ref a :: st) M = oK (gfA (M.2.2 a) 6 7) (fun v => den cf 165 8 L (v :: st) M) := den_gf l_165_5
theorem l_165_8 : look (tab 165) 8 = some (.if_icmp .ge 30, 3, [38], uu) := by decide +kernel
theorem e_165_8 : den cf 165 8 L (.int y :: .int x :: st) M = if x < y then den cf 165 11 L st M else den cf 165 38 L st M := den_ic_ge l_165_8
theorem l_165_11 : look (tab 165) 11 = some (.aload_n 0, 1, [], uu) := by decide +kernel
theorem e_165_11 : den cf 165 11 [.ref a] st M = den cf 165 12 [.ref a] (.ref a :: st) M := den_go l_165_11 rfl
theorem l_165_12 : look (tab 165) 12 = some (.getfield 31, 3, [6, 6, 86], uu) := by decide +kernel
theorem e_165_12 : den cf 165 12 L (.ref a :: st) M = oK (gfA (M.2.2 a) 6 6) (fun v => den cf 165 15 L (v :: st) M) := den_gf l_165_12
theorem l_165_15 : look (tab 165) 15 = some (.aload_n 0, 1, [], uu) := by decide +kernel
theorem e_165_15 : den cf 165 15 [.ref a] st M = den cf 165 16 [.ref a] (.ref a :: st) M := den_go l_165_15 rfl
theorem l_165_16 : look (tab 165) 16 = some (.getfield 156, 3, [6, 23, 580], uu) := by decide +kernel
theorem e_165_16 : den cf 165 16 L (.ref a :: st) M = oK (gfA (M.2.2 a) 6 23) (fun v => den cf 165 19 L (v :: st) M) := den_gf l_165_16
theorem l_165_19 : look (tab 165) 19 = some (.iaload, 1, [], uu) := by decide +kernel
theorem e_165_19 : den cf 165 19 L (.int x :: .ref a :: st) M = oK (ldI (M.2.2 a) x) (fun v => den cf 165 20 L (v :: st) M) := den_al (g := ldI) l_165_19 rfl
theorem l_165_20 : look (tab 165) 20 = some (.bipush 32, 2, [], .int (zI 32)) := by decide +kernel
theorem e_165_20 : den cf 165 20 L st M = den cf 165 22 L (.int (zI 32) :: st) M := den_go l_165_20 rfl
theorem l_165_22 : look (tab 165) 22 = some (.if_icmp .ne 16, 3, [38], uu) := by decide +kernel
theorem e_165_22 : den cf 165 22 L (.int y :: .int x :: st) M = if x = y then den cf 165 25 L st M else den cf 165 38 L st M := den_ic_ne l_165_22
theorem l_165_25 : look (tab 165) 25 = some (.aload_n 0, 1, [], uu) := by decide +kernel
theorem e_165_25 : den cf 165 25 [.ref a] st M = den cf 165 26 [.ref a] (.ref a :: st) M := den_go l_165_25 rfl
theorem l_165_26 : look (tab 165) 26 = some (.dup, 1, [], uu) := by decide +kernel
theorem e_165_26 : den cf 165 26 L (.ref a :: st) M = den cf 165 27 L (.ref a :: .ref a :: st) M := den_go l_165_26 rfl
theorem e_165_26_i : den cf 165 26 L (.int x :: st) M = den cf 165 27 L (.int x :: .int x :: st) M := den_go l_165_26 rfl
theorem l_165_27 : look (tab 165) 27 = some (.getfield 156, 3, [6, 23, 580], uu) := by decide +kernel
theorem e_165_27 : den cf 165 27 L (.ref a :: st) M = oK (gfA (M.2.2 a) 6 23) (fun v => den cf 165 30 L (v :: st) M) := den_gf l_165_27
theorem l_165_30 : look (tab 165) 30 = some (.iconst 1, 1, [], .int (zI 1)) := by decide +kernel
theorem e_165_30 : den cf 165 30 L st M = den cf 165 31 L (.int (zI 1) :: st) M := den_go l_165_30 rfl
theorem l_165_31 : look (tab 165) 31 = some (.iadd, 1, [], uu) := by decide +kernel
theorem e_165_31 : den cf 165 31 L (.int y :: .int x :: st) M = den cf 165 32 L (.int (x + y) :: st) M := den_go l_165_31 rfl
theorem l_165_32 : look (tab 165) 32 = some (.putfield 156, 3, [6, 23, 0, 580, 0], uu) := by decide +kernel
theorem e_165_32 : den cf 165 32 L (.int x :: .ref a :: st) M = oK (pfA (M.2.2 a) 6 23 (.int x)) (fun c => den cf 165 35 L st (mU M a c)) := den_pf0 l_165_32
theorem l_165_35 : look (tab 165) 35 = some (.goto (-35), 3, [0], uu) := by decide +kernel
theorem e_165_35 : den cf 165 35 L st M = den cf 165 0 L st M := den_go l_165_35 rfl
theorem l_165_38 : look (tab 165) 38 = some (.aload_n 0, 1, [], uu) := by decide +kernel
theorem e_165_38 : den cf 165 38 [.ref a] st M = den cf 165 39 [.ref a] (.ref a :: st) M := den_go l_165_38 rfl
theorem l_165_39 : look (tab 165) 39 = some (.aload_n 0, 1, [], uu) := by decide +kernel
theorem e_165_39 : den cf 165 39 [.ref a] st M = den cf 165 40 [.ref a] (.ref a :: st) M := den_go l_165_39 rfl
theorem l_165_40 : look (tab 165) 40 = some (.getfield 156, 3, [6, 23, 580], uu) := by decide +kernel
theorem e_165_40 : den cf 165 40 L (.ref a :: st) M = oK (gfA (M.2.2 a) 6 23) (fun v => den cf 165 43 L (v :: st) M) := den_gf l_165_40
theorem l_165_43 : look (tab 165) 43 = some (.putfield 159, 3, [6, 25, 0, 586, 0], uu) := by decide +kernel
theorem e_165_43 : den cf 165 43 L (.int x :: .ref a :: st) M = oK (pfA (M.2.2 a) 6 25 (.int x)) (fun c => den cf 165 46 L st (mU M a c)) := den_pf0 l_165_43
theorem l_165_46 : look (tab 165) 46 = some (.aload_n 0, 1, [], uu) := by decide +kernel
theorem e_165_46 : den cf 165 46 [.ref a] st M = den cf 165 47 [.ref a] (.ref a :: st) M := den_go l_165_46 rfl
theorem l_165_47 : look (tab 165) 47 = some (.iconst 0, 1, [], .int (zI 0)) := by decide +kernel
theorem e_165_47 : den cf 165 47 L st M = den cf 165 48 L (.int (zI 0) :: st) M := den_go l_165_47 rfl
theorem l_165_48 : look (tab 165) 48 = some (.putfield 162, 3, [6, 26, 0, 587, 0], uu) := by decide +kernel
theorem e_165_48 : den cf 165 48 L (.int x :: .ref a :: st) M = oK (pfA (M.2.2 a) 6 26 (.int x)) (fun c => den cf 165 51 L st (mU M a c)) := den_pf0 l_165_48
theorem l_165_51 : look (tab 165) 51 = some (.aload_n 0, 1, [], uu) := by decide +kernel
theorem e_165_51 : den cf 165 51 [.ref a] st M = den cf 165 52 [.ref a] (.ref a :: st) M := den_go l_165_51 rfl
theorem l_165_52 : look (tab 165) 52 = some (.getfield 156, 3, [6, 23, 580], uu) := by decide +kernel
theorem e_165_52 : den cf 165 52 L (.ref a :: st) M = oK (gfA (M.2.2 a) 6 23) (fun v => den cf 165 55 L (v :: st) M) := den_gf l_165_52
theorem l_165_55 : look (tab 165) 55 = some (.aload_n 0, 1, [], uu) := by decide +kernel
theorem e_165_55 : den cf 165 55 [.ref a] st M = den cf 165 56 [.ref a] (.ref a :: st) M := den_go l_165_55 rfl
theorem l_165_56 : look (tab 165) 56 = some (.getfield 153, 3, [6, 7, 414], uu) := by decide +kernel
theorem e_165_56 : den cf 165 56 L (.ref a :: st) M = oK (gfA (M.2.2 a) 6 7) (fun v => den cf 165 59 L (v :: st) M) := den_gf l_165_56
theorem l_165_59 : look (tab 165) 59 = some (.if_icmp .ne 11, 3, [70], uu) := by decide +kernel
theorem e_165_59 : den cf 165 59 L (.int y :: .int x :: st) M = if x = y then den cf 165 62 L st M else den cf 165 70 L st M := den_ic_ne l_165_59
theorem l_165_62 : look (tab 165) 62 = some (.aload_n 0, 1, [], uu) := by decide +kernel
theorem e_165_62 : den cf 165 62 [.ref a] st M = den cf 165 63 [.ref a] (.ref a :: st) M := den_go l_165_62 rfl
theorem l_165_63 : look (tab 165) 63 = some (.iconst 0, 1, [], .int (zI 0)) := by decide +kernel
theorem e_165_63 : den cf 165 63 L st M = den cf 165 64 L (.int (zI 0) :: st) M := den_go l_165_63 rfl
theorem l_165_64 : look (tab 165) 64 = some (.putfield 165, 3, [6, 24, 0, 581, 0], uu) := by decide +kernel
theorem e_165_64 : den cf 165 64 L (.int x :: .ref a :: st) M = oK (pfA (M.2.2 a) 6 24 (.int x)) (fun c => den cf 165 67 L st (mU M a c)) := den_pf0 l_165_64
theorem l_165_67 : look (tab 165) 67 = some (.goto 197, 3, [264], uu) := by decide +kernel
theorem e_165_67 : den cf 165 67 L st M = den cf 165 264 L st M := den_go l_165_67 rfl
theorem l_165_70 : look (tab 165) 70 = some (.aload_n 0, 1, [], uu) := by decide +kernel
theorem e_165_70 : den cf 165 70 [.ref a] st M = den cf 165 71 [.ref a] (.ref a :: st) M := den_go l_165_70 rfl
theorem l_165_71 : look (tab 165) 71 = some (.getfield 31, 3, [6, 6, 86], uu) := by decide +kernel
theorem e_165_71 : den cf 165 71 L (.ref a :: st) M = oK (gfA (M.2.2 a) 6 6) (fun v => den cf 165 74 L (v :: st) M) := den_gf l_165_71
theorem l_165_74 : look (tab 165) 74 = some (.aload_n 0, 1, [], uu) := by decide +kernel
theorem e_165_74 : den cf 165 74 [.ref a] st M = den cf 165 75 [.ref a] (.ref a :: st) M := den_go l_165_74 rfl
theorem l_165_75 : look (tab 165) 75 = some (.getfield 156, 3, [6, 23, 580], uu) := by decide +kernel
theorem e_165_75 : den cf 165 75 L (.ref a :: st) M = oK (gfA (M.2.2 a) 6 23) (fun v => den cf 165 78 L (v :: st) M) := den_gf l_165_75
theorem l_165_78 : look (tab 165) 78 = some (.iaload, 1, [], uu) := by decide +kernel
theorem e_165_78 : den cf 165 78 L (.int x :: .ref a :: st) M = oK (ldI (M.2.2 a) x) (fun v => den cf 165 79 L (v :: st) M) := den_al (g := ldI) l_165_78 rfl
theorem l_165_79 : look (tab 165) 79 = some (.invokestatic 168, 3, [1, 163, 1, 588, 589, 5], uu) := by decide +kernel
theorem e_165_79 : den cf 165 79 L (w1 :: st) M = if st.length ≤ 4 then rK (cf 163 [w1] M) (fun v M' => den cf 165 82 L (pR v st) M') else none := den_ist [w1] l_165_79 rfl
theorem l_165_82 : look (tab 165) 82 = some (.ifCond .eq 47, 3, [129], uu) := by decide +kernel
theorem e_165_82 : den cf 165 82 L (.int x :: st) M = if x = zI 0 then den cf 165 129 L st M else den cf 165 85 L st M := den_if_eq l_165_82
theorem l_165_85 : look (tab 165) 85 = some (.aload_n 0, 1, [], uu) := by decide +kernel
theorem e_165_85 : den cf 165 85 [.ref a] st M = den cf 165 86 [.ref a] (.ref a :: st) M := den_go l_165_85 rfl
theorem l_165_86 : look (tab 165) 86 = some (.iconst 1, 1, [], .int (zI 1)) := by decide +kernel
theorem e_165_86 : den cf 165 86 L st M = den cf 165 87 L (.int (zI 1) :: st) M := den_go l_165_86 rfl
theorem l_165_87 : look (tab 165) 87 = some (.putfield 165, 3, [6, 24, 0, 581, 0], uu) := by decide +kernel
theorem e_165_87 : den cf 165 87 L (.int x :: .ref a :: st) M = oK (pfA (M.2.2 a) 6 24 (.int x)) (fun c => den cf 165 90 L st (mU M a c)) := den_pf0 l_165_87
theorem l_165_90 : look (tab 165) 90 = some (.aload_n 0, 1, [], uu) := by decide +kernel
theorem e_165_90 : den cf 165 90 [.ref a] st M = den cf 165 91 [.ref a] (.ref a :: st) M := den_go l_165_90 rfl
theorem l_165_91 : look (tab 165) 91 = some (.getfield 156, 3, [6, 23, 580], uu) := by decide +kernel
theorem e_165_91 : den cf 165 91 L (.ref a :: st) M = oK (gfA (M.2.2 a) 6 23) (fun v => den cf 165 94 L (v :: st) M) := den_gf l_165_91
theorem l_165_94 : look (tab 165) 94 = some (.aload_n 0, 1, [], uu) := by decide +kernel
theorem e_165_94 : den cf 165 94 [.ref a] st M = den cf 165 95 [.ref a] (.ref a :: st) M := den_go l_165_94 rfl
theorem l_165_95 : look (tab 165) 95 = some (.getfield 153, 3, [6, 7, 414], uu) := by decide +kernel
theorem e_165_95 : den cf 165 95 L (.ref a :: st) M = oK (gfA (M.2.2 a) 6 7) (fun v => den cf 165 98 L (v :: st) M) := den_gf l_165_95
theorem l_165_98 : look (tab 165) 98 = some (.if_icmp .ge 166, 3, [264], uu) := by decide +kernel
theorem e_165_98 : den cf 165 98 L (.int y :: .int x :: st) M = if x < y then den cf 165 101 L st M else den cf 165 264 L st M := den_ic_ge l_165_98
theorem l_165_101 : look (tab 165) 101 = some (.aload_n 0, 1, [], uu) := by decide +kernel
theorem e_165_101 : den cf 165 101 [.ref a] st M = den cf 165 102 [.ref a] (.ref a :: st) M := den_go l_165_101 rfl
theorem l_165_102 : look (tab 165) 102 = some (.getfield 31, 3, [6, 6, 86], uu) := by decide +kernel
theorem e_165_102 : den cf 165 102 L (.ref a :: st) M = oK (gfA (M.2.2 a) 6 6) (fun v => den cf 165 105 L (v :: st) M) := den_gf l_165_102
theorem l_165_105 : look (tab 165) 105 = some (.aload_n 0, 1, [], uu) := by decide +kernel
theorem e_165_105 : den cf 165 105 [.ref a] st M = den cf 165 106 [.ref a] (.ref a :: st) M := den_go l_165_105 rfl
theorem l_165_106 : look (tab 165) 106 = some (.getfield 156, 3, [6, 23, 580], uu) := by decide +kernel
theorem e_165_106 : den cf 165 106 L (.ref a :: st) M = oK (gfA (M.2.2 a) 6 23) (fun v => den cf 165 109 L (v :: st) M) := den_gf l_165_106
theorem l_165_109 : look (tab 165) 109 = some (.iaload, 1, [], uu) := by decide +kernel
theorem e_165_109 : den cf 165 109 L (.int x :: .ref a :: st) M = oK (ldI (M.2.2 a) x) (fun v => den cf 165 110 L (v :: st) M) := den_al (g := ldI) l_165_109 rfl
theorem l_165_110 : look (tab 165) 110 = some (.invokestatic 168, 3, [1, 163, 1, 588, 589, 5], uu) := by decide +kernel
theorem e_165_110 : den cf 165 110 L (w1 :: st) M = if st.length ≤ 4 then rK (cf 163 [w1] M) (fun v M' => den cf 165 113 L (pR v st) M') else none := den_ist [w1] l_165_110 rfl
theorem l_165_113 : look (tab 165) 113 = some (.ifCond .eq 151, 3, [264], uu) := by decide +kernel
theorem e_165_113 : den cf 165 113 L (.int x :: st) M = if x = zI 0 then den cf 165 264 L st M else den cf 165 116 L st M := den_if_eq l_165_113
theorem l_165_116 : look (tab 165) 116 = some (.aload_n 0, 1, [], uu) := by decide +kernel
theorem e_165_116 : den cf 165 116 [.ref a] st M = den cf 165 117 [.ref a] (.ref a :: st) M := den_go l_165_116 rfl
theorem l_165_117 : look (tab 165) 117 = some (.dup, 1, [], uu) := by decide +kernel
theorem e_165_117 : den cf 165 117 L (.ref a :: st) M = den cf 165 118 L (.ref a :: .ref a :: st) M := den_go l_165_117 rfl
theorem e_165_117_i : den cf 165 117 L (.int x :: st) M = den cf 165 118 L (.int x :: .int x :: st) M := den_go l_165_117 rfl
theorem l_165_118 : look (tab 165) 118 = some (.getfield 156, 3, [6, 23, 580], uu) := by decide +kernel
theorem e_165_118 : den cf 165 118 L (.ref a :: st) M = oK (gfA (M.2.2 a) 6 23) (fun v => den cf 165 121 L (v :: st) M) := den_gf l_165_118
theorem l_165_121 : look (tab 165) 121 = some (.iconst 1, 1, [], .int (zI 1)) := by decide +kernel
theorem e_165_121 : den cf 165 121 L st M = den cf 165 122 L (.int (zI 1) :: st) M := den_go l_165_121 rfl
theorem l_165_122 : look (tab 165) 122 = some (.iadd, 1, [], uu) := by decide +kernel
theorem e_165_122 : den cf 165 122 L (.int y :: .int x :: st) M = den cf 165 123 L (.int (x + y) :: st) M := den_go l_165_122 rfl
theorem l_165_123 : look (tab 165) 123 = some (.putfield 156, 3, [6, 23, 0, 580, 0], uu) := by decide +kernel
theorem e_165_123 : den cf 165 123 L (.int x :: .ref a :: st) M = oK (pfA (M.2.2 a) 6 23 (.int x)) (fun c => den cf 165 126 L st (mU M a c)) := den_pf0 l_165_123
theorem l_165_126 : look (tab 165) 126 = some (.goto (-36), 3, [90], uu) := by decide +kernel
theorem e_165_126 : den cf 165 126 L st M = den cf 165 90 L st M := den_go l_165_126 rfl
theorem l_165_129 : look (tab 165) 129 = some (.aload_n 0, 1, [], uu) := by decide +kernel
theorem e_165_129 : den cf 165 129 [.ref a] st M = den cf 165 130 [.ref a] (.ref a :: st) M := den_go l_165_129 rfl
theorem l_165_130 : look (tab 165) 130 = some (.getfield 31, 3, [6, 6, 86], uu) := by decide +kernel
theorem e_165_130 : den cf 165 130 L (.ref a :: st) M = oK (gfA (M.2.2 a) 6 6) (fun v => den cf 165 133 L (v :: st) M) := den_gf l_165_130
theorem l_165_133 : look (tab 165) 133 = some (.aload_n 0, 1, [], uu) := by decide +kernel
theorem e_165_133 : den cf 165 133 [.ref a] st M = den cf 165 134 [.ref a] (.ref a :: st) M := den_go l_165_133 rfl
theorem l_165_134 : look (tab 165) 134 = some (.getfield 156, 3, [6, 23, 580], uu) := by decide +kernel
theorem e_165_134 : den cf 165 134 L (.ref a :: st) M = oK (gfA (M.2.2 a) 6 23) (fun v => den cf 165 137 L (v :: st) M) := den_gf l_165_134
theorem l_165_137 : look (tab 165) 137 = some (.iaload, 1, [], uu) := by decide +kernel
theorem e_165_137 : den cf 165 137 L (.int x :: .ref a :: st) M = oK (ldI (M.2.2 a) x) (fun v => den cf 165 138 L (v :: st) M) := den_al (g := ldI) l_165_137 rfl
theorem l_165_138 : look (tab 165) 138 = some (.invokestatic 171, 3, [1, 164, 1, 591, 592, 5], uu) := by decide +kernel
theorem e_165_138 : den cf 165 138 L (w1 :: st) M = if st.length ≤ 4 then rK (cf 164 [w1] M) (fun v M' => den cf 165 141 L (pR v st) M') else none := den_ist [w1] l_165_138 rfl
theorem l_165_141 : look (tab 165) 141 = some (.ifCond .eq 90, 3, [231], uu) := by decide +kernel
theorem e_165_141 : den cf 165 141 L (.int x :: st) M = if x = zI 0 then den cf 165 231 L st M else den cf 165 144 L st M := den_if_eq l_165_141
theorem l_165_144 : look (tab 165) 144 = some (.aload_n 0, 1, [], uu) := by decide +kernel
theorem e_165_144 : den cf 165 144 [.ref a] st M = den cf 165 145 [.ref a] (.ref a :: st) M := den_go l_165_144 rfl
theorem l_165_145 : look (tab 165) 145 = some (.iconst 2, 1, [], .int (zI 2)) := by decide +kernel
theorem e_165_145 : den cf 165 145 L st M = den cf 165 146 L (.int (zI 2) :: st) M := den_go l_165_145 rfl
theorem l_165_146 : look (tab 165) 146 = some (.putfield 165, 3, [6, 24, 0, 581, 0], uu) := by decide +kernel
theorem e_165_146 : den cf 165 146 L (.int x :: .ref a :: st) M = oK (pfA (M.2.2 a) 6 24 (.int x)) (fun c => den cf 165 149 L st (mU M a c)) := den_pf0 l_165_146
theorem l_165_149 : look (tab 165) 149 = some (.aload_n 0, 1, [], uu) := by decide +kernel
theorem e_165_149 : den cf 165 149 [.ref a] st M = den cf 165 150 [.ref a] (.ref a :: st) M := den_go l_165_149 rfl
theorem l_165_150 : look (tab 165) 150 = some (.getfield 156, 3, [6, 23, 580], uu) := by decide +kernel
theorem e_165_150 : den cf 165 150 L (.ref a :: st) M = oK (gfA (M.2.2 a) 6 23) (fun v => den cf 165 153 L (v :: st) M) := den_gf l_165_150
theorem l_165_153 : look (tab 165) 153 = some (.aload_n 0, 1, [], uu) := by decide +kernel
theorem e_165_153 : den cf 165 153 [.ref a] st M = den cf 165 154 [.ref a] (.ref a :: st) M := den_go l_165_153 rfl
theorem l_165_154 : look (tab 165) 154 = some (.getfield 153, 3, [6, 7, 414], uu) := by decide +kernel
theorem e_165_154 : den cf 165 154 L (.ref a :: st) M = oK (gfA (M.2.2 a) 6 7) (fun v => den cf 165 157 L (v :: st) M) := den_gf l_165_154
theorem l_165_157 : look (tab 165) 157 = some (.if_icmp .ge 107, 3, [264], uu) := by decide +kernel
theorem e_165_157 : den cf 165 157 L (.int y :: .int x :: st) M = if x < y then den cf 165 160 L st M else den cf 165 264 L st M := den_ic_ge l_165_157
theorem l_165_160 : look (tab 165) 160 = some (.aload_n 0, 1, [], uu) := by decide +kernel
theorem e_165_160 : den cf 165 160 [.ref a] st M = den cf 165 161 [.ref a] (.ref a :: st) M := den_go l_165_160 rfl
theorem l_165_161 : look (tab 165) 161 = some (.getfield 31, 3, [6, 6, 86], uu) := by decide +kernel
theorem e_165_161 : den cf 165 161 L (.ref a :: st) M = oK (gfA (M.2.2 a) 6 6) (fun v => den cf 165 164 L (v :: st) M) := den_gf l_165_161
theorem l_165_164 : look (tab 165) 164 = some (.aload_n 0, 1, [], uu) := by decide +kernel
theorem e_165_164 : den cf 165 164 [.ref a] st M = den cf 165 165 [.ref a] (.ref a :: st) M := den_go l_165_164 rfl
theorem l_165_165 : look (tab 165) 165 = some (.getfield 156, 3, [6, 23, 580], uu) := by decide +kernel
theorem e_165_165 : den cf 165 165 L (.ref a :: st) M = oK (gfA (M.2.2 a) 6 23) (fun v => den cf 165 168 L (v :: st) M) := den_gf l_165_165
theorem l_165_168 : look (tab 165) 168 = some (.iaload, 1, [], uu) := by decide +kernel
theorem e_165_168 : den cf 165 168 L (.int x :: .ref a :: st) M = oK (ldI (M.2.2 a) x) (fun v => den cf 165 169 L (v :: st) M) := den_al (g := ldI) l_165_168 rfl
theorem l_165_169 : look (tab 165) 169 = some (.invokestatic 171, 3, [1, 164, 1, 591, 592, 5], uu) := by decide +kernel
theorem e_165_169 : den cf 165 169 L (w1 :: st) M = if st.length ≤ 4 then rK (cf 164 [w1] M) (fun v M' => den cf 165 172 L (pR v st) M') else none := den_ist [w1] l_165_169 rfl
theorem l_165_172 : look (tab 165) 172 = some (.ifCond .eq 92, 3, [264], uu) := by decide +kernel
theorem e_165_172 : den cf 165 172 L (.int x :: st) M = if x = zI 0 then den cf 165 264 L st M else den cf 165 175 L st M := den_if_eq l_165_172
theorem l_165_175 : look (tab 165) 175 = some (.aload_n 0, 1, [], uu) := by decide +kernel
theorem e_165_175 : den cf 165 175 [.ref a] st M = den cf 165 176 [.ref a] (.ref a :: st) M := den_go l_165_175 rfl
theorem l_165_176 : look (tab 165) 176 = some (.aload_n 0, 1, [], uu) := by decide +kernel
theorem e_165_176 : den cf 165 176 [.ref a] st M = den cf 165 177 [.ref a] (.ref a :: st) M := den_go l_165_176 rfl
theorem l_165_177 : look (tab 165) 177 = some (.getfield 156, 3, [6, 23, 580], uu) := by decide +kernel
theorem e_165_177 : den cf 165 177 L (.ref a :: st) M = oK (gfA (M.2.2 a) 6 23) (fun v => den cf 165 180 L (v :: st) M) := den_gf l_165_177
theorem l_165_180 : look (tab 165) 180 = some (.aload_n 0, 1, [], uu) := by decide +kernel
theorem e_165_180 : den cf 165 180 [.ref a] st M = den cf 165 181 [.ref a] (.ref a :: st) M := den_go l_165_180 rfl
theorem l_165_181 : look (tab 165) 181 = some (.getfield 159, 3, [6, 25, 586], uu) := by decide +kernel
theorem e_165_181 : den cf 165 181 L (.ref a :: st) M = oK (gfA (M.2.2 a) 6 25) (fun v => den cf 165 184 L (v :: st) M) := den_gf l_165_181
theorem l_165_184 : look (tab 165) 184 = some (.isub, 1, [], uu) := by decide +kernel
theorem e_165_184 : den cf 165 184 L (.int y :: .int x :: st) M = den cf 165 185 L (.int (x - y) :: st) M := den_go l_165_184 rfl
theorem l_165_185 : look (tab 165) 185 = some (.iconst 2, 1, [], .int (zI 2)) := by decide +kernel
theorem e_165_185 : den cf 165 185 L st M = den cf 165 186 L (.int (zI 2) :: st) M := den_go l_165_185 rfl
theorem l_165_186 : look (tab 165) 186 = some (.if_icmp .ge 26, 3, [212], uu) := by decide +kernel
theorem e_165_186 : den cf 165 186 L (.int y :: .int x :: st) M = if x < y then den cf 165 189 L st M else den cf 165 212 L st M := den_ic_ge l_165_186
theorem l_165_189 : look (tab 165) 189 = some (.aload_n 0, 1, [], uu) := by decide +kernel
theorem e_165_189 : den cf 165 189 [.ref a] st M = den cf 165 190 [.ref a] (.ref a :: st) M := den_go l_165_189 rfl
theorem l_165_190 : look (tab 165) 190 = some (.getfield 162, 3, [6, 26, 587], uu) := by decide +kernel
theorem e_165_190 : den cf 165 190 L (.ref a :: st) M = oK (gfA (M.2.2 a) 6 26) (fun v => den cf 165 193 L (v :: st) M) := den_gf l_165_190
theorem l_165_193 : look (tab 165) 193 = some (.bipush 10, 2, [], .int (zI 10)) := by decide +kernel
theorem e_165_193 : den cf 165 193 L st M = den cf 165 195 L (.int (zI 10) :: st) M := den_go l_165_193 rfl
theorem l_165_195 : look (tab 165) 195 = some (.imul, 1, [], uu) := by decide +kernel
theorem e_165_195 : den cf 165 195 L (.int y :: .int x :: st) M = den cf 165 196 L (.int (x * y) :: st) M := den_go l_165_195 rfl
theorem l_165_196 : look (tab 165) 196 = some (.aload_n 0, 1, [], uu) := by decide +kernel
theorem e_165_196 : den cf 165 196 [.ref a] st M = den cf 165 197 [.ref a] (.ref a :: st) M := den_go l_165_196 rfl
theorem l_165_197 : look (tab 165) 197 = some (.getfield 31, 3, [6, 6, 86], uu) := by decide +kernel
theorem e_165_197 : den cf 165 197 L (.ref a :: st) M = oK (gfA (M.2.2 a) 6 6) (fun v => den cf 165 200 L (v :: st) M) := den_gf l_165_197
theorem l_165_200 : look (tab 165) 200 = some (.aload_n 0, 1, [], uu) := by decide +kernel
theorem e_165_200 : den cf 165 200 [.ref a] st M = den cf 165 201 [.ref a] (.ref a :: st) M := den_go l_165_200 rfl
theorem l_165_201 : look (tab 165) 201 = some (.getfield 156, 3, [6, 23, 580], uu) := by decide +kernel
theorem e_165_201 : den cf 165 201 L (.ref a :: st) M = oK (gfA (M.2.2 a) 6 23) (fun v => den cf 165 204 L (v :: st) M) := den_gf l_165_201
theorem l_165_204 : look (tab 165) 204 = some (.iaload, 1, [], uu) := by decide +kernel
theorem e_165_204 : den cf 165 204 L (.int x :: .ref a :: st) M = oK (ldI (M.2.2 a) x) (fun v => den cf 165 205 L (v :: st) M) := den_al (g := ldI) l_165_204 rfl
theorem l_165_205 : look (tab 165) 205 = some (.iadd, 1, [], uu) := by decide +kernel
theorem e_165_205 : den cf 165 205 L (.int y :: .int x :: st) M = den cf 165 206 L (.int (x + y) :: st) M := den_go l_165_205 rfl
theorem l_165_206 : look (tab 165) 206 = some (.bipush 48, 2, [], .int (zI 48)) := by decide +kernel
theorem e_165_206 : den cf 165 206 L st M = den cf 165 208 L (.int (zI 48) :: st) M := den_go l_165_206 rfl
theorem l_165_208 : look (tab 165) 208 = some (.isub, 1, [], uu) := by decide +kernel
theorem e_165_208 : den cf 165 208 L (.int y :: .int x :: st) M = den cf 165 209 L (.int (x - y) :: st) M := den_go l_165_208 rfl
theorem l_165_209 : look (tab 165) 209 = some (.goto 6, 3, [215], uu) := by decide +kernel
theorem e_165_209 : den cf 165 209 L st M = den cf 165 215 L st M := den_go l_165_209 rfl
theorem l_165_212 : look (tab 165) 212 = some (.sipush 1000, 3, [], .int (zI 1000)) := by decide +kernel
theorem e_165_212 : den cf 165 212 L st M = den cf 165 215 L (.int (zI 1000) :: st) M := den_go l_165_212 rfl
theorem l_165_215 : look (tab 165) 215 = some (.putfield 162, 3, [6, 26, 0, 587, 0], uu) := by decide +kernel
theorem e_165_215 : den cf 165 215 L (.int x :: .ref a :: st) M = oK (pfA (M.2.2 a) 6 26 (.int x)) (fun c => den cf 165 218 L st (mU M a c)) := den_pf0 l_165_215
theorem l_165_218 : look (tab 165) 218 = some (.aload_n 0, 1, [], uu) := by decide +kernel
theorem e_165_218 : den cf 165 218 [.ref a] st M = den cf 165 219 [.ref a] (.ref a :: st) M := den_go l_165_218 rfl
theorem l_165_219 : look (tab 165) 219 = some (.dup, 1, [], uu) := by decide +kernel
theorem e_165_219 : den cf 165 219 L (.ref a :: st) M = den cf 165 220 L (.ref a :: .ref a :: st) M := den_go l_165_219 rfl
theorem e_165_219_i : den cf 165 219 L (.int x :: st) M = den cf 165 220 L (.int x :: .int x :: st) M := den_go l_165_219 rfl
theorem l_165_220 : look (tab 165) 220 = some (.getfield 156, 3, [6, 23, 580], uu) := by decide +kernel
theorem e_165_220 : den cf 165 220 L (.ref a :: st) M = oK (gfA (M.2.2 a) 6 23) (fun v => den cf 165 223 L (v :: st) M) := den_gf l_165_220
theorem l_165_223 : look (tab 165) 223 = some (.iconst 1, 1, [], .int (zI 1)) := by decide +kernel
theorem e_165_223 : den cf 165 223 L st M = den cf 165 224 L (.int (zI 1) :: st) M := den_go l_165_223 rfl
theorem l_165_224 : look (tab 165) 224 = some (.iadd, 1, [], uu) := by decide +kernel
theorem e_165_224 : den cf 165 224 L (.int y :: .int x :: st) M = den cf 165 225 L (.int (x + y) :: st) M := den_go l_165_224 rfl
theorem l_165_225 : look (tab 165) 225 = some (.putfield 156, 3, [6, 23, 0, 580, 0], uu) := by decide +kernel
theorem e_165_225 : den cf 165 225 L (.int x :: .ref a :: st) M = oK (pfA (M.2.2 a) 6 23 (.int x)) (fun c => den cf 165 228 L st (mU M a c)) := den_pf0 l_165_225
theorem l_165_228 : look (tab 165) 228 = some (.goto (-79), 3, [149], uu) := by decide +kernel
theorem e_165_228 : den cf 165 228 L st M = den cf 165 149 L st M := den_go l_165_228 rfl
theorem l_165_231 : look (tab 165) 231 = some (.aload_n 0, 1, [], uu) := by decide +kernel
theorem e_165_231 : den cf 165 231 [.ref a] st M = den cf 165 232 [.ref a] (.ref a :: st) M := den_go l_165_231 rfl
theorem l_165_232 : look (tab 165) 232 = some (.aload_n 0, 1, [], uu) := by decide +kernel
theorem e_165_232 : den cf 165 232 [.ref a] st M = den cf 165 233 [.ref a] (.ref a :: st) M := den_go l_165_232 rfl
theorem l_165_233 : look (tab 165) 233 = some (.getfield 31, 3, [6, 6, 86], uu) := by decide +kernel
theorem e_165_233 : den cf 165 233 L (.ref a :: st) M = oK (gfA (M.2.2 a) 6 6) (fun v => den cf 165 236 L (v :: st) M) := den_gf l_165_233
theorem l_165_236 : look (tab 165) 236 = some (.aload_n 0, 1, [], uu) := by decide +kernel
theorem e_165_236 : den cf 165 236 [.ref a] st M = den cf 165 237 [.ref a] (.ref a :: st) M := den_go l_165_236 rfl
theorem l_165_237 : look (tab 165) 237 = some (.getfield 156, 3, [6, 23, 580], uu) := by decide +kernel
theorem e_165_237 : den cf 165 237 L (.ref a :: st) M = oK (gfA (M.2.2 a) 6 23) (fun v => den cf 165 240 L (v :: st) M) := den_gf l_165_237
theorem l_165_240 : look (tab 165) 240 = some (.iaload, 1, [], uu) := by decide +kernel
theorem e_165_240 : den cf 165 240 L (.int x :: .ref a :: st) M = oK (ldI (M.2.2 a) x) (fun v => den cf 165 241 L (v :: st) M) := den_al (g := ldI) l_165_240 rfl
theorem l_165_241 : look (tab 165) 241 = some (.bipush 59, 2, [], .int (zI 59)) := by decide +kernel
theorem e_165_241 : den cf 165 241 L st M = den cf 165 243 L (.int (zI 59) :: st) M := den_go l_165_241 rfl
theorem l_165_243 : look (tab 165) 243 = some (.if_icmp .ne 7, 3, [250], uu) := by decide +kernel
theorem e_165_243 : den cf 165 243 L (.int y :: .int x :: st) M = if x = y then den cf 165 246 L st M else den cf 165 250 L st M := den_ic_ne l_165_243
theorem l_165_246 : look (tab 165) 246 = some (.iconst 3, 1, [], .int (zI 3)) := by decide +kernel
theorem e_165_246 : den cf 165 246 L st M = den cf 165 247 L (.int (zI 3) :: st) M := den_go l_165_246 rfl
theorem l_165_247 : look (tab 165) 247 = some (.goto 4, 3, [251], uu) := by decide +kernel
theorem e_165_247 : den cf 165 247 L st M = den cf 165 251 L st M := den_go l_165_247 rfl
theorem l_165_250 : look (tab 165) 250 = some (.iconst 4, 1, [], .int (zI 4)) := by decide +kernel
theorem e_165_250 : den cf 165 250 L st M = den cf 165 251 L (.int (zI 4) :: st) M := den_go l_165_250 rfl
theorem l_165_251 : look (tab 165) 251 = some (.putfield 165, 3, [6, 24, 0, 581, 0], uu) := by decide +kernel
theorem e_165_251 : den cf 165 251 L (.int x :: .ref a :: st) M = oK (pfA (M.2.2 a) 6 24 (.int x)) (fun c => den cf 165 254 L st (mU M a c)) := den_pf0 l_165_251
theorem l_165_254 : look (tab 165) 254 = some (.aload_n 0, 1, [], uu) := by decide +kernel
theorem e_165_254 : den cf 165 254 [.ref a] st M = den cf 165 255 [.ref a] (.ref a :: st) M := den_go l_165_254 rfl
theorem l_165_255 : look (tab 165) 255 = some (.dup, 1, [], uu) := by decide +kernel
theorem e_165_255 : den cf 165 255 L (.ref a :: st) M = den cf 165 256 L (.ref a :: .ref a :: st) M := den_go l_165_255 rfl
theorem e_165_255_i : den cf 165 255 L (.int x :: st) M = den cf 165 256 L (.int x :: .int x :: st) M := den_go l_165_255 rfl
theorem l_165_256 : look (tab 165) 256 = some (.getfield 156, 3, [6, 23, 580], uu) := by decide +kernel
theorem e_165_256 : den cf 165 256 L (.ref a :: st) M = oK (gfA (M.2.2 a) 6 23) (fun v => den cf 165 259 L (v :: st) M) := den_gf l_165_256
theorem l_165_259 : look (tab 165) 259 = some (.iconst 1, 1, [], .int (zI 1)) := by decide +kernel
theorem e_165_259 : den cf 165 259 L st M = den cf 165 260 L (.int (zI 1) :: st) M := den_go l_165_259 rfl
theorem l_165_260 : look (tab 165) 260 = some (.iadd, 1, [], uu) := by decide +kernel
theorem e_165_260 : den cf 165 260 L (.int y :: .int x :: st) M = den cf 165 261 L (.int (x + y) :: st) M := den_go l_165_260 rfl
theorem l_165_261 : look (tab 165) 261 = some (.putfield 156, 3, [6, 23, 0, 580, 0], uu) := by decide +kernel
theorem e_165_261 : den cf 165 261 L (.int x :: .ref a :: st) M = oK (pfA (M.2.2 a) 6 23 (.int x)) (fun c => den cf 165 264 L st (mU M a c)) := den_pf0 l_165_261
theorem l_165_264 : look (tab 165) 264 = some (.return_, 1, [], uu) := by decide +kernel
theorem e_165_264 : den cf 165 264 L [] M = some (none, M) := den_e4 l_165_264
/-! yX6_wrong -/
theorem l_166_0 : look (tab 166) 0 = some (.aload_n 0, 1, [], uu) := by decide +kernel
theorem e_166_0 : den cf 166 0 [.ref a] st M = den cf 166 1 [.ref a] (.ref a :: st) M := den_go l_166_0 rfl
theorem l_166_1 : look (tab 166) 1 = some (.aload_n 0, 1, [], uu) := by decide +kernel
theorem e_166_1 : den cf 166 1 [.ref a] st M = den cf 166 2 [.ref a] (.ref a :: st) M := den_go l_166_1 rfl
theorem l_166_2 : look (tab 166) 2 = some (.getfield 159, 3, [6, 25, 586], uu) := by decide +kernel
theorem e_166_2 : den cf 166 2 L (.ref a :: st) M = oK (gfA (M.2.2 a) 6 25) (fun v => den cf 166 5 L (v :: st) M) := den_gf l_166_2
theorem l_166_5 : look (tab 166) 5 = some (.putfield 174, 3, [6, 27, 0, 559, 0], uu) := by decide +kernel
theorem e_166_5 : den cf 166 5 L (.int x :: .ref a :: st) M = oK (pfA (M.2.2 a) 6 27 (.int x)) (fun c => den cf 166 8 L st (mU M a c)) := den_pf0 l_166_5
theorem l_166_8 : look (tab 166) 8 = some (.iconst 0, 1, [], .int (zI 0)) := by decide +kernel
theorem e_166_8 : den cf 166 8 L st M = den cf 166 9 L (.int (zI 0) :: st) M := den_go l_166_8 rfl
theorem l_166_9 : look (tab 166) 9 = some (.ireturn, 1, [1], uu) := by decide +kernel
theorem e_166_9 : den cf 166 9 L [.int x] M = if x = zI 0 ∨ x = zI 1 then some (some (.int x), M) else none := den_e1 l_166_9
/-! yX6_isWord -/
theorem l_167_0 : look (tab 167) 0 = some (.aload_n 0, 1, [], uu) := by decide +kernel
theorem e_167_0 : den cf 167 0 [.ref a, v1, v2] st M = den cf 167 1 [.ref a, v1, v2] (.ref a :: st) M := den_go l_167_0 rfl
theorem l_167_1 : look (tab 167) 1 = some (.getfield 165, 3, [6, 24, 581], uu) := by decide +kernel
theorem e_167_1 : den cf 167 1 L (.ref a :: st) M = oK (gfA (M.2.2 a) 6 24) (fun v => den cf 167 4 L (v :: st) M) := den_gf l_167_1
theorem l_167_4 : look (tab 167) 4 = some (.iconst 1, 1, [], .int (zI 1)) := by decide +kernel
theorem e_167_4 : den cf 167 4 L st M = den cf 167 5 L (.int (zI 1) :: st) M := den_go l_167_4 rfl
theorem l_167_5 : look (tab 167) 5 = some (.if_icmp .ne 19, 3, [24], uu) := by decide +kernel
theorem e_167_5 : den cf 167 5 L (.int y :: .int x :: st) M = if x = y then den cf 167 8 L st M else den cf 167 24 L st M := den_ic_ne l_167_5
theorem l_167_8 : look (tab 167) 8 = some (.aload_n 0, 1, [], uu) := by decide +kernel
theorem e_167_8 : den cf 167 8 [.ref a, v1, v2] st M = den cf 167 9 [.ref a, v1, v2] (.ref a :: st) M := den_go l_167_8 rfl
theorem l_167_9 : look (tab 167) 9 = some (.getfield 156, 3, [6, 23, 580], uu) := by decide +kernel
theorem e_167_9 : den cf 167 9 L (.ref a :: st) M = oK (gfA (M.2.2 a) 6 23) (fun v => den cf 167 12 L (v :: st) M) := den_gf l_167_9
theorem l_167_12 : look (tab 167) 12 = some (.aload_n 0, 1, [], uu) := by decide +kernel
theorem e_167_12 : den cf 167 12 [.ref a, v1, v2] st M = den cf 167 13 [.ref a, v1, v2] (.ref a :: st) M := den_go l_167_12 rfl
theorem l_167_13 : look (tab 167) 13 = some (.getfield 159, 3, [6, 25, 586], uu) := by decide +kernel
theorem e_167_13 : den cf 167 13 L (.ref a :: st) M = oK (gfA (M.2.2 a) 6 25) (fun v => den cf 167 16 L (v :: st) M) := den_gf l_167_13
theorem l_167_16 : look (tab 167) 16 = some (.isub, 1, [], uu) := by decide +kernel
theorem e_167_16 : den cf 167 16 L (.int y :: .int x :: st) M = den cf 167 17 L (.int (x - y) :: st) M := den_go l_167_16 rfl
theorem l_167_17 : look (tab 167) 17 = some (.aload_n 1, 1, [], uu) := by decide +kernel
theorem e_167_17 : den cf 167 17 [v0, v1, v2] st M = if isRf v1 = true then den cf 167 18 [v0, v1, v2] (v1 :: st) M else none := den_g l_167_17 rfl
theorem l_167_18 : look (tab 167) 18 = some (.invokevirtual 177, 3, [90, 300, 1, 602, 470, 471, 472], uu) := by decide +kernel
theorem e_167_18 : den cf 167 18 L (.ref a :: st) M = if rcv M 90 [.ref a] = true ∧ st.length ≤ 4 then rK (cf 300 [.ref a] M) (fun v M' => den cf 167 21 L (pR v st) M') else none := den_iv [] l_167_18 rfl
theorem l_167_21 : look (tab 167) 21 = some (.if_icmp .eq 5, 3, [26], uu) := by decide +kernel
theorem e_167_21 : den cf 167 21 L (.int y :: .int x :: st) M = if x = y then den cf 167 26 L st M else den cf 167 24 L st M := den_ic_eq l_167_21
theorem l_167_24 : look (tab 167) 24 = some (.iconst 0, 1, [], .int (zI 0)) := by decide +kernel
theorem e_167_24 : den cf 167 24 L st M = den cf 167 25 L (.int (zI 0) :: st) M := den_go l_167_24 rfl
theorem l_167_25 : look (tab 167) 25 = some (.ireturn, 1, [1], uu) := by decide +kernel
theorem e_167_25 : den cf 167 25 L [.int x] M = if x = zI 0 ∨ x = zI 1 then some (some (.int x), M) else none := den_e1 l_167_25
theorem l_167_26 : look (tab 167) 26 = some (.iconst 0, 1, [], .int (zI 0)) := by decide +kernel
theorem e_167_26 : den cf 167 26 L st M = den cf 167 27 L (.int (zI 0) :: st) M := den_go l_167_26 rfl
theorem l_167_27 : look (tab 167) 27 = some (.istore_n 2, 1, [], uu) := by decide +kernel
theorem e_167_27 : den cf 167 27 [v0, v1, v2] (.int x :: st) M = den cf 167 28 [v0, kq v1, .int x] st M := den_st (k := 2) (v := .int x) l_167_27 rfl
theorem l_167_28 : look (tab 167) 28 = some (.iload_n 2, 1, [], uu) := by decide +kernel
theorem e_167_28 : den cf 167 28 [v0, v1, .int x] st M = den cf 167 29 [v0, v1, .int x] (.int x :: st) M := den_go l_167_28 rfl
theorem l_167_29 : look (tab 167) 29 = some (.aload_n 1, 1, [], uu) := by decide +kernel
theorem e_167_29 : den cf 167 29 [v0, v1, v2] st M = if isRf v1 = true then den cf 167 30 [v0, v1, v2] (v1 :: st) M else none := den_g l_167_29 rfl
theorem l_167_30 : look (tab 167) 30 = some (.invokevirtual 177, 3, [90, 300, 1, 602, 470, 471, 472], uu) := by decide +kernel
theorem e_167_30 : den cf 167 30 L (.ref a :: st) M = if rcv M 90 [.ref a] = true ∧ st.length ≤ 4 then rK (cf 300 [.ref a] M) (fun v M' => den cf 167 33 L (pR v st) M') else none := den_iv [] l_167_30 rfl
theorem l_167_33 : look (tab 167) 33 = some (.if_icmp .ge 30, 3, [63], uu) := by decide +kernel
theorem e_167_33 : den cf 167 33 L (.int y :: .int x :: st) M = if x < y then den cf 167 36 L st M else den cf 167 63 L st M := den_ic_ge l_167_33
theorem l_167_36 : look (tab 167) 36 = some (.aload_n 0, 1, [], uu) := by decide +kernel
theorem e_167_36 : den cf 167 36 [.ref a, v1, v2] st M = den cf 167 37 [.ref a, v1, v2] (.ref a :: st) M := den_go l_167_36 rfl
theorem l_167_37 : look (tab 167) 37 = some (.getfield 31, 3, [6, 6, 86], uu) := by decide +kernel
theorem e_167_37 : den cf 167 37 L (.ref a :: st) M = oK (gfA (M.2.2 a) 6 6) (fun v => den cf 167 40 L (v :: st) M) := den_gf l_167_37
theorem l_167_40 : look (tab 167) 40 = some (.aload_n 0, 1, [], uu) := by decide +kernel
theorem e_167_40 : den cf 167 40 [.ref a, v1, v2] st M = den cf 167 41 [.ref a, v1, v2] (.ref a :: st) M := den_go l_167_40 rfl
theorem l_167_41 : look (tab 167) 41 = some (.getfield 159, 3, [6, 25, 586], uu) := by decide +kernel
theorem e_167_41 : den cf 167 41 L (.ref a :: st) M = oK (gfA (M.2.2 a) 6 25) (fun v => den cf 167 44 L (v :: st) M) := den_gf l_167_41
theorem l_167_44 : look (tab 167) 44 = some (.iload_n 2, 1, [], uu) := by decide +kernel
theorem e_167_44 : den cf 167 44 [v0, v1, .int x] st M = den cf 167 45 [v0, v1, .int x] (.int x :: st) M := den_go l_167_44 rfl
theorem l_167_45 : look (tab 167) 45 = some (.iadd, 1, [], uu) := by decide +kernel
theorem e_167_45 : den cf 167 45 L (.int y :: .int x :: st) M = den cf 167 46 L (.int (x + y) :: st) M := den_go l_167_45 rfl
theorem l_167_46 : look (tab 167) 46 = some (.iaload, 1, [], uu) := by decide +kernel
theorem e_167_46 : den cf 167 46 L (.int x :: .ref a :: st) M = oK (ldI (M.2.2 a) x) (fun v => den cf 167 47 L (v :: st) M) := den_al (g := ldI) l_167_46 rfl
theorem l_167_47 : look (tab 167) 47 = some (.aload_n 1, 1, [], uu) := by decide +kernel
theorem e_167_47 : den cf 167 47 [v0, v1, v2] st M = if isRf v1 = true then den cf 167 48 [v0, v1, v2] (v1 :: st) M else none := den_g l_167_47 rfl
theorem l_167_48 : look (tab 167) 48 = some (.iload_n 2, 1, [], uu) := by decide +kernel
theorem e_167_48 : den cf 167 48 [v0, v1, .int x] st M = den cf 167 49 [v0, v1, .int x] (.int x :: st) M := den_go l_167_48 rfl
theorem l_167_49 : look (tab 167) 49 = some (.invokevirtual 182, 3, [90, 301, 2, 603, 482, 483, 472], uu) := by decide +kernel
theorem e_167_49 : den cf 167 49 L (w1 :: .ref a :: st) M = if rcv M 90 [.ref a, w1] = true ∧ st.length ≤ 4 then rK (cf 301 [.ref a, w1] M) (fun v M' => den cf 167 52 L (pR v st) M') else none := den_iv [w1] l_167_49 rfl
theorem l_167_52 : look (tab 167) 52 = some (.if_icmp .eq 5, 3, [57], uu) := by decide +kernel
theorem e_167_52 : den cf 167 52 L (.int y :: .int x :: st) M = if x = y then den cf 167 57 L st M else den cf 167 55 L st M := den_ic_eq l_167_52
theorem l_167_55 : look (tab 167) 55 = some (.iconst 0, 1, [], .int (zI 0)) := by decide +kernel
theorem e_167_55 : den cf 167 55 L st M = den cf 167 56 L (.int (zI 0) :: st) M := den_go l_167_55 rfl
theorem l_167_56 : look (tab 167) 56 = some (.ireturn, 1, [1], uu) := by decide +kernel
theorem e_167_56 : den cf 167 56 L [.int x] M = if x = zI 0 ∨ x = zI 1 then some (some (.int x), M) else none := den_e1 l_167_56
theorem l_167_57 : look (tab 167) 57 = some (.iinc 2 1, 3, [], .int (zI 1)) := by decide +kernel
theorem e_167_57 : den cf 167 57 [v0, v1, .int x] st M = den cf 167 60 [v0, kq v1, .int (x + (zI 1))] st M := den_st (k := 2) (v := .int (x + (zI 1))) l_167_57 rfl
theorem l_167_60 : look (tab 167) 60 = some (.goto (-32), 3, [28], uu) := by decide +kernel
theorem e_167_60 : den cf 167 60 L st M = den cf 167 28 L st M := den_go l_167_60 rfl
theorem l_167_63 : look (tab 167) 63 = some (.iconst 1, 1, [], .int (zI 1)) := by decide +kernel
theorem e_167_63 : den cf 167 63 L st M = den cf 167 64 L (.int (zI 1) :: st) M := den_go l_167_63 rfl
theorem l_167_64 : look (tab 167) 64 = some (.ireturn, 1, [1], uu) := by decide +kernel
theorem e_167_64 : den cf 167 64 L [.int x] M = if x = zI 0 ∨ x = zI 1 then some (some (.int x), M) else none := den_e1 l_167_64
/-! yX6_number -/
theorem l_168_0 : look (tab 168) 0 = some (.aload_n 0, 1, [], uu) := by decide +kernel
theorem e_168_0 : den cf 168 0 [.ref a, v1, v2, v3] st M = den cf 168 1 [.ref a, v1, v2, v3] (.ref a :: st) M := den_go l_168_0 rfl
theorem l_168_1 : look (tab 168) 1 = some (.getfield 165, 3, [6, 24, 581], uu) := by decide +kernel
theorem e_168_1 : den cf 168 1 L (.ref a :: st) M = oK (gfA (M.2.2 a) 6 24) (fun v => den cf 168 4 L (v :: st) M) := den_gf l_168_1
theorem l_168_4 : look (tab 168) 4 = some (.iconst 2, 1, [], .int (zI 2)) := by decide +kernel
theorem e_168_4 : den cf 168 4 L st M = den cf 168 5 L (.int (zI 2) :: st) M := den_go l_168_4 rfl
theorem l_168_5 : look (tab 168) 5 = some (.if_icmp .ne 18, 3, [23], uu) := by decide +kernel
theorem e_168_5 : den cf 168 5 L (.int y :: .int x :: st) M = if x = y then den cf 168 8 L st M else den cf 168 23 L st M := den_ic_ne l_168_5
theorem l_168_8 : look (tab 168) 8 = some (.aload_n 0, 1, [], uu) := by decide +kernel
theorem e_168_8 : den cf 168 8 [.ref a, v1, v2, v3] st M = den cf 168 9 [.ref a, v1, v2, v3] (.ref a :: st) M := den_go l_168_8 rfl
theorem l_168_9 : look (tab 168) 9 = some (.getfield 162, 3, [6, 26, 587], uu) := by decide +kernel
theorem e_168_9 : den cf 168 9 L (.ref a :: st) M = oK (gfA (M.2.2 a) 6 26) (fun v => den cf 168 12 L (v :: st) M) := den_gf l_168_9
theorem l_168_12 : look (tab 168) 12 = some (.i2l, 1, [], uu) := by decide +kernel
theorem e_168_12 : den cf 168 12 L (.int x :: st) M = den cf 168 13 L (.long x.toInt64 :: st) M := den_go l_168_12 rfl
theorem l_168_13 : look (tab 168) 13 = some (.iload_n 2, 1, [], uu) := by decide +kernel
theorem e_168_13 : den cf 168 13 [v0, v1, .int x, v3] st M = den cf 168 14 [v0, v1, .int x, v3] (.int x :: st) M := den_go l_168_13 rfl
theorem l_168_14 : look (tab 168) 14 = some (.i2l, 1, [], uu) := by decide +kernel
theorem e_168_14 : den cf 168 14 L (.int x :: st) M = den cf 168 15 L (.long x.toInt64 :: st) M := den_go l_168_14 rfl
theorem l_168_15 : look (tab 168) 15 = some (.iload_n 3, 1, [], uu) := by decide +kernel
theorem e_168_15 : den cf 168 15 [v0, v1, v2, .int x] st M = den cf 168 16 [v0, v1, v2, .int x] (.int x :: st) M := den_go l_168_15 rfl
theorem l_168_16 : look (tab 168) 16 = some (.i2l, 1, [], uu) := by decide +kernel
theorem e_168_16 : den cf 168 16 L (.int x :: st) M = den cf 168 17 L (.long x.toInt64 :: st) M := den_go l_168_16 rfl
theorem l_168_17 : look (tab 168) 17 = some (.invokestatic 83, 3, [1, 137, 3, 130, 131, 5], uu) := by decide +kernel
theorem e_168_17 : den cf 168 17 L (w3 :: w2 :: w1 :: st) M = if st.length ≤ 4 then rK (cf 137 [w1, w2, w3] M) (fun v M' => den cf 168 20 L (pR v st) M') else none := den_ist [w1, w2, w3] l_168_17 rfl
theorem l_168_20 : look (tab 168) 20 = some (.ifCond .ne 8, 3, [28], uu) := by decide +kernel
theorem e_168_20 : den cf 168 20 L (.int x :: st) M = if x = zI 0 then den cf 168 23 L st M else den cf 168 28 L st M := den_if_ne l_168_20
theorem l_168_23 : look (tab 168) 23 = some (.aload_n 0, 1, [], uu) := by decide +kernel
theorem e_168_23 : den cf 168 23 [.ref a, v1, v2, v3] st M = den cf 168 24 [.ref a, v1, v2, v3] (.ref a :: st) M := den_go l_168_23 rfl
theorem l_168_24 : look (tab 168) 24 = some (.invokevirtual 186, 3, [6, 166, 1, 612, 613, 614, 5], uu) := by decide +kernel
theorem e_168_24 : den cf 168 24 L (.ref a :: st) M = if rcv M 6 [.ref a] = true ∧ st.length ≤ 4 then rK (cf 166 [.ref a] M) (fun v M' => den cf 168 27 L (pR v st) M') else none := den_iv [] l_168_24 rfl
theorem l_168_27 : look (tab 168) 27 = some (.ireturn, 1, [1], uu) := by decide +kernel
theorem e_168_27 : den cf 168 27 L [.int x] M = if x = zI 0 ∨ x = zI 1 then some (some (.int x), M) else none := den_e1 l_168_27
theorem l_168_28 : look (tab 168) 28 = some (.aload_n 0, 1, [], uu) := by decide +kernel
theorem e_168_28 : den cf 168 28 [.ref a, v1, v2, v3] st M = den cf 168 29 [.ref a, v1, v2, v3] (.ref a :: st) M := den_go l_168_28 rfl
theorem l_168_29 : look (tab 168) 29 = some (.getfield 68, 3, [6, 28, 98], uu) := by decide +kernel
theorem e_168_29 : den cf 168 29 L (.ref a :: st) M = oK (gfA (M.2.2 a) 6 28) (fun v => den cf 168 32 L (v :: st) M) := den_gf l_168_29
theorem l_168_32 : look (tab 168) 32 = some (.iload_n 1, 1, [], uu) := by decide +kernel
theorem e_168_32 : den cf 168 32 [v0, .int x, v2, v3] st M = den cf 168 33 [v0, .int x, v2, v3] (.int x :: st) M := den_go l_168_32 rfl
theorem l_168_33 : look (tab 168) 33 = some (.aload_n 0, 1, [], uu) := by decide +kernel
theorem e_168_33 : den cf 168 33 [.ref a, v1, v2, v3] st M = den cf 168 34 [.ref a, v1, v2, v3] (.ref a :: st) M := den_go l_168_33 rfl
theorem l_168_34 : look (tab 168) 34 = some (.getfield 162, 3, [6, 26, 587], uu) := by decide +kernel
theorem e_168_34 : den cf 168 34 L (.ref a :: st) M = oK (gfA (M.2.2 a) 6 26) (fun v => den cf 168 37 L (v :: st) M) := den_gf l_168_34
theorem l_168_37 : look (tab 168) 37 = some (.iastore, 1, [], uu) := by decide +kernel
theorem e_168_37 : den cf 168 37 L (.int x :: .int y :: .ref a :: st) M = oK (stI (M.2.2 a) y x) (fun c => den cf 168 38 L st (mU M a c)) := den_is l_168_37
theorem l_168_38 : look (tab 168) 38 = some (.aload_n 0, 1, [], uu) := by decide +kernel
theorem e_168_38 : den cf 168 38 [.ref a, v1, v2, v3] st M = den cf 168 39 [.ref a, v1, v2, v3] (.ref a :: st) M := den_go l_168_38 rfl
theorem l_168_39 : look (tab 168) 39 = some (.invokevirtual 190, 3, [6, 165, 1, 582, 583, 584, 5], uu) := by decide +kernel
theorem e_168_39 : den cf 168 39 L (.ref a :: st) M = if rcv M 6 [.ref a] = true ∧ st.length ≤ 4 then rK (cf 165 [.ref a] M) (fun v M' => den cf 168 42 L (pR v st) M') else none := den_iv [] l_168_39 rfl
theorem l_168_42 : look (tab 168) 42 = some (.iconst 1, 1, [], .int (zI 1)) := by decide +kernel
theorem e_168_42 : den cf 168 42 L st M = den cf 168 43 L (.int (zI 1) :: st) M := den_go l_168_42 rfl
theorem l_168_43 : look (tab 168) 43 = some (.ireturn, 1, [1], uu) := by decide +kernel
theorem e_168_43 : den cf 168 43 L [.int x] M = if x = zI 0 ∨ x = zI 1 then some (some (.int x), M) else none := den_e1 l_168_43
/-! yX6_tells -/
theorem l_169_0 : look (tab 169) 0 = some (.aload_n 0, 1, [], uu) := by decide +kernel
theorem e_169_0 : den cf 169 0 [.ref a, v1] st M = den cf 169 1 [.ref a, v1] (.ref a :: st) M := den_go l_169_0 rfl
theorem l_169_1 : look (tab 169) 1 = some (.invokevirtual 190, 3, [6, 165, 1, 582, 583, 584, 5], uu) := by decide +kernel
theorem e_169_1 : den cf 169 1 L (.ref a :: st) M = if rcv M 6 [.ref a] = true ∧ st.length ≤ 4 then rK (cf 165 [.ref a] M) (fun v M' => den cf 169 4 L (pR v st) M') else none := den_iv [] l_169_1 rfl
theorem l_169_4 : look (tab 169) 4 = some (.aload_n 0, 1, [], uu) := by decide +kernel
theorem e_169_4 : den cf 169 4 [.ref a, v1] st M = den cf 169 5 [.ref a, v1] (.ref a :: st) M := den_go l_169_4 rfl
theorem l_169_5 : look (tab 169) 5 = some (.iconst 0, 1, [], .int (zI 0)) := by decide +kernel
theorem e_169_5 : den cf 169 5 L st M = den cf 169 6 L (.int (zI 0) :: st) M := den_go l_169_5 rfl
theorem l_169_6 : look (tab 169) 6 = some (.iconst 0, 1, [], .int (zI 0)) := by decide +kernel
theorem e_169_6 : den cf 169 6 L st M = den cf 169 7 L (.int (zI 0) :: st) M := den_go l_169_6 rfl
theorem l_169_7 : look (tab 169) 7 = some (.iload_n 1, 1, [], uu) := by decide +kernel
theorem e_169_7 : den cf 169 7 [v0, .int x] st M = den cf 169 8 [v0, .int x] (.int x :: st) M := den_go l_169_7 rfl
theorem l_169_8 : look (tab 169) 8 = some (.invokevirtual 193, 3, [6, 168, 4, 608, 609, 610, 5], uu) := by decide +kernel
theorem e_169_8 : den cf 169 8 L (w3 :: w2 :: w1 :: .ref a :: st) M = if rcv M 6 [.ref a, w1, w2, w3] = true ∧ st.length ≤ 4 then rK (cf 168 [.ref a, w1, w2, w3] M) (fun v M' => den cf 169 11 L (pR v st) M') else none := den_iv [w1, w2, w3] l_169_8 rfl
theorem l_169_11 : look (tab 169) 11 = some (.ireturn, 1, [1], uu) := by decide +kernel
theorem e_169_11 : den cf 169 11 L [.int x] M = if x = zI 0 ∨ x = zI 1 then some (some (.int x), M) else none := den_e1 l_169_11
/-! yX6_asks -/
theorem l_170_0 : look (tab 170) 0 = some (.aload_n 0, 1, [], uu) := by decide +kernel
theorem e_170_0 : den cf 170 0 [.ref a, v1, v2, v3] st M = den cf 170 1 [.ref a, v1, v2, v3] (.ref a :: st) M := den_go l_170_0 rfl
theorem l_170_1 : look (tab 170) 1 = some (.iload_n 2, 1, [], uu) := by decide +kernel
theorem e_170_1 : den cf 170 1 [v0, v1, .int x, v3] st M = den cf 170 2 [v0, v1, .int x, v3] (.int x :: st) M := den_go l_170_1 rfl
theorem l_170_2 : look (tab 170) 2 = some (.invokevirtual 197, 3, [6, 169, 2, 604, 605, 606, 5], uu) := by decide +kernel
theorem e_170_2 : den cf 170 2 L (w1 :: .ref a :: st) M = if rcv M 6 [.ref a, w1] = true ∧ st.length ≤ 4 then rK (cf 169 [.ref a, w1] M) (fun v M' => den cf 170 5 L (pR v st) M') else none := den_iv [w1] l_170_2 rfl
theorem l_170_5 : look (tab 170) 5 = some (.istore_n 3, 1, [], uu) := by decide +kernel
theorem e_170_5 : den cf 170 5 [v0, v1, v2, v3] (.int x :: st) M = den cf 170 6 [v0, v1, kq v2, .int x] st M := den_st (k := 3) (v := .int x) l_170_5 rfl
theorem l_170_6 : look (tab 170) 6 = some (.aload_n 0, 1, [], uu) := by decide +kernel
theorem e_170_6 : den cf 170 6 [.ref a, v1, v2, v3] st M = den cf 170 7 [.ref a, v1, v2, v3] (.ref a :: st) M := den_go l_170_6 rfl
theorem l_170_7 : look (tab 170) 7 = some (.getfield 61, 3, [6, 18, 96], uu) := by decide +kernel
theorem e_170_7 : den cf 170 7 L (.ref a :: st) M = oK (gfA (M.2.2 a) 6 18) (fun v => den cf 170 10 L (v :: st) M) := den_gf l_170_7
theorem l_170_10 : look (tab 170) 10 = some (.iload_n 1, 1, [], uu) := by decide +kernel
theorem e_170_10 : den cf 170 10 [v0, .int x, v2, v3] st M = den cf 170 11 [v0, .int x, v2, v3] (.int x :: st) M := den_go l_170_10 rfl
theorem l_170_11 : look (tab 170) 11 = some (.iload_n 3, 1, [], uu) := by decide +kernel
theorem e_170_11 : den cf 170 11 [v0, v1, v2, .int x] st M = den cf 170 12 [v0, v1, v2, .int x] (.int x :: st) M := den_go l_170_11 rfl
theorem l_170_12 : look (tab 170) 12 = some (.ifCond .eq 12, 3, [24], uu) := by decide +kernel
theorem e_170_12 : den cf 170 12 L (.int x :: st) M = if x = zI 0 then den cf 170 24 L st M else den cf 170 15 L st M := den_if_eq l_170_12
theorem l_170_15 : look (tab 170) 15 = some (.aload_n 0, 1, [], uu) := by decide +kernel
theorem e_170_15 : den cf 170 15 [.ref a, v1, v2, v3] st M = den cf 170 16 [.ref a, v1, v2, v3] (.ref a :: st) M := den_go l_170_15 rfl
theorem l_170_16 : look (tab 170) 16 = some (.getfield 68, 3, [6, 28, 98], uu) := by decide +kernel
theorem e_170_16 : den cf 170 16 L (.ref a :: st) M = oK (gfA (M.2.2 a) 6 28) (fun v => den cf 170 19 L (v :: st) M) := den_gf l_170_16
theorem l_170_19 : look (tab 170) 19 = some (.iconst 0, 1, [], .int (zI 0)) := by decide +kernel
theorem e_170_19 : den cf 170 19 L st M = den cf 170 20 L (.int (zI 0) :: st) M := den_go l_170_19 rfl
theorem l_170_20 : look (tab 170) 20 = some (.iaload, 1, [], uu) := by decide +kernel
theorem e_170_20 : den cf 170 20 L (.int x :: .ref a :: st) M = oK (ldI (M.2.2 a) x) (fun v => den cf 170 21 L (v :: st) M) := den_al (g := ldI) l_170_20 rfl
theorem l_170_21 : look (tab 170) 21 = some (.goto 9, 3, [30], uu) := by decide +kernel
theorem e_170_21 : den cf 170 21 L st M = den cf 170 30 L st M := den_go l_170_21 rfl
theorem l_170_24 : look (tab 170) 24 = some (.aload_n 0, 1, [], uu) := by decide +kernel
theorem e_170_24 : den cf 170 24 [.ref a, v1, v2, v3] st M = den cf 170 25 [.ref a, v1, v2, v3] (.ref a :: st) M := den_go l_170_24 rfl
theorem l_170_25 : look (tab 170) 25 = some (.getfield 61, 3, [6, 18, 96], uu) := by decide +kernel
theorem e_170_25 : den cf 170 25 L (.ref a :: st) M = oK (gfA (M.2.2 a) 6 18) (fun v => den cf 170 28 L (v :: st) M) := den_gf l_170_25
theorem l_170_28 : look (tab 170) 28 = some (.iload_n 1, 1, [], uu) := by decide +kernel
theorem e_170_28 : den cf 170 28 [v0, .int x, v2, v3] st M = den cf 170 29 [v0, .int x, v2, v3] (.int x :: st) M := den_go l_170_28 rfl
theorem l_170_29 : look (tab 170) 29 = some (.iaload, 1, [], uu) := by decide +kernel
theorem e_170_29 : den cf 170 29 L (.int x :: .ref a :: st) M = oK (ldI (M.2.2 a) x) (fun v => den cf 170 30 L (v :: st) M) := den_al (g := ldI) l_170_29 rfl
theorem l_170_30 : look (tab 170) 30 = some (.iastore, 1, [], uu) := by decide +kernel
theorem e_170_30 : den cf 170 30 L (.int x :: .int y :: .ref a :: st) M = oK (stI (M.2.2 a) y x) (fun c => den cf 170 31 L st (mU M a c)) := den_is l_170_30
theorem l_170_31 : look (tab 170) 31 = some (.iload_n 3, 1, [], uu) := by decide +kernel
theorem e_170_31 : den cf 170 31 [v0, v1, v2, .int x] st M = den cf 170 32 [v0, v1, v2, .int x] (.int x :: st) M := den_go l_170_31 rfl
theorem l_170_32 : look (tab 170) 32 = some (.ireturn, 1, [1], uu) := by decide +kernel
theorem e_170_32 : den cf 170 32 L [.int x] M = if x = zI 0 ∨ x = zI 1 then some (some (.int x), M) else none := den_e1 l_170_32
/-! yX6_pupilTold -/
theorem l_171_0 : look (tab 171) 0 = some (.aload_n 0, 1, [], uu) := by decide +kernel
theorem e_171_0 : den cf 171 0 [.ref a, v1, v2, v3, v4] st M = den cf 171 1 [.ref a, v1, v2, v3, v4] (.ref a :: st) M := den_go l_171_0 rfl
theorem l_171_1 : look (tab 171) 1 = some (.getfield 165, 3, [6, 24, 581], uu) := by decide +kernel
theorem e_171_1 : den cf 171 1 L (.ref a :: st) M = oK (gfA (M.2.2 a) 6 24) (fun v => den cf 171 4 L (v :: st) M) := den_gf l_171_1
theorem l_171_4 : look (tab 171) 4 = some (.iconst 2, 1, [], .int (zI 2)) := by decide +kernel
theorem e_171_4 : den cf 171 4 L st M = den cf 171 5 L (.int (zI 2) :: st) M := den_go l_171_4 rfl
theorem l_171_5 : look (tab 171) 5 = some (.if_icmp .ne 50, 3, [55], uu) := by decide +kernel
theorem e_171_5 : den cf 171 5 L (.int y :: .int x :: st) M = if x = y then den cf 171 8 L st M else den cf 171 55 L st M := den_ic_ne l_171_5
theorem l_171_8 : look (tab 171) 8 = some (.aload_n 0, 1, [], uu) := by decide +kernel
theorem e_171_8 : den cf 171 8 [.ref a, v1, v2, v3, v4] st M = den cf 171 9 [.ref a, v1, v2, v3, v4] (.ref a :: st) M := den_go l_171_8 rfl
theorem l_171_9 : look (tab 171) 9 = some (.aload_n 0, 1, [], uu) := by decide +kernel
theorem e_171_9 : den cf 171 9 [.ref a, v1, v2, v3, v4] st M = den cf 171 10 [.ref a, v1, v2, v3, v4] (.ref a :: st) M := den_go l_171_9 rfl
theorem l_171_10 : look (tab 171) 10 = some (.getfield 162, 3, [6, 26, 587], uu) := by decide +kernel
theorem e_171_10 : den cf 171 10 L (.ref a :: st) M = oK (gfA (M.2.2 a) 6 26) (fun v => den cf 171 13 L (v :: st) M) := den_gf l_171_10
theorem l_171_13 : look (tab 171) 13 = some (.invokevirtual 104, 3, [6, 138, 2, 226, 227, 228, 5], uu) := by decide +kernel
theorem e_171_13 : den cf 171 13 L (w1 :: .ref a :: st) M = if rcv M 6 [.ref a, w1] = true ∧ st.length ≤ 4 then rK (cf 138 [.ref a, w1] M) (fun v M' => den cf 171 16 L (pR v st) M') else none := den_iv [w1] l_171_13 rfl
theorem l_171_16 : look (tab 171) 16 = some (.ifCond .eq 39, 3, [55], uu) := by decide +kernel
theorem e_171_16 : den cf 171 16 L (.int x :: st) M = if x = zI 0 then den cf 171 55 L st M else den cf 171 19 L st M := den_if_eq l_171_16
theorem l_171_19 : look (tab 171) 19 = some (.iload_n 3, 1, [], uu) := by decide +kernel
theorem e_171_19 : den cf 171 19 [v0, v1, v2, .int x, v4] st M = den cf 171 20 [v0, v1, v2, .int x, v4] (.int x :: st) M := den_go l_171_19 rfl
theorem l_171_20 : look (tab 171) 20 = some (.ifCond .eq 19, 3, [39], uu) := by decide +kernel
theorem e_171_20 : den cf 171 20 L (.int x :: st) M = if x = zI 0 then den cf 171 39 L st M else den cf 171 23 L st M := den_if_eq l_171_20
theorem l_171_23 : look (tab 171) 23 = some (.aload_n 0, 1, [], uu) := by decide +kernel
theorem e_171_23 : den cf 171 23 [.ref a, v1, v2, v3, v4] st M = den cf 171 24 [.ref a, v1, v2, v3, v4] (.ref a :: st) M := den_go l_171_23 rfl
theorem l_171_24 : look (tab 171) 24 = some (.getfield 49, 3, [6, 14, 92], uu) := by decide +kernel
theorem e_171_24 : den cf 171 24 L (.ref a :: st) M = oK (gfA (M.2.2 a) 6 14) (fun v => den cf 171 27 L (v :: st) M) := den_gf l_171_24
theorem l_171_27 : look (tab 171) 27 = some (.aload_n 0, 1, [], uu) := by decide +kernel
theorem e_171_27 : den cf 171 27 [.ref a, v1, v2, v3, v4] st M = den cf 171 28 [.ref a, v1, v2, v3, v4] (.ref a :: st) M := den_go l_171_27 rfl
theorem l_171_28 : look (tab 171) 28 = some (.getfield 162, 3, [6, 26, 587], uu) := by decide +kernel
theorem e_171_28 : den cf 171 28 L (.ref a :: st) M = oK (gfA (M.2.2 a) 6 26) (fun v => den cf 171 31 L (v :: st) M) := den_gf l_171_28
theorem l_171_31 : look (tab 171) 31 = some (.iaload, 1, [], uu) := by decide +kernel
theorem e_171_31 : den cf 171 31 L (.int x :: .ref a :: st) M = oK (ldI (M.2.2 a) x) (fun v => den cf 171 32 L (v :: st) M) := den_al (g := ldI) l_171_31 rfl
theorem l_171_32 : look (tab 171) 32 = some (.iconst (-1), 1, [], .int (zI (-1))) := by decide +kernel
theorem e_171_32 : den cf 171 32 L st M = den cf 171 33 L (.int (zI (-1)) :: st) M := den_go l_171_32 rfl
theorem l_171_33 : look (tab 171) 33 = some (.if_icmp .eq 22, 3, [55], uu) := by decide +kernel
theorem e_171_33 : den cf 171 33 L (.int y :: .int x :: st) M = if x = y then den cf 171 55 L st M else den cf 171 36 L st M := den_ic_eq l_171_33
theorem l_171_36 : look (tab 171) 36 = some (.goto 15, 3, [51], uu) := by decide +kernel
theorem e_171_36 : den cf 171 36 L st M = den cf 171 51 L st M := den_go l_171_36 rfl
theorem l_171_39 : look (tab 171) 39 = some (.aload_n 0, 1, [], uu) := by decide +kernel
theorem e_171_39 : den cf 171 39 [.ref a, v1, v2, v3, v4] st M = den cf 171 40 [.ref a, v1, v2, v3, v4] (.ref a :: st) M := den_go l_171_39 rfl
theorem l_171_40 : look (tab 171) 40 = some (.aload_n 0, 1, [], uu) := by decide +kernel
theorem e_171_40 : den cf 171 40 [.ref a, v1, v2, v3, v4] st M = den cf 171 41 [.ref a, v1, v2, v3, v4] (.ref a :: st) M := den_go l_171_40 rfl
theorem l_171_41 : look (tab 171) 41 = some (.getfield 162, 3, [6, 26, 587], uu) := by decide +kernel
theorem e_171_41 : den cf 171 41 L (.ref a :: st) M = oK (gfA (M.2.2 a) 6 26) (fun v => den cf 171 44 L (v :: st) M) := den_gf l_171_41
theorem l_171_44 : look (tab 171) 44 = some (.iload_n 2, 1, [], uu) := by decide +kernel
theorem e_171_44 : den cf 171 44 [v0, v1, .int x, v3, v4] st M = den cf 171 45 [v0, v1, .int x, v3, v4] (.int x :: st) M := den_go l_171_44 rfl
theorem l_171_45 : look (tab 171) 45 = some (.invokevirtual 133, 3, [6, 156, 3, 358, 359, 360, 5], uu) := by decide +kernel
theorem e_171_45 : den cf 171 45 L (w2 :: w1 :: .ref a :: st) M = if rcv M 6 [.ref a, w1, w2] = true ∧ st.length ≤ 4 then rK (cf 156 [.ref a, w1, w2] M) (fun v M' => den cf 171 48 L (pR v st) M') else none := den_iv [w1, w2] l_171_45 rfl
theorem l_171_48 : look (tab 171) 48 = some (.ifCond .eq 7, 3, [55], uu) := by decide +kernel
theorem e_171_48 : den cf 171 48 L (.int x :: st) M = if x = zI 0 then den cf 171 55 L st M else den cf 171 51 L st M := den_if_eq l_171_48
theorem l_171_51 : look (tab 171) 51 = some (.iconst 1, 1, [], .int (zI 1)) := by decide +kernel
theorem e_171_51 : den cf 171 51 L st M = den cf 171 52 L (.int (zI 1) :: st) M := den_go l_171_51 rfl
theorem l_171_52 : look (tab 171) 52 = some (.goto 4, 3, [56], uu) := by decide +kernel
theorem e_171_52 : den cf 171 52 L st M = den cf 171 56 L st M := den_go l_171_52 rfl
theorem l_171_55 : look (tab 171) 55 = some (.iconst 0, 1, [], .int (zI 0)) := by decide +kernel
theorem e_171_55 : den cf 171 55 L st M = den cf 171 56 L (.int (zI 0) :: st) M := den_go l_171_55 rfl
theorem l_171_56 : look (tab 171) 56 = some (.istore 4, 2, [], uu) := by decide +kernel
theorem e_171_56 : den cf 171 56 [v0, v1, v2, v3, v4] (.int x :: st) M = den cf 171 58 [v0, v1, v2, kq v3, .int x] st M := den_st (k := 4) (v := .int x) l_171_56 rfl
theorem l_171_58 : look (tab 171) 58 = some (.iload 4, 2, [], uu) := by decide +kernel
theorem e_171_58 : den cf 171 58 [v0, v1, v2, v3, .int x] st M = den cf 171 60 [v0, v1, v2, v3, .int x] (.int x :: st) M := den_go l_171_58 rfl
theorem l_171_60 : look (tab 171) 60 = some (.ifCond .eq 18, 3, [78], uu) := by decide +kernel
theorem e_171_60 : den cf 171 60 L (.int x :: st) M = if x = zI 0 then den cf 171 78 L st M else den cf 171 63 L st M := den_if_eq l_171_60
theorem l_171_63 : look (tab 171) 63 = some (.aload_n 0, 1, [], uu) := by decide +kernel
theorem e_171_63 : den cf 171 63 [.ref a, v1, v2, v3, v4] st M = den cf 171 64 [.ref a, v1, v2, v3, v4] (.ref a :: st) M := den_go l_171_63 rfl
theorem l_171_64 : look (tab 171) 64 = some (.iload_n 1, 1, [], uu) := by decide +kernel
theorem e_171_64 : den cf 171 64 [v0, .int x, v2, v3, v4] st M = den cf 171 65 [v0, .int x, v2, v3, v4] (.int x :: st) M := den_go l_171_64 rfl
theorem l_171_65 : look (tab 171) 65 = some (.iconst 0, 1, [], .int (zI 0)) := by decide +kernel
theorem e_171_65 : den cf 171 65 L st M = den cf 171 66 L (.int (zI 0) :: st) M := den_go l_171_65 rfl
theorem l_171_66 : look (tab 171) 66 = some (.aload_n 0, 1, [], uu) := by decide +kernel
theorem e_171_66 : den cf 171 66 [.ref a, v1, v2, v3, v4] st M = den cf 171 67 [.ref a, v1, v2, v3, v4] (.ref a :: st) M := den_go l_171_66 rfl
theorem l_171_67 : look (tab 171) 67 = some (.getfield 80, 3, [6, 9, 230], uu) := by decide +kernel
theorem e_171_67 : den cf 171 67 L (.ref a :: st) M = oK (gfA (M.2.2 a) 6 9) (fun v => den cf 171 70 L (v :: st) M) := den_gf l_171_67
theorem l_171_70 : look (tab 171) 70 = some (.iconst 1, 1, [], .int (zI 1)) := by decide +kernel
theorem e_171_70 : den cf 171 70 L st M = den cf 171 71 L (.int (zI 1) :: st) M := den_go l_171_70 rfl
theorem l_171_71 : look (tab 171) 71 = some (.isub, 1, [], uu) := by decide +kernel
theorem e_171_71 : den cf 171 71 L (.int y :: .int x :: st) M = den cf 171 72 L (.int (x - y) :: st) M := den_go l_171_71 rfl
theorem l_171_72 : look (tab 171) 72 = some (.invokevirtual 193, 3, [6, 168, 4, 608, 609, 610, 5], uu) := by decide +kernel
theorem e_171_72 : den cf 171 72 L (w3 :: w2 :: w1 :: .ref a :: st) M = if rcv M 6 [.ref a, w1, w2, w3] = true ∧ st.length ≤ 4 then rK (cf 168 [.ref a, w1, w2, w3] M) (fun v M' => den cf 171 75 L (pR v st) M') else none := den_iv [w1, w2, w3] l_171_72 rfl
theorem l_171_75 : look (tab 171) 75 = some (.goto 7, 3, [82], uu) := by decide +kernel
theorem e_171_75 : den cf 171 75 L st M = den cf 171 82 L st M := den_go l_171_75 rfl
theorem l_171_78 : look (tab 171) 78 = some (.aload_n 0, 1, [], uu) := by decide +kernel
theorem e_171_78 : den cf 171 78 [.ref a, v1, v2, v3, v4] st M = den cf 171 79 [.ref a, v1, v2, v3, v4] (.ref a :: st) M := den_go l_171_78 rfl
theorem l_171_79 : look (tab 171) 79 = some (.invokevirtual 186, 3, [6, 166, 1, 612, 613, 614, 5], uu) := by decide +kernel
theorem e_171_79 : den cf 171 79 L (.ref a :: st) M = if rcv M 6 [.ref a] = true ∧ st.length ≤ 4 then rK (cf 166 [.ref a] M) (fun v M' => den cf 171 82 L (pR v st) M') else none := den_iv [] l_171_79 rfl
theorem l_171_82 : look (tab 171) 82 = some (.ireturn, 1, [1], uu) := by decide +kernel
theorem e_171_82 : den cf 171 82 L [.int x] M = if x = zI 0 ∨ x = zI 1 then some (some (.int x), M) else none := den_e1 l_171_82
/-! yX6_statement -/
theorem l_172_0 : look (tab 172) 0 = some (.aload_n 0, 1, [], uu) := by decide +kernel
theorem e_172_0 : den cf 172 0 [.ref a] st M = den cf 172 1 [.ref a] (.ref a :: st) M := den_go l_172_0 rfl
theorem l_172_1 : look (tab 172) 1 = some (.ldc 200, 2, [7], .ref 1000006) := by decide +kernel
theorem e_172_1 : den cf 172 1 L st M = den cf 172 3 L (.ref 1000006 :: st) M := den_go l_172_1 rfl
theorem l_172_3 : look (tab 172) 3 = some (.invokevirtual 202, 3, [6, 167, 2, 598, 599, 600, 5], uu) := by decide +kernel
theorem e_172_3 : den cf 172 3 L (w1 :: .ref a :: st) M = if rcv M 6 [.ref a, w1] = true ∧ st.length ≤ 4 then rK (cf 167 [.ref a, w1] M) (fun v M' => den cf 172 6 L (pR v st) M') else none := den_iv [w1] l_172_3 rfl
theorem l_172_6 : look (tab 172) 6 = some (.ifCond .eq 67, 3, [73], uu) := by decide +kernel
theorem e_172_6 : den cf 172 6 L (.int x :: st) M = if x = zI 0 then den cf 172 73 L st M else den cf 172 9 L st M := den_if_eq l_172_6
theorem l_172_9 : look (tab 172) 9 = some (.aload_n 0, 1, [], uu) := by decide +kernel
theorem e_172_9 : den cf 172 9 [.ref a] st M = den cf 172 10 [.ref a] (.ref a :: st) M := den_go l_172_9 rfl
theorem l_172_10 : look (tab 172) 10 = some (.getfield 80, 3, [6, 9, 230], uu) := by decide +kernel
theorem e_172_10 : den cf 172 10 L (.ref a :: st) M = oK (gfA (M.2.2 a) 6 9) (fun v => den cf 172 13 L (v :: st) M) := den_gf l_172_10
theorem l_172_13 : look (tab 172) 13 = some (.bipush 12, 2, [], .int (zI 12)) := by decide +kernel
theorem e_172_13 : den cf 172 13 L st M = den cf 172 15 L (.int (zI 12) :: st) M := den_go l_172_13 rfl
theorem l_172_15 : look (tab 172) 15 = some (.if_icmp .ge 58, 3, [73], uu) := by decide +kernel
theorem e_172_15 : den cf 172 15 L (.int y :: .int x :: st) M = if x < y then den cf 172 18 L st M else den cf 172 73 L st M := den_ic_ge l_172_15
theorem l_172_18 : look (tab 172) 18 = some (.aload_n 0, 1, [], uu) := by decide +kernel
theorem e_172_18 : den cf 172 18 [.ref a] st M = den cf 172 19 [.ref a] (.ref a :: st) M := den_go l_172_18 rfl
theorem l_172_19 : look (tab 172) 19 = some (.iconst 5, 1, [], .int (zI 5)) := by decide +kernel
theorem e_172_19 : den cf 172 19 L st M = den cf 172 20 L (.int (zI 5) :: st) M := den_go l_172_19 rfl
theorem l_172_20 : look (tab 172) 20 = some (.invokevirtual 197, 3, [6, 169, 2, 604, 605, 606, 5], uu) := by decide +kernel
theorem e_172_20 : den cf 172 20 L (w1 :: .ref a :: st) M = if rcv M 6 [.ref a, w1] = true ∧ st.length ≤ 4 then rK (cf 169 [.ref a, w1] M) (fun v M' => den cf 172 23 L (pR v st) M') else none := den_iv [w1] l_172_20 rfl
theorem l_172_23 : look (tab 172) 23 = some (.ifCond .eq 24, 3, [47], uu) := by decide +kernel
theorem e_172_23 : den cf 172 23 L (.int x :: st) M = if x = zI 0 then den cf 172 47 L st M else den cf 172 26 L st M := den_if_eq l_172_23
theorem l_172_26 : look (tab 172) 26 = some (.aload_n 0, 1, [], uu) := by decide +kernel
theorem e_172_26 : den cf 172 26 [.ref a] st M = den cf 172 27 [.ref a] (.ref a :: st) M := den_go l_172_26 rfl
theorem l_172_27 : look (tab 172) 27 = some (.iconst 1, 1, [], .int (zI 1)) := by decide +kernel
theorem e_172_27 : den cf 172 27 L st M = den cf 172 28 L (.int (zI 1) :: st) M := den_go l_172_27 rfl
theorem l_172_28 : look (tab 172) 28 = some (.iconst 0, 1, [], .int (zI 0)) := by decide +kernel
theorem e_172_28 : den cf 172 28 L st M = den cf 172 29 L (.int (zI 0) :: st) M := den_go l_172_28 rfl
theorem l_172_29 : look (tab 172) 29 = some (.bipush 9, 2, [], .int (zI 9)) := by decide +kernel
theorem e_172_29 : den cf 172 29 L st M = den cf 172 31 L (.int (zI 9) :: st) M := den_go l_172_29 rfl
theorem l_172_31 : look (tab 172) 31 = some (.invokevirtual 193, 3, [6, 168, 4, 608, 609, 610, 5], uu) := by decide +kernel
theorem e_172_31 : den cf 172 31 L (w3 :: w2 :: w1 :: .ref a :: st) M = if rcv M 6 [.ref a, w1, w2, w3] = true ∧ st.length ≤ 4 then rK (cf 168 [.ref a, w1, w2, w3] M) (fun v M' => den cf 172 34 L (pR v st) M') else none := den_iv [w1, w2, w3] l_172_31 rfl
theorem l_172_34 : look (tab 172) 34 = some (.ifCond .eq 13, 3, [47], uu) := by decide +kernel
theorem e_172_34 : den cf 172 34 L (.int x :: st) M = if x = zI 0 then den cf 172 47 L st M else den cf 172 37 L st M := den_if_eq l_172_34
theorem l_172_37 : look (tab 172) 37 = some (.aload_n 0, 1, [], uu) := by decide +kernel
theorem e_172_37 : den cf 172 37 [.ref a] st M = den cf 172 38 [.ref a] (.ref a :: st) M := den_go l_172_37 rfl
theorem l_172_38 : look (tab 172) 38 = some (.iconst 2, 1, [], .int (zI 2)) := by decide +kernel
theorem e_172_38 : den cf 172 38 L st M = den cf 172 39 L (.int (zI 2) :: st) M := den_go l_172_38 rfl
theorem l_172_39 : look (tab 172) 39 = some (.iconst 0, 1, [], .int (zI 0)) := by decide +kernel
theorem e_172_39 : den cf 172 39 L st M = den cf 172 40 L (.int (zI 0) :: st) M := den_go l_172_39 rfl
theorem l_172_40 : look (tab 172) 40 = some (.iconst 1, 1, [], .int (zI 1)) := by decide +kernel
theorem e_172_40 : den cf 172 40 L st M = den cf 172 41 L (.int (zI 1) :: st) M := den_go l_172_40 rfl
theorem l_172_41 : look (tab 172) 41 = some (.invokevirtual 193, 3, [6, 168, 4, 608, 609, 610, 5], uu) := by decide +kernel
theorem e_172_41 : den cf 172 41 L (w3 :: w2 :: w1 :: .ref a :: st) M = if rcv M 6 [.ref a, w1, w2, w3] = true ∧ st.length ≤ 4 then rK (cf 168 [.ref a, w1, w2, w3] M) (fun v M' => den cf 172 44 L (pR v st) M') else none := den_iv [w1, w2, w3] l_172_41 rfl
theorem l_172_44 : look (tab 172) 44 = some (.ifCond .ne 5, 3, [49], uu) := by decide +kernel
theorem e_172_44 : den cf 172 44 L (.int x :: st) M = if x = zI 0 then den cf 172 47 L st M else den cf 172 49 L st M := den_if_ne l_172_44
theorem l_172_47 : look (tab 172) 47 = some (.iconst 0, 1, [], .int (zI 0)) := by decide +kernel
theorem e_172_47 : den cf 172 47 L st M = den cf 172 48 L (.int (zI 0) :: st) M := den_go l_172_47 rfl
theorem l_172_48 : look (tab 172) 48 = some (.ireturn, 1, [1], uu) := by decide +kernel
theorem e_172_48 : den cf 172 48 L [.int x] M = if x = zI 0 ∨ x = zI 1 then some (some (.int x), M) else none := den_e1 l_172_48
theorem l_172_49 : look (tab 172) 49 = some (.aload_n 0, 1, [], uu) := by decide +kernel
theorem e_172_49 : den cf 172 49 [.ref a] st M = den cf 172 50 [.ref a] (.ref a :: st) M := den_go l_172_49 rfl
theorem l_172_50 : look (tab 172) 50 = some (.aload_n 0, 1, [], uu) := by decide +kernel
theorem e_172_50 : den cf 172 50 [.ref a] st M = den cf 172 51 [.ref a] (.ref a :: st) M := den_go l_172_50 rfl
theorem l_172_51 : look (tab 172) 51 = some (.getfield 68, 3, [6, 28, 98], uu) := by decide +kernel
theorem e_172_51 : den cf 172 51 L (.ref a :: st) M = oK (gfA (M.2.2 a) 6 28) (fun v => den cf 172 54 L (v :: st) M) := den_gf l_172_51
theorem l_172_54 : look (tab 172) 54 = some (.iconst 0, 1, [], .int (zI 0)) := by decide +kernel
theorem e_172_54 : den cf 172 54 L st M = den cf 172 55 L (.int (zI 0) :: st) M := den_go l_172_54 rfl
theorem l_172_55 : look (tab 172) 55 = some (.iaload, 1, [], uu) := by decide +kernel
theorem e_172_55 : den cf 172 55 L (.int x :: .ref a :: st) M = oK (ldI (M.2.2 a) x) (fun v => den cf 172 56 L (v :: st) M) := den_al (g := ldI) l_172_55 rfl
theorem l_172_56 : look (tab 172) 56 = some (.aload_n 0, 1, [], uu) := by decide +kernel
theorem e_172_56 : den cf 172 56 [.ref a] st M = den cf 172 57 [.ref a] (.ref a :: st) M := den_go l_172_56 rfl
theorem l_172_57 : look (tab 172) 57 = some (.getfield 68, 3, [6, 28, 98], uu) := by decide +kernel
theorem e_172_57 : den cf 172 57 L (.ref a :: st) M = oK (gfA (M.2.2 a) 6 28) (fun v => den cf 172 60 L (v :: st) M) := den_gf l_172_57
theorem l_172_60 : look (tab 172) 60 = some (.iconst 1, 1, [], .int (zI 1)) := by decide +kernel
theorem e_172_60 : den cf 172 60 L st M = den cf 172 61 L (.int (zI 1) :: st) M := den_go l_172_60 rfl
theorem l_172_61 : look (tab 172) 61 = some (.iaload, 1, [], uu) := by decide +kernel
theorem e_172_61 : den cf 172 61 L (.int x :: .ref a :: st) M = oK (ldI (M.2.2 a) x) (fun v => den cf 172 62 L (v :: st) M) := den_al (g := ldI) l_172_61 rfl
theorem l_172_62 : look (tab 172) 62 = some (.aload_n 0, 1, [], uu) := by decide +kernel
theorem e_172_62 : den cf 172 62 [.ref a] st M = den cf 172 63 [.ref a] (.ref a :: st) M := den_go l_172_62 rfl
theorem l_172_63 : look (tab 172) 63 = some (.getfield 68, 3, [6, 28, 98], uu) := by decide +kernel
theorem e_172_63 : den cf 172 63 L (.ref a :: st) M = oK (gfA (M.2.2 a) 6 28) (fun v => den cf 172 66 L (v :: st) M) := den_gf l_172_63
theorem l_172_66 : look (tab 172) 66 = some (.iconst 2, 1, [], .int (zI 2)) := by decide +kernel
theorem e_172_66 : den cf 172 66 L st M = den cf 172 67 L (.int (zI 2) :: st) M := den_go l_172_66 rfl
theorem l_172_67 : look (tab 172) 67 = some (.iaload, 1, [], uu) := by decide +kernel
theorem e_172_67 : den cf 172 67 L (.int x :: .ref a :: st) M = oK (ldI (M.2.2 a) x) (fun v => den cf 172 68 L (v :: st) M) := den_al (g := ldI) l_172_67 rfl
theorem l_172_68 : look (tab 172) 68 = some (.invokevirtual 123, 3, [6, 150, 4, 329, 330, 331, 5], uu) := by decide +kernel
theorem e_172_68 : den cf 172 68 L (w3 :: w2 :: w1 :: .ref a :: st) M = if rcv M 6 [.ref a, w1, w2, w3] = true ∧ st.length ≤ 4 then rK (cf 150 [.ref a, w1, w2, w3] M) (fun v M' => den cf 172 71 L (pR v st) M') else none := den_iv [w1, w2, w3] l_172_68 rfl
theorem l_172_71 : look (tab 172) 71 = some (.iconst 1, 1, [], .int (zI 1)) := by decide +kernel
theorem e_172_71 : den cf 172 71 L st M = den cf 172 72 L (.int (zI 1) :: st) M := den_go l_172_71 rfl
theorem l_172_72 : look (tab 172) 72 = some (.ireturn, 1, [1], uu) := by decide +kernel
theorem e_172_72 : den cf 172 72 L [.int x] M = if x = zI 0 ∨ x = zI 1 then some (some (.int x), M) else none := den_e1 l_172_72
theorem l_172_73 : look (tab 172) 73 = some (.aload_n 0, 1, [], uu) := by decide +kernel
theorem e_172_73 : den cf 172 73 [.ref a] st M = den cf 172 74 [.ref a] (.ref a :: st) M := den_go l_172_73 rfl
theorem l_172_74 : look (tab 172) 74 = some (.ldc 206, 2, [8], .ref 1000002) := by decide +kernel
theorem e_172_74 : den cf 172 74 L st M = den cf 172 76 L (.ref 1000002 :: st) M := den_go l_172_74 rfl
theorem l_172_76 : look (tab 172) 76 = some (.invokevirtual 202, 3, [6, 167, 2, 598, 599, 600, 5], uu) := by decide +kernel
theorem e_172_76 : den cf 172 76 L (w1 :: .ref a :: st) M = if rcv M 6 [.ref a, w1] = true ∧ st.length ≤ 4 then rK (cf 167 [.ref a, w1] M) (fun v M' => den cf 172 79 L (pR v st) M') else none := den_iv [w1] l_172_76 rfl
theorem l_172_79 : look (tab 172) 79 = some (.ifCond .eq 53, 3, [132], uu) := by decide +kernel
theorem e_172_79 : den cf 172 79 L (.int x :: st) M = if x = zI 0 then den cf 172 132 L st M else den cf 172 82 L st M := den_if_eq l_172_79
theorem l_172_82 : look (tab 172) 82 = some (.aload_n 0, 1, [], uu) := by decide +kernel
theorem e_172_82 : den cf 172 82 [.ref a] st M = den cf 172 83 [.ref a] (.ref a :: st) M := den_go l_172_82 rfl
theorem l_172_83 : look (tab 172) 83 = some (.aload_n 0, 1, [], uu) := by decide +kernel
theorem e_172_83 : den cf 172 83 [.ref a] st M = den cf 172 84 [.ref a] (.ref a :: st) M := den_go l_172_83 rfl
theorem l_172_84 : look (tab 172) 84 = some (.getfield 80, 3, [6, 9, 230], uu) := by decide +kernel
theorem e_172_84 : den cf 172 84 L (.ref a :: st) M = oK (gfA (M.2.2 a) 6 9) (fun v => den cf 172 87 L (v :: st) M) := den_gf l_172_84
theorem l_172_87 : look (tab 172) 87 = some (.iconst 1, 1, [], .int (zI 1)) := by decide +kernel
theorem e_172_87 : den cf 172 87 L st M = den cf 172 88 L (.int (zI 1) :: st) M := den_go l_172_87 rfl
theorem l_172_88 : look (tab 172) 88 = some (.isub, 1, [], uu) := by decide +kernel
theorem e_172_88 : den cf 172 88 L (.int y :: .int x :: st) M = den cf 172 89 L (.int (x - y) :: st) M := den_go l_172_88 rfl
theorem l_172_89 : look (tab 172) 89 = some (.invokevirtual 197, 3, [6, 169, 2, 604, 605, 606, 5], uu) := by decide +kernel
theorem e_172_89 : den cf 172 89 L (w1 :: .ref a :: st) M = if rcv M 6 [.ref a, w1] = true ∧ st.length ≤ 4 then rK (cf 169 [.ref a, w1] M) (fun v M' => den cf 172 92 L (pR v st) M') else none := den_iv [w1] l_172_89 rfl
theorem l_172_92 : look (tab 172) 92 = some (.ifCond .eq 14, 3, [106], uu) := by decide +kernel
theorem e_172_92 : den cf 172 92 L (.int x :: st) M = if x = zI 0 then den cf 172 106 L st M else den cf 172 95 L st M := den_if_eq l_172_92
theorem l_172_95 : look (tab 172) 95 = some (.aload_n 0, 1, [], uu) := by decide +kernel
theorem e_172_95 : den cf 172 95 [.ref a] st M = den cf 172 96 [.ref a] (.ref a :: st) M := den_go l_172_95 rfl
theorem l_172_96 : look (tab 172) 96 = some (.iconst 1, 1, [], .int (zI 1)) := by decide +kernel
theorem e_172_96 : den cf 172 96 L st M = den cf 172 97 L (.int (zI 1) :: st) M := den_go l_172_96 rfl
theorem l_172_97 : look (tab 172) 97 = some (.iconst 0, 1, [], .int (zI 0)) := by decide +kernel
theorem e_172_97 : den cf 172 97 L st M = den cf 172 98 L (.int (zI 0) :: st) M := den_go l_172_97 rfl
theorem l_172_98 : look (tab 172) 98 = some (.bipush 7, 2, [], .int (zI 7)) := by decide +kernel
theorem e_172_98 : den cf 172 98 L st M = den cf 172 100 L (.int (zI 7) :: st) M := den_go l_172_98 rfl
theorem l_172_100 : look (tab 172) 100 = some (.invokevirtual 193, 3, [6, 168, 4, 608, 609, 610, 5], uu) := by decide +kernel
theorem e_172_100 : den cf 172 100 L (w3 :: w2 :: w1 :: .ref a :: st) M = if rcv M 6 [.ref a, w1, w2, w3] = true ∧ st.length ≤ 4 then rK (cf 168 [.ref a, w1, w2, w3] M) (fun v M' => den cf 172 103 L (pR v st) M') else none := den_iv [w1, w2, w3] l_172_100 rfl
theorem l_172_103 : look (tab 172) 103 = some (.ifCond .ne 5, 3, [108], uu) := by decide +kernel
theorem e_172_103 : den cf 172 103 L (.int x :: st) M = if x = zI 0 then den cf 172 106 L st M else den cf 172 108 L st M := den_if_ne l_172_103
theorem l_172_106 : look (tab 172) 106 = some (.iconst 0, 1, [], .int (zI 0)) := by decide +kernel
theorem e_172_106 : den cf 172 106 L st M = den cf 172 107 L (.int (zI 0) :: st) M := den_go l_172_106 rfl
theorem l_172_107 : look (tab 172) 107 = some (.ireturn, 1, [1], uu) := by decide +kernel
theorem e_172_107 : den cf 172 107 L [.int x] M = if x = zI 0 ∨ x = zI 1 then some (some (.int x), M) else none := den_e1 l_172_107
theorem l_172_108 : look (tab 172) 108 = some (.aload_n 0, 1, [], uu) := by decide +kernel
theorem e_172_108 : den cf 172 108 [.ref a] st M = den cf 172 109 [.ref a] (.ref a :: st) M := den_go l_172_108 rfl
theorem l_172_109 : look (tab 172) 109 = some (.getfield 46, 3, [6, 13, 91], uu) := by decide +kernel
theorem e_172_109 : den cf 172 109 L (.ref a :: st) M = oK (gfA (M.2.2 a) 6 13) (fun v => den cf 172 112 L (v :: st) M) := den_gf l_172_109
theorem l_172_112 : look (tab 172) 112 = some (.aload_n 0, 1, [], uu) := by decide +kernel
theorem e_172_112 : den cf 172 112 [.ref a] st M = den cf 172 113 [.ref a] (.ref a :: st) M := den_go l_172_112 rfl
theorem l_172_113 : look (tab 172) 113 = some (.getfield 68, 3, [6, 28, 98], uu) := by decide +kernel
theorem e_172_113 : den cf 172 113 L (.ref a :: st) M = oK (gfA (M.2.2 a) 6 28) (fun v => den cf 172 116 L (v :: st) M) := den_gf l_172_113
theorem l_172_116 : look (tab 172) 116 = some (.iconst 0, 1, [], .int (zI 0)) := by decide +kernel
theorem e_172_116 : den cf 172 116 L st M = den cf 172 117 L (.int (zI 0) :: st) M := den_go l_172_116 rfl
theorem l_172_117 : look (tab 172) 117 = some (.iaload, 1, [], uu) := by decide +kernel
theorem e_172_117 : den cf 172 117 L (.int x :: .ref a :: st) M = oK (ldI (M.2.2 a) x) (fun v => den cf 172 118 L (v :: st) M) := den_al (g := ldI) l_172_117 rfl
theorem l_172_118 : look (tab 172) 118 = some (.dup2, 1, [], uu) := by decide +kernel
theorem e_172_118 : den cf 172 118 L (.int x :: .ref a :: st) M = den cf 172 119 L (.int x :: .ref a :: .int x :: .ref a :: st) M := den_go l_172_118 rfl
theorem l_172_119 : look (tab 172) 119 = some (.iaload, 1, [], uu) := by decide +kernel
theorem e_172_119 : den cf 172 119 L (.int x :: .ref a :: st) M = oK (ldI (M.2.2 a) x) (fun v => den cf 172 120 L (v :: st) M) := den_al (g := ldI) l_172_119 rfl
theorem l_172_120 : look (tab 172) 120 = some (.iconst 1, 1, [], .int (zI 1)) := by decide +kernel
theorem e_172_120 : den cf 172 120 L st M = den cf 172 121 L (.int (zI 1) :: st) M := den_go l_172_120 rfl
theorem l_172_121 : look (tab 172) 121 = some (.aload_n 0, 1, [], uu) := by decide +kernel
theorem e_172_121 : den cf 172 121 [.ref a] st M = den cf 172 122 [.ref a] (.ref a :: st) M := den_go l_172_121 rfl
theorem l_172_122 : look (tab 172) 122 = some (.getfield 68, 3, [6, 28, 98], uu) := by decide +kernel
theorem e_172_122 : den cf 172 122 L (.ref a :: st) M = oK (gfA (M.2.2 a) 6 28) (fun v => den cf 172 125 L (v :: st) M) := den_gf l_172_122
theorem l_172_125 : look (tab 172) 125 = some (.iconst 1, 1, [], .int (zI 1)) := by decide +kernel
theorem e_172_125 : den cf 172 125 L st M = den cf 172 126 L (.int (zI 1) :: st) M := den_go l_172_125 rfl
theorem l_172_126 : look (tab 172) 126 = some (.iaload, 1, [], uu) := by decide +kernel
theorem e_172_126 : den cf 172 126 L (.int x :: .ref a :: st) M = oK (ldI (M.2.2 a) x) (fun v => den cf 172 127 L (v :: st) M) := den_al (g := ldI) l_172_126 rfl
theorem l_172_127 : look (tab 172) 127 = some (.ishl, 1, [], uu) := by decide +kernel
theorem e_172_127 : den cf 172 127 L (.int y :: .int x :: st) M = den cf 172 128 L (.int (x <<< (y &&& 31)) :: st) M := den_go l_172_127 rfl
theorem l_172_128 : look (tab 172) 128 = some (.ior, 1, [], uu) := by decide +kernel
theorem e_172_128 : den cf 172 128 L (.int y :: .int x :: st) M = den cf 172 129 L (.int (x ||| y) :: st) M := den_go l_172_128 rfl
theorem l_172_129 : look (tab 172) 129 = some (.iastore, 1, [], uu) := by decide +kernel
theorem e_172_129 : den cf 172 129 L (.int x :: .int y :: .ref a :: st) M = oK (stI (M.2.2 a) y x) (fun c => den cf 172 130 L st (mU M a c)) := den_is l_172_129
theorem l_172_130 : look (tab 172) 130 = some (.iconst 1, 1, [], .int (zI 1)) := by decide +kernel
theorem e_172_130 : den cf 172 130 L st M = den cf 172 131 L (.int (zI 1) :: st) M := den_go l_172_130 rfl
theorem l_172_131 : look (tab 172) 131 = some (.ireturn, 1, [1], uu) := by decide +kernel
theorem e_172_131 : den cf 172 131 L [.int x] M = if x = zI 0 ∨ x = zI 1 then some (some (.int x), M) else none := den_e1 l_172_131
theorem l_172_132 : look (tab 172) 132 = some (.aload_n 0, 1, [], uu) := by decide +kernel
theorem e_172_132 : den cf 172 132 [.ref a] st M = den cf 172 133 [.ref a] (.ref a :: st) M := den_go l_172_132 rfl
theorem l_172_133 : look (tab 172) 133 = some (.ldc 208, 2, [9], .ref 1000004) := by decide +kernel
theorem e_172_133 : den cf 172 133 L st M = den cf 172 135 L (.ref 1000004 :: st) M := den_go l_172_133 rfl
theorem l_172_135 : look (tab 172) 135 = some (.invokevirtual 202, 3, [6, 167, 2, 598, 599, 600, 5], uu) := by decide +kernel
theorem e_172_135 : den cf 172 135 L (w1 :: .ref a :: st) M = if rcv M 6 [.ref a, w1] = true ∧ st.length ≤ 4 then rK (cf 167 [.ref a, w1] M) (fun v M' => den cf 172 138 L (pR v st) M') else none := den_iv [w1] l_172_135 rfl
theorem l_172_138 : look (tab 172) 138 = some (.ifCond .eq 47, 3, [185], uu) := by decide +kernel
theorem e_172_138 : den cf 172 138 L (.int x :: st) M = if x = zI 0 then den cf 172 185 L st M else den cf 172 141 L st M := den_if_eq l_172_138
theorem l_172_141 : look (tab 172) 141 = some (.aload_n 0, 1, [], uu) := by decide +kernel
theorem e_172_141 : den cf 172 141 [.ref a] st M = den cf 172 142 [.ref a] (.ref a :: st) M := den_go l_172_141 rfl
theorem l_172_142 : look (tab 172) 142 = some (.invokevirtual 190, 3, [6, 165, 1, 582, 583, 584, 5], uu) := by decide +kernel
theorem e_172_142 : den cf 172 142 L (.ref a :: st) M = if rcv M 6 [.ref a] = true ∧ st.length ≤ 4 then rK (cf 165 [.ref a] M) (fun v M' => den cf 172 145 L (pR v st) M') else none := den_iv [] l_172_142 rfl
theorem l_172_145 : look (tab 172) 145 = some (.aload_n 0, 1, [], uu) := by decide +kernel
theorem e_172_145 : den cf 172 145 [.ref a] st M = den cf 172 146 [.ref a] (.ref a :: st) M := den_go l_172_145 rfl
theorem l_172_146 : look (tab 172) 146 = some (.iconst 0, 1, [], .int (zI 0)) := by decide +kernel
theorem e_172_146 : den cf 172 146 L st M = den cf 172 147 L (.int (zI 0) :: st) M := den_go l_172_146 rfl
theorem l_172_147 : look (tab 172) 147 = some (.iconst 0, 1, [], .int (zI 0)) := by decide +kernel
theorem e_172_147 : den cf 172 147 L st M = den cf 172 148 L (.int (zI 0) :: st) M := den_go l_172_147 rfl
theorem l_172_148 : look (tab 172) 148 = some (.iconst 0, 1, [], .int (zI 0)) := by decide +kernel
theorem e_172_148 : den cf 172 148 L st M = den cf 172 149 L (.int (zI 0) :: st) M := den_go l_172_148 rfl
theorem l_172_149 : look (tab 172) 149 = some (.invokevirtual 210, 3, [6, 171, 4, 616, 617, 618, 5], uu) := by decide +kernel
theorem e_172_149 : den cf 172 149 L (w3 :: w2 :: w1 :: .ref a :: st) M = if rcv M 6 [.ref a, w1, w2, w3] = true ∧ st.length ≤ 4 then rK (cf 171 [.ref a, w1, w2, w3] M) (fun v M' => den cf 172 152 L (pR v st) M') else none := den_iv [w1, w2, w3] l_172_149 rfl
theorem l_172_152 : look (tab 172) 152 = some (.ifCond .eq 13, 3, [165], uu) := by decide +kernel
theorem e_172_152 : den cf 172 152 L (.int x :: st) M = if x = zI 0 then den cf 172 165 L st M else den cf 172 155 L st M := den_if_eq l_172_152
theorem l_172_155 : look (tab 172) 155 = some (.aload_n 0, 1, [], uu) := by decide +kernel
theorem e_172_155 : den cf 172 155 [.ref a] st M = den cf 172 156 [.ref a] (.ref a :: st) M := den_go l_172_155 rfl
theorem l_172_156 : look (tab 172) 156 = some (.iconst 1, 1, [], .int (zI 1)) := by decide +kernel
theorem e_172_156 : den cf 172 156 L st M = den cf 172 157 L (.int (zI 1) :: st) M := den_go l_172_156 rfl
theorem l_172_157 : look (tab 172) 157 = some (.iconst 1, 1, [], .int (zI 1)) := by decide +kernel
theorem e_172_157 : den cf 172 157 L st M = den cf 172 158 L (.int (zI 1) :: st) M := den_go l_172_157 rfl
theorem l_172_158 : look (tab 172) 158 = some (.iconst 0, 1, [], .int (zI 0)) := by decide +kernel
theorem e_172_158 : den cf 172 158 L st M = den cf 172 159 L (.int (zI 0) :: st) M := den_go l_172_158 rfl
theorem l_172_159 : look (tab 172) 159 = some (.invokevirtual 210, 3, [6, 171, 4, 616, 617, 618, 5], uu) := by decide +kernel
theorem e_172_159 : den cf 172 159 L (w3 :: w2 :: w1 :: .ref a :: st) M = if rcv M 6 [.ref a, w1, w2, w3] = true ∧ st.length ≤ 4 then rK (cf 171 [.ref a, w1, w2, w3] M) (fun v M' => den cf 172 162 L (pR v st) M') else none := den_iv [w1, w2, w3] l_172_159 rfl
theorem l_172_162 : look (tab 172) 162 = some (.ifCond .ne 5, 3, [167], uu) := by decide +kernel
theorem e_172_162 : den cf 172 162 L (.int x :: st) M = if x = zI 0 then den cf 172 165 L st M else den cf 172 167 L st M := den_if_ne l_172_162
theorem l_172_165 : look (tab 172) 165 = some (.iconst 0, 1, [], .int (zI 0)) := by decide +kernel
theorem e_172_165 : den cf 172 165 L st M = den cf 172 166 L (.int (zI 0) :: st) M := den_go l_172_165 rfl
theorem l_172_166 : look (tab 172) 166 = some (.ireturn, 1, [1], uu) := by decide +kernel
theorem e_172_166 : den cf 172 166 L [.int x] M = if x = zI 0 ∨ x = zI 1 then some (some (.int x), M) else none := den_e1 l_172_166
theorem l_172_167 : look (tab 172) 167 = some (.aload_n 0, 1, [], uu) := by decide +kernel
theorem e_172_167 : den cf 172 167 [.ref a] st M = den cf 172 168 [.ref a] (.ref a :: st) M := den_go l_172_167 rfl
theorem l_172_168 : look (tab 172) 168 = some (.aload_n 0, 1, [], uu) := by decide +kernel
theorem e_172_168 : den cf 172 168 [.ref a] st M = den cf 172 169 [.ref a] (.ref a :: st) M := den_go l_172_168 rfl
theorem l_172_169 : look (tab 172) 169 = some (.getfield 68, 3, [6, 28, 98], uu) := by decide +kernel
theorem e_172_169 : den cf 172 169 L (.ref a :: st) M = oK (gfA (M.2.2 a) 6 28) (fun v => den cf 172 172 L (v :: st) M) := den_gf l_172_169
theorem l_172_172 : look (tab 172) 172 = some (.iconst 0, 1, [], .int (zI 0)) := by decide +kernel
theorem e_172_172 : den cf 172 172 L st M = den cf 172 173 L (.int (zI 0) :: st) M := den_go l_172_172 rfl
theorem l_172_173 : look (tab 172) 173 = some (.iaload, 1, [], uu) := by decide +kernel
theorem e_172_173 : den cf 172 173 L (.int x :: .ref a :: st) M = oK (ldI (M.2.2 a) x) (fun v => den cf 172 174 L (v :: st) M) := den_al (g := ldI) l_172_173 rfl
theorem l_172_174 : look (tab 172) 174 = some (.aload_n 0, 1, [], uu) := by decide +kernel
theorem e_172_174 : den cf 172 174 [.ref a] st M = den cf 172 175 [.ref a] (.ref a :: st) M := den_go l_172_174 rfl
theorem l_172_175 : look (tab 172) 175 = some (.getfield 68, 3, [6, 28, 98], uu) := by decide +kernel
theorem e_172_175 : den cf 172 175 L (.ref a :: st) M = oK (gfA (M.2.2 a) 6 28) (fun v => den cf 172 178 L (v :: st) M) := den_gf l_172_175
theorem l_172_178 : look (tab 172) 178 = some (.iconst 1, 1, [], .int (zI 1)) := by decide +kernel
theorem e_172_178 : den cf 172 178 L st M = den cf 172 179 L (.int (zI 1) :: st) M := den_go l_172_178 rfl
theorem l_172_179 : look (tab 172) 179 = some (.iaload, 1, [], uu) := by decide +kernel
theorem e_172_179 : den cf 172 179 L (.int x :: .ref a :: st) M = oK (ldI (M.2.2 a) x) (fun v => den cf 172 180 L (v :: st) M) := den_al (g := ldI) l_172_179 rfl
theorem l_172_180 : look (tab 172) 180 = some (.invokevirtual 136, 3, [6, 155, 3, 362, 363, 364, 5], uu) := by decide +kernel
theorem e_172_180 : den cf 172 180 L (w2 :: w1 :: .ref a :: st) M = if rcv M 6 [.ref a, w1, w2] = true ∧ st.length ≤ 4 then rK (cf 155 [.ref a, w1, w2] M) (fun v M' => den cf 172 183 L (pR v st) M') else none := den_iv [w1, w2] l_172_180 rfl
theorem l_172_183 : look (tab 172) 183 = some (.iconst 1, 1, [], .int (zI 1)) := by decide +kernel
theorem e_172_183 : den cf 172 183 L st M = den cf 172 184 L (.int (zI 1) :: st) M := den_go l_172_183 rfl
theorem l_172_184 : look (tab 172) 184 = some (.ireturn, 1, [1], uu) := by decide +kernel
theorem e_172_184 : den cf 172 184 L [.int x] M = if x = zI 0 ∨ x = zI 1 then some (some (.int x), M) else none := den_e1 l_172_184
theorem l_172_185 : look (tab 172) 185 = some (.aload_n 0, 1, [], uu) := by decide +kernel
theorem e_172_185 : den cf 172 185 [.ref a] st M = den cf 172 186 [.ref a] (.ref a :: st) M := den_go l_172_185 rfl
theorem l_172_186 : look (tab 172) 186 = some (.ldc 214, 2, [10], .ref 1000005) := by decide +kernel
theorem e_172_186 : den cf 172 186 L st M = den cf 172 188 L (.ref 1000005 :: st) M := den_go l_172_186 rfl
theorem l_172_188 : look (tab 172) 188 = some (.invokevirtual 202, 3, [6, 167, 2, 598, 599, 600, 5], uu) := by decide +kernel
theorem e_172_188 : den cf 172 188 L (w1 :: .ref a :: st) M = if rcv M 6 [.ref a, w1] = true ∧ st.length ≤ 4 then rK (cf 167 [.ref a, w1] M) (fun v M' => den cf 172 191 L (pR v st) M') else none := den_iv [w1] l_172_188 rfl
theorem l_172_191 : look (tab 172) 191 = some (.ifCond .eq 31, 3, [222], uu) := by decide +kernel
theorem e_172_191 : den cf 172 191 L (.int x :: st) M = if x = zI 0 then den cf 172 222 L st M else den cf 172 194 L st M := den_if_eq l_172_191
theorem l_172_194 : look (tab 172) 194 = some (.aload_n 0, 1, [], uu) := by decide +kernel
theorem e_172_194 : den cf 172 194 [.ref a] st M = den cf 172 195 [.ref a] (.ref a :: st) M := den_go l_172_194 rfl
theorem l_172_195 : look (tab 172) 195 = some (.invokevirtual 190, 3, [6, 165, 1, 582, 583, 584, 5], uu) := by decide +kernel
theorem e_172_195 : den cf 172 195 L (.ref a :: st) M = if rcv M 6 [.ref a] = true ∧ st.length ≤ 4 then rK (cf 165 [.ref a] M) (fun v M' => den cf 172 198 L (pR v st) M') else none := den_iv [] l_172_195 rfl
theorem l_172_198 : look (tab 172) 198 = some (.aload_n 0, 1, [], uu) := by decide +kernel
theorem e_172_198 : den cf 172 198 [.ref a] st M = den cf 172 199 [.ref a] (.ref a :: st) M := den_go l_172_198 rfl
theorem l_172_199 : look (tab 172) 199 = some (.iconst 0, 1, [], .int (zI 0)) := by decide +kernel
theorem e_172_199 : den cf 172 199 L st M = den cf 172 200 L (.int (zI 0) :: st) M := den_go l_172_199 rfl
theorem l_172_200 : look (tab 172) 200 = some (.iconst 0, 1, [], .int (zI 0)) := by decide +kernel
theorem e_172_200 : den cf 172 200 L st M = den cf 172 201 L (.int (zI 0) :: st) M := den_go l_172_200 rfl
theorem l_172_201 : look (tab 172) 201 = some (.iconst 1, 1, [], .int (zI 1)) := by decide +kernel
theorem e_172_201 : den cf 172 201 L st M = den cf 172 202 L (.int (zI 1) :: st) M := den_go l_172_201 rfl
theorem l_172_202 : look (tab 172) 202 = some (.invokevirtual 210, 3, [6, 171, 4, 616, 617, 618, 5], uu) := by decide +kernel
theorem e_172_202 : den cf 172 202 L (w3 :: w2 :: w1 :: .ref a :: st) M = if rcv M 6 [.ref a, w1, w2, w3] = true ∧ st.length ≤ 4 then rK (cf 171 [.ref a, w1, w2, w3] M) (fun v M' => den cf 172 205 L (pR v st) M') else none := den_iv [w1, w2, w3] l_172_202 rfl
theorem l_172_205 : look (tab 172) 205 = some (.ifCond .ne 5, 3, [210], uu) := by decide +kernel
theorem e_172_205 : den cf 172 205 L (.int x :: st) M = if x = zI 0 then den cf 172 208 L st M else den cf 172 210 L st M := den_if_ne l_172_205
theorem l_172_208 : look (tab 172) 208 = some (.iconst 0, 1, [], .int (zI 0)) := by decide +kernel
theorem e_172_208 : den cf 172 208 L st M = den cf 172 209 L (.int (zI 0) :: st) M := den_go l_172_208 rfl
theorem l_172_209 : look (tab 172) 209 = some (.ireturn, 1, [1], uu) := by decide +kernel
theorem e_172_209 : den cf 172 209 L [.int x] M = if x = zI 0 ∨ x = zI 1 then some (some (.int x), M) else none := den_e1 l_172_209
theorem l_172_210 : look (tab 172) 210 = some (.aload_n 0, 1, [], uu) := by decide +kernel
theorem e_172_210 : den cf 172 210 [.ref a] st M = den cf 172 211 [.ref a] (.ref a :: st) M := den_go l_172_210 rfl
theorem l_172_211 : look (tab 172) 211 = some (.aload_n 0, 1, [], uu) := by decide +kernel
theorem e_172_211 : den cf 172 211 [.ref a] st M = den cf 172 212 [.ref a] (.ref a :: st) M := den_go l_172_211 rfl
theorem l_172_212 : look (tab 172) 212 = some (.getfield 68, 3, [6, 28, 98], uu) := by decide +kernel
theorem e_172_212 : den cf 172 212 L (.ref a :: st) M = oK (gfA (M.2.2 a) 6 28) (fun v => den cf 172 215 L (v :: st) M) := den_gf l_172_212
theorem l_172_215 : look (tab 172) 215 = some (.iconst 0, 1, [], .int (zI 0)) := by decide +kernel
theorem e_172_215 : den cf 172 215 L st M = den cf 172 216 L (.int (zI 0) :: st) M := den_go l_172_215 rfl
theorem l_172_216 : look (tab 172) 216 = some (.iaload, 1, [], uu) := by decide +kernel
theorem e_172_216 : den cf 172 216 L (.int x :: .ref a :: st) M = oK (ldI (M.2.2 a) x) (fun v => den cf 172 217 L (v :: st) M) := den_al (g := ldI) l_172_216 rfl
theorem l_172_217 : look (tab 172) 217 = some (.invokevirtual 143, 3, [6, 158, 2, 383, 384, 385, 5], uu) := by decide +kernel
theorem e_172_217 : den cf 172 217 L (w1 :: .ref a :: st) M = if rcv M 6 [.ref a, w1] = true ∧ st.length ≤ 4 then rK (cf 158 [.ref a, w1] M) (fun v M' => den cf 172 220 L (pR v st) M') else none := den_iv [w1] l_172_217 rfl
theorem l_172_220 : look (tab 172) 220 = some (.iconst 1, 1, [], .int (zI 1)) := by decide +kernel
theorem e_172_220 : den cf 172 220 L st M = den cf 172 221 L (.int (zI 1) :: st) M := den_go l_172_220 rfl
theorem l_172_221 : look (tab 172) 221 = some (.ireturn, 1, [1], uu) := by decide +kernel
theorem e_172_221 : den cf 172 221 L [.int x] M = if x = zI 0 ∨ x = zI 1 then some (some (.int x), M) else none := den_e1 l_172_221
theorem l_172_222 : look (tab 172) 222 = some (.aload_n 0, 1, [], uu) := by decide +kernel
theorem e_172_222 : den cf 172 222 [.ref a] st M = den cf 172 223 [.ref a] (.ref a :: st) M := den_go l_172_222 rfl
theorem l_172_223 : look (tab 172) 223 = some (.ldc 216, 2, [11], .ref 1000003) := by decide +kernel
theorem e_172_223 : den cf 172 223 L st M = den cf 172 225 L (.ref 1000003 :: st) M := den_go l_172_223 rfl
theorem l_172_225 : look (tab 172) 225 = some (.invokevirtual 202, 3, [6, 167, 2, 598, 599, 600, 5], uu) := by decide +kernel
theorem e_172_225 : den cf 172 225 L (w1 :: .ref a :: st) M = if rcv M 6 [.ref a, w1] = true ∧ st.length ≤ 4 then rK (cf 167 [.ref a, w1] M) (fun v M' => den cf 172 228 L (pR v st) M') else none := den_iv [w1] l_172_225 rfl
theorem l_172_228 : look (tab 172) 228 = some (.ifCond .eq 11, 3, [239], uu) := by decide +kernel
theorem e_172_228 : den cf 172 228 L (.int x :: st) M = if x = zI 0 then den cf 172 239 L st M else den cf 172 231 L st M := den_if_eq l_172_228
theorem l_172_231 : look (tab 172) 231 = some (.aload_n 0, 1, [], uu) := by decide +kernel
theorem e_172_231 : den cf 172 231 [.ref a] st M = den cf 172 232 [.ref a] (.ref a :: st) M := den_go l_172_231 rfl
theorem l_172_232 : look (tab 172) 232 = some (.iconst 0, 1, [], .int (zI 0)) := by decide +kernel
theorem e_172_232 : den cf 172 232 L st M = den cf 172 233 L (.int (zI 0) :: st) M := den_go l_172_232 rfl
theorem l_172_233 : look (tab 172) 233 = some (.bipush 12, 2, [], .int (zI 12)) := by decide +kernel
theorem e_172_233 : den cf 172 233 L st M = den cf 172 235 L (.int (zI 12) :: st) M := den_go l_172_233 rfl
theorem l_172_235 : look (tab 172) 235 = some (.invokevirtual 218, 3, [6, 170, 3, 620, 621, 622, 5], uu) := by decide +kernel
theorem e_172_235 : den cf 172 235 L (w2 :: w1 :: .ref a :: st) M = if rcv M 6 [.ref a, w1, w2] = true ∧ st.length ≤ 4 then rK (cf 170 [.ref a, w1, w2] M) (fun v M' => den cf 172 238 L (pR v st) M') else none := den_iv [w1, w2] l_172_235 rfl
theorem l_172_238 : look (tab 172) 238 = some (.ireturn, 1, [1], uu) := by decide +kernel
theorem e_172_238 : den cf 172 238 L [.int x] M = if x = zI 0 ∨ x = zI 1 then some (some (.int x), M) else none := den_e1 l_172_238
theorem l_172_239 : look (tab 172) 239 = some (.aload_n 0, 1, [], uu) := by decide +kernel
theorem e_172_239 : den cf 172 239 [.ref a] st M = den cf 172 240 [.ref a] (.ref a :: st) M := den_go l_172_239 rfl
theorem l_172_240 : look (tab 172) 240 = some (.ldc 221, 2, [12], .ref 1000007) := by decide +kernel
theorem e_172_240 : den cf 172 240 L st M = den cf 172 242 L (.ref 1000007 :: st) M := den_go l_172_240 rfl
theorem l_172_242 : look (tab 172) 242 = some (.invokevirtual 202, 3, [6, 167, 2, 598, 599, 600, 5], uu) := by decide +kernel
theorem e_172_242 : den cf 172 242 L (w1 :: .ref a :: st) M = if rcv M 6 [.ref a, w1] = true ∧ st.length ≤ 4 then rK (cf 167 [.ref a, w1] M) (fun v M' => den cf 172 245 L (pR v st) M') else none := den_iv [w1] l_172_242 rfl
theorem l_172_245 : look (tab 172) 245 = some (.ifCond .eq 11, 3, [256], uu) := by decide +kernel
theorem e_172_245 : den cf 172 245 L (.int x :: st) M = if x = zI 0 then den cf 172 256 L st M else den cf 172 248 L st M := den_if_eq l_172_245
theorem l_172_248 : look (tab 172) 248 = some (.aload_n 0, 1, [], uu) := by decide +kernel
theorem e_172_248 : den cf 172 248 [.ref a] st M = den cf 172 249 [.ref a] (.ref a :: st) M := den_go l_172_248 rfl
theorem l_172_249 : look (tab 172) 249 = some (.iconst 1, 1, [], .int (zI 1)) := by decide +kernel
theorem e_172_249 : den cf 172 249 L st M = den cf 172 250 L (.int (zI 1) :: st) M := den_go l_172_249 rfl
theorem l_172_250 : look (tab 172) 250 = some (.bipush 9, 2, [], .int (zI 9)) := by decide +kernel
theorem e_172_250 : den cf 172 250 L st M = den cf 172 252 L (.int (zI 9) :: st) M := den_go l_172_250 rfl
theorem l_172_252 : look (tab 172) 252 = some (.invokevirtual 218, 3, [6, 170, 3, 620, 621, 622, 5], uu) := by decide +kernel
theorem e_172_252 : den cf 172 252 L (w2 :: w1 :: .ref a :: st) M = if rcv M 6 [.ref a, w1, w2] = true ∧ st.length ≤ 4 then rK (cf 170 [.ref a, w1, w2] M) (fun v M' => den cf 172 255 L (pR v st) M') else none := den_iv [w1, w2] l_172_252 rfl
theorem l_172_255 : look (tab 172) 255 = some (.ireturn, 1, [1], uu) := by decide +kernel
theorem e_172_255 : den cf 172 255 L [.int x] M = if x = zI 0 ∨ x = zI 1 then some (some (.int x), M) else none := den_e1 l_172_255
theorem l_172_256 : look (tab 172) 256 = some (.aload_n 0, 1, [], uu) := by decide +kernel
theorem e_172_256 : den cf 172 256 [.ref a] st M = den cf 172 257 [.ref a] (.ref a :: st) M := den_go l_172_256 rfl
theorem l_172_257 : look (tab 172) 257 = some (.ldc 223, 2, [13], .ref 1000001) := by decide +kernel
theorem e_172_257 : den cf 172 257 L st M = den cf 172 259 L (.ref 1000001 :: st) M := den_go l_172_257 rfl
theorem l_172_259 : look (tab 172) 259 = some (.invokevirtual 202, 3, [6, 167, 2, 598, 599, 600, 5], uu) := by decide +kernel
theorem e_172_259 : den cf 172 259 L (w1 :: .ref a :: st) M = if rcv M 6 [.ref a, w1] = true ∧ st.length ≤ 4 then rK (cf 167 [.ref a, w1] M) (fun v M' => den cf 172 262 L (pR v st) M') else none := den_iv [w1] l_172_259 rfl
theorem l_172_262 : look (tab 172) 262 = some (.ifCond .eq 12, 3, [274], uu) := by decide +kernel
theorem e_172_262 : den cf 172 262 L (.int x :: st) M = if x = zI 0 then den cf 172 274 L st M else den cf 172 265 L st M := den_if_eq l_172_262
theorem l_172_265 : look (tab 172) 265 = some (.aload_n 0, 1, [], uu) := by decide +kernel
theorem e_172_265 : den cf 172 265 [.ref a] st M = den cf 172 266 [.ref a] (.ref a :: st) M := den_go l_172_265 rfl
theorem l_172_266 : look (tab 172) 266 = some (.iconst 2, 1, [], .int (zI 2)) := by decide +kernel
theorem e_172_266 : den cf 172 266 L st M = den cf 172 267 L (.int (zI 2) :: st) M := den_go l_172_266 rfl
theorem l_172_267 : look (tab 172) 267 = some (.iconst 1, 1, [], .int (zI 1)) := by decide +kernel
theorem e_172_267 : den cf 172 267 L st M = den cf 172 268 L (.int (zI 1) :: st) M := den_go l_172_267 rfl
theorem l_172_268 : look (tab 172) 268 = some (.invokevirtual 218, 3, [6, 170, 3, 620, 621, 622, 5], uu) := by decide +kernel
theorem e_172_268 : den cf 172 268 L (w2 :: w1 :: .ref a :: st) M = if rcv M 6 [.ref a, w1, w2] = true ∧ st.length ≤ 4 then rK (cf 170 [.ref a, w1, w2] M) (fun v M' => den cf 172 271 L (pR v st) M') else none := den_iv [w1, w2] l_172_268 rfl
theorem l_172_271 : look (tab 172) 271 = some (.goto 7, 3, [278], uu) := by decide +kernel
theorem e_172_271 : den cf 172 271 L st M = den cf 172 278 L st M := den_go l_172_271 rfl
theorem l_172_274 : look (tab 172) 274 = some (.aload_n 0, 1, [], uu) := by decide +kernel
theorem e_172_274 : den cf 172 274 [.ref a] st M = den cf 172 275 [.ref a] (.ref a :: st) M := den_go l_172_274 rfl
theorem l_172_275 : look (tab 172) 275 = some (.invokevirtual 186, 3, [6, 166, 1, 612, 613, 614, 5], uu) := by decide +kernel
theorem e_172_275 : den cf 172 275 L (.ref a :: st) M = if rcv M 6 [.ref a] = true ∧ st.length ≤ 4 then rK (cf 166 [.ref a] M) (fun v M' => den cf 172 278 L (pR v st) M') else none := den_iv [] l_172_275 rfl
theorem l_172_278 : look (tab 172) 278 = some (.ireturn, 1, [1], uu) := by decide +kernel
theorem e_172_278 : den cf 172 278 L [.int x] M = if x = zI 0 ∨ x = zI 1 then some (some (.int x), M) else none := den_e1 l_172_278
/-! yX6_readAll -/
theorem l_173_0 : look (tab 173) 0 = some (.aload_n 0, 1, [], uu) := by decide +kernel
theorem e_173_0 : den cf 173 0 [.ref a] st M = den cf 173 1 [.ref a] (.ref a :: st) M := den_go l_173_0 rfl
theorem l_173_1 : look (tab 173) 1 = some (.iconst 1, 1, [], .int (zI 1)) := by decide +kernel
theorem e_173_1 : den cf 173 1 L st M = den cf 173 2 L (.int (zI 1) :: st) M := den_go l_173_1 rfl
theorem l_173_2 : look (tab 173) 2 = some (.putfield 225, 3, [6, 29, 0, 560, 0], uu) := by decide +kernel
theorem e_173_2 : den cf 173 2 L (.int x :: .ref a :: st) M = oK (pfA (M.2.2 a) 6 29 (.int x)) (fun c => den cf 173 5 L st (mU M a c)) := den_pf0 l_173_2
theorem l_173_5 : look (tab 173) 5 = some (.aload_n 0, 1, [], uu) := by decide +kernel
theorem e_173_5 : den cf 173 5 [.ref a] st M = den cf 173 6 [.ref a] (.ref a :: st) M := den_go l_173_5 rfl
theorem l_173_6 : look (tab 173) 6 = some (.iconst 0, 1, [], .int (zI 0)) := by decide +kernel
theorem e_173_6 : den cf 173 6 L st M = den cf 173 7 L (.int (zI 0) :: st) M := den_go l_173_6 rfl
theorem l_173_7 : look (tab 173) 7 = some (.putfield 156, 3, [6, 23, 0, 580, 0], uu) := by decide +kernel
theorem e_173_7 : den cf 173 7 L (.int x :: .ref a :: st) M = oK (pfA (M.2.2 a) 6 23 (.int x)) (fun c => den cf 173 10 L st (mU M a c)) := den_pf0 l_173_7
theorem l_173_10 : look (tab 173) 10 = some (.aload_n 0, 1, [], uu) := by decide +kernel
theorem e_173_10 : den cf 173 10 [.ref a] st M = den cf 173 11 [.ref a] (.ref a :: st) M := den_go l_173_10 rfl
theorem l_173_11 : look (tab 173) 11 = some (.invokevirtual 190, 3, [6, 165, 1, 582, 583, 584, 5], uu) := by decide +kernel
theorem e_173_11 : den cf 173 11 L (.ref a :: st) M = if rcv M 6 [.ref a] = true ∧ st.length ≤ 4 then rK (cf 165 [.ref a] M) (fun v M' => den cf 173 14 L (pR v st) M') else none := den_iv [] l_173_11 rfl
theorem l_173_14 : look (tab 173) 14 = some (.aload_n 0, 1, [], uu) := by decide +kernel
theorem e_173_14 : den cf 173 14 [.ref a] st M = den cf 173 15 [.ref a] (.ref a :: st) M := den_go l_173_14 rfl
theorem l_173_15 : look (tab 173) 15 = some (.invokevirtual 228, 3, [6, 172, 1, 594, 595, 596, 5], uu) := by decide +kernel
theorem e_173_15 : den cf 173 15 L (.ref a :: st) M = if rcv M 6 [.ref a] = true ∧ st.length ≤ 4 then rK (cf 172 [.ref a] M) (fun v M' => den cf 173 18 L (pR v st) M') else none := den_iv [] l_173_15 rfl
theorem l_173_18 : look (tab 173) 18 = some (.ifCond .ne 5, 3, [23], uu) := by decide +kernel
theorem e_173_18 : den cf 173 18 L (.int x :: st) M = if x = zI 0 then den cf 173 21 L st M else den cf 173 23 L st M := den_if_ne l_173_18
theorem l_173_21 : look (tab 173) 21 = some (.iconst 0, 1, [], .int (zI 0)) := by decide +kernel
theorem e_173_21 : den cf 173 21 L st M = den cf 173 22 L (.int (zI 0) :: st) M := den_go l_173_21 rfl
theorem l_173_22 : look (tab 173) 22 = some (.ireturn, 1, [1], uu) := by decide +kernel
theorem e_173_22 : den cf 173 22 L [.int x] M = if x = zI 0 ∨ x = zI 1 then some (some (.int x), M) else none := den_e1 l_173_22
theorem l_173_23 : look (tab 173) 23 = some (.aload_n 0, 1, [], uu) := by decide +kernel
theorem e_173_23 : den cf 173 23 [.ref a] st M = den cf 173 24 [.ref a] (.ref a :: st) M := den_go l_173_23 rfl
theorem l_173_24 : look (tab 173) 24 = some (.getfield 165, 3, [6, 24, 581], uu) := by decide +kernel
theorem e_173_24 : den cf 173 24 L (.ref a :: st) M = oK (gfA (M.2.2 a) 6 24) (fun v => den cf 173 27 L (v :: st) M) := den_gf l_173_24
theorem l_173_27 : look (tab 173) 27 = some (.ifCond .eq 42, 3, [69], uu) := by decide +kernel
theorem e_173_27 : den cf 173 27 L (.int x :: st) M = if x = zI 0 then den cf 173 69 L st M else den cf 173 30 L st M := den_if_eq l_173_27
theorem l_173_30 : look (tab 173) 30 = some (.aload_n 0, 1, [], uu) := by decide +kernel
theorem e_173_30 : den cf 173 30 [.ref a] st M = den cf 173 31 [.ref a] (.ref a :: st) M := den_go l_173_30 rfl
theorem l_173_31 : look (tab 173) 31 = some (.getfield 165, 3, [6, 24, 581], uu) := by decide +kernel
theorem e_173_31 : den cf 173 31 L (.ref a :: st) M = oK (gfA (M.2.2 a) 6 24) (fun v => den cf 173 34 L (v :: st) M) := den_gf l_173_31
theorem l_173_34 : look (tab 173) 34 = some (.iconst 3, 1, [], .int (zI 3)) := by decide +kernel
theorem e_173_34 : den cf 173 34 L st M = den cf 173 35 L (.int (zI 3) :: st) M := den_go l_173_34 rfl
theorem l_173_35 : look (tab 173) 35 = some (.if_icmp .eq 8, 3, [43], uu) := by decide +kernel
theorem e_173_35 : den cf 173 35 L (.int y :: .int x :: st) M = if x = y then den cf 173 43 L st M else den cf 173 38 L st M := den_ic_eq l_173_35
theorem l_173_38 : look (tab 173) 38 = some (.aload_n 0, 1, [], uu) := by decide +kernel
theorem e_173_38 : den cf 173 38 [.ref a] st M = den cf 173 39 [.ref a] (.ref a :: st) M := den_go l_173_38 rfl
theorem l_173_39 : look (tab 173) 39 = some (.invokevirtual 186, 3, [6, 166, 1, 612, 613, 614, 5], uu) := by decide +kernel
theorem e_173_39 : den cf 173 39 L (.ref a :: st) M = if rcv M 6 [.ref a] = true ∧ st.length ≤ 4 then rK (cf 166 [.ref a] M) (fun v M' => den cf 173 42 L (pR v st) M') else none := den_iv [] l_173_39 rfl
theorem l_173_42 : look (tab 173) 42 = some (.ireturn, 1, [1], uu) := by decide +kernel
theorem e_173_42 : den cf 173 42 L [.int x] M = if x = zI 0 ∨ x = zI 1 then some (some (.int x), M) else none := den_e1 l_173_42
theorem l_173_43 : look (tab 173) 43 = some (.aload_n 0, 1, [], uu) := by decide +kernel
theorem e_173_43 : den cf 173 43 [.ref a] st M = den cf 173 44 [.ref a] (.ref a :: st) M := den_go l_173_43 rfl
theorem l_173_44 : look (tab 173) 44 = some (.invokevirtual 190, 3, [6, 165, 1, 582, 583, 584, 5], uu) := by decide +kernel
theorem e_173_44 : den cf 173 44 L (.ref a :: st) M = if rcv M 6 [.ref a] = true ∧ st.length ≤ 4 then rK (cf 165 [.ref a] M) (fun v M' => den cf 173 47 L (pR v st) M') else none := den_iv [] l_173_44 rfl
theorem l_173_47 : look (tab 173) 47 = some (.aload_n 0, 1, [], uu) := by decide +kernel
theorem e_173_47 : den cf 173 47 [.ref a] st M = den cf 173 48 [.ref a] (.ref a :: st) M := den_go l_173_47 rfl
theorem l_173_48 : look (tab 173) 48 = some (.invokevirtual 228, 3, [6, 172, 1, 594, 595, 596, 5], uu) := by decide +kernel
theorem e_173_48 : den cf 173 48 L (.ref a :: st) M = if rcv M 6 [.ref a] = true ∧ st.length ≤ 4 then rK (cf 172 [.ref a] M) (fun v M' => den cf 173 51 L (pR v st) M') else none := den_iv [] l_173_48 rfl
theorem l_173_51 : look (tab 173) 51 = some (.ifCond .ne 5, 3, [56], uu) := by decide +kernel
theorem e_173_51 : den cf 173 51 L (.int x :: st) M = if x = zI 0 then den cf 173 54 L st M else den cf 173 56 L st M := den_if_ne l_173_51
theorem l_173_54 : look (tab 173) 54 = some (.iconst 0, 1, [], .int (zI 0)) := by decide +kernel
theorem e_173_54 : den cf 173 54 L st M = den cf 173 55 L (.int (zI 0) :: st) M := den_go l_173_54 rfl
theorem l_173_55 : look (tab 173) 55 = some (.ireturn, 1, [1], uu) := by decide +kernel
theorem e_173_55 : den cf 173 55 L [.int x] M = if x = zI 0 ∨ x = zI 1 then some (some (.int x), M) else none := den_e1 l_173_55
theorem l_173_56 : look (tab 173) 56 = some (.aload_n 0, 1, [], uu) := by decide +kernel
theorem e_173_56 : den cf 173 56 [.ref a] st M = den cf 173 57 [.ref a] (.ref a :: st) M := den_go l_173_56 rfl
theorem l_173_57 : look (tab 173) 57 = some (.dup, 1, [], uu) := by decide +kernel
theorem e_173_57 : den cf 173 57 L (.ref a :: st) M = den cf 173 58 L (.ref a :: .ref a :: st) M := den_go l_173_57 rfl
theorem e_173_57_i : den cf 173 57 L (.int x :: st) M = den cf 173 58 L (.int x :: .int x :: st) M := den_go l_173_57 rfl
theorem l_173_58 : look (tab 173) 58 = some (.getfield 225, 3, [6, 29, 560], uu) := by decide +kernel
theorem e_173_58 : den cf 173 58 L (.ref a :: st) M = oK (gfA (M.2.2 a) 6 29) (fun v => den cf 173 61 L (v :: st) M) := den_gf l_173_58
theorem l_173_61 : look (tab 173) 61 = some (.iconst 1, 1, [], .int (zI 1)) := by decide +kernel
theorem e_173_61 : den cf 173 61 L st M = den cf 173 62 L (.int (zI 1) :: st) M := den_go l_173_61 rfl
theorem l_173_62 : look (tab 173) 62 = some (.iadd, 1, [], uu) := by decide +kernel
theorem e_173_62 : den cf 173 62 L (.int y :: .int x :: st) M = den cf 173 63 L (.int (x + y) :: st) M := den_go l_173_62 rfl
theorem l_173_63 : look (tab 173) 63 = some (.putfield 225, 3, [6, 29, 0, 560, 0], uu) := by decide +kernel
theorem e_173_63 : den cf 173 63 L (.int x :: .ref a :: st) M = oK (pfA (M.2.2 a) 6 29 (.int x)) (fun c => den cf 173 66 L st (mU M a c)) := den_pf0 l_173_63
theorem l_173_66 : look (tab 173) 66 = some (.goto (-43), 3, [23], uu) := by decide +kernel
theorem e_173_66 : den cf 173 66 L st M = den cf 173 23 L st M := den_go l_173_66 rfl
theorem l_173_69 : look (tab 173) 69 = some (.iconst 1, 1, [], .int (zI 1)) := by decide +kernel
theorem e_173_69 : den cf 173 69 L st M = den cf 173 70 L (.int (zI 1) :: st) M := den_go l_173_69 rfl
theorem l_173_70 : look (tab 173) 70 = some (.ireturn, 1, [1], uu) := by decide +kernel
theorem e_173_70 : den cf 173 70 L [.int x] M = if x = zI 0 ∨ x = zI 1 then some (some (.int x), M) else none := den_e1 l_173_70
/-! yX6_fresh -/
theorem l_174_0 : look (tab 174) 0 = some (.aload_n 0, 1, [], uu) := by decide +kernel
theorem e_174_0 : den cf 174 0 [.ref a] st M = den cf 174 1 [.ref a] (.ref a :: st) M := den_go l_174_0 rfl
theorem l_174_1 : look (tab 174) 1 = some (.getfield 231, 3, [6, 22, 565], uu) := by decide +kernel
theorem e_174_1 : den cf 174 1 L (.ref a :: st) M = oK (gfA (M.2.2 a) 6 22) (fun v => den cf 174 4 L (v :: st) M) := den_gf l_174_1
theorem l_174_4 : look (tab 174) 4 = some (.ifnonnull 14, 3, [18], uu) := by decide +kernel
theorem e_174_4 : den cf 174 4 L (va_rf o :: st) M = oN o (den cf 174 7 L st M) (den cf 174 18 L st M) := den_nn l_174_4
theorem e_174_4_n : den cf 174 4 L (.null :: st) M = den cf 174 7 L st M := den_go l_174_4 rfl
theorem e_174_4_r : den cf 174 4 L (.ref a :: st) M = den cf 174 18 L st M := den_go l_174_4 rfl
theorem l_174_7 : look (tab 174) 7 = some (.aload_n 0, 1, [], uu) := by decide +kernel
theorem e_174_7 : den cf 174 7 [.ref a] st M = den cf 174 8 [.ref a] (.ref a :: st) M := den_go l_174_7 rfl
theorem l_174_8 : look (tab 174) 8 = some (.new 8, 3, [6, 566, 4, 5], uu) := by decide +kernel
theorem e_174_8 : den cf 174 8 L st M = if M.1 < 600000 then den cf 174 11 L (.ref M.1 :: st) (mN M 36 (.inl (6, dflA 6))) else none := den_g l_174_8 rfl
theorem l_174_11 : look (tab 174) 11 = some (.dup, 1, [], uu) := by decide +kernel
theorem e_174_11 : den cf 174 11 L (.ref a :: st) M = den cf 174 12 L (.ref a :: .ref a :: st) M := den_go l_174_11 rfl
theorem e_174_11_i : den cf 174 11 L (.int x :: st) M = den cf 174 12 L (.int x :: .int x :: st) M := den_go l_174_11 rfl
theorem l_174_12 : look (tab 174) 12 = some (.invokespecial 235, 3, [1, 6, 135, 1, 567, 76, 5], uu) := by decide +kernel
theorem e_174_12 : den cf 174 12 L (.ref a :: st) M = if rcv M 6 [.ref a] = true ∧ st.length ≤ 4 then rK (cf 135 [.ref a] M) (fun v M' => den cf 174 15 L (pR v st) M') else none := den_isp [] l_174_12 rfl
theorem l_174_15 : look (tab 174) 15 = some (.putfield 231, 3, [6, 22, 2, 565, 0], uu) := by decide +kernel
theorem e_174_15 : den cf 174 15 L (v :: .ref a :: st) M = if okv 2 v = true then oK (pfA (M.2.2 a) 6 22 v) (fun c => den cf 174 18 L st (mU M a c)) else none := den_pf l_174_15
theorem l_174_18 : look (tab 174) 18 = some (.aload_n 0, 1, [], uu) := by decide +kernel
theorem e_174_18 : den cf 174 18 [.ref a] st M = den cf 174 19 [.ref a] (.ref a :: st) M := den_go l_174_18 rfl
theorem l_174_19 : look (tab 174) 19 = some (.getfield 231, 3, [6, 22, 565], uu) := by decide +kernel
theorem e_174_19 : den cf 174 19 L (.ref a :: st) M = oK (gfA (M.2.2 a) 6 22) (fun v => den cf 174 22 L (v :: st) M) := den_gf l_174_19
theorem l_174_22 : look (tab 174) 22 = some (.aload_n 0, 1, [], uu) := by decide +kernel
theorem e_174_22 : den cf 174 22 [.ref a] st M = den cf 174 23 [.ref a] (.ref a :: st) M := den_go l_174_22 rfl
theorem l_174_23 : look (tab 174) 23 = some (.invokevirtual 236, 3, [6, 238, 2, 568, 569, 570, 5], uu) := by decide +kernel
theorem e_174_23 : den cf 174 23 L (w1 :: .ref a :: st) M = if rcv M 6 [.ref a, w1] = true ∧ st.length ≤ 4 then rK (cf 238 [.ref a, w1] M) (fun v M' => den cf 174 26 L (pR v st) M') else none := den_iv [w1] l_174_23 rfl
theorem l_174_26 : look (tab 174) 26 = some (.aload_n 0, 1, [], uu) := by decide +kernel
theorem e_174_26 : den cf 174 26 [.ref a] st M = den cf 174 27 [.ref a] (.ref a :: st) M := den_go l_174_26 rfl
theorem l_174_27 : look (tab 174) 27 = some (.getfield 231, 3, [6, 22, 565], uu) := by decide +kernel
theorem e_174_27 : den cf 174 27 L (.ref a :: st) M = oK (gfA (M.2.2 a) 6 22) (fun v => den cf 174 30 L (v :: st) M) := den_gf l_174_27
theorem l_174_30 : look (tab 174) 30 = some (.areturn, 1, [], uu) := by decide +kernel
theorem e_174_30 : den cf 174 30 L [v] M = if isRf v = true then some (some v, M) else none := den_e3 l_174_30
/-! yX6_list -/
theorem l_175_0 : look (tab 175) 0 = some (.aload_n 0, 1, [], uu) := by decide +kernel
theorem e_175_0 : den cf 175 0 [.ref a, v1, v2] st M = den cf 175 1 [.ref a, v1, v2] (.ref a :: st) M := den_go l_175_0 rfl
theorem l_175_1 : look (tab 175) 1 = some (.invokevirtual 240, 3, [6, 174, 1, 561, 562, 563, 5], uu) := by decide +kernel
theorem e_175_1 : den cf 175 1 L (.ref a :: st) M = if rcv M 6 [.ref a] = true ∧ st.length ≤ 4 then rK (cf 174 [.ref a] M) (fun v M' => den cf 175 4 L (pR v st) M') else none := den_iv [] l_175_1 rfl
theorem l_175_4 : look (tab 175) 4 = some (.astore_n 1, 1, [], uu) := by decide +kernel
theorem e_175_4 : den cf 175 4 [v0, v1, v2] (v :: st) M = if isRf v = true then den cf 175 5 [kq v0, v, v2] st M else none := den_as (k := 1) (v := v) l_175_4 rfl (Nat.le_of_ble_eq_true rfl)
theorem l_175_5 : look (tab 175) 5 = some (.aload_n 0, 1, [], uu) := by decide +kernel
theorem e_175_5 : den cf 175 5 [.ref a, v1, v2] st M = den cf 175 6 [.ref a, v1, v2] (.ref a :: st) M := den_go l_175_5 rfl
theorem l_175_6 : look (tab 175) 6 = some (.invokevirtual 244, 3, [6, 173, 1, 576, 577, 578, 5], uu) := by decide +kernel
theorem e_175_6 : den cf 175 6 L (.ref a :: st) M = if rcv M 6 [.ref a] = true ∧ st.length ≤ 4 then rK (cf 173 [.ref a] M) (fun v M' => den cf 175 9 L (pR v st) M') else none := den_iv [] l_175_6 rfl
theorem l_175_9 : look (tab 175) 9 = some (.istore_n 2, 1, [], uu) := by decide +kernel
theorem e_175_9 : den cf 175 9 [v0, v1, v2] (.int x :: st) M = den cf 175 10 [v0, kq v1, .int x] st M := den_st (k := 2) (v := .int x) l_175_9 rfl
theorem l_175_10 : look (tab 175) 10 = some (.aload_n 0, 1, [], uu) := by decide +kernel
theorem e_175_10 : den cf 175 10 [.ref a, v1, v2] st M = den cf 175 11 [.ref a, v1, v2] (.ref a :: st) M := den_go l_175_10 rfl
theorem l_175_11 : look (tab 175) 11 = some (.iconst 0, 1, [], .int (zI 0)) := by decide +kernel
theorem e_175_11 : den cf 175 11 L st M = den cf 175 12 L (.int (zI 0) :: st) M := den_go l_175_11 rfl
theorem l_175_12 : look (tab 175) 12 = some (.putfield 153, 3, [6, 7, 0, 414, 0], uu) := by decide +kernel
theorem e_175_12 : den cf 175 12 L (.int x :: .ref a :: st) M = oK (pfA (M.2.2 a) 6 7 (.int x)) (fun c => den cf 175 15 L st (mU M a c)) := den_pf0 l_175_12
theorem l_175_15 : look (tab 175) 15 = some (.iload_n 2, 1, [], uu) := by decide +kernel
theorem e_175_15 : den cf 175 15 [v0, v1, .int x] st M = den cf 175 16 [v0, v1, .int x] (.int x :: st) M := den_go l_175_15 rfl
theorem l_175_16 : look (tab 175) 16 = some (.ifCond .ne 23, 3, [39], uu) := by decide +kernel
theorem e_175_16 : den cf 175 16 L (.int x :: st) M = if x = zI 0 then den cf 175 19 L st M else den cf 175 39 L st M := den_if_ne l_175_16
theorem l_175_19 : look (tab 175) 19 = some (.aload_n 0, 1, [], uu) := by decide +kernel
theorem e_175_19 : den cf 175 19 [.ref a, v1, v2] st M = den cf 175 20 [.ref a, v1, v2] (.ref a :: st) M := den_go l_175_19 rfl
theorem l_175_20 : look (tab 175) 20 = some (.aload_n 1, 1, [], uu) := by decide +kernel
theorem e_175_20 : den cf 175 20 [v0, v1, v2] st M = if isRf v1 = true then den cf 175 21 [v0, v1, v2] (v1 :: st) M else none := den_g l_175_20 rfl
theorem l_175_21 : look (tab 175) 21 = some (.invokevirtual 236, 3, [6, 238, 2, 568, 569, 570, 5], uu) := by decide +kernel
theorem e_175_21 : den cf 175 21 L (w1 :: .ref a :: st) M = if rcv M 6 [.ref a, w1] = true ∧ st.length ≤ 4 then rK (cf 238 [.ref a, w1] M) (fun v M' => den cf 175 24 L (pR v st) M') else none := den_iv [w1] l_175_21 rfl
theorem l_175_24 : look (tab 175) 24 = some (.aload_n 0, 1, [], uu) := by decide +kernel
theorem e_175_24 : den cf 175 24 [.ref a, v1, v2] st M = den cf 175 25 [.ref a, v1, v2] (.ref a :: st) M := den_go l_175_24 rfl
theorem l_175_25 : look (tab 175) 25 = some (.bipush (-2), 2, [], .int (zI (-2))) := by decide +kernel
theorem e_175_25 : den cf 175 25 L st M = den cf 175 27 L (.int (zI (-2)) :: st) M := den_go l_175_25 rfl
theorem l_175_27 : look (tab 175) 27 = some (.invokevirtual 93, 3, [6, 136, 2, 133, 134, 135, 5], uu) := by decide +kernel
theorem e_175_27 : den cf 175 27 L (w1 :: .ref a :: st) M = if rcv M 6 [.ref a, w1] = true ∧ st.length ≤ 4 then rK (cf 136 [.ref a, w1] M) (fun v M' => den cf 175 30 L (pR v st) M') else none := den_iv [w1] l_175_27 rfl
theorem l_175_30 : look (tab 175) 30 = some (.pop, 1, [], uu) := by decide +kernel
theorem e_175_30 : den cf 175 30 L (.int x :: st) M = den cf 175 31 L st M := den_go l_175_30 rfl
theorem l_175_31 : look (tab 175) 31 = some (.bipush (-20), 2, [], .int (zI (-20))) := by decide +kernel
theorem e_175_31 : den cf 175 31 L st M = den cf 175 33 L (.int (zI (-20)) :: st) M := den_go l_175_31 rfl
theorem l_175_33 : look (tab 175) 33 = some (.aload_n 0, 1, [], uu) := by decide +kernel
theorem e_175_33 : den cf 175 33 [.ref a, v1, v2] st M = den cf 175 34 [.ref a, v1, v2] (.ref a :: st) M := den_go l_175_33 rfl
theorem l_175_34 : look (tab 175) 34 = some (.getfield 174, 3, [6, 27, 559], uu) := by decide +kernel
theorem e_175_34 : den cf 175 34 L (.ref a :: st) M = oK (gfA (M.2.2 a) 6 27) (fun v => den cf 175 37 L (v :: st) M) := den_gf l_175_34
theorem l_175_37 : look (tab 175) 37 = some (.isub, 1, [], uu) := by decide +kernel
theorem e_175_37 : den cf 175 37 L (.int y :: .int x :: st) M = den cf 175 38 L (.int (x - y) :: st) M := den_go l_175_37 rfl
theorem l_175_38 : look (tab 175) 38 = some (.ireturn, 1, [0], uu) := by decide +kernel
theorem e_175_38 : den cf 175 38 L [.int x] M = some (some (.int x), M) := den_e0 l_175_38
theorem l_175_39 : look (tab 175) 39 = some (.aload_n 0, 1, [], uu) := by decide +kernel
theorem e_175_39 : den cf 175 39 [.ref a, v1, v2] st M = den cf 175 40 [.ref a, v1, v2] (.ref a :: st) M := den_go l_175_39 rfl
theorem l_175_40 : look (tab 175) 40 = some (.getfield 225, 3, [6, 29, 560], uu) := by decide +kernel
theorem e_175_40 : den cf 175 40 L (.ref a :: st) M = oK (gfA (M.2.2 a) 6 29) (fun v => den cf 175 43 L (v :: st) M) := den_gf l_175_40
theorem l_175_43 : look (tab 175) 43 = some (.ireturn, 1, [0], uu) := by decide +kernel
theorem e_175_43 : den cf 175 43 L [.int x] M = some (some (.int x), M) := den_e0 l_175_43
/-! yX6_pupilOf -/
theorem l_176_0 : look (tab 176) 0 = some (.aload_n 0, 1, [], uu) := by decide +kernel
theorem e_176_0 : den cf 176 0 [.ref a, v1, v2] st M = den cf 176 1 [.ref a, v1, v2] (.ref a :: st) M := den_go l_176_0 rfl
theorem l_176_1 : look (tab 176) 1 = some (.iload_n 1, 1, [], uu) := by decide +kernel
theorem e_176_1 : den cf 176 1 [v0, .int x, v2] st M = den cf 176 2 [v0, .int x, v2] (.int x :: st) M := den_go l_176_1 rfl
theorem l_176_2 : look (tab 176) 2 = some (.invokevirtual 104, 3, [6, 138, 2, 226, 227, 228, 5], uu) := by decide +kernel
theorem e_176_2 : den cf 176 2 L (w1 :: .ref a :: st) M = if rcv M 6 [.ref a, w1] = true ∧ st.length ≤ 4 then rK (cf 138 [.ref a, w1] M) (fun v M' => den cf 176 5 L (pR v st) M') else none := den_iv [w1] l_176_2 rfl
theorem l_176_5 : look (tab 176) 5 = some (.ifCond .ne 10, 3, [15], uu) := by decide +kernel
theorem e_176_5 : den cf 176 5 L (.int x :: st) M = if x = zI 0 then den cf 176 8 L st M else den cf 176 15 L st M := den_if_ne l_176_5
theorem l_176_8 : look (tab 176) 8 = some (.aload_n 0, 1, [], uu) := by decide +kernel
theorem e_176_8 : den cf 176 8 [.ref a, v1, v2] st M = den cf 176 9 [.ref a, v1, v2] (.ref a :: st) M := den_go l_176_8 rfl
theorem l_176_9 : look (tab 176) 9 = some (.bipush (-2), 2, [], .int (zI (-2))) := by decide +kernel
theorem e_176_9 : den cf 176 9 L st M = den cf 176 11 L (.int (zI (-2)) :: st) M := den_go l_176_9 rfl
theorem l_176_11 : look (tab 176) 11 = some (.invokevirtual 93, 3, [6, 136, 2, 133, 134, 135, 5], uu) := by decide +kernel
theorem e_176_11 : den cf 176 11 L (w1 :: .ref a :: st) M = if rcv M 6 [.ref a, w1] = true ∧ st.length ≤ 4 then rK (cf 136 [.ref a, w1] M) (fun v M' => den cf 176 14 L (pR v st) M') else none := den_iv [w1] l_176_11 rfl
theorem l_176_14 : look (tab 176) 14 = some (.ireturn, 1, [0], uu) := by decide +kernel
theorem e_176_14 : den cf 176 14 L [.int x] M = some (some (.int x), M) := den_e0 l_176_14
theorem l_176_15 : look (tab 176) 15 = some (.iload_n 2, 1, [], uu) := by decide +kernel
theorem e_176_15 : den cf 176 15 [v0, v1, .int x] st M = den cf 176 16 [v0, v1, .int x] (.int x :: st) M := den_go l_176_15 rfl
theorem l_176_16 : look (tab 176) 16 = some (.tableswitch 104 0 7 #[48, 55, 62, 69, 76, 83, 90, 97], 48, [120, 64, 71, 78, 85, 92, 99, 106, 113], uu) := by decide +kernel
theorem e_176_16 : den cf 176 16 L (.int x :: st) M = if x.toInt < 0 ∨ 7 < x.toInt then den cf 176 120 L st M else oK ([64, 71, 78, 85, 92, 99, 106, 113] : List Nat)[(x.toInt - 0).toNat]? (fun t => den cf 176 t L st M) := den_ts l_176_16
theorem l_176_64 : look (tab 176) 64 = some (.aload_n 0, 1, [], uu) := by decide +kernel
theorem e_176_64 : den cf 176 64 [.ref a, v1, v2] st M = den cf 176 65 [.ref a, v1, v2] (.ref a :: st) M := den_go l_176_64 rfl
theorem l_176_65 : look (tab 176) 65 = some (.getfield 37, 3, [6, 10, 88], uu) := by decide +kernel
theorem e_176_65 : den cf 176 65 L (.ref a :: st) M = oK (gfA (M.2.2 a) 6 10) (fun v => den cf 176 68 L (v :: st) M) := den_gf l_176_65
theorem l_176_68 : look (tab 176) 68 = some (.iload_n 1, 1, [], uu) := by decide +kernel
theorem e_176_68 : den cf 176 68 [v0, .int x, v2] st M = den cf 176 69 [v0, .int x, v2] (.int x :: st) M := den_go l_176_68 rfl
theorem l_176_69 : look (tab 176) 69 = some (.iaload, 1, [], uu) := by decide +kernel
theorem e_176_69 : den cf 176 69 L (.int x :: .ref a :: st) M = oK (ldI (M.2.2 a) x) (fun v => den cf 176 70 L (v :: st) M) := den_al (g := ldI) l_176_69 rfl
theorem l_176_70 : look (tab 176) 70 = some (.ireturn, 1, [0], uu) := by decide +kernel
theorem e_176_70 : den cf 176 70 L [.int x] M = some (some (.int x), M) := den_e0 l_176_70
theorem l_176_71 : look (tab 176) 71 = some (.aload_n 0, 1, [], uu) := by decide +kernel
theorem e_176_71 : den cf 176 71 [.ref a, v1, v2] st M = den cf 176 72 [.ref a, v1, v2] (.ref a :: st) M := den_go l_176_71 rfl
theorem l_176_72 : look (tab 176) 72 = some (.getfield 40, 3, [6, 11, 89], uu) := by decide +kernel
theorem e_176_72 : den cf 176 72 L (.ref a :: st) M = oK (gfA (M.2.2 a) 6 11) (fun v => den cf 176 75 L (v :: st) M) := den_gf l_176_72
theorem l_176_75 : look (tab 176) 75 = some (.iload_n 1, 1, [], uu) := by decide +kernel
theorem e_176_75 : den cf 176 75 [v0, .int x, v2] st M = den cf 176 76 [v0, .int x, v2] (.int x :: st) M := den_go l_176_75 rfl
theorem l_176_76 : look (tab 176) 76 = some (.iaload, 1, [], uu) := by decide +kernel
theorem e_176_76 : den cf 176 76 L (.int x :: .ref a :: st) M = oK (ldI (M.2.2 a) x) (fun v => den cf 176 77 L (v :: st) M) := den_al (g := ldI) l_176_76 rfl
theorem l_176_77 : look (tab 176) 77 = some (.ireturn, 1, [0], uu) := by decide +kernel
theorem e_176_77 : den cf 176 77 L [.int x] M = some (some (.int x), M) := den_e0 l_176_77
theorem l_176_78 : look (tab 176) 78 = some (.aload_n 0, 1, [], uu) := by decide +kernel
theorem e_176_78 : den cf 176 78 [.ref a, v1, v2] st M = den cf 176 79 [.ref a, v1, v2] (.ref a :: st) M := den_go l_176_78 rfl
theorem l_176_79 : look (tab 176) 79 = some (.getfield 43, 3, [6, 12, 90], uu) := by decide +kernel
theorem e_176_79 : den cf 176 79 L (.ref a :: st) M = oK (gfA (M.2.2 a) 6 12) (fun v => den cf 176 82 L (v :: st) M) := den_gf l_176_79
theorem l_176_82 : look (tab 176) 82 = some (.iload_n 1, 1, [], uu) := by decide +kernel
theorem e_176_82 : den cf 176 82 [v0, .int x, v2] st M = den cf 176 83 [v0, .int x, v2] (.int x :: st) M := den_go l_176_82 rfl
theorem l_176_83 : look (tab 176) 83 = some (.iaload, 1, [], uu) := by decide +kernel
theorem e_176_83 : den cf 176 83 L (.int x :: .ref a :: st) M = oK (ldI (M.2.2 a) x) (fun v => den cf 176 84 L (v :: st) M) := den_al (g := ldI) l_176_83 rfl
theorem l_176_84 : look (tab 176) 84 = some (.ireturn, 1, [0], uu) := by decide +kernel
theorem e_176_84 : den cf 176 84 L [.int x] M = some (some (.int x), M) := den_e0 l_176_84
theorem l_176_85 : look (tab 176) 85 = some (.aload_n 0, 1, [], uu) := by decide +kernel
theorem e_176_85 : den cf 176 85 [.ref a, v1, v2] st M = den cf 176 86 [.ref a, v1, v2] (.ref a :: st) M := den_go l_176_85 rfl
theorem l_176_86 : look (tab 176) 86 = some (.getfield 46, 3, [6, 13, 91], uu) := by decide +kernel
theorem e_176_86 : den cf 176 86 L (.ref a :: st) M = oK (gfA (M.2.2 a) 6 13) (fun v => den cf 176 89 L (v :: st) M) := den_gf l_176_86
theorem l_176_89 : look (tab 176) 89 = some (.iload_n 1, 1, [], uu) := by decide +kernel
theorem e_176_89 : den cf 176 89 [v0, .int x, v2] st M = den cf 176 90 [v0, .int x, v2] (.int x :: st) M := den_go l_176_89 rfl
theorem l_176_90 : look (tab 176) 90 = some (.iaload, 1, [], uu) := by decide +kernel
theorem e_176_90 : den cf 176 90 L (.int x :: .ref a :: st) M = oK (ldI (M.2.2 a) x) (fun v => den cf 176 91 L (v :: st) M) := den_al (g := ldI) l_176_90 rfl
theorem l_176_91 : look (tab 176) 91 = some (.ireturn, 1, [0], uu) := by decide +kernel
theorem e_176_91 : den cf 176 91 L [.int x] M = some (some (.int x), M) := den_e0 l_176_91
theorem l_176_92 : look (tab 176) 92 = some (.aload_n 0, 1, [], uu) := by decide +kernel
theorem e_176_92 : den cf 176 92 [.ref a, v1, v2] st M = den cf 176 93 [.ref a, v1, v2] (.ref a :: st) M := den_go l_176_92 rfl
theorem l_176_93 : look (tab 176) 93 = some (.getfield 49, 3, [6, 14, 92], uu) := by decide +kernel
theorem e_176_93 : den cf 176 93 L (.ref a :: st) M = oK (gfA (M.2.2 a) 6 14) (fun v => den cf 176 96 L (v :: st) M) := den_gf l_176_93
theorem l_176_96 : look (tab 176) 96 = some (.iload_n 1, 1, [], uu) := by decide +kernel
theorem e_176_96 : den cf 176 96 [v0, .int x, v2] st M = den cf 176 97 [v0, .int x, v2] (.int x :: st) M := den_go l_176_96 rfl
theorem l_176_97 : look (tab 176) 97 = some (.iaload, 1, [], uu) := by decide +kernel
theorem e_176_97 : den cf 176 97 L (.int x :: .ref a :: st) M = oK (ldI (M.2.2 a) x) (fun v => den cf 176 98 L (v :: st) M) := den_al (g := ldI) l_176_97 rfl
theorem l_176_98 : look (tab 176) 98 = some (.ireturn, 1, [0], uu) := by decide +kernel
theorem e_176_98 : den cf 176 98 L [.int x] M = some (some (.int x), M) := den_e0 l_176_98
theorem l_176_99 : look (tab 176) 99 = some (.aload_n 0, 1, [], uu) := by decide +kernel
theorem e_176_99 : den cf 176 99 [.ref a, v1, v2] st M = den cf 176 100 [.ref a, v1, v2] (.ref a :: st) M := den_go l_176_99 rfl
theorem l_176_100 : look (tab 176) 100 = some (.getfield 52, 3, [6, 15, 93], uu) := by decide +kernel
theorem e_176_100 : den cf 176 100 L (.ref a :: st) M = oK (gfA (M.2.2 a) 6 15) (fun v => den cf 176 103 L (v :: st) M) := den_gf l_176_100
theorem l_176_103 : look (tab 176) 103 = some (.iload_n 1, 1, [], uu) := by decide +kernel
theorem e_176_103 : den cf 176 103 [v0, .int x, v2] st M = den cf 176 104 [v0, .int x, v2] (.int x :: st) M := den_go l_176_103 rfl
theorem l_176_104 : look (tab 176) 104 = some (.iaload, 1, [], uu) := by decide +kernel
theorem e_176_104 : den cf 176 104 L (.int x :: .ref a :: st) M = oK (ldI (M.2.2 a) x) (fun v => den cf 176 105 L (v :: st) M) := den_al (g := ldI) l_176_104 rfl
theorem l_176_105 : look (tab 176) 105 = some (.ireturn, 1, [0], uu) := by decide +kernel
theorem e_176_105 : den cf 176 105 L [.int x] M = some (some (.int x), M) := den_e0 l_176_105
theorem l_176_106 : look (tab 176) 106 = some (.aload_n 0, 1, [], uu) := by decide +kernel
theorem e_176_106 : den cf 176 106 [.ref a, v1, v2] st M = den cf 176 107 [.ref a, v1, v2] (.ref a :: st) M := den_go l_176_106 rfl
theorem l_176_107 : look (tab 176) 107 = some (.getfield 55, 3, [6, 16, 94], uu) := by decide +kernel
theorem e_176_107 : den cf 176 107 L (.ref a :: st) M = oK (gfA (M.2.2 a) 6 16) (fun v => den cf 176 110 L (v :: st) M) := den_gf l_176_107
theorem l_176_110 : look (tab 176) 110 = some (.iload_n 1, 1, [], uu) := by decide +kernel
theorem e_176_110 : den cf 176 110 [v0, .int x, v2] st M = den cf 176 111 [v0, .int x, v2] (.int x :: st) M := den_go l_176_110 rfl
theorem l_176_111 : look (tab 176) 111 = some (.iaload, 1, [], uu) := by decide +kernel
theorem e_176_111 : den cf 176 111 L (.int x :: .ref a :: st) M = oK (ldI (M.2.2 a) x) (fun v => den cf 176 112 L (v :: st) M) := den_al (g := ldI) l_176_111 rfl
theorem l_176_112 : look (tab 176) 112 = some (.ireturn, 1, [0], uu) := by decide +kernel
theorem e_176_112 : den cf 176 112 L [.int x] M = some (some (.int x), M) := den_e0 l_176_112
theorem l_176_113 : look (tab 176) 113 = some (.aload_n 0, 1, [], uu) := by decide +kernel
theorem e_176_113 : den cf 176 113 [.ref a, v1, v2] st M = den cf 176 114 [.ref a, v1, v2] (.ref a :: st) M := den_go l_176_113 rfl
theorem l_176_114 : look (tab 176) 114 = some (.getfield 58, 3, [6, 17, 95], uu) := by decide +kernel
theorem e_176_114 : den cf 176 114 L (.ref a :: st) M = oK (gfA (M.2.2 a) 6 17) (fun v => den cf 176 117 L (v :: st) M) := den_gf l_176_114
theorem l_176_117 : look (tab 176) 117 = some (.iload_n 1, 1, [], uu) := by decide +kernel
theorem e_176_117 : den cf 176 117 [v0, .int x, v2] st M = den cf 176 118 [v0, .int x, v2] (.int x :: st) M := den_go l_176_117 rfl
theorem l_176_118 : look (tab 176) 118 = some (.iaload, 1, [], uu) := by decide +kernel
theorem e_176_118 : den cf 176 118 L (.int x :: .ref a :: st) M = oK (ldI (M.2.2 a) x) (fun v => den cf 176 119 L (v :: st) M) := den_al (g := ldI) l_176_118 rfl
theorem l_176_119 : look (tab 176) 119 = some (.ireturn, 1, [0], uu) := by decide +kernel
theorem e_176_119 : den cf 176 119 L [.int x] M = some (some (.int x), M) := den_e0 l_176_119
theorem l_176_120 : look (tab 176) 120 = some (.aload_n 0, 1, [], uu) := by decide +kernel
theorem e_176_120 : den cf 176 120 [.ref a, v1, v2] st M = den cf 176 121 [.ref a, v1, v2] (.ref a :: st) M := den_go l_176_120 rfl
theorem l_176_121 : look (tab 176) 121 = some (.bipush (-2), 2, [], .int (zI (-2))) := by decide +kernel
theorem e_176_121 : den cf 176 121 L st M = den cf 176 123 L (.int (zI (-2)) :: st) M := den_go l_176_121 rfl
theorem l_176_123 : look (tab 176) 123 = some (.invokevirtual 93, 3, [6, 136, 2, 133, 134, 135, 5], uu) := by decide +kernel
theorem e_176_123 : den cf 176 123 L (w1 :: .ref a :: st) M = if rcv M 6 [.ref a, w1] = true ∧ st.length ≤ 4 then rK (cf 136 [.ref a, w1] M) (fun v M' => den cf 176 126 L (pR v st) M') else none := den_iv [w1] l_176_123 rfl
theorem l_176_126 : look (tab 176) 126 = some (.ireturn, 1, [0], uu) := by decide +kernel
theorem e_176_126 : den cf 176 126 L [.int x] M = some (some (.int x), M) := den_e0 l_176_126
