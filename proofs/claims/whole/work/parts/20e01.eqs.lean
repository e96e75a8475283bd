variable {cf : Nat → List Value → AM → Option AR} {L st : List Value} {M : AM} {x y : Int32} {p q : Int64} {a b : Nat} {v w : Value} {o : Option Nat} {v0 v1 v2 v3 v4 v5 v6 v7 v8 v9 v10 v11 v12 v13 v14 v15 v16 v17 v18 v19 v20 w1 w2 w3 w4 w5 w6 : Value}
/-! yX0_init -/
theorem l_1_0 : look (tab 1) 0 = some (.aload_n 0, 1, [], uu) := by decide +kernel
theorem e_1_0 : den cf 1 0 [.ref a] st M = den cf 1 1 [.ref a] (.ref a :: st) M := den_go l_1_0 rfl
theorem l_1_1 : look (tab 1) 1 = some (.invokespecial 3, 3, [0, 56, 11, 12], uu) := by decide +kernel
theorem e_1_1 : den cf 1 1 L (.ref a :: st) M = if st.length ≤ 4 then den cf 1 4 L st M else none := den_g l_1_1 rfl
theorem l_1_4 : look (tab 1) 4 = some (.aload_n 0, 1, [], uu) := by decide +kernel
theorem e_1_4 : den cf 1 4 [.ref a] st M = den cf 1 5 [.ref a] (.ref a :: st) M := den_go l_1_4 rfl
theorem l_1_5 : look (tab 1) 5 = some (.bipush 6, 2, [], .int (zI 6)) := by decide +kernel
theorem e_1_5 : den cf 1 5 L st M = den cf 1 7 L (.int (zI 6) :: st) M := den_go l_1_5 rfl
theorem l_1_7 : look (tab 1) 7 = some (.anewarray 9, 3, [2, 57], uu) := by decide +kernel
theorem e_1_7 : den cf 1 7 L (.int x :: st) M = if M.1 < 600000 ∧ 0 ≤ x.toInt ∧ x.toInt < 100000 then den cf 1 10 L (.ref M.1 :: st) (mN M x.toNatClampNeg (nwA 2 x.toNatClampNeg)) else none := den_g l_1_7 rfl
theorem l_1_10 : look (tab 1) 10 = some (.putfield 11, 3, [0, 0, 2, 58, 1], uu) := by decide +kernel
theorem e_1_10 : den cf 1 10 L (v :: .ref a :: st) M = if okv 2 v = true then oK (pfA (M.2.2 a) 0 0 v) (fun c => den cf 1 13 L st (mU M a c)) else none := den_pf l_1_10
theorem l_1_13 : look (tab 1) 13 = some (.aload_n 0, 1, [], uu) := by decide +kernel
theorem e_1_13 : den cf 1 13 [.ref a] st M = den cf 1 14 [.ref a] (.ref a :: st) M := den_go l_1_13 rfl
theorem l_1_14 : look (tab 1) 14 = some (.bipush 12, 2, [], .int (zI 12)) := by decide +kernel
theorem e_1_14 : den cf 1 14 L st M = den cf 1 16 L (.int (zI 12) :: st) M := den_go l_1_14 rfl
theorem l_1_16 : look (tab 1) 16 = some (.anewarray 9, 3, [2, 57], uu) := by decide +kernel
theorem e_1_16 : den cf 1 16 L (.int x :: st) M = if M.1 < 600000 ∧ 0 ≤ x.toInt ∧ x.toInt < 100000 then den cf 1 19 L (.ref M.1 :: st) (mN M x.toNatClampNeg (nwA 2 x.toNatClampNeg)) else none := den_g l_1_16 rfl
theorem l_1_19 : look (tab 1) 19 = some (.putfield 17, 3, [0, 1, 2, 59, 1], uu) := by decide +kernel
theorem e_1_19 : den cf 1 19 L (v :: .ref a :: st) M = if okv 2 v = true then oK (pfA (M.2.2 a) 0 1 v) (fun c => den cf 1 22 L st (mU M a c)) else none := den_pf l_1_19
theorem l_1_22 : look (tab 1) 22 = some (.aload_n 0, 1, [], uu) := by decide +kernel
theorem e_1_22 : den cf 1 22 [.ref a] st M = den cf 1 23 [.ref a] (.ref a :: st) M := den_go l_1_22 rfl
theorem l_1_23 : look (tab 1) 23 = some (.bipush 6, 2, [], .int (zI 6)) := by decide +kernel
theorem e_1_23 : den cf 1 23 L st M = den cf 1 25 L (.int (zI 6) :: st) M := den_go l_1_23 rfl
theorem l_1_25 : look (tab 1) 25 = some (.anewarray 9, 3, [2, 57], uu) := by decide +kernel
theorem e_1_25 : den cf 1 25 L (.int x :: st) M = if M.1 < 600000 ∧ 0 ≤ x.toInt ∧ x.toInt < 100000 then den cf 1 28 L (.ref M.1 :: st) (mN M x.toNatClampNeg (nwA 2 x.toNatClampNeg)) else none := den_g l_1_25 rfl
theorem l_1_28 : look (tab 1) 28 = some (.putfield 20, 3, [0, 2, 2, 60, 1], uu) := by decide +kernel
theorem e_1_28 : den cf 1 28 L (v :: .ref a :: st) M = if okv 2 v = true then oK (pfA (M.2.2 a) 0 2 v) (fun c => den cf 1 31 L st (mU M a c)) else none := den_pf l_1_28
theorem l_1_31 : look (tab 1) 31 = some (.aload_n 0, 1, [], uu) := by decide +kernel
theorem e_1_31 : den cf 1 31 [.ref a] st M = den cf 1 32 [.ref a] (.ref a :: st) M := den_go l_1_31 rfl
theorem l_1_32 : look (tab 1) 32 = some (.sipush 2048, 3, [], .int (zI 2048)) := by decide +kernel
theorem e_1_32 : den cf 1 32 L st M = den cf 1 35 L (.int (zI 2048) :: st) M := den_go l_1_32 rfl
theorem l_1_35 : look (tab 1) 35 = some (.newarray .int, 2, [32], uu) := by decide +kernel
theorem e_1_35 : den cf 1 35 L (.int x :: st) M = if M.1 < 600000 ∧ 0 ≤ x.toInt ∧ x.toInt < 100000 then den cf 1 37 L (.ref M.1 :: st) (mN M x.toNatClampNeg (nwA 0 x.toNatClampNeg)) else none := den_g l_1_35 rfl
theorem l_1_37 : look (tab 1) 37 = some (.putfield 23, 3, [0, 3, 2, 61, 1], uu) := by decide +kernel
theorem e_1_37 : den cf 1 37 L (v :: .ref a :: st) M = if okv 2 v = true then oK (pfA (M.2.2 a) 0 3 v) (fun c => den cf 1 40 L st (mU M a c)) else none := den_pf l_1_37
theorem l_1_40 : look (tab 1) 40 = some (.return_, 1, [], uu) := by decide +kernel
theorem e_1_40 : den cf 1 40 L [] M = some (none, M) := den_e4 l_1_40
/-! yX0_rowAt -/
theorem l_2_0 : look (tab 2) 0 = some (.iload_n 1, 1, [], uu) := by decide +kernel
theorem e_2_0 : den cf 2 0 [v0, .int x] st M = den cf 2 1 [v0, .int x] (.int x :: st) M := den_go l_2_0 rfl
theorem l_2_1 : look (tab 2) 1 = some (.ifCond .lt 26, 3, [27], uu) := by decide +kernel
theorem e_2_1 : den cf 2 1 L (.int x :: st) M = if x < zI 0 then den cf 2 27 L st M else den cf 2 4 L st M := den_if_lt l_2_1
theorem l_2_4 : look (tab 2) 4 = some (.iload_n 1, 1, [], uu) := by decide +kernel
theorem e_2_4 : den cf 2 4 [v0, .int x] st M = den cf 2 5 [v0, .int x] (.int x :: st) M := den_go l_2_4 rfl
theorem l_2_5 : look (tab 2) 5 = some (.aload_n 0, 1, [], uu) := by decide +kernel
theorem e_2_5 : den cf 2 5 [.ref a, v1] st M = den cf 2 6 [.ref a, v1] (.ref a :: st) M := den_go l_2_5 rfl
theorem l_2_6 : look (tab 2) 6 = some (.getfield 27, 3, [0, 4, 737], uu) := by decide +kernel
theorem e_2_6 : den cf 2 6 L (.ref a :: st) M = oK (gfA (M.2.2 a) 0 4) (fun v => den cf 2 9 L (v :: st) M) := den_gf l_2_6
theorem l_2_9 : look (tab 2) 9 = some (.if_icmp .ge 18, 3, [27], uu) := by decide +kernel
theorem e_2_9 : den cf 2 9 L (.int y :: .int x :: st) M = if x < y then den cf 2 12 L st M else den cf 2 27 L st M := den_ic_ge l_2_9
theorem l_2_12 : look (tab 2) 12 = some (.iload_n 1, 1, [], uu) := by decide +kernel
theorem e_2_12 : den cf 2 12 [v0, .int x] st M = den cf 2 13 [v0, .int x] (.int x :: st) M := den_go l_2_12 rfl
theorem l_2_13 : look (tab 2) 13 = some (.bipush 6, 2, [], .int (zI 6)) := by decide +kernel
theorem e_2_13 : den cf 2 13 L st M = den cf 2 15 L (.int (zI 6) :: st) M := den_go l_2_13 rfl
theorem l_2_15 : look (tab 2) 15 = some (.if_icmp .ge 12, 3, [27], uu) := by decide +kernel
theorem e_2_15 : den cf 2 15 L (.int y :: .int x :: st) M = if x < y then den cf 2 18 L st M else den cf 2 27 L st M := den_ic_ge l_2_15
theorem l_2_18 : look (tab 2) 18 = some (.aload_n 0, 1, [], uu) := by decide +kernel
theorem e_2_18 : den cf 2 18 [.ref a, v1] st M = den cf 2 19 [.ref a, v1] (.ref a :: st) M := den_go l_2_18 rfl
theorem l_2_19 : look (tab 2) 19 = some (.getfield 11, 3, [0, 0, 58], uu) := by decide +kernel
theorem e_2_19 : den cf 2 19 L (.ref a :: st) M = oK (gfA (M.2.2 a) 0 0) (fun v => den cf 2 22 L (v :: st) M) := den_gf l_2_19
theorem l_2_22 : look (tab 2) 22 = some (.iload_n 1, 1, [], uu) := by decide +kernel
theorem e_2_22 : den cf 2 22 [v0, .int x] st M = den cf 2 23 [v0, .int x] (.int x :: st) M := den_go l_2_22 rfl
theorem l_2_23 : look (tab 2) 23 = some (.aaload, 1, [], uu) := by decide +kernel
theorem e_2_23 : den cf 2 23 L (.int x :: .ref a :: st) M = oK (ldQ (M.2.2 a) x) (fun v => den cf 2 24 L (v :: st) M) := den_al (g := ldQ) l_2_23 rfl
theorem l_2_24 : look (tab 2) 24 = some (.goto 4, 3, [28], uu) := by decide +kernel
theorem e_2_24 : den cf 2 24 L st M = den cf 2 28 L st M := den_go l_2_24 rfl
theorem l_2_27 : look (tab 2) 27 = some (.aconst_null, 1, [], uu) := by decide +kernel
theorem e_2_27 : den cf 2 27 L st M = den cf 2 28 L (.null :: st) M := den_go l_2_27 rfl
theorem l_2_28 : look (tab 2) 28 = some (.areturn, 1, [], uu) := by decide +kernel
theorem e_2_28 : den cf 2 28 L [v] M = if isRf v = true then some (some v, M) else none := den_e3 l_2_28
/-! yX0_gotBy -/
theorem l_3_0 : look (tab 3) 0 = some (.iload_n 1, 1, [], uu) := by decide +kernel
theorem e_3_0 : den cf 3 0 [v0, .int x] st M = den cf 3 1 [v0, .int x] (.int x :: st) M := den_go l_3_0 rfl
theorem l_3_1 : look (tab 3) 1 = some (.ifCond .lt 26, 3, [27], uu) := by decide +kernel
theorem e_3_1 : den cf 3 1 L (.int x :: st) M = if x < zI 0 then den cf 3 27 L st M else den cf 3 4 L st M := den_if_lt l_3_1
theorem l_3_4 : look (tab 3) 4 = some (.iload_n 1, 1, [], uu) := by decide +kernel
theorem e_3_4 : den cf 3 4 [v0, .int x] st M = den cf 3 5 [v0, .int x] (.int x :: st) M := den_go l_3_4 rfl
theorem l_3_5 : look (tab 3) 5 = some (.aload_n 0, 1, [], uu) := by decide +kernel
theorem e_3_5 : den cf 3 5 [.ref a, v1] st M = den cf 3 6 [.ref a, v1] (.ref a :: st) M := den_go l_3_5 rfl
theorem l_3_6 : look (tab 3) 6 = some (.getfield 27, 3, [0, 4, 737], uu) := by decide +kernel
theorem e_3_6 : den cf 3 6 L (.ref a :: st) M = oK (gfA (M.2.2 a) 0 4) (fun v => den cf 3 9 L (v :: st) M) := den_gf l_3_6
theorem l_3_9 : look (tab 3) 9 = some (.if_icmp .ge 18, 3, [27], uu) := by decide +kernel
theorem e_3_9 : den cf 3 9 L (.int y :: .int x :: st) M = if x < y then den cf 3 12 L st M else den cf 3 27 L st M := den_ic_ge l_3_9
theorem l_3_12 : look (tab 3) 12 = some (.iload_n 1, 1, [], uu) := by decide +kernel
theorem e_3_12 : den cf 3 12 [v0, .int x] st M = den cf 3 13 [v0, .int x] (.int x :: st) M := den_go l_3_12 rfl
theorem l_3_13 : look (tab 3) 13 = some (.bipush 6, 2, [], .int (zI 6)) := by decide +kernel
theorem e_3_13 : den cf 3 13 L st M = den cf 3 15 L (.int (zI 6) :: st) M := den_go l_3_13 rfl
theorem l_3_15 : look (tab 3) 15 = some (.if_icmp .ge 12, 3, [27], uu) := by decide +kernel
theorem e_3_15 : den cf 3 15 L (.int y :: .int x :: st) M = if x < y then den cf 3 18 L st M else den cf 3 27 L st M := den_ic_ge l_3_15
theorem l_3_18 : look (tab 3) 18 = some (.aload_n 0, 1, [], uu) := by decide +kernel
theorem e_3_18 : den cf 3 18 [.ref a, v1] st M = den cf 3 19 [.ref a, v1] (.ref a :: st) M := den_go l_3_18 rfl
theorem l_3_19 : look (tab 3) 19 = some (.getfield 20, 3, [0, 2, 60], uu) := by decide +kernel
theorem e_3_19 : den cf 3 19 L (.ref a :: st) M = oK (gfA (M.2.2 a) 0 2) (fun v => den cf 3 22 L (v :: st) M) := den_gf l_3_19
theorem l_3_22 : look (tab 3) 22 = some (.iload_n 1, 1, [], uu) := by decide +kernel
theorem e_3_22 : den cf 3 22 [v0, .int x] st M = den cf 3 23 [v0, .int x] (.int x :: st) M := den_go l_3_22 rfl
theorem l_3_23 : look (tab 3) 23 = some (.aaload, 1, [], uu) := by decide +kernel
theorem e_3_23 : den cf 3 23 L (.int x :: .ref a :: st) M = oK (ldQ (M.2.2 a) x) (fun v => den cf 3 24 L (v :: st) M) := den_al (g := ldQ) l_3_23 rfl
theorem l_3_24 : look (tab 3) 24 = some (.goto 4, 3, [28], uu) := by decide +kernel
theorem e_3_24 : den cf 3 24 L st M = den cf 3 28 L st M := den_go l_3_24 rfl
theorem l_3_27 : look (tab 3) 27 = some (.aconst_null, 1, [], uu) := by decide +kernel
theorem e_3_27 : den cf 3 27 L st M = den cf 3 28 L (.null :: st) M := den_go l_3_27 rfl
theorem l_3_28 : look (tab 3) 28 = some (.areturn, 1, [], uu) := by decide +kernel
theorem e_3_28 : den cf 3 28 L [v] M = if isRf v = true then some (some v, M) else none := den_e3 l_3_28
/-! yX0_columnAt -/
theorem l_4_0 : look (tab 4) 0 = some (.iload_n 1, 1, [], uu) := by decide +kernel
theorem e_4_0 : den cf 4 0 [v0, .int x] st M = den cf 4 1 [v0, .int x] (.int x :: st) M := den_go l_4_0 rfl
theorem l_4_1 : look (tab 4) 1 = some (.ifCond .lt 26, 3, [27], uu) := by decide +kernel
theorem e_4_1 : den cf 4 1 L (.int x :: st) M = if x < zI 0 then den cf 4 27 L st M else den cf 4 4 L st M := den_if_lt l_4_1
theorem l_4_4 : look (tab 4) 4 = some (.iload_n 1, 1, [], uu) := by decide +kernel
theorem e_4_4 : den cf 4 4 [v0, .int x] st M = den cf 4 5 [v0, .int x] (.int x :: st) M := den_go l_4_4 rfl
theorem l_4_5 : look (tab 4) 5 = some (.aload_n 0, 1, [], uu) := by decide +kernel
theorem e_4_5 : den cf 4 5 [.ref a, v1] st M = den cf 4 6 [.ref a, v1] (.ref a :: st) M := den_go l_4_5 rfl
theorem l_4_6 : look (tab 4) 6 = some (.getfield 31, 3, [0, 5, 738], uu) := by decide +kernel
theorem e_4_6 : den cf 4 6 L (.ref a :: st) M = oK (gfA (M.2.2 a) 0 5) (fun v => den cf 4 9 L (v :: st) M) := den_gf l_4_6
theorem l_4_9 : look (tab 4) 9 = some (.if_icmp .ge 18, 3, [27], uu) := by decide +kernel
theorem e_4_9 : den cf 4 9 L (.int y :: .int x :: st) M = if x < y then den cf 4 12 L st M else den cf 4 27 L st M := den_ic_ge l_4_9
theorem l_4_12 : look (tab 4) 12 = some (.iload_n 1, 1, [], uu) := by decide +kernel
theorem e_4_12 : den cf 4 12 [v0, .int x] st M = den cf 4 13 [v0, .int x] (.int x :: st) M := den_go l_4_12 rfl
theorem l_4_13 : look (tab 4) 13 = some (.bipush 12, 2, [], .int (zI 12)) := by decide +kernel
theorem e_4_13 : den cf 4 13 L st M = den cf 4 15 L (.int (zI 12) :: st) M := den_go l_4_13 rfl
theorem l_4_15 : look (tab 4) 15 = some (.if_icmp .ge 12, 3, [27], uu) := by decide +kernel
theorem e_4_15 : den cf 4 15 L (.int y :: .int x :: st) M = if x < y then den cf 4 18 L st M else den cf 4 27 L st M := den_ic_ge l_4_15
theorem l_4_18 : look (tab 4) 18 = some (.aload_n 0, 1, [], uu) := by decide +kernel
theorem e_4_18 : den cf 4 18 [.ref a, v1] st M = den cf 4 19 [.ref a, v1] (.ref a :: st) M := den_go l_4_18 rfl
theorem l_4_19 : look (tab 4) 19 = some (.getfield 17, 3, [0, 1, 59], uu) := by decide +kernel
theorem e_4_19 : den cf 4 19 L (.ref a :: st) M = oK (gfA (M.2.2 a) 0 1) (fun v => den cf 4 22 L (v :: st) M) := den_gf l_4_19
theorem l_4_22 : look (tab 4) 22 = some (.iload_n 1, 1, [], uu) := by decide +kernel
theorem e_4_22 : den cf 4 22 [v0, .int x] st M = den cf 4 23 [v0, .int x] (.int x :: st) M := den_go l_4_22 rfl
theorem l_4_23 : look (tab 4) 23 = some (.aaload, 1, [], uu) := by decide +kernel
theorem e_4_23 : den cf 4 23 L (.int x :: .ref a :: st) M = oK (ldQ (M.2.2 a) x) (fun v => den cf 4 24 L (v :: st) M) := den_al (g := ldQ) l_4_23 rfl
theorem l_4_24 : look (tab 4) 24 = some (.goto 4, 3, [28], uu) := by decide +kernel
theorem e_4_24 : den cf 4 24 L st M = den cf 4 28 L st M := den_go l_4_24 rfl
theorem l_4_27 : look (tab 4) 27 = some (.aconst_null, 1, [], uu) := by decide +kernel
theorem e_4_27 : den cf 4 27 L st M = den cf 4 28 L (.null :: st) M := den_go l_4_27 rfl
theorem l_4_28 : look (tab 4) 28 = some (.areturn, 1, [], uu) := by decide +kernel
theorem e_4_28 : den cf 4 28 L [v] M = if isRf v = true then some (some v, M) else none := den_e3 l_4_28
/-! yX0_solve -/
theorem l_5_0 : look (tab 5) 0 = some (.aload_n 0, 1, [], uu) := by decide +kernel
theorem e_5_0 : den cf 5 0 [.ref a, v1, v2, v3] st M = den cf 5 1 [.ref a, v1, v2, v3] (.ref a :: st) M := den_go l_5_0 rfl
theorem l_5_1 : look (tab 5) 1 = some (.aload_n 1, 1, [], uu) := by decide +kernel
theorem e_5_1 : den cf 5 1 [v0, v1, v2, v3] st M = if isRf v1 = true then den cf 5 2 [v0, v1, v2, v3] (v1 :: st) M else none := den_g l_5_1 rfl
theorem l_5_2 : look (tab 5) 2 = some (.invokevirtual 34, 3, [0, 6, 2, 739, 740, 741, 22], uu) := by decide +kernel
theorem e_5_2 : den cf 5 2 L (w1 :: .ref a :: st) M = if rcv M 0 [.ref a, w1] = true ∧ st.length ≤ 4 then rK (cf 6 [.ref a, w1] M) (fun v M' => den cf 5 5 L (pR v st) M') else none := den_iv [w1] l_5_2 rfl
theorem l_5_5 : look (tab 5) 5 = some (.aload_n 0, 1, [], uu) := by decide +kernel
theorem e_5_5 : den cf 5 5 [.ref a, v1, v2, v3] st M = den cf 5 6 [.ref a, v1, v2, v3] (.ref a :: st) M := den_go l_5_5 rfl
theorem l_5_6 : look (tab 5) 6 = some (.getfield 27, 3, [0, 4, 737], uu) := by decide +kernel
theorem e_5_6 : den cf 5 6 L (.ref a :: st) M = oK (gfA (M.2.2 a) 0 4) (fun v => den cf 5 9 L (v :: st) M) := den_gf l_5_6
theorem l_5_9 : look (tab 5) 9 = some (.iconst 1, 1, [], .int (zI 1)) := by decide +kernel
theorem e_5_9 : den cf 5 9 L st M = den cf 5 10 L (.int (zI 1) :: st) M := den_go l_5_9 rfl
theorem l_5_10 : look (tab 5) 10 = some (.isub, 1, [], uu) := by decide +kernel
theorem e_5_10 : den cf 5 10 L (.int y :: .int x :: st) M = den cf 5 11 L (.int (x - y) :: st) M := den_go l_5_10 rfl
theorem l_5_11 : look (tab 5) 11 = some (.istore_n 2, 1, [], uu) := by decide +kernel
theorem e_5_11 : den cf 5 11 [v0, v1, v2, v3] (.int x :: st) M = den cf 5 12 [v0, kq v1, .int x, v3] st M := den_st (k := 2) (v := .int x) l_5_11 rfl
theorem l_5_12 : look (tab 5) 12 = some (.iload_n 2, 1, [], uu) := by decide +kernel
theorem e_5_12 : den cf 5 12 [v0, v1, .int x, v3] st M = den cf 5 13 [v0, v1, .int x, v3] (.int x :: st) M := den_go l_5_12 rfl
theorem l_5_13 : look (tab 5) 13 = some (.ifCond .lt 41, 3, [54], uu) := by decide +kernel
theorem e_5_13 : den cf 5 13 L (.int x :: st) M = if x < zI 0 then den cf 5 54 L st M else den cf 5 16 L st M := den_if_lt l_5_13
theorem l_5_16 : look (tab 5) 16 = some (.iconst 0, 1, [], .int (zI 0)) := by decide +kernel
theorem e_5_16 : den cf 5 16 L st M = den cf 5 17 L (.int (zI 0) :: st) M := den_go l_5_16 rfl
theorem l_5_17 : look (tab 5) 17 = some (.istore_n 3, 1, [], uu) := by decide +kernel
theorem e_5_17 : den cf 5 17 [v0, v1, v2, v3] (.int x :: st) M = den cf 5 18 [v0, v1, kq v2, .int x] st M := den_st (k := 3) (v := .int x) l_5_17 rfl
theorem l_5_18 : look (tab 5) 18 = some (.iload_n 3, 1, [], uu) := by decide +kernel
theorem e_5_18 : den cf 5 18 [v0, v1, v2, .int x] st M = den cf 5 19 [v0, v1, v2, .int x] (.int x :: st) M := den_go l_5_18 rfl
theorem l_5_19 : look (tab 5) 19 = some (.iconst 1, 1, [], .int (zI 1)) := by decide +kernel
theorem e_5_19 : den cf 5 19 L st M = den cf 5 20 L (.int (zI 1) :: st) M := den_go l_5_19 rfl
theorem l_5_20 : look (tab 5) 20 = some (.aload_n 0, 1, [], uu) := by decide +kernel
theorem e_5_20 : den cf 5 20 [.ref a, v1, v2, v3] st M = den cf 5 21 [.ref a, v1, v2, v3] (.ref a :: st) M := den_go l_5_20 rfl
theorem l_5_21 : look (tab 5) 21 = some (.getfield 31, 3, [0, 5, 738], uu) := by decide +kernel
theorem e_5_21 : den cf 5 21 L (.ref a :: st) M = oK (gfA (M.2.2 a) 0 5) (fun v => den cf 5 24 L (v :: st) M) := den_gf l_5_21
theorem l_5_24 : look (tab 5) 24 = some (.ishl, 1, [], uu) := by decide +kernel
theorem e_5_24 : den cf 5 24 L (.int y :: .int x :: st) M = den cf 5 25 L (.int (x <<< (y &&& 31)) :: st) M := den_go l_5_24 rfl
theorem l_5_25 : look (tab 5) 25 = some (.if_icmp .ge 23, 3, [48], uu) := by decide +kernel
theorem e_5_25 : den cf 5 25 L (.int y :: .int x :: st) M = if x < y then den cf 5 28 L st M else den cf 5 48 L st M := den_ic_ge l_5_25
theorem l_5_28 : look (tab 5) 28 = some (.iload_n 3, 1, [], uu) := by decide +kernel
theorem e_5_28 : den cf 5 28 [v0, v1, v2, .int x] st M = den cf 5 29 [v0, v1, v2, .int x] (.int x :: st) M := den_go l_5_28 rfl
theorem l_5_29 : look (tab 5) 29 = some (.invokestatic 38, 3, [1, 242, 1, 745, 266, 267], uu) := by decide +kernel
theorem e_5_29 : den cf 5 29 L (w1 :: st) M = if st.length ≤ 4 then rK (cf 242 [w1] M) (fun v M' => den cf 5 32 L (pR v st) M') else none := den_ist [w1] l_5_29 rfl
theorem l_5_32 : look (tab 5) 32 = some (.iload_n 2, 1, [], uu) := by decide +kernel
theorem e_5_32 : den cf 5 32 [v0, v1, .int x, v3] st M = den cf 5 33 [v0, v1, .int x, v3] (.int x :: st) M := den_go l_5_32 rfl
theorem l_5_33 : look (tab 5) 33 = some (.if_icmp .gt 9, 3, [42], uu) := by decide +kernel
theorem e_5_33 : den cf 5 33 L (.int y :: .int x :: st) M = if y < x then den cf 5 42 L st M else den cf 5 36 L st M := den_ic_gt l_5_33
theorem l_5_36 : look (tab 5) 36 = some (.aload_n 0, 1, [], uu) := by decide +kernel
theorem e_5_36 : den cf 5 36 [.ref a, v1, v2, v3] st M = den cf 5 37 [.ref a, v1, v2, v3] (.ref a :: st) M := den_go l_5_36 rfl
theorem l_5_37 : look (tab 5) 37 = some (.iload_n 2, 1, [], uu) := by decide +kernel
theorem e_5_37 : den cf 5 37 [v0, v1, .int x, v3] st M = den cf 5 38 [v0, v1, .int x, v3] (.int x :: st) M := den_go l_5_37 rfl
theorem l_5_38 : look (tab 5) 38 = some (.iload_n 3, 1, [], uu) := by decide +kernel
theorem e_5_38 : den cf 5 38 [v0, v1, v2, .int x] st M = den cf 5 39 [v0, v1, v2, .int x] (.int x :: st) M := den_go l_5_38 rfl
theorem l_5_39 : look (tab 5) 39 = some (.invokevirtual 44, 3, [0, 9, 3, 746, 747, 748, 22], uu) := by decide +kernel
theorem e_5_39 : den cf 5 39 L (w2 :: w1 :: .ref a :: st) M = if rcv M 0 [.ref a, w1, w2] = true ∧ st.length ≤ 4 then rK (cf 9 [.ref a, w1, w2] M) (fun v M' => den cf 5 42 L (pR v st) M') else none := den_iv [w1, w2] l_5_39 rfl
theorem l_5_42 : look (tab 5) 42 = some (.iinc 3 1, 3, [], .int (zI 1)) := by decide +kernel
theorem e_5_42 : den cf 5 42 [v0, v1, v2, .int x] st M = den cf 5 45 [v0, v1, kq v2, .int (x + (zI 1))] st M := den_st (k := 3) (v := .int (x + (zI 1))) l_5_42 rfl
theorem l_5_45 : look (tab 5) 45 = some (.goto (-27), 3, [18], uu) := by decide +kernel
theorem e_5_45 : den cf 5 45 L st M = den cf 5 18 L st M := den_go l_5_45 rfl
theorem l_5_48 : look (tab 5) 48 = some (.iinc 2 (-1), 3, [], .int (zI (-1))) := by decide +kernel
theorem e_5_48 : den cf 5 48 [v0, v1, .int x, v3] st M = den cf 5 51 [v0, kq v1, .int (x + (zI (-1))), v3] st M := den_st (k := 2) (v := .int (x + (zI (-1)))) l_5_48 rfl
theorem l_5_51 : look (tab 5) 51 = some (.goto (-39), 3, [12], uu) := by decide +kernel
theorem e_5_51 : den cf 5 51 L st M = den cf 5 12 L st M := den_go l_5_51 rfl
theorem l_5_54 : look (tab 5) 54 = some (.aload_n 0, 1, [], uu) := by decide +kernel
theorem e_5_54 : den cf 5 54 [.ref a, v1, v2, v3] st M = den cf 5 55 [.ref a, v1, v2, v3] (.ref a :: st) M := den_go l_5_54 rfl
theorem l_5_55 : look (tab 5) 55 = some (.invokevirtual 48, 3, [0, 10, 1, 768, 769, 770, 22], uu) := by decide +kernel
theorem e_5_55 : den cf 5 55 L (.ref a :: st) M = if rcv M 0 [.ref a] = true ∧ st.length ≤ 4 then rK (cf 10 [.ref a] M) (fun v M' => den cf 5 58 L (pR v st) M') else none := den_iv [] l_5_55 rfl
theorem l_5_58 : look (tab 5) 58 = some (.return_, 1, [], uu) := by decide +kernel
theorem e_5_58 : den cf 5 58 L [] M = some (none, M) := den_e4 l_5_58
/-! yX0_gather -/
theorem l_6_0 : look (tab 6) 0 = some (.aload_n 0, 1, [], uu) := by decide +kernel
theorem e_6_0 : den cf 6 0 [.ref a, v1, v2, v3, v4, v5] st M = den cf 6 1 [.ref a, v1, v2, v3, v4, v5] (.ref a :: st) M := den_go l_6_0 rfl
theorem l_6_1 : look (tab 6) 1 = some (.iconst 0, 1, [], .int (zI 0)) := by decide +kernel
theorem e_6_1 : den cf 6 1 L st M = den cf 6 2 L (.int (zI 0) :: st) M := den_go l_6_1 rfl
theorem l_6_2 : look (tab 6) 2 = some (.putfield 27, 3, [0, 4, 0, 737, 0], uu) := by decide +kernel
theorem e_6_2 : den cf 6 2 L (.int x :: .ref a :: st) M = oK (pfA (M.2.2 a) 0 4 (.int x)) (fun c => den cf 6 5 L st (mU M a c)) := den_pf0 l_6_2
theorem l_6_5 : look (tab 6) 5 = some (.aload_n 0, 1, [], uu) := by decide +kernel
theorem e_6_5 : den cf 6 5 [.ref a, v1, v2, v3, v4, v5] st M = den cf 6 6 [.ref a, v1, v2, v3, v4, v5] (.ref a :: st) M := den_go l_6_5 rfl
theorem l_6_6 : look (tab 6) 6 = some (.iconst 0, 1, [], .int (zI 0)) := by decide +kernel
theorem e_6_6 : den cf 6 6 L st M = den cf 6 7 L (.int (zI 0) :: st) M := den_go l_6_6 rfl
theorem l_6_7 : look (tab 6) 7 = some (.putfield 31, 3, [0, 5, 0, 738, 0], uu) := by decide +kernel
theorem e_6_7 : den cf 6 7 L (.int x :: .ref a :: st) M = oK (pfA (M.2.2 a) 0 5 (.int x)) (fun c => den cf 6 10 L st (mU M a c)) := den_pf0 l_6_7
theorem l_6_10 : look (tab 6) 10 = some (.aload_n 1, 1, [], uu) := by decide +kernel
theorem e_6_10 : den cf 6 10 [v0, v1, v2, v3, v4, v5] st M = if isRf v1 = true then den cf 6 11 [v0, v1, v2, v3, v4, v5] (v1 :: st) M else none := den_g l_6_10 rfl
theorem l_6_11 : look (tab 6) 11 = some (.getfield 51, 3, [2, 0, 743], uu) := by decide +kernel
theorem e_6_11 : den cf 6 11 L (.ref a :: st) M = oK (gfA (M.2.2 a) 2 0) (fun v => den cf 6 14 L (v :: st) M) := den_gf l_6_11
theorem l_6_14 : look (tab 6) 14 = some (.astore_n 2, 1, [], uu) := by decide +kernel
theorem e_6_14 : den cf 6 14 [v0, v1, v2, v3, v4, v5] (v :: st) M = if isRf v = true then den cf 6 15 [v0, kq v1, v, v3, v4, v5] st M else none := den_as (k := 2) (v := v) l_6_14 rfl (Nat.le_of_ble_eq_true rfl)
theorem l_6_15 : look (tab 6) 15 = some (.aload_n 2, 1, [], uu) := by decide +kernel
theorem e_6_15 : den cf 6 15 [v0, v1, v2, v3, v4, v5] st M = if isRf v2 = true then den cf 6 16 [v0, v1, v2, v3, v4, v5] (v2 :: st) M else none := den_g l_6_15 rfl
theorem l_6_16 : look (tab 6) 16 = some (.arraylength, 1, [], uu) := by decide +kernel
theorem e_6_16 : den cf 6 16 L (.ref a :: st) M = oK (lenA (M.2.2 a)) (fun n => den cf 6 17 L (.int (zI n) :: st) M) := den_len l_6_16
theorem l_6_17 : look (tab 6) 17 = some (.istore_n 3, 1, [], uu) := by decide +kernel
theorem e_6_17 : den cf 6 17 [v0, v1, v2, v3, v4, v5] (.int x :: st) M = den cf 6 18 [v0, v1, kq v2, .int x, v4, v5] st M := den_st (k := 3) (v := .int x) l_6_17 rfl
theorem l_6_18 : look (tab 6) 18 = some (.iconst 0, 1, [], .int (zI 0)) := by decide +kernel
theorem e_6_18 : den cf 6 18 L st M = den cf 6 19 L (.int (zI 0) :: st) M := den_go l_6_18 rfl
theorem l_6_19 : look (tab 6) 19 = some (.istore 4, 2, [], uu) := by decide +kernel
theorem e_6_19 : den cf 6 19 [v0, v1, v2, v3, v4, v5] (.int x :: st) M = den cf 6 21 [v0, v1, v2, kq v3, .int x, v5] st M := den_st (k := 4) (v := .int x) l_6_19 rfl
theorem l_6_21 : look (tab 6) 21 = some (.iload 4, 2, [], uu) := by decide +kernel
theorem e_6_21 : den cf 6 21 [v0, v1, v2, v3, .int x, v5] st M = den cf 6 23 [v0, v1, v2, v3, .int x, v5] (.int x :: st) M := den_go l_6_21 rfl
theorem l_6_23 : look (tab 6) 23 = some (.iload_n 3, 1, [], uu) := by decide +kernel
theorem e_6_23 : den cf 6 23 [v0, v1, v2, .int x, v4, v5] st M = den cf 6 24 [v0, v1, v2, .int x, v4, v5] (.int x :: st) M := den_go l_6_23 rfl
theorem l_6_24 : look (tab 6) 24 = some (.if_icmp .ge 93, 3, [117], uu) := by decide +kernel
theorem e_6_24 : den cf 6 24 L (.int y :: .int x :: st) M = if x < y then den cf 6 27 L st M else den cf 6 117 L st M := den_ic_ge l_6_24
theorem l_6_27 : look (tab 6) 27 = some (.aload_n 2, 1, [], uu) := by decide +kernel
theorem e_6_27 : den cf 6 27 [v0, v1, v2, v3, v4, v5] st M = if isRf v2 = true then den cf 6 28 [v0, v1, v2, v3, v4, v5] (v2 :: st) M else none := den_g l_6_27 rfl
theorem l_6_28 : look (tab 6) 28 = some (.iload 4, 2, [], uu) := by decide +kernel
theorem e_6_28 : den cf 6 28 [v0, v1, v2, v3, .int x, v5] st M = den cf 6 30 [v0, v1, v2, v3, .int x, v5] (.int x :: st) M := den_go l_6_28 rfl
theorem l_6_30 : look (tab 6) 30 = some (.aaload, 1, [], uu) := by decide +kernel
theorem e_6_30 : den cf 6 30 L (.int x :: .ref a :: st) M = oK (ldQ (M.2.2 a) x) (fun v => den cf 6 31 L (v :: st) M) := den_al (g := ldQ) l_6_30 rfl
theorem l_6_31 : look (tab 6) 31 = some (.astore 5, 2, [], uu) := by decide +kernel
theorem e_6_31 : den cf 6 31 [v0, v1, v2, v3, v4, v5] (v :: st) M = if isRf v = true then den cf 6 33 [v0, v1, v2, v3, kq v4, v] st M else none := den_as (k := 5) (v := v) l_6_31 rfl (Nat.le_of_ble_eq_true rfl)
theorem l_6_33 : look (tab 6) 33 = some (.aload 5, 2, [], uu) := by decide +kernel
theorem e_6_33 : den cf 6 33 [v0, v1, v2, v3, v4, v5] st M = if isRf v5 = true then den cf 6 35 [v0, v1, v2, v3, v4, v5] (v5 :: st) M else none := den_g l_6_33 rfl
theorem l_6_35 : look (tab 6) 35 = some (.iconst 0, 1, [], .int (zI 0)) := by decide +kernel
theorem e_6_35 : den cf 6 35 L st M = den cf 6 36 L (.int (zI 0) :: st) M := den_go l_6_35 rfl
theorem l_6_36 : look (tab 6) 36 = some (.invokevirtual 56, 3, [1, 15, 2, 744, 346, 347, 41], uu) := by decide +kernel
theorem e_6_36 : den cf 6 36 L (w1 :: .ref a :: st) M = if rcv M 1 [.ref a, w1] = true ∧ st.length ≤ 4 then rK (cf 15 [.ref a, w1] M) (fun v M' => den cf 6 39 L (pR v st) M') else none := den_iv [w1] l_6_36 rfl
theorem l_6_39 : look (tab 6) 39 = some (.ifCond .eq 33, 3, [72], uu) := by decide +kernel
theorem e_6_39 : den cf 6 39 L (.int x :: st) M = if x = zI 0 then den cf 6 72 L st M else den cf 6 42 L st M := den_if_eq l_6_39
theorem l_6_42 : look (tab 6) 42 = some (.aload_n 0, 1, [], uu) := by decide +kernel
theorem e_6_42 : den cf 6 42 [.ref a, v1, v2, v3, v4, v5] st M = den cf 6 43 [.ref a, v1, v2, v3, v4, v5] (.ref a :: st) M := den_go l_6_42 rfl
theorem l_6_43 : look (tab 6) 43 = some (.getfield 27, 3, [0, 4, 737], uu) := by decide +kernel
theorem e_6_43 : den cf 6 43 L (.ref a :: st) M = oK (gfA (M.2.2 a) 0 4) (fun v => den cf 6 46 L (v :: st) M) := den_gf l_6_43
theorem l_6_46 : look (tab 6) 46 = some (.bipush 6, 2, [], .int (zI 6)) := by decide +kernel
theorem e_6_46 : den cf 6 46 L st M = den cf 6 48 L (.int (zI 6) :: st) M := den_go l_6_46 rfl
theorem l_6_48 : look (tab 6) 48 = some (.if_icmp .ge 24, 3, [72], uu) := by decide +kernel
theorem e_6_48 : den cf 6 48 L (.int y :: .int x :: st) M = if x < y then den cf 6 51 L st M else den cf 6 72 L st M := den_ic_ge l_6_48
theorem l_6_51 : look (tab 6) 51 = some (.aload_n 0, 1, [], uu) := by decide +kernel
theorem e_6_51 : den cf 6 51 [.ref a, v1, v2, v3, v4, v5] st M = den cf 6 52 [.ref a, v1, v2, v3, v4, v5] (.ref a :: st) M := den_go l_6_51 rfl
theorem l_6_52 : look (tab 6) 52 = some (.getfield 11, 3, [0, 0, 58], uu) := by decide +kernel
theorem e_6_52 : den cf 6 52 L (.ref a :: st) M = oK (gfA (M.2.2 a) 0 0) (fun v => den cf 6 55 L (v :: st) M) := den_gf l_6_52
theorem l_6_55 : look (tab 6) 55 = some (.aload_n 0, 1, [], uu) := by decide +kernel
theorem e_6_55 : den cf 6 55 [.ref a, v1, v2, v3, v4, v5] st M = den cf 6 56 [.ref a, v1, v2, v3, v4, v5] (.ref a :: st) M := den_go l_6_55 rfl
theorem l_6_56 : look (tab 6) 56 = some (.getfield 27, 3, [0, 4, 737], uu) := by decide +kernel
theorem e_6_56 : den cf 6 56 L (.ref a :: st) M = oK (gfA (M.2.2 a) 0 4) (fun v => den cf 6 59 L (v :: st) M) := den_gf l_6_56
theorem l_6_59 : look (tab 6) 59 = some (.aload 5, 2, [], uu) := by decide +kernel
theorem e_6_59 : den cf 6 59 [v0, v1, v2, v3, v4, v5] st M = if isRf v5 = true then den cf 6 61 [v0, v1, v2, v3, v4, v5] (v5 :: st) M else none := den_g l_6_59 rfl
theorem l_6_61 : look (tab 6) 61 = some (.aastore, 1, [], uu) := by decide +kernel
theorem e_6_61 : den cf 6 61 L (v :: .int y :: .ref a :: st) M = oK (stQ M (M.2.2 a) y v) (fun c => den cf 6 62 L st (mU M a c)) := den_qs l_6_61
theorem l_6_62 : look (tab 6) 62 = some (.aload_n 0, 1, [], uu) := by decide +kernel
theorem e_6_62 : den cf 6 62 [.ref a, v1, v2, v3, v4, v5] st M = den cf 6 63 [.ref a, v1, v2, v3, v4, v5] (.ref a :: st) M := den_go l_6_62 rfl
theorem l_6_63 : look (tab 6) 63 = some (.dup, 1, [], uu) := by decide +kernel
theorem e_6_63 : den cf 6 63 L (.ref a :: st) M = den cf 6 64 L (.ref a :: .ref a :: st) M := den_go l_6_63 rfl
theorem e_6_63_i : den cf 6 63 L (.int x :: st) M = den cf 6 64 L (.int x :: .int x :: st) M := den_go l_6_63 rfl
theorem l_6_64 : look (tab 6) 64 = some (.getfield 27, 3, [0, 4, 737], uu) := by decide +kernel
theorem e_6_64 : den cf 6 64 L (.ref a :: st) M = oK (gfA (M.2.2 a) 0 4) (fun v => den cf 6 67 L (v :: st) M) := den_gf l_6_64
theorem l_6_67 : look (tab 6) 67 = some (.iconst 1, 1, [], .int (zI 1)) := by decide +kernel
theorem e_6_67 : den cf 6 67 L st M = den cf 6 68 L (.int (zI 1) :: st) M := den_go l_6_67 rfl
theorem l_6_68 : look (tab 6) 68 = some (.iadd, 1, [], uu) := by decide +kernel
theorem e_6_68 : den cf 6 68 L (.int y :: .int x :: st) M = den cf 6 69 L (.int (x + y) :: st) M := den_go l_6_68 rfl
theorem l_6_69 : look (tab 6) 69 = some (.putfield 27, 3, [0, 4, 0, 737, 0], uu) := by decide +kernel
theorem e_6_69 : den cf 6 69 L (.int x :: .ref a :: st) M = oK (pfA (M.2.2 a) 0 4 (.int x)) (fun c => den cf 6 72 L st (mU M a c)) := den_pf0 l_6_69
theorem l_6_72 : look (tab 6) 72 = some (.aload 5, 2, [], uu) := by decide +kernel
theorem e_6_72 : den cf 6 72 [v0, v1, v2, v3, v4, v5] st M = if isRf v5 = true then den cf 6 74 [v0, v1, v2, v3, v4, v5] (v5 :: st) M else none := den_g l_6_72 rfl
theorem l_6_74 : look (tab 6) 74 = some (.iconst 1, 1, [], .int (zI 1)) := by decide +kernel
theorem e_6_74 : den cf 6 74 L st M = den cf 6 75 L (.int (zI 1) :: st) M := den_go l_6_74 rfl
theorem l_6_75 : look (tab 6) 75 = some (.invokevirtual 56, 3, [1, 15, 2, 744, 346, 347, 41], uu) := by decide +kernel
theorem e_6_75 : den cf 6 75 L (w1 :: .ref a :: st) M = if rcv M 1 [.ref a, w1] = true ∧ st.length ≤ 4 then rK (cf 15 [.ref a, w1] M) (fun v M' => den cf 6 78 L (pR v st) M') else none := den_iv [w1] l_6_75 rfl
theorem l_6_78 : look (tab 6) 78 = some (.ifCond .eq 33, 3, [111], uu) := by decide +kernel
theorem e_6_78 : den cf 6 78 L (.int x :: st) M = if x = zI 0 then den cf 6 111 L st M else den cf 6 81 L st M := den_if_eq l_6_78
theorem l_6_81 : look (tab 6) 81 = some (.aload_n 0, 1, [], uu) := by decide +kernel
theorem e_6_81 : den cf 6 81 [.ref a, v1, v2, v3, v4, v5] st M = den cf 6 82 [.ref a, v1, v2, v3, v4, v5] (.ref a :: st) M := den_go l_6_81 rfl
theorem l_6_82 : look (tab 6) 82 = some (.getfield 31, 3, [0, 5, 738], uu) := by decide +kernel
theorem e_6_82 : den cf 6 82 L (.ref a :: st) M = oK (gfA (M.2.2 a) 0 5) (fun v => den cf 6 85 L (v :: st) M) := den_gf l_6_82
theorem l_6_85 : look (tab 6) 85 = some (.bipush 12, 2, [], .int (zI 12)) := by decide +kernel
theorem e_6_85 : den cf 6 85 L st M = den cf 6 87 L (.int (zI 12) :: st) M := den_go l_6_85 rfl
theorem l_6_87 : look (tab 6) 87 = some (.if_icmp .ge 24, 3, [111], uu) := by decide +kernel
theorem e_6_87 : den cf 6 87 L (.int y :: .int x :: st) M = if x < y then den cf 6 90 L st M else den cf 6 111 L st M := den_ic_ge l_6_87
theorem l_6_90 : look (tab 6) 90 = some (.aload_n 0, 1, [], uu) := by decide +kernel
theorem e_6_90 : den cf 6 90 [.ref a, v1, v2, v3, v4, v5] st M = den cf 6 91 [.ref a, v1, v2, v3, v4, v5] (.ref a :: st) M := den_go l_6_90 rfl
theorem l_6_91 : look (tab 6) 91 = some (.getfield 17, 3, [0, 1, 59], uu) := by decide +kernel
theorem e_6_91 : den cf 6 91 L (.ref a :: st) M = oK (gfA (M.2.2 a) 0 1) (fun v => den cf 6 94 L (v :: st) M) := den_gf l_6_91
theorem l_6_94 : look (tab 6) 94 = some (.aload_n 0, 1, [], uu) := by decide +kernel
theorem e_6_94 : den cf 6 94 [.ref a, v1, v2, v3, v4, v5] st M = den cf 6 95 [.ref a, v1, v2, v3, v4, v5] (.ref a :: st) M := den_go l_6_94 rfl
theorem l_6_95 : look (tab 6) 95 = some (.getfield 31, 3, [0, 5, 738], uu) := by decide +kernel
theorem e_6_95 : den cf 6 95 L (.ref a :: st) M = oK (gfA (M.2.2 a) 0 5) (fun v => den cf 6 98 L (v :: st) M) := den_gf l_6_95
theorem l_6_98 : look (tab 6) 98 = some (.aload 5, 2, [], uu) := by decide +kernel
theorem e_6_98 : den cf 6 98 [v0, v1, v2, v3, v4, v5] st M = if isRf v5 = true then den cf 6 100 [v0, v1, v2, v3, v4, v5] (v5 :: st) M else none := den_g l_6_98 rfl
theorem l_6_100 : look (tab 6) 100 = some (.aastore, 1, [], uu) := by decide +kernel
theorem e_6_100 : den cf 6 100 L (v :: .int y :: .ref a :: st) M = oK (stQ M (M.2.2 a) y v) (fun c => den cf 6 101 L st (mU M a c)) := den_qs l_6_100
theorem l_6_101 : look (tab 6) 101 = some (.aload_n 0, 1, [], uu) := by decide +kernel
theorem e_6_101 : den cf 6 101 [.ref a, v1, v2, v3, v4, v5] st M = den cf 6 102 [.ref a, v1, v2, v3, v4, v5] (.ref a :: st) M := den_go l_6_101 rfl
theorem l_6_102 : look (tab 6) 102 = some (.dup, 1, [], uu) := by decide +kernel
theorem e_6_102 : den cf 6 102 L (.ref a :: st) M = den cf 6 103 L (.ref a :: .ref a :: st) M := den_go l_6_102 rfl
theorem e_6_102_i : den cf 6 102 L (.int x :: st) M = den cf 6 103 L (.int x :: .int x :: st) M := den_go l_6_102 rfl
theorem l_6_103 : look (tab 6) 103 = some (.getfield 31, 3, [0, 5, 738], uu) := by decide +kernel
theorem e_6_103 : den cf 6 103 L (.ref a :: st) M = oK (gfA (M.2.2 a) 0 5) (fun v => den cf 6 106 L (v :: st) M) := den_gf l_6_103
theorem l_6_106 : look (tab 6) 106 = some (.iconst 1, 1, [], .int (zI 1)) := by decide +kernel
theorem e_6_106 : den cf 6 106 L st M = den cf 6 107 L (.int (zI 1) :: st) M := den_go l_6_106 rfl
theorem l_6_107 : look (tab 6) 107 = some (.iadd, 1, [], uu) := by decide +kernel
theorem e_6_107 : den cf 6 107 L (.int y :: .int x :: st) M = den cf 6 108 L (.int (x + y) :: st) M := den_go l_6_107 rfl
theorem l_6_108 : look (tab 6) 108 = some (.putfield 31, 3, [0, 5, 0, 738, 0], uu) := by decide +kernel
theorem e_6_108 : den cf 6 108 L (.int x :: .ref a :: st) M = oK (pfA (M.2.2 a) 0 5 (.int x)) (fun c => den cf 6 111 L st (mU M a c)) := den_pf0 l_6_108
theorem l_6_111 : look (tab 6) 111 = some (.iinc 4 1, 3, [], .int (zI 1)) := by decide +kernel
theorem e_6_111 : den cf 6 111 [v0, v1, v2, v3, .int x, v5] st M = den cf 6 114 [v0, v1, v2, kq v3, .int (x + (zI 1)), v5] st M := den_st (k := 4) (v := .int (x + (zI 1))) l_6_111 rfl
theorem l_6_114 : look (tab 6) 114 = some (.goto (-93), 3, [21], uu) := by decide +kernel
theorem e_6_114 : den cf 6 114 L st M = den cf 6 21 L st M := den_go l_6_114 rfl
theorem l_6_117 : look (tab 6) 117 = some (.return_, 1, [], uu) := by decide +kernel
theorem e_6_117 : den cf 6 117 L [] M = some (none, M) := den_e4 l_6_117
/-! yX0_worthFrom -/
theorem l_7_0 : look (tab 7) 0 = some (.iload_n 1, 1, [], uu) := by decide +kernel
theorem e_7_0 : den cf 7 0 [v0, .int x, v2, v3] st M = den cf 7 1 [v0, .int x, v2, v3] (.int x :: st) M := den_go l_7_0 rfl
theorem l_7_1 : look (tab 7) 1 = some (.aload_n 0, 1, [], uu) := by decide +kernel
theorem e_7_1 : den cf 7 1 [.ref a, v1, v2, v3] st M = den cf 7 2 [.ref a, v1, v2, v3] (.ref a :: st) M := den_go l_7_1 rfl
theorem l_7_2 : look (tab 7) 2 = some (.getfield 31, 3, [0, 5, 738], uu) := by decide +kernel
theorem e_7_2 : den cf 7 2 L (.ref a :: st) M = oK (gfA (M.2.2 a) 0 5) (fun v => den cf 7 5 L (v :: st) M) := den_gf l_7_2
theorem l_7_5 : look (tab 7) 5 = some (.ishl, 1, [], uu) := by decide +kernel
theorem e_7_5 : den cf 7 5 L (.int y :: .int x :: st) M = den cf 7 6 L (.int (x <<< (y &&& 31)) :: st) M := den_go l_7_5 rfl
theorem l_7_6 : look (tab 7) 6 = some (.iload_n 2, 1, [], uu) := by decide +kernel
theorem e_7_6 : den cf 7 6 [v0, v1, .int x, v3] st M = den cf 7 7 [v0, v1, .int x, v3] (.int x :: st) M := den_go l_7_6 rfl
theorem l_7_7 : look (tab 7) 7 = some (.iadd, 1, [], uu) := by decide +kernel
theorem e_7_7 : den cf 7 7 L (.int y :: .int x :: st) M = den cf 7 8 L (.int (x + y) :: st) M := den_go l_7_7 rfl
theorem l_7_8 : look (tab 7) 8 = some (.istore_n 3, 1, [], uu) := by decide +kernel
theorem e_7_8 : den cf 7 8 [v0, v1, v2, v3] (.int x :: st) M = den cf 7 9 [v0, v1, kq v2, .int x] st M := den_st (k := 3) (v := .int x) l_7_8 rfl
theorem l_7_9 : look (tab 7) 9 = some (.iload_n 1, 1, [], uu) := by decide +kernel
theorem e_7_9 : den cf 7 9 [v0, .int x, v2, v3] st M = den cf 7 10 [v0, .int x, v2, v3] (.int x :: st) M := den_go l_7_9 rfl
theorem l_7_10 : look (tab 7) 10 = some (.aload_n 0, 1, [], uu) := by decide +kernel
theorem e_7_10 : den cf 7 10 [.ref a, v1, v2, v3] st M = den cf 7 11 [.ref a, v1, v2, v3] (.ref a :: st) M := den_go l_7_10 rfl
theorem l_7_11 : look (tab 7) 11 = some (.getfield 27, 3, [0, 4, 737], uu) := by decide +kernel
theorem e_7_11 : den cf 7 11 L (.ref a :: st) M = oK (gfA (M.2.2 a) 0 4) (fun v => den cf 7 14 L (v :: st) M) := den_gf l_7_11
theorem l_7_14 : look (tab 7) 14 = some (.if_icmp .ge 23, 3, [37], uu) := by decide +kernel
theorem e_7_14 : den cf 7 14 L (.int y :: .int x :: st) M = if x < y then den cf 7 17 L st M else den cf 7 37 L st M := den_ic_ge l_7_14
theorem l_7_17 : look (tab 7) 17 = some (.iload_n 3, 1, [], uu) := by decide +kernel
theorem e_7_17 : den cf 7 17 [v0, v1, v2, .int x] st M = den cf 7 18 [v0, v1, v2, .int x] (.int x :: st) M := den_go l_7_17 rfl
theorem l_7_18 : look (tab 7) 18 = some (.ifCond .lt 19, 3, [37], uu) := by decide +kernel
theorem e_7_18 : den cf 7 18 L (.int x :: st) M = if x < zI 0 then den cf 7 37 L st M else den cf 7 21 L st M := den_if_lt l_7_18
theorem l_7_21 : look (tab 7) 21 = some (.iload_n 3, 1, [], uu) := by decide +kernel
theorem e_7_21 : den cf 7 21 [v0, v1, v2, .int x] st M = den cf 7 22 [v0, v1, v2, .int x] (.int x :: st) M := den_go l_7_21 rfl
theorem l_7_22 : look (tab 7) 22 = some (.sipush 2048, 3, [], .int (zI 2048)) := by decide +kernel
theorem e_7_22 : den cf 7 22 L st M = den cf 7 25 L (.int (zI 2048) :: st) M := den_go l_7_22 rfl
theorem l_7_25 : look (tab 7) 25 = some (.if_icmp .ge 12, 3, [37], uu) := by decide +kernel
theorem e_7_25 : den cf 7 25 L (.int y :: .int x :: st) M = if x < y then den cf 7 28 L st M else den cf 7 37 L st M := den_ic_ge l_7_25
theorem l_7_28 : look (tab 7) 28 = some (.aload_n 0, 1, [], uu) := by decide +kernel
theorem e_7_28 : den cf 7 28 [.ref a, v1, v2, v3] st M = den cf 7 29 [.ref a, v1, v2, v3] (.ref a :: st) M := den_go l_7_28 rfl
theorem l_7_29 : look (tab 7) 29 = some (.getfield 23, 3, [0, 3, 61], uu) := by decide +kernel
theorem e_7_29 : den cf 7 29 L (.ref a :: st) M = oK (gfA (M.2.2 a) 0 3) (fun v => den cf 7 32 L (v :: st) M) := den_gf l_7_29
theorem l_7_32 : look (tab 7) 32 = some (.iload_n 3, 1, [], uu) := by decide +kernel
theorem e_7_32 : den cf 7 32 [v0, v1, v2, .int x] st M = den cf 7 33 [v0, v1, v2, .int x] (.int x :: st) M := den_go l_7_32 rfl
theorem l_7_33 : look (tab 7) 33 = some (.iaload, 1, [], uu) := by decide +kernel
theorem e_7_33 : den cf 7 33 L (.int x :: .ref a :: st) M = oK (ldI (M.2.2 a) x) (fun v => den cf 7 34 L (v :: st) M) := den_al (g := ldI) l_7_33 rfl
theorem l_7_34 : look (tab 7) 34 = some (.goto 4, 3, [38], uu) := by decide +kernel
theorem e_7_34 : den cf 7 34 L st M = den cf 7 38 L st M := den_go l_7_34 rfl
theorem l_7_37 : look (tab 7) 37 = some (.iconst 0, 1, [], .int (zI 0)) := by decide +kernel
theorem e_7_37 : den cf 7 37 L st M = den cf 7 38 L (.int (zI 0) :: st) M := den_go l_7_37 rfl
theorem l_7_38 : look (tab 7) 38 = some (.ireturn, 1, [0], uu) := by decide +kernel
theorem e_7_38 : den cf 7 38 L [.int x] M = some (some (.int x), M) := den_e0 l_7_38
/-! yX0_worthOf -/
theorem l_8_0 : look (tab 8) 0 = some (.aload_n 0, 1, [], uu) := by decide +kernel
theorem e_8_0 : den cf 8 0 [.ref a, v1, v2, v3, v4, v5, v6] st M = den cf 8 1 [.ref a, v1, v2, v3, v4, v5, v6] (.ref a :: st) M := den_go l_8_0 rfl
theorem l_8_1 : look (tab 8) 1 = some (.iload_n 1, 1, [], uu) := by decide +kernel
theorem e_8_1 : den cf 8 1 [v0, .int x, v2, v3, v4, v5, v6] st M = den cf 8 2 [v0, .int x, v2, v3, v4, v5, v6] (.int x :: st) M := den_go l_8_1 rfl
theorem l_8_2 : look (tab 8) 2 = some (.invokevirtual 60, 3, [0, 2, 2, 755, 756, 757, 22], uu) := by decide +kernel
theorem e_8_2 : den cf 8 2 L (w1 :: .ref a :: st) M = if rcv M 0 [.ref a, w1] = true ∧ st.length ≤ 4 then rK (cf 2 [.ref a, w1] M) (fun v M' => den cf 8 5 L (pR v st) M') else none := den_iv [w1] l_8_2 rfl
theorem l_8_5 : look (tab 8) 5 = some (.astore 4, 2, [], uu) := by decide +kernel
theorem e_8_5 : den cf 8 5 [v0, v1, v2, v3, v4, v5, v6] (v :: st) M = if isRf v = true then den cf 8 7 [v0, v1, v2, kq v3, v, v5, v6] st M else none := den_as (k := 4) (v := v) l_8_5 rfl (Nat.le_of_ble_eq_true rfl)
theorem l_8_7 : look (tab 8) 7 = some (.aload_n 0, 1, [], uu) := by decide +kernel
theorem e_8_7 : den cf 8 7 [.ref a, v1, v2, v3, v4, v5, v6] st M = den cf 8 8 [.ref a, v1, v2, v3, v4, v5, v6] (.ref a :: st) M := den_go l_8_7 rfl
theorem l_8_8 : look (tab 8) 8 = some (.iload_n 2, 1, [], uu) := by decide +kernel
theorem e_8_8 : den cf 8 8 [v0, v1, .int x, v3, v4, v5, v6] st M = den cf 8 9 [v0, v1, .int x, v3, v4, v5, v6] (.int x :: st) M := den_go l_8_8 rfl
theorem l_8_9 : look (tab 8) 9 = some (.invokevirtual 64, 3, [0, 4, 2, 759, 760, 761, 22], uu) := by decide +kernel
theorem e_8_9 : den cf 8 9 L (w1 :: .ref a :: st) M = if rcv M 0 [.ref a, w1] = true ∧ st.length ≤ 4 then rK (cf 4 [.ref a, w1] M) (fun v M' => den cf 8 12 L (pR v st) M') else none := den_iv [w1] l_8_9 rfl
theorem l_8_12 : look (tab 8) 12 = some (.astore 5, 2, [], uu) := by decide +kernel
theorem e_8_12 : den cf 8 12 [v0, v1, v2, v3, v4, v5, v6] (v :: st) M = if isRf v = true then den cf 8 14 [v0, v1, v2, v3, kq v4, v, v6] st M else none := den_as (k := 5) (v := v) l_8_12 rfl (Nat.le_of_ble_eq_true rfl)
theorem l_8_14 : look (tab 8) 14 = some (.aload 4, 2, [], uu) := by decide +kernel
theorem e_8_14 : den cf 8 14 [v0, v1, v2, v3, v4, v5, v6] st M = if isRf v4 = true then den cf 8 16 [v0, v1, v2, v3, v4, v5, v6] (v4 :: st) M else none := den_g l_8_14 rfl
theorem l_8_16 : look (tab 8) 16 = some (.ifnull 8, 3, [24], uu) := by decide +kernel
theorem e_8_16 : den cf 8 16 L (va_rf o :: st) M = oN o (den cf 8 24 L st M) (den cf 8 19 L st M) := den_nu l_8_16
theorem e_8_16_n : den cf 8 16 L (.null :: st) M = den cf 8 24 L st M := den_go l_8_16 rfl
theorem e_8_16_r : den cf 8 16 L (.ref a :: st) M = den cf 8 19 L st M := den_go l_8_16 rfl
theorem l_8_19 : look (tab 8) 19 = some (.aload 5, 2, [], uu) := by decide +kernel
theorem e_8_19 : den cf 8 19 [v0, v1, v2, v3, v4, v5, v6] st M = if isRf v5 = true then den cf 8 21 [v0, v1, v2, v3, v4, v5, v6] (v5 :: st) M else none := den_g l_8_19 rfl
theorem l_8_21 : look (tab 8) 21 = some (.ifnonnull 12, 3, [33], uu) := by decide +kernel
theorem e_8_21 : den cf 8 21 L (va_rf o :: st) M = oN o (den cf 8 24 L st M) (den cf 8 33 L st M) := den_nn l_8_21
theorem e_8_21_n : den cf 8 21 L (.null :: st) M = den cf 8 24 L st M := den_go l_8_21 rfl
theorem e_8_21_r : den cf 8 21 L (.ref a :: st) M = den cf 8 33 L st M := den_go l_8_21 rfl
theorem l_8_24 : look (tab 8) 24 = some (.aload_n 0, 1, [], uu) := by decide +kernel
theorem e_8_24 : den cf 8 24 [.ref a, v1, v2, v3, v4, v5, v6] st M = den cf 8 25 [.ref a, v1, v2, v3, v4, v5, v6] (.ref a :: st) M := den_go l_8_24 rfl
theorem l_8_25 : look (tab 8) 25 = some (.iload_n 1, 1, [], uu) := by decide +kernel
theorem e_8_25 : den cf 8 25 [v0, .int x, v2, v3, v4, v5, v6] st M = den cf 8 26 [v0, .int x, v2, v3, v4, v5, v6] (.int x :: st) M := den_go l_8_25 rfl
theorem l_8_26 : look (tab 8) 26 = some (.iconst 1, 1, [], .int (zI 1)) := by decide +kernel
theorem e_8_26 : den cf 8 26 L st M = den cf 8 27 L (.int (zI 1) :: st) M := den_go l_8_26 rfl
theorem l_8_27 : look (tab 8) 27 = some (.iadd, 1, [], uu) := by decide +kernel
theorem e_8_27 : den cf 8 27 L (.int y :: .int x :: st) M = den cf 8 28 L (.int (x + y) :: st) M := den_go l_8_27 rfl
theorem l_8_28 : look (tab 8) 28 = some (.iload_n 3, 1, [], uu) := by decide +kernel
theorem e_8_28 : den cf 8 28 [v0, v1, v2, .int x, v4, v5, v6] st M = den cf 8 29 [v0, v1, v2, .int x, v4, v5, v6] (.int x :: st) M := den_go l_8_28 rfl
theorem l_8_29 : look (tab 8) 29 = some (.invokevirtual 67, 3, [0, 7, 3, 763, 764, 765, 22], uu) := by decide +kernel
theorem e_8_29 : den cf 8 29 L (w2 :: w1 :: .ref a :: st) M = if rcv M 0 [.ref a, w1, w2] = true ∧ st.length ≤ 4 then rK (cf 7 [.ref a, w1, w2] M) (fun v M' => den cf 8 32 L (pR v st) M') else none := den_iv [w1, w2] l_8_29 rfl
theorem l_8_32 : look (tab 8) 32 = some (.ireturn, 1, [0], uu) := by decide +kernel
theorem e_8_32 : den cf 8 32 L [.int x] M = some (some (.int x), M) := den_e0 l_8_32
theorem l_8_33 : look (tab 8) 33 = some (.bipush 8, 2, [], .int (zI 8)) := by decide +kernel
theorem e_8_33 : den cf 8 33 L st M = den cf 8 35 L (.int (zI 8) :: st) M := den_go l_8_33 rfl
theorem l_8_35 : look (tab 8) 35 = some (.aload 4, 2, [], uu) := by decide +kernel
theorem e_8_35 : den cf 8 35 [v0, v1, v2, v3, v4, v5, v6] st M = if isRf v4 = true then den cf 8 37 [v0, v1, v2, v3, v4, v5, v6] (v4 :: st) M else none := den_g l_8_35 rfl
theorem l_8_37 : look (tab 8) 37 = some (.aload 5, 2, [], uu) := by decide +kernel
theorem e_8_37 : den cf 8 37 [v0, v1, v2, v3, v4, v5, v6] st M = if isRf v5 = true then den cf 8 39 [v0, v1, v2, v3, v4, v5, v6] (v5 :: st) M else none := den_g l_8_37 rfl
theorem l_8_39 : look (tab 8) 39 = some (.invokevirtual 71, 3, [1, 20, 2, 767, 261, 262, 41], uu) := by decide +kernel
theorem e_8_39 : den cf 8 39 L (w1 :: .ref a :: st) M = if rcv M 1 [.ref a, w1] = true ∧ st.length ≤ 4 then rK (cf 20 [.ref a, w1] M) (fun v M' => den cf 8 42 L (pR v st) M') else none := den_iv [w1] l_8_39 rfl
theorem l_8_42 : look (tab 8) 42 = some (.imul, 1, [], uu) := by decide +kernel
theorem e_8_42 : den cf 8 42 L (.int y :: .int x :: st) M = den cf 8 43 L (.int (x * y) :: st) M := den_go l_8_42 rfl
theorem l_8_43 : look (tab 8) 43 = some (.iconst 1, 1, [], .int (zI 1)) := by decide +kernel
theorem e_8_43 : den cf 8 43 L st M = den cf 8 44 L (.int (zI 1) :: st) M := den_go l_8_43 rfl
theorem l_8_44 : look (tab 8) 44 = some (.iadd, 1, [], uu) := by decide +kernel
theorem e_8_44 : den cf 8 44 L (.int y :: .int x :: st) M = den cf 8 45 L (.int (x + y) :: st) M := den_go l_8_44 rfl
theorem l_8_45 : look (tab 8) 45 = some (.istore 6, 2, [], uu) := by decide +kernel
theorem e_8_45 : den cf 8 45 [v0, v1, v2, v3, v4, v5, v6] (.int x :: st) M = den cf 8 47 [v0, v1, v2, v3, v4, kq v5, .int x] st M := den_st (k := 6) (v := .int x) l_8_45 rfl
theorem l_8_47 : look (tab 8) 47 = some (.iload 6, 2, [], uu) := by decide +kernel
theorem e_8_47 : den cf 8 47 [v0, v1, v2, v3, v4, v5, .int x] st M = den cf 8 49 [v0, v1, v2, v3, v4, v5, .int x] (.int x :: st) M := den_go l_8_47 rfl
theorem l_8_49 : look (tab 8) 49 = some (.aload_n 0, 1, [], uu) := by decide +kernel
theorem e_8_49 : den cf 8 49 [.ref a, v1, v2, v3, v4, v5, v6] st M = den cf 8 50 [.ref a, v1, v2, v3, v4, v5, v6] (.ref a :: st) M := den_go l_8_49 rfl
theorem l_8_50 : look (tab 8) 50 = some (.iload_n 1, 1, [], uu) := by decide +kernel
theorem e_8_50 : den cf 8 50 [v0, .int x, v2, v3, v4, v5, v6] st M = den cf 8 51 [v0, .int x, v2, v3, v4, v5, v6] (.int x :: st) M := den_go l_8_50 rfl
theorem l_8_51 : look (tab 8) 51 = some (.iconst 1, 1, [], .int (zI 1)) := by decide +kernel
theorem e_8_51 : den cf 8 51 L st M = den cf 8 52 L (.int (zI 1) :: st) M := den_go l_8_51 rfl
theorem l_8_52 : look (tab 8) 52 = some (.iadd, 1, [], uu) := by decide +kernel
theorem e_8_52 : den cf 8 52 L (.int y :: .int x :: st) M = den cf 8 53 L (.int (x + y) :: st) M := den_go l_8_52 rfl
theorem l_8_53 : look (tab 8) 53 = some (.iload_n 3, 1, [], uu) := by decide +kernel
theorem e_8_53 : den cf 8 53 [v0, v1, v2, .int x, v4, v5, v6] st M = den cf 8 54 [v0, v1, v2, .int x, v4, v5, v6] (.int x :: st) M := den_go l_8_53 rfl
theorem l_8_54 : look (tab 8) 54 = some (.iconst 1, 1, [], .int (zI 1)) := by decide +kernel
theorem e_8_54 : den cf 8 54 L st M = den cf 8 55 L (.int (zI 1) :: st) M := den_go l_8_54 rfl
theorem l_8_55 : look (tab 8) 55 = some (.iload_n 2, 1, [], uu) := by decide +kernel
theorem e_8_55 : den cf 8 55 [v0, v1, .int x, v3, v4, v5, v6] st M = den cf 8 56 [v0, v1, .int x, v3, v4, v5, v6] (.int x :: st) M := den_go l_8_55 rfl
theorem l_8_56 : look (tab 8) 56 = some (.ishl, 1, [], uu) := by decide +kernel
theorem e_8_56 : den cf 8 56 L (.int y :: .int x :: st) M = den cf 8 57 L (.int (x <<< (y &&& 31)) :: st) M := den_go l_8_56 rfl
theorem l_8_57 : look (tab 8) 57 = some (.ior, 1, [], uu) := by decide +kernel
theorem e_8_57 : den cf 8 57 L (.int y :: .int x :: st) M = den cf 8 58 L (.int (x ||| y) :: st) M := den_go l_8_57 rfl
theorem l_8_58 : look (tab 8) 58 = some (.invokevirtual 67, 3, [0, 7, 3, 763, 764, 765, 22], uu) := by decide +kernel
theorem e_8_58 : den cf 8 58 L (w2 :: w1 :: .ref a :: st) M = if rcv M 0 [.ref a, w1, w2] = true ∧ st.length ≤ 4 then rK (cf 7 [.ref a, w1, w2] M) (fun v M' => den cf 8 61 L (pR v st) M') else none := den_iv [w1, w2] l_8_58 rfl
theorem l_8_61 : look (tab 8) 61 = some (.iadd, 1, [], uu) := by decide +kernel
theorem e_8_61 : den cf 8 61 L (.int y :: .int x :: st) M = den cf 8 62 L (.int (x + y) :: st) M := den_go l_8_61 rfl
theorem l_8_62 : look (tab 8) 62 = some (.ireturn, 1, [0], uu) := by decide +kernel
theorem e_8_62 : den cf 8 62 L [.int x] M = some (some (.int x), M) := den_e0 l_8_62
/-! yX0_weigh -/
theorem l_9_0 : look (tab 9) 0 = some (.aload_n 0, 1, [], uu) := by decide +kernel
theorem e_9_0 : den cf 9 0 [.ref a, v1, v2, v3, v4] st M = den cf 9 1 [.ref a, v1, v2, v3, v4] (.ref a :: st) M := den_go l_9_0 rfl
theorem l_9_1 : look (tab 9) 1 = some (.iload_n 1, 1, [], uu) := by decide +kernel
theorem e_9_1 : den cf 9 1 [v0, .int x, v2, v3, v4] st M = den cf 9 2 [v0, .int x, v2, v3, v4] (.int x :: st) M := den_go l_9_1 rfl
theorem l_9_2 : look (tab 9) 2 = some (.iconst (-1), 1, [], .int (zI (-1))) := by decide +kernel
theorem e_9_2 : den cf 9 2 L st M = den cf 9 3 L (.int (zI (-1)) :: st) M := den_go l_9_2 rfl
theorem l_9_3 : look (tab 9) 3 = some (.iload_n 2, 1, [], uu) := by decide +kernel
theorem e_9_3 : den cf 9 3 [v0, v1, .int x, v3, v4] st M = den cf 9 4 [v0, v1, .int x, v3, v4] (.int x :: st) M := den_go l_9_3 rfl
theorem l_9_4 : look (tab 9) 4 = some (.invokevirtual 75, 3, [0, 8, 4, 751, 752, 753, 22], uu) := by decide +kernel
theorem e_9_4 : den cf 9 4 L (w3 :: w2 :: w1 :: .ref a :: st) M = if rcv M 0 [.ref a, w1, w2, w3] = true ∧ st.length ≤ 4 then rK (cf 8 [.ref a, w1, w2, w3] M) (fun v M' => den cf 9 7 L (pR v st) M') else none := den_iv [w1, w2, w3] l_9_4 rfl
theorem l_9_7 : look (tab 9) 7 = some (.istore_n 3, 1, [], uu) := by decide +kernel
theorem e_9_7 : den cf 9 7 [v0, v1, v2, v3, v4] (.int x :: st) M = den cf 9 8 [v0, v1, kq v2, .int x, v4] st M := den_st (k := 3) (v := .int x) l_9_7 rfl
theorem l_9_8 : look (tab 9) 8 = some (.iconst 0, 1, [], .int (zI 0)) := by decide +kernel
theorem e_9_8 : den cf 9 8 L st M = den cf 9 9 L (.int (zI 0) :: st) M := den_go l_9_8 rfl
theorem l_9_9 : look (tab 9) 9 = some (.istore 4, 2, [], uu) := by decide +kernel
theorem e_9_9 : den cf 9 9 [v0, v1, v2, v3, v4] (.int x :: st) M = den cf 9 11 [v0, v1, v2, kq v3, .int x] st M := den_st (k := 4) (v := .int x) l_9_9 rfl
theorem l_9_11 : look (tab 9) 11 = some (.iload 4, 2, [], uu) := by decide +kernel
theorem e_9_11 : den cf 9 11 [v0, v1, v2, v3, .int x] st M = den cf 9 13 [v0, v1, v2, v3, .int x] (.int x :: st) M := den_go l_9_11 rfl
theorem l_9_13 : look (tab 9) 13 = some (.aload_n 0, 1, [], uu) := by decide +kernel
theorem e_9_13 : den cf 9 13 [.ref a, v1, v2, v3, v4] st M = den cf 9 14 [.ref a, v1, v2, v3, v4] (.ref a :: st) M := den_go l_9_13 rfl
theorem l_9_14 : look (tab 9) 14 = some (.getfield 31, 3, [0, 5, 738], uu) := by decide +kernel
theorem e_9_14 : den cf 9 14 L (.ref a :: st) M = oK (gfA (M.2.2 a) 0 5) (fun v => den cf 9 17 L (v :: st) M) := den_gf l_9_14
theorem l_9_17 : look (tab 9) 17 = some (.if_icmp .ge 31, 3, [48], uu) := by decide +kernel
theorem e_9_17 : den cf 9 17 L (.int y :: .int x :: st) M = if x < y then den cf 9 20 L st M else den cf 9 48 L st M := den_ic_ge l_9_17
theorem l_9_20 : look (tab 9) 20 = some (.iload_n 2, 1, [], uu) := by decide +kernel
theorem e_9_20 : den cf 9 20 [v0, v1, .int x, v3, v4] st M = den cf 9 21 [v0, v1, .int x, v3, v4] (.int x :: st) M := den_go l_9_20 rfl
theorem l_9_21 : look (tab 9) 21 = some (.iload 4, 2, [], uu) := by decide +kernel
theorem e_9_21 : den cf 9 21 [v0, v1, v2, v3, .int x] st M = den cf 9 23 [v0, v1, v2, v3, .int x] (.int x :: st) M := den_go l_9_21 rfl
theorem l_9_23 : look (tab 9) 23 = some (.ishr, 1, [], uu) := by decide +kernel
theorem e_9_23 : den cf 9 23 L (.int y :: .int x :: st) M = den cf 9 24 L (.int (x >>> (y &&& 31)) :: st) M := den_go l_9_23 rfl
theorem l_9_24 : look (tab 9) 24 = some (.iconst 1, 1, [], .int (zI 1)) := by decide +kernel
theorem e_9_24 : den cf 9 24 L st M = den cf 9 25 L (.int (zI 1) :: st) M := den_go l_9_24 rfl
theorem l_9_25 : look (tab 9) 25 = some (.iand, 1, [], uu) := by decide +kernel
theorem e_9_25 : den cf 9 25 L (.int y :: .int x :: st) M = den cf 9 26 L (.int (x &&& y) :: st) M := den_go l_9_25 rfl
theorem l_9_26 : look (tab 9) 26 = some (.ifCond .ne 16, 3, [42], uu) := by decide +kernel
theorem e_9_26 : den cf 9 26 L (.int x :: st) M = if x = zI 0 then den cf 9 29 L st M else den cf 9 42 L st M := den_if_ne l_9_26
theorem l_9_29 : look (tab 9) 29 = some (.iload_n 3, 1, [], uu) := by decide +kernel
theorem e_9_29 : den cf 9 29 [v0, v1, v2, .int x, v4] st M = den cf 9 30 [v0, v1, v2, .int x, v4] (.int x :: st) M := den_go l_9_29 rfl
theorem l_9_30 : look (tab 9) 30 = some (.aload_n 0, 1, [], uu) := by decide +kernel
theorem e_9_30 : den cf 9 30 [.ref a, v1, v2, v3, v4] st M = den cf 9 31 [.ref a, v1, v2, v3, v4] (.ref a :: st) M := den_go l_9_30 rfl
theorem l_9_31 : look (tab 9) 31 = some (.iload_n 1, 1, [], uu) := by decide +kernel
theorem e_9_31 : den cf 9 31 [v0, .int x, v2, v3, v4] st M = den cf 9 32 [v0, .int x, v2, v3, v4] (.int x :: st) M := den_go l_9_31 rfl
theorem l_9_32 : look (tab 9) 32 = some (.iload 4, 2, [], uu) := by decide +kernel
theorem e_9_32 : den cf 9 32 [v0, v1, v2, v3, .int x] st M = den cf 9 34 [v0, v1, v2, v3, .int x] (.int x :: st) M := den_go l_9_32 rfl
theorem l_9_34 : look (tab 9) 34 = some (.iload_n 2, 1, [], uu) := by decide +kernel
theorem e_9_34 : den cf 9 34 [v0, v1, .int x, v3, v4] st M = den cf 9 35 [v0, v1, .int x, v3, v4] (.int x :: st) M := den_go l_9_34 rfl
theorem l_9_35 : look (tab 9) 35 = some (.invokevirtual 75, 3, [0, 8, 4, 751, 752, 753, 22], uu) := by decide +kernel
theorem e_9_35 : den cf 9 35 L (w3 :: w2 :: w1 :: .ref a :: st) M = if rcv M 0 [.ref a, w1, w2, w3] = true ∧ st.length ≤ 4 then rK (cf 8 [.ref a, w1, w2, w3] M) (fun v M' => den cf 9 38 L (pR v st) M') else none := den_iv [w1, w2, w3] l_9_35 rfl
theorem l_9_38 : look (tab 9) 38 = some (.invokestatic 79, 3, [1, 243, 2, 750, 258, 255], uu) := by decide +kernel
theorem e_9_38 : den cf 9 38 L (w2 :: w1 :: st) M = if st.length ≤ 4 then rK (cf 243 [w1, w2] M) (fun v M' => den cf 9 41 L (pR v st) M') else none := den_ist [w1, w2] l_9_38 rfl
theorem l_9_41 : look (tab 9) 41 = some (.istore_n 3, 1, [], uu) := by decide +kernel
theorem e_9_41 : den cf 9 41 [v0, v1, v2, v3, v4] (.int x :: st) M = den cf 9 42 [v0, v1, kq v2, .int x, v4] st M := den_st (k := 3) (v := .int x) l_9_41 rfl
theorem l_9_42 : look (tab 9) 42 = some (.iinc 4 1, 3, [], .int (zI 1)) := by decide +kernel
theorem e_9_42 : den cf 9 42 [v0, v1, v2, v3, .int x] st M = den cf 9 45 [v0, v1, v2, kq v3, .int (x + (zI 1))] st M := den_st (k := 4) (v := .int (x + (zI 1))) l_9_42 rfl
theorem l_9_45 : look (tab 9) 45 = some (.goto (-34), 3, [11], uu) := by decide +kernel
theorem e_9_45 : den cf 9 45 L st M = den cf 9 11 L st M := den_go l_9_45 rfl
theorem l_9_48 : look (tab 9) 48 = some (.iload_n 1, 1, [], uu) := by decide +kernel
theorem e_9_48 : den cf 9 48 [v0, .int x, v2, v3, v4] st M = den cf 9 49 [v0, .int x, v2, v3, v4] (.int x :: st) M := den_go l_9_48 rfl
theorem l_9_49 : look (tab 9) 49 = some (.aload_n 0, 1, [], uu) := by decide +kernel
theorem e_9_49 : den cf 9 49 [.ref a, v1, v2, v3, v4] st M = den cf 9 50 [.ref a, v1, v2, v3, v4] (.ref a :: st) M := den_go l_9_49 rfl
theorem l_9_50 : look (tab 9) 50 = some (.getfield 31, 3, [0, 5, 738], uu) := by decide +kernel
theorem e_9_50 : den cf 9 50 L (.ref a :: st) M = oK (gfA (M.2.2 a) 0 5) (fun v => den cf 9 53 L (v :: st) M) := den_gf l_9_50
theorem l_9_53 : look (tab 9) 53 = some (.ishl, 1, [], uu) := by decide +kernel
theorem e_9_53 : den cf 9 53 L (.int y :: .int x :: st) M = den cf 9 54 L (.int (x <<< (y &&& 31)) :: st) M := den_go l_9_53 rfl
theorem l_9_54 : look (tab 9) 54 = some (.iload_n 2, 1, [], uu) := by decide +kernel
theorem e_9_54 : den cf 9 54 [v0, v1, .int x, v3, v4] st M = den cf 9 55 [v0, v1, .int x, v3, v4] (.int x :: st) M := den_go l_9_54 rfl
theorem l_9_55 : look (tab 9) 55 = some (.iadd, 1, [], uu) := by decide +kernel
theorem e_9_55 : den cf 9 55 L (.int y :: .int x :: st) M = den cf 9 56 L (.int (x + y) :: st) M := den_go l_9_55 rfl
theorem l_9_56 : look (tab 9) 56 = some (.istore 4, 2, [], uu) := by decide +kernel
theorem e_9_56 : den cf 9 56 [v0, v1, v2, v3, v4] (.int x :: st) M = den cf 9 58 [v0, v1, v2, kq v3, .int x] st M := den_st (k := 4) (v := .int x) l_9_56 rfl
theorem l_9_58 : look (tab 9) 58 = some (.iload 4, 2, [], uu) := by decide +kernel
theorem e_9_58 : den cf 9 58 [v0, v1, v2, v3, .int x] st M = den cf 9 60 [v0, v1, v2, v3, .int x] (.int x :: st) M := den_go l_9_58 rfl
theorem l_9_60 : look (tab 9) 60 = some (.ifCond .lt 19, 3, [79], uu) := by decide +kernel
theorem e_9_60 : den cf 9 60 L (.int x :: st) M = if x < zI 0 then den cf 9 79 L st M else den cf 9 63 L st M := den_if_lt l_9_60
theorem l_9_63 : look (tab 9) 63 = some (.iload 4, 2, [], uu) := by decide +kernel
theorem e_9_63 : den cf 9 63 [v0, v1, v2, v3, .int x] st M = den cf 9 65 [v0, v1, v2, v3, .int x] (.int x :: st) M := den_go l_9_63 rfl
theorem l_9_65 : look (tab 9) 65 = some (.sipush 2048, 3, [], .int (zI 2048)) := by decide +kernel
theorem e_9_65 : den cf 9 65 L st M = den cf 9 68 L (.int (zI 2048) :: st) M := den_go l_9_65 rfl
theorem l_9_68 : look (tab 9) 68 = some (.if_icmp .ge 11, 3, [79], uu) := by decide +kernel
theorem e_9_68 : den cf 9 68 L (.int y :: .int x :: st) M = if x < y then den cf 9 71 L st M else den cf 9 79 L st M := den_ic_ge l_9_68
theorem l_9_71 : look (tab 9) 71 = some (.aload_n 0, 1, [], uu) := by decide +kernel
theorem e_9_71 : den cf 9 71 [.ref a, v1, v2, v3, v4] st M = den cf 9 72 [.ref a, v1, v2, v3, v4] (.ref a :: st) M := den_go l_9_71 rfl
theorem l_9_72 : look (tab 9) 72 = some (.getfield 23, 3, [0, 3, 61], uu) := by decide +kernel
theorem e_9_72 : den cf 9 72 L (.ref a :: st) M = oK (gfA (M.2.2 a) 0 3) (fun v => den cf 9 75 L (v :: st) M) := den_gf l_9_72
theorem l_9_75 : look (tab 9) 75 = some (.iload 4, 2, [], uu) := by decide +kernel
theorem e_9_75 : den cf 9 75 [v0, v1, v2, v3, .int x] st M = den cf 9 77 [v0, v1, v2, v3, .int x] (.int x :: st) M := den_go l_9_75 rfl
theorem l_9_77 : look (tab 9) 77 = some (.iload_n 3, 1, [], uu) := by decide +kernel
theorem e_9_77 : den cf 9 77 [v0, v1, v2, .int x, v4] st M = den cf 9 78 [v0, v1, v2, .int x, v4] (.int x :: st) M := den_go l_9_77 rfl
theorem l_9_78 : look (tab 9) 78 = some (.iastore, 1, [], uu) := by decide +kernel
theorem e_9_78 : den cf 9 78 L (.int x :: .int y :: .ref a :: st) M = oK (stI (M.2.2 a) y x) (fun c => den cf 9 79 L st (mU M a c)) := den_is l_9_78
theorem l_9_79 : look (tab 9) 79 = some (.return_, 1, [], uu) := by decide +kernel
theorem e_9_79 : den cf 9 79 L [] M = some (none, M) := den_e4 l_9_79
/-! yX0_choose -/
theorem l_10_0 : look (tab 10) 0 = some (.aload_n 0, 1, [], uu) := by decide +kernel
theorem e_10_0 : den cf 10 0 [.ref a, v1, v2, v3, v4] st M = den cf 10 1 [.ref a, v1, v2, v3, v4] (.ref a :: st) M := den_go l_10_0 rfl
theorem l_10_1 : look (tab 10) 1 = some (.iconst 0, 1, [], .int (zI 0)) := by decide +kernel
theorem e_10_1 : den cf 10 1 L st M = den cf 10 2 L (.int (zI 0) :: st) M := den_go l_10_1 rfl
theorem l_10_2 : look (tab 10) 2 = some (.putfield 84, 3, [0, 6, 0, 772, 0], uu) := by decide +kernel
theorem e_10_2 : den cf 10 2 L (.int x :: .ref a :: st) M = oK (pfA (M.2.2 a) 0 6 (.int x)) (fun c => den cf 10 5 L st (mU M a c)) := den_pf0 l_10_2
theorem l_10_5 : look (tab 10) 5 = some (.aload_n 0, 1, [], uu) := by decide +kernel
theorem e_10_5 : den cf 10 5 [.ref a, v1, v2, v3, v4] st M = den cf 10 6 [.ref a, v1, v2, v3, v4] (.ref a :: st) M := den_go l_10_5 rfl
theorem l_10_6 : look (tab 10) 6 = some (.iconst 0, 1, [], .int (zI 0)) := by decide +kernel
theorem e_10_6 : den cf 10 6 L st M = den cf 10 7 L (.int (zI 0) :: st) M := den_go l_10_6 rfl
theorem l_10_7 : look (tab 10) 7 = some (.putfield 87, 3, [0, 7, 0, 773, 0], uu) := by decide +kernel
theorem e_10_7 : den cf 10 7 L (.int x :: .ref a :: st) M = oK (pfA (M.2.2 a) 0 7 (.int x)) (fun c => den cf 10 10 L st (mU M a c)) := den_pf0 l_10_7
theorem l_10_10 : look (tab 10) 10 = some (.iconst 0, 1, [], .int (zI 0)) := by decide +kernel
theorem e_10_10 : den cf 10 10 L st M = den cf 10 11 L (.int (zI 0) :: st) M := den_go l_10_10 rfl
theorem l_10_11 : look (tab 10) 11 = some (.istore_n 1, 1, [], uu) := by decide +kernel
theorem e_10_11 : den cf 10 11 [v0, v1, v2, v3, v4] (.int x :: st) M = den cf 10 12 [kq v0, .int x, v2, v3, v4] st M := den_st (k := 1) (v := .int x) l_10_11 rfl
theorem l_10_12 : look (tab 10) 12 = some (.iconst 0, 1, [], .int (zI 0)) := by decide +kernel
theorem e_10_12 : den cf 10 12 L st M = den cf 10 13 L (.int (zI 0) :: st) M := den_go l_10_12 rfl
theorem l_10_13 : look (tab 10) 13 = some (.istore_n 2, 1, [], uu) := by decide +kernel
theorem e_10_13 : den cf 10 13 [v0, v1, v2, v3, v4] (.int x :: st) M = den cf 10 14 [v0, kq v1, .int x, v3, v4] st M := den_st (k := 2) (v := .int x) l_10_13 rfl
theorem l_10_14 : look (tab 10) 14 = some (.iload_n 2, 1, [], uu) := by decide +kernel
theorem e_10_14 : den cf 10 14 [v0, v1, .int x, v3, v4] st M = den cf 10 15 [v0, v1, .int x, v3, v4] (.int x :: st) M := den_go l_10_14 rfl
theorem l_10_15 : look (tab 10) 15 = some (.aload_n 0, 1, [], uu) := by decide +kernel
theorem e_10_15 : den cf 10 15 [.ref a, v1, v2, v3, v4] st M = den cf 10 16 [.ref a, v1, v2, v3, v4] (.ref a :: st) M := den_go l_10_15 rfl
theorem l_10_16 : look (tab 10) 16 = some (.getfield 27, 3, [0, 4, 737], uu) := by decide +kernel
theorem e_10_16 : den cf 10 16 L (.ref a :: st) M = oK (gfA (M.2.2 a) 0 4) (fun v => den cf 10 19 L (v :: st) M) := den_gf l_10_16
theorem l_10_19 : look (tab 10) 19 = some (.if_icmp .ge 78, 3, [97], uu) := by decide +kernel
theorem e_10_19 : den cf 10 19 L (.int y :: .int x :: st) M = if x < y then den cf 10 22 L st M else den cf 10 97 L st M := den_ic_ge l_10_19
theorem l_10_22 : look (tab 10) 22 = some (.iload_n 2, 1, [], uu) := by decide +kernel
theorem e_10_22 : den cf 10 22 [v0, v1, .int x, v3, v4] st M = den cf 10 23 [v0, v1, .int x, v3, v4] (.int x :: st) M := den_go l_10_22 rfl
theorem l_10_23 : look (tab 10) 23 = some (.bipush 6, 2, [], .int (zI 6)) := by decide +kernel
theorem e_10_23 : den cf 10 23 L st M = den cf 10 25 L (.int (zI 6) :: st) M := den_go l_10_23 rfl
theorem l_10_25 : look (tab 10) 25 = some (.if_icmp .ge 72, 3, [97], uu) := by decide +kernel
theorem e_10_25 : den cf 10 25 L (.int y :: .int x :: st) M = if x < y then den cf 10 28 L st M else den cf 10 97 L st M := den_ic_ge l_10_25
theorem l_10_28 : look (tab 10) 28 = some (.aload_n 0, 1, [], uu) := by decide +kernel
theorem e_10_28 : den cf 10 28 [.ref a, v1, v2, v3, v4] st M = den cf 10 29 [.ref a, v1, v2, v3, v4] (.ref a :: st) M := den_go l_10_28 rfl
theorem l_10_29 : look (tab 10) 29 = some (.iload_n 2, 1, [], uu) := by decide +kernel
theorem e_10_29 : den cf 10 29 [v0, v1, .int x, v3, v4] st M = den cf 10 30 [v0, v1, .int x, v3, v4] (.int x :: st) M := den_go l_10_29 rfl
theorem l_10_30 : look (tab 10) 30 = some (.iload_n 1, 1, [], uu) := by decide +kernel
theorem e_10_30 : den cf 10 30 [v0, .int x, v2, v3, v4] st M = den cf 10 31 [v0, .int x, v2, v3, v4] (.int x :: st) M := den_go l_10_30 rfl
theorem l_10_31 : look (tab 10) 31 = some (.invokevirtual 90, 3, [0, 11, 3, 774, 775, 776, 22], uu) := by decide +kernel
theorem e_10_31 : den cf 10 31 L (w2 :: w1 :: .ref a :: st) M = if rcv M 0 [.ref a, w1, w2] = true ∧ st.length ≤ 4 then rK (cf 11 [.ref a, w1, w2] M) (fun v M' => den cf 10 34 L (pR v st) M') else none := den_iv [w1, w2] l_10_31 rfl
theorem l_10_34 : look (tab 10) 34 = some (.istore_n 3, 1, [], uu) := by decide +kernel
theorem e_10_34 : den cf 10 34 [v0, v1, v2, v3, v4] (.int x :: st) M = den cf 10 35 [v0, v1, kq v2, .int x, v4] st M := den_st (k := 3) (v := .int x) l_10_34 rfl
theorem l_10_35 : look (tab 10) 35 = some (.aload_n 0, 1, [], uu) := by decide +kernel
theorem e_10_35 : den cf 10 35 [.ref a, v1, v2, v3, v4] st M = den cf 10 36 [.ref a, v1, v2, v3, v4] (.ref a :: st) M := den_go l_10_35 rfl
theorem l_10_36 : look (tab 10) 36 = some (.iload_n 3, 1, [], uu) := by decide +kernel
theorem e_10_36 : den cf 10 36 [v0, v1, v2, .int x, v4] st M = den cf 10 37 [v0, v1, v2, .int x, v4] (.int x :: st) M := den_go l_10_36 rfl
theorem l_10_37 : look (tab 10) 37 = some (.invokevirtual 64, 3, [0, 4, 2, 759, 760, 761, 22], uu) := by decide +kernel
theorem e_10_37 : den cf 10 37 L (w1 :: .ref a :: st) M = if rcv M 0 [.ref a, w1] = true ∧ st.length ≤ 4 then rK (cf 4 [.ref a, w1] M) (fun v M' => den cf 10 40 L (pR v st) M') else none := den_iv [w1] l_10_37 rfl
theorem l_10_40 : look (tab 10) 40 = some (.astore 4, 2, [], uu) := by decide +kernel
theorem e_10_40 : den cf 10 40 [v0, v1, v2, v3, v4] (v :: st) M = if isRf v = true then den cf 10 42 [v0, v1, v2, kq v3, v] st M else none := den_as (k := 4) (v := v) l_10_40 rfl (Nat.le_of_ble_eq_true rfl)
theorem l_10_42 : look (tab 10) 42 = some (.aload_n 0, 1, [], uu) := by decide +kernel
theorem e_10_42 : den cf 10 42 [.ref a, v1, v2, v3, v4] st M = den cf 10 43 [.ref a, v1, v2, v3, v4] (.ref a :: st) M := den_go l_10_42 rfl
theorem l_10_43 : look (tab 10) 43 = some (.getfield 20, 3, [0, 2, 60], uu) := by decide +kernel
theorem e_10_43 : den cf 10 43 L (.ref a :: st) M = oK (gfA (M.2.2 a) 0 2) (fun v => den cf 10 46 L (v :: st) M) := den_gf l_10_43
theorem l_10_46 : look (tab 10) 46 = some (.iload_n 2, 1, [], uu) := by decide +kernel
theorem e_10_46 : den cf 10 46 [v0, v1, .int x, v3, v4] st M = den cf 10 47 [v0, v1, .int x, v3, v4] (.int x :: st) M := den_go l_10_46 rfl
theorem l_10_47 : look (tab 10) 47 = some (.aload 4, 2, [], uu) := by decide +kernel
theorem e_10_47 : den cf 10 47 [v0, v1, v2, v3, v4] st M = if isRf v4 = true then den cf 10 49 [v0, v1, v2, v3, v4] (v4 :: st) M else none := den_g l_10_47 rfl
theorem l_10_49 : look (tab 10) 49 = some (.aastore, 1, [], uu) := by decide +kernel
theorem e_10_49 : den cf 10 49 L (v :: .int y :: .ref a :: st) M = oK (stQ M (M.2.2 a) y v) (fun c => den cf 10 50 L st (mU M a c)) := den_qs l_10_49
theorem l_10_50 : look (tab 10) 50 = some (.aload 4, 2, [], uu) := by decide +kernel
theorem e_10_50 : den cf 10 50 [v0, v1, v2, v3, v4] st M = if isRf v4 = true then den cf 10 52 [v0, v1, v2, v3, v4] (v4 :: st) M else none := den_g l_10_50 rfl
theorem l_10_52 : look (tab 10) 52 = some (.ifnull 39, 3, [91], uu) := by decide +kernel
theorem e_10_52 : den cf 10 52 L (va_rf o :: st) M = oN o (den cf 10 91 L st M) (den cf 10 55 L st M) := den_nu l_10_52
theorem e_10_52_n : den cf 10 52 L (.null :: st) M = den cf 10 91 L st M := den_go l_10_52 rfl
theorem e_10_52_r : den cf 10 52 L (.ref a :: st) M = den cf 10 55 L st M := den_go l_10_52 rfl
theorem l_10_55 : look (tab 10) 55 = some (.iload_n 1, 1, [], uu) := by decide +kernel
theorem e_10_55 : den cf 10 55 [v0, .int x, v2, v3, v4] st M = den cf 10 56 [v0, .int x, v2, v3, v4] (.int x :: st) M := den_go l_10_55 rfl
theorem l_10_56 : look (tab 10) 56 = some (.iconst 1, 1, [], .int (zI 1)) := by decide +kernel
theorem e_10_56 : den cf 10 56 L st M = den cf 10 57 L (.int (zI 1) :: st) M := den_go l_10_56 rfl
theorem l_10_57 : look (tab 10) 57 = some (.iload_n 3, 1, [], uu) := by decide +kernel
theorem e_10_57 : den cf 10 57 [v0, v1, v2, .int x, v4] st M = den cf 10 58 [v0, v1, v2, .int x, v4] (.int x :: st) M := den_go l_10_57 rfl
theorem l_10_58 : look (tab 10) 58 = some (.ishl, 1, [], uu) := by decide +kernel
theorem e_10_58 : den cf 10 58 L (.int y :: .int x :: st) M = den cf 10 59 L (.int (x <<< (y &&& 31)) :: st) M := den_go l_10_58 rfl
theorem l_10_59 : look (tab 10) 59 = some (.ior, 1, [], uu) := by decide +kernel
theorem e_10_59 : den cf 10 59 L (.int y :: .int x :: st) M = den cf 10 60 L (.int (x ||| y) :: st) M := den_go l_10_59 rfl
theorem l_10_60 : look (tab 10) 60 = some (.istore_n 1, 1, [], uu) := by decide +kernel
theorem e_10_60 : den cf 10 60 [v0, v1, v2, v3, v4] (.int x :: st) M = den cf 10 61 [kq v0, .int x, v2, v3, v4] st M := den_st (k := 1) (v := .int x) l_10_60 rfl
theorem l_10_61 : look (tab 10) 61 = some (.aload_n 0, 1, [], uu) := by decide +kernel
theorem e_10_61 : den cf 10 61 [.ref a, v1, v2, v3, v4] st M = den cf 10 62 [.ref a, v1, v2, v3, v4] (.ref a :: st) M := den_go l_10_61 rfl
theorem l_10_62 : look (tab 10) 62 = some (.dup, 1, [], uu) := by decide +kernel
theorem e_10_62 : den cf 10 62 L (.ref a :: st) M = den cf 10 63 L (.ref a :: .ref a :: st) M := den_go l_10_62 rfl
theorem e_10_62_i : den cf 10 62 L (.int x :: st) M = den cf 10 63 L (.int x :: .int x :: st) M := den_go l_10_62 rfl
theorem l_10_63 : look (tab 10) 63 = some (.getfield 84, 3, [0, 6, 772], uu) := by decide +kernel
theorem e_10_63 : den cf 10 63 L (.ref a :: st) M = oK (gfA (M.2.2 a) 0 6) (fun v => den cf 10 66 L (v :: st) M) := den_gf l_10_63
theorem l_10_66 : look (tab 10) 66 = some (.aload 4, 2, [], uu) := by decide +kernel
theorem e_10_66 : den cf 10 66 [v0, v1, v2, v3, v4] st M = if isRf v4 = true then den cf 10 68 [v0, v1, v2, v3, v4] (v4 :: st) M else none := den_g l_10_66 rfl
theorem l_10_68 : look (tab 10) 68 = some (.aload_n 0, 1, [], uu) := by decide +kernel
theorem e_10_68 : den cf 10 68 [.ref a, v1, v2, v3, v4] st M = den cf 10 69 [.ref a, v1, v2, v3, v4] (.ref a :: st) M := den_go l_10_68 rfl
theorem l_10_69 : look (tab 10) 69 = some (.getfield 11, 3, [0, 0, 58], uu) := by decide +kernel
theorem e_10_69 : den cf 10 69 L (.ref a :: st) M = oK (gfA (M.2.2 a) 0 0) (fun v => den cf 10 72 L (v :: st) M) := den_gf l_10_69
theorem l_10_72 : look (tab 10) 72 = some (.iload_n 2, 1, [], uu) := by decide +kernel
theorem e_10_72 : den cf 10 72 [v0, v1, .int x, v3, v4] st M = den cf 10 73 [v0, v1, .int x, v3, v4] (.int x :: st) M := den_go l_10_72 rfl
theorem l_10_73 : look (tab 10) 73 = some (.aaload, 1, [], uu) := by decide +kernel
theorem e_10_73 : den cf 10 73 L (.int x :: .ref a :: st) M = oK (ldQ (M.2.2 a) x) (fun v => den cf 10 74 L (v :: st) M) := den_al (g := ldQ) l_10_73 rfl
theorem l_10_74 : look (tab 10) 74 = some (.invokevirtual 71, 3, [1, 20, 2, 767, 261, 262, 41], uu) := by decide +kernel
theorem e_10_74 : den cf 10 74 L (w1 :: .ref a :: st) M = if rcv M 1 [.ref a, w1] = true ∧ st.length ≤ 4 then rK (cf 20 [.ref a, w1] M) (fun v M' => den cf 10 77 L (pR v st) M') else none := den_iv [w1] l_10_74 rfl
theorem l_10_77 : look (tab 10) 77 = some (.iadd, 1, [], uu) := by decide +kernel
theorem e_10_77 : den cf 10 77 L (.int y :: .int x :: st) M = den cf 10 78 L (.int (x + y) :: st) M := den_go l_10_77 rfl
theorem l_10_78 : look (tab 10) 78 = some (.putfield 84, 3, [0, 6, 0, 772, 0], uu) := by decide +kernel
theorem e_10_78 : den cf 10 78 L (.int x :: .ref a :: st) M = oK (pfA (M.2.2 a) 0 6 (.int x)) (fun c => den cf 10 81 L st (mU M a c)) := den_pf0 l_10_78
theorem l_10_81 : look (tab 10) 81 = some (.aload_n 0, 1, [], uu) := by decide +kernel
theorem e_10_81 : den cf 10 81 [.ref a, v1, v2, v3, v4] st M = den cf 10 82 [.ref a, v1, v2, v3, v4] (.ref a :: st) M := den_go l_10_81 rfl
theorem l_10_82 : look (tab 10) 82 = some (.dup, 1, [], uu) := by decide +kernel
theorem e_10_82 : den cf 10 82 L (.ref a :: st) M = den cf 10 83 L (.ref a :: .ref a :: st) M := den_go l_10_82 rfl
theorem e_10_82_i : den cf 10 82 L (.int x :: st) M = den cf 10 83 L (.int x :: .int x :: st) M := den_go l_10_82 rfl
theorem l_10_83 : look (tab 10) 83 = some (.getfield 87, 3, [0, 7, 773], uu) := by decide +kernel
theorem e_10_83 : den cf 10 83 L (.ref a :: st) M = oK (gfA (M.2.2 a) 0 7) (fun v => den cf 10 86 L (v :: st) M) := den_gf l_10_83
theorem l_10_86 : look (tab 10) 86 = some (.iconst 1, 1, [], .int (zI 1)) := by decide +kernel
theorem e_10_86 : den cf 10 86 L st M = den cf 10 87 L (.int (zI 1) :: st) M := den_go l_10_86 rfl
theorem l_10_87 : look (tab 10) 87 = some (.iadd, 1, [], uu) := by decide +kernel
theorem e_10_87 : den cf 10 87 L (.int y :: .int x :: st) M = den cf 10 88 L (.int (x + y) :: st) M := den_go l_10_87 rfl
theorem l_10_88 : look (tab 10) 88 = some (.putfield 87, 3, [0, 7, 0, 773, 0], uu) := by decide +kernel
theorem e_10_88 : den cf 10 88 L (.int x :: .ref a :: st) M = oK (pfA (M.2.2 a) 0 7 (.int x)) (fun c => den cf 10 91 L st (mU M a c)) := den_pf0 l_10_88
theorem l_10_91 : look (tab 10) 91 = some (.iinc 2 1, 3, [], .int (zI 1)) := by decide +kernel
theorem e_10_91 : den cf 10 91 [v0, v1, .int x, v3, v4] st M = den cf 10 94 [v0, kq v1, .int (x + (zI 1)), v3, v4] st M := den_st (k := 2) (v := .int (x + (zI 1))) l_10_91 rfl
theorem l_10_94 : look (tab 10) 94 = some (.goto (-80), 3, [14], uu) := by decide +kernel
theorem e_10_94 : den cf 10 94 L st M = den cf 10 14 L st M := den_go l_10_94 rfl
theorem l_10_97 : look (tab 10) 97 = some (.return_, 1, [], uu) := by decide +kernel
theorem e_10_97 : den cf 10 97 L [] M = some (none, M) := den_e4 l_10_97
/-! yX0_firstBest -/
theorem l_11_0 : look (tab 11) 0 = some (.aload_n 0, 1, [], uu) := by decide +kernel
theorem e_11_0 : den cf 11 0 [.ref a, v1, v2, v3, v4, v5] st M = den cf 11 1 [.ref a, v1, v2, v3, v4, v5] (.ref a :: st) M := den_go l_11_0 rfl
theorem l_11_1 : look (tab 11) 1 = some (.iload_n 1, 1, [], uu) := by decide +kernel
theorem e_11_1 : den cf 11 1 [v0, .int x, v2, v3, v4, v5] st M = den cf 11 2 [v0, .int x, v2, v3, v4, v5] (.int x :: st) M := den_go l_11_1 rfl
theorem l_11_2 : look (tab 11) 2 = some (.iload_n 2, 1, [], uu) := by decide +kernel
theorem e_11_2 : den cf 11 2 [v0, v1, .int x, v3, v4, v5] st M = den cf 11 3 [v0, v1, .int x, v3, v4, v5] (.int x :: st) M := den_go l_11_2 rfl
theorem l_11_3 : look (tab 11) 3 = some (.invokevirtual 67, 3, [0, 7, 3, 763, 764, 765, 22], uu) := by decide +kernel
theorem e_11_3 : den cf 11 3 L (w2 :: w1 :: .ref a :: st) M = if rcv M 0 [.ref a, w1, w2] = true ∧ st.length ≤ 4 then rK (cf 7 [.ref a, w1, w2] M) (fun v M' => den cf 11 6 L (pR v st) M') else none := den_iv [w1, w2] l_11_3 rfl
theorem l_11_6 : look (tab 11) 6 = some (.istore_n 3, 1, [], uu) := by decide +kernel
theorem e_11_6 : den cf 11 6 [v0, v1, v2, v3, v4, v5] (.int x :: st) M = den cf 11 7 [v0, v1, kq v2, .int x, v4, v5] st M := den_st (k := 3) (v := .int x) l_11_6 rfl
theorem l_11_7 : look (tab 11) 7 = some (.iconst (-1), 1, [], .int (zI (-1))) := by decide +kernel
theorem e_11_7 : den cf 11 7 L st M = den cf 11 8 L (.int (zI (-1)) :: st) M := den_go l_11_7 rfl
theorem l_11_8 : look (tab 11) 8 = some (.istore 4, 2, [], uu) := by decide +kernel
theorem e_11_8 : den cf 11 8 [v0, v1, v2, v3, v4, v5] (.int x :: st) M = den cf 11 10 [v0, v1, v2, kq v3, .int x, v5] st M := den_st (k := 4) (v := .int x) l_11_8 rfl
theorem l_11_10 : look (tab 11) 10 = some (.iload 4, 2, [], uu) := by decide +kernel
theorem e_11_10 : den cf 11 10 [v0, v1, v2, v3, .int x, v5] st M = den cf 11 12 [v0, v1, v2, v3, .int x, v5] (.int x :: st) M := den_go l_11_10 rfl
theorem l_11_12 : look (tab 11) 12 = some (.aload_n 0, 1, [], uu) := by decide +kernel
theorem e_11_12 : den cf 11 12 [.ref a, v1, v2, v3, v4, v5] st M = den cf 11 13 [.ref a, v1, v2, v3, v4, v5] (.ref a :: st) M := den_go l_11_12 rfl
theorem l_11_13 : look (tab 11) 13 = some (.getfield 31, 3, [0, 5, 738], uu) := by decide +kernel
theorem e_11_13 : den cf 11 13 L (.ref a :: st) M = oK (gfA (M.2.2 a) 0 5) (fun v => den cf 11 16 L (v :: st) M) := den_gf l_11_13
theorem l_11_16 : look (tab 11) 16 = some (.if_icmp .ge 51, 3, [67], uu) := by decide +kernel
theorem e_11_16 : den cf 11 16 L (.int y :: .int x :: st) M = if x < y then den cf 11 19 L st M else den cf 11 67 L st M := den_ic_ge l_11_16
theorem l_11_19 : look (tab 11) 19 = some (.iload 4, 2, [], uu) := by decide +kernel
theorem e_11_19 : den cf 11 19 [v0, v1, v2, v3, .int x, v5] st M = den cf 11 21 [v0, v1, v2, v3, .int x, v5] (.int x :: st) M := den_go l_11_19 rfl
theorem l_11_21 : look (tab 11) 21 = some (.iconst (-1), 1, [], .int (zI (-1))) := by decide +kernel
theorem e_11_21 : den cf 11 21 L st M = den cf 11 22 L (.int (zI (-1)) :: st) M := den_go l_11_21 rfl
theorem l_11_22 : look (tab 11) 22 = some (.if_icmp .eq 12, 3, [34], uu) := by decide +kernel
theorem e_11_22 : den cf 11 22 L (.int y :: .int x :: st) M = if x = y then den cf 11 34 L st M else den cf 11 25 L st M := den_ic_eq l_11_22
theorem l_11_25 : look (tab 11) 25 = some (.iload_n 2, 1, [], uu) := by decide +kernel
theorem e_11_25 : den cf 11 25 [v0, v1, .int x, v3, v4, v5] st M = den cf 11 26 [v0, v1, .int x, v3, v4, v5] (.int x :: st) M := den_go l_11_25 rfl
theorem l_11_26 : look (tab 11) 26 = some (.iload 4, 2, [], uu) := by decide +kernel
theorem e_11_26 : den cf 11 26 [v0, v1, v2, v3, .int x, v5] st M = den cf 11 28 [v0, v1, v2, v3, .int x, v5] (.int x :: st) M := den_go l_11_26 rfl
theorem l_11_28 : look (tab 11) 28 = some (.ishr, 1, [], uu) := by decide +kernel
theorem e_11_28 : den cf 11 28 L (.int y :: .int x :: st) M = den cf 11 29 L (.int (x >>> (y &&& 31)) :: st) M := den_go l_11_28 rfl
theorem l_11_29 : look (tab 11) 29 = some (.iconst 1, 1, [], .int (zI 1)) := by decide +kernel
theorem e_11_29 : den cf 11 29 L st M = den cf 11 30 L (.int (zI 1) :: st) M := den_go l_11_29 rfl
theorem l_11_30 : look (tab 11) 30 = some (.iand, 1, [], uu) := by decide +kernel
theorem e_11_30 : den cf 11 30 L (.int y :: .int x :: st) M = den cf 11 31 L (.int (x &&& y) :: st) M := den_go l_11_30 rfl
theorem l_11_31 : look (tab 11) 31 = some (.ifCond .ne 7, 3, [38], uu) := by decide +kernel
theorem e_11_31 : den cf 11 31 L (.int x :: st) M = if x = zI 0 then den cf 11 34 L st M else den cf 11 38 L st M := den_if_ne l_11_31
theorem l_11_34 : look (tab 11) 34 = some (.iconst 1, 1, [], .int (zI 1)) := by decide +kernel
theorem e_11_34 : den cf 11 34 L st M = den cf 11 35 L (.int (zI 1) :: st) M := den_go l_11_34 rfl
theorem l_11_35 : look (tab 11) 35 = some (.goto 4, 3, [39], uu) := by decide +kernel
theorem e_11_35 : den cf 11 35 L st M = den cf 11 39 L st M := den_go l_11_35 rfl
theorem l_11_38 : look (tab 11) 38 = some (.iconst 0, 1, [], .int (zI 0)) := by decide +kernel
theorem e_11_38 : den cf 11 38 L st M = den cf 11 39 L (.int (zI 0) :: st) M := den_go l_11_38 rfl
theorem l_11_39 : look (tab 11) 39 = some (.istore 5, 2, [], uu) := by decide +kernel
theorem e_11_39 : den cf 11 39 [v0, v1, v2, v3, v4, v5] (.int x :: st) M = den cf 11 41 [v0, v1, v2, v3, kq v4, .int x] st M := den_st (k := 5) (v := .int x) l_11_39 rfl
theorem l_11_41 : look (tab 11) 41 = some (.iload 5, 2, [], uu) := by decide +kernel
theorem e_11_41 : den cf 11 41 [v0, v1, v2, v3, v4, .int x] st M = den cf 11 43 [v0, v1, v2, v3, v4, .int x] (.int x :: st) M := den_go l_11_41 rfl
theorem l_11_43 : look (tab 11) 43 = some (.ifCond .eq 18, 3, [61], uu) := by decide +kernel
theorem e_11_43 : den cf 11 43 L (.int x :: st) M = if x = zI 0 then den cf 11 61 L st M else den cf 11 46 L st M := den_if_eq l_11_43
theorem l_11_46 : look (tab 11) 46 = some (.aload_n 0, 1, [], uu) := by decide +kernel
theorem e_11_46 : den cf 11 46 [.ref a, v1, v2, v3, v4, v5] st M = den cf 11 47 [.ref a, v1, v2, v3, v4, v5] (.ref a :: st) M := den_go l_11_46 rfl
theorem l_11_47 : look (tab 11) 47 = some (.iload_n 1, 1, [], uu) := by decide +kernel
theorem e_11_47 : den cf 11 47 [v0, .int x, v2, v3, v4, v5] st M = den cf 11 48 [v0, .int x, v2, v3, v4, v5] (.int x :: st) M := den_go l_11_47 rfl
theorem l_11_48 : look (tab 11) 48 = some (.iload 4, 2, [], uu) := by decide +kernel
theorem e_11_48 : den cf 11 48 [v0, v1, v2, v3, .int x, v5] st M = den cf 11 50 [v0, v1, v2, v3, .int x, v5] (.int x :: st) M := den_go l_11_48 rfl
theorem l_11_50 : look (tab 11) 50 = some (.iload_n 2, 1, [], uu) := by decide +kernel
theorem e_11_50 : den cf 11 50 [v0, v1, .int x, v3, v4, v5] st M = den cf 11 51 [v0, v1, .int x, v3, v4, v5] (.int x :: st) M := den_go l_11_50 rfl
theorem l_11_51 : look (tab 11) 51 = some (.invokevirtual 75, 3, [0, 8, 4, 751, 752, 753, 22], uu) := by decide +kernel
theorem e_11_51 : den cf 11 51 L (w3 :: w2 :: w1 :: .ref a :: st) M = if rcv M 0 [.ref a, w1, w2, w3] = true ∧ st.length ≤ 4 then rK (cf 8 [.ref a, w1, w2, w3] M) (fun v M' => den cf 11 54 L (pR v st) M') else none := den_iv [w1, w2, w3] l_11_51 rfl
theorem l_11_54 : look (tab 11) 54 = some (.iload_n 3, 1, [], uu) := by decide +kernel
theorem e_11_54 : den cf 11 54 [v0, v1, v2, .int x, v4, v5] st M = den cf 11 55 [v0, v1, v2, .int x, v4, v5] (.int x :: st) M := den_go l_11_54 rfl
theorem l_11_55 : look (tab 11) 55 = some (.if_icmp .ne 6, 3, [61], uu) := by decide +kernel
theorem e_11_55 : den cf 11 55 L (.int y :: .int x :: st) M = if x = y then den cf 11 58 L st M else den cf 11 61 L st M := den_ic_ne l_11_55
theorem l_11_58 : look (tab 11) 58 = some (.iload 4, 2, [], uu) := by decide +kernel
theorem e_11_58 : den cf 11 58 [v0, v1, v2, v3, .int x, v5] st M = den cf 11 60 [v0, v1, v2, v3, .int x, v5] (.int x :: st) M := den_go l_11_58 rfl
theorem l_11_60 : look (tab 11) 60 = some (.ireturn, 1, [0], uu) := by decide +kernel
theorem e_11_60 : den cf 11 60 L [.int x] M = some (some (.int x), M) := den_e0 l_11_60
theorem l_11_61 : look (tab 11) 61 = some (.iinc 4 1, 3, [], .int (zI 1)) := by decide +kernel
theorem e_11_61 : den cf 11 61 [v0, v1, v2, v3, .int x, v5] st M = den cf 11 64 [v0, v1, v2, kq v3, .int (x + (zI 1)), v5] st M := den_st (k := 4) (v := .int (x + (zI 1))) l_11_61 rfl
theorem l_11_64 : look (tab 11) 64 = some (.goto (-54), 3, [10], uu) := by decide +kernel
theorem e_11_64 : den cf 11 64 L st M = den cf 11 10 L st M := den_go l_11_64 rfl
theorem l_11_67 : look (tab 11) 67 = some (.iconst (-1), 1, [], .int (zI (-1))) := by decide +kernel
theorem e_11_67 : den cf 11 67 L st M = den cf 11 68 L (.int (zI (-1)) :: st) M := den_go l_11_67 rfl
theorem l_11_68 : look (tab 11) 68 = some (.ireturn, 1, [0], uu) := by decide +kernel
theorem e_11_68 : den cf 11 68 L [.int x] M = some (some (.int x), M) := den_e0 l_11_68
/-! yX1_init -/
theorem l_12_0 : look (tab 12) 0 = some (.aload_n 0, 1, [], uu) := by decide +kernel
theorem e_12_0 : den cf 12 0 [.ref a, v1] st M = den cf 12 1 [.ref a, v1] (.ref a :: st) M := den_go l_12_0 rfl
theorem l_12_1 : look (tab 12) 1 = some (.invokespecial 1, 3, [0, 51, 11, 12], uu) := by decide +kernel
theorem e_12_1 : den cf 12 1 L (.ref a :: st) M = if st.length ≤ 4 then den cf 12 4 L st M else none := den_g l_12_1 rfl
theorem l_12_4 : look (tab 12) 4 = some (.aload_n 0, 1, [], uu) := by decide +kernel
theorem e_12_4 : den cf 12 4 [.ref a, v1] st M = den cf 12 5 [.ref a, v1] (.ref a :: st) M := den_go l_12_4 rfl
theorem l_12_5 : look (tab 12) 5 = some (.iload_n 1, 1, [], uu) := by decide +kernel
theorem e_12_5 : den cf 12 5 [v0, .int x] st M = den cf 12 6 [v0, .int x] (.int x :: st) M := den_go l_12_5 rfl
theorem l_12_6 : look (tab 12) 6 = some (.putfield 7, 3, [1, 0, 0, 52, 1], uu) := by decide +kernel
theorem e_12_6 : den cf 12 6 L (.int x :: .ref a :: st) M = oK (pfA (M.2.2 a) 1 0 (.int x)) (fun c => den cf 12 9 L st (mU M a c)) := den_pf0 l_12_6
theorem l_12_9 : look (tab 12) 9 = some (.return_, 1, [], uu) := by decide +kernel
theorem e_12_9 : den cf 12 9 L [] M = some (none, M) := den_e4 l_12_9
/-! yX1_enter -/
theorem l_13_0 : look (tab 13) 0 = some (.aload_n 0, 1, [], uu) := by decide +kernel
theorem e_13_0 : den cf 13 0 [.ref a, v1, v2, v3] st M = den cf 13 1 [.ref a, v1, v2, v3] (.ref a :: st) M := den_go l_13_0 rfl
theorem l_13_1 : look (tab 13) 1 = some (.iconst 1, 1, [], .int (zI 1)) := by decide +kernel
theorem e_13_1 : den cf 13 1 L st M = den cf 13 2 L (.int (zI 1) :: st) M := den_go l_13_1 rfl
theorem l_13_2 : look (tab 13) 2 = some (.putfield 13, 3, [1, 1, 1, 312, 0], uu) := by decide +kernel
theorem e_13_2 : den cf 13 2 L (v :: .ref a :: st) M = if okv 1 v = true then oK (pfA (M.2.2 a) 1 1 v) (fun c => den cf 13 5 L st (mU M a c)) else none := den_pf l_13_2
theorem l_13_5 : look (tab 13) 5 = some (.aload_n 0, 1, [], uu) := by decide +kernel
theorem e_13_5 : den cf 13 5 [.ref a, v1, v2, v3] st M = den cf 13 6 [.ref a, v1, v2, v3] (.ref a :: st) M := den_go l_13_5 rfl
theorem l_13_6 : look (tab 13) 6 = some (.iload_n 1, 1, [], uu) := by decide +kernel
theorem e_13_6 : den cf 13 6 [v0, .int x, v2, v3] st M = den cf 13 7 [v0, .int x, v2, v3] (.int x :: st) M := den_go l_13_6 rfl
theorem l_13_7 : look (tab 13) 7 = some (.putfield 17, 3, [1, 2, 0, 313, 0], uu) := by decide +kernel
theorem e_13_7 : den cf 13 7 L (.int x :: .ref a :: st) M = oK (pfA (M.2.2 a) 1 2 (.int x)) (fun c => den cf 13 10 L st (mU M a c)) := den_pf0 l_13_7
theorem l_13_10 : look (tab 13) 10 = some (.aload_n 0, 1, [], uu) := by decide +kernel
theorem e_13_10 : den cf 13 10 [.ref a, v1, v2, v3] st M = den cf 13 11 [.ref a, v1, v2, v3] (.ref a :: st) M := den_go l_13_10 rfl
theorem l_13_11 : look (tab 13) 11 = some (.iload_n 2, 1, [], uu) := by decide +kernel
theorem e_13_11 : den cf 13 11 [v0, v1, .int x, v3] st M = den cf 13 12 [v0, v1, .int x, v3] (.int x :: st) M := den_go l_13_11 rfl
theorem l_13_12 : look (tab 13) 12 = some (.putfield 20, 3, [1, 3, 0, 314, 0], uu) := by decide +kernel
theorem e_13_12 : den cf 13 12 L (.int x :: .ref a :: st) M = oK (pfA (M.2.2 a) 1 3 (.int x)) (fun c => den cf 13 15 L st (mU M a c)) := den_pf0 l_13_12
theorem l_13_15 : look (tab 13) 15 = some (.aload_n 0, 1, [], uu) := by decide +kernel
theorem e_13_15 : den cf 13 15 [.ref a, v1, v2, v3] st M = den cf 13 16 [.ref a, v1, v2, v3] (.ref a :: st) M := den_go l_13_15 rfl
theorem l_13_16 : look (tab 13) 16 = some (.iload_n 3, 1, [], uu) := by decide +kernel
theorem e_13_16 : den cf 13 16 [v0, v1, v2, .int x] st M = den cf 13 17 [v0, v1, v2, .int x] (.int x :: st) M := den_go l_13_16 rfl
theorem l_13_17 : look (tab 13) 17 = some (.putfield 23, 3, [1, 4, 0, 315, 0], uu) := by decide +kernel
theorem e_13_17 : den cf 13 17 L (.int x :: .ref a :: st) M = oK (pfA (M.2.2 a) 1 4 (.int x)) (fun c => den cf 13 20 L st (mU M a c)) := den_pf0 l_13_17
theorem l_13_20 : look (tab 13) 20 = some (.aload_n 0, 1, [], uu) := by decide +kernel
theorem e_13_20 : den cf 13 20 [.ref a, v1, v2, v3] st M = den cf 13 21 [.ref a, v1, v2, v3] (.ref a :: st) M := den_go l_13_20 rfl
theorem l_13_21 : look (tab 13) 21 = some (.iconst 0, 1, [], .int (zI 0)) := by decide +kernel
theorem e_13_21 : den cf 13 21 L st M = den cf 13 22 L (.int (zI 0) :: st) M := den_go l_13_21 rfl
theorem l_13_22 : look (tab 13) 22 = some (.putfield 26, 3, [1, 5, 0, 264, 0], uu) := by decide +kernel
theorem e_13_22 : den cf 13 22 L (.int x :: .ref a :: st) M = oK (pfA (M.2.2 a) 1 5 (.int x)) (fun c => den cf 13 25 L st (mU M a c)) := den_pf0 l_13_22
theorem l_13_25 : look (tab 13) 25 = some (.aload_n 0, 1, [], uu) := by decide +kernel
theorem e_13_25 : den cf 13 25 [.ref a, v1, v2, v3] st M = den cf 13 26 [.ref a, v1, v2, v3] (.ref a :: st) M := den_go l_13_25 rfl
theorem l_13_26 : look (tab 13) 26 = some (.aconst_null, 1, [], uu) := by decide +kernel
theorem e_13_26 : den cf 13 26 L st M = den cf 13 27 L (.null :: st) M := den_go l_13_26 rfl
theorem l_13_27 : look (tab 13) 27 = some (.putfield 29, 3, [1, 6, 2, 316, 0], uu) := by decide +kernel
theorem e_13_27 : den cf 13 27 L (v :: .ref a :: st) M = if okv 2 v = true then oK (pfA (M.2.2 a) 1 6 v) (fun c => den cf 13 30 L st (mU M a c)) else none := den_pf l_13_27
theorem l_13_30 : look (tab 13) 30 = some (.aload_n 0, 1, [], uu) := by decide +kernel
theorem e_13_30 : den cf 13 30 [.ref a, v1, v2, v3] st M = den cf 13 31 [.ref a, v1, v2, v3] (.ref a :: st) M := den_go l_13_30 rfl
theorem l_13_31 : look (tab 13) 31 = some (.invokevirtual 33, 3, [1, 14, 1, 317, 318, 319, 41], uu) := by decide +kernel
theorem e_13_31 : den cf 13 31 L (.ref a :: st) M = if rcv M 1 [.ref a] = true ∧ st.length ≤ 4 then rK (cf 14 [.ref a] M) (fun v M' => den cf 13 34 L (pR v st) M') else none := den_iv [] l_13_31 rfl
theorem l_13_34 : look (tab 13) 34 = some (.return_, 1, [], uu) := by decide +kernel
theorem e_13_34 : den cf 13 34 L [] M = some (none, M) := den_e4 l_13_34
/-! yX1_forget -/
theorem l_14_0 : look (tab 14) 0 = some (.aload_n 0, 1, [], uu) := by decide +kernel
theorem e_14_0 : den cf 14 0 [.ref a] st M = den cf 14 1 [.ref a] (.ref a :: st) M := den_go l_14_0 rfl
theorem l_14_1 : look (tab 14) 1 = some (.iconst 0, 1, [], .int (zI 0)) := by decide +kernel
theorem e_14_1 : den cf 14 1 L st M = den cf 14 2 L (.int (zI 0) :: st) M := den_go l_14_1 rfl
theorem l_14_2 : look (tab 14) 2 = some (.putfield 36, 3, [1, 7, 1, 321, 0], uu) := by decide +kernel
theorem e_14_2 : den cf 14 2 L (v :: .ref a :: st) M = if okv 1 v = true then oK (pfA (M.2.2 a) 1 7 v) (fun c => den cf 14 5 L st (mU M a c)) else none := den_pf l_14_2
theorem l_14_5 : look (tab 14) 5 = some (.aload_n 0, 1, [], uu) := by decide +kernel
theorem e_14_5 : den cf 14 5 [.ref a] st M = den cf 14 6 [.ref a] (.ref a :: st) M := den_go l_14_5 rfl
theorem l_14_6 : look (tab 14) 6 = some (.iconst 0, 1, [], .int (zI 0)) := by decide +kernel
theorem e_14_6 : den cf 14 6 L st M = den cf 14 7 L (.int (zI 0) :: st) M := den_go l_14_6 rfl
theorem l_14_7 : look (tab 14) 7 = some (.putfield 39, 3, [1, 8, 0, 322, 0], uu) := by decide +kernel
theorem e_14_7 : den cf 14 7 L (.int x :: .ref a :: st) M = oK (pfA (M.2.2 a) 1 8 (.int x)) (fun c => den cf 14 10 L st (mU M a c)) := den_pf0 l_14_7
theorem l_14_10 : look (tab 14) 10 = some (.aload_n 0, 1, [], uu) := by decide +kernel
theorem e_14_10 : den cf 14 10 [.ref a] st M = den cf 14 11 [.ref a] (.ref a :: st) M := den_go l_14_10 rfl
theorem l_14_11 : look (tab 14) 11 = some (.iconst 0, 1, [], .int (zI 0)) := by decide +kernel
theorem e_14_11 : den cf 14 11 L st M = den cf 14 12 L (.int (zI 0) :: st) M := den_go l_14_11 rfl
theorem l_14_12 : look (tab 14) 12 = some (.putfield 42, 3, [1, 9, 0, 323, 0], uu) := by decide +kernel
theorem e_14_12 : den cf 14 12 L (.int x :: .ref a :: st) M = oK (pfA (M.2.2 a) 1 9 (.int x)) (fun c => den cf 14 15 L st (mU M a c)) := den_pf0 l_14_12
theorem l_14_15 : look (tab 14) 15 = some (.return_, 1, [], uu) := by decide +kernel
theorem e_14_15 : den cf 14 15 L [] M = some (none, M) := den_e4 l_14_15
/-! yX1_isFree -/
theorem l_15_0 : look (tab 15) 0 = some (.aload_n 0, 1, [], uu) := by decide +kernel
theorem e_15_0 : den cf 15 0 [.ref a, v1] st M = den cf 15 1 [.ref a, v1] (.ref a :: st) M := den_go l_15_0 rfl
theorem l_15_1 : look (tab 15) 1 = some (.getfield 13, 3, [1, 1, 312], uu) := by decide +kernel
theorem e_15_1 : den cf 15 1 L (.ref a :: st) M = oK (gfA (M.2.2 a) 1 1) (fun v => den cf 15 4 L (v :: st) M) := den_gf l_15_1
theorem l_15_4 : look (tab 15) 4 = some (.ifCond .eq 22, 3, [26], uu) := by decide +kernel
theorem e_15_4 : den cf 15 4 L (.int x :: st) M = if x = zI 0 then den cf 15 26 L st M else den cf 15 7 L st M := den_if_eq l_15_4
theorem l_15_7 : look (tab 15) 7 = some (.aload_n 0, 1, [], uu) := by decide +kernel
theorem e_15_7 : den cf 15 7 [.ref a, v1] st M = den cf 15 8 [.ref a, v1] (.ref a :: st) M := den_go l_15_7 rfl
theorem l_15_8 : look (tab 15) 8 = some (.getfield 23, 3, [1, 4, 315], uu) := by decide +kernel
theorem e_15_8 : den cf 15 8 L (.ref a :: st) M = oK (gfA (M.2.2 a) 1 4) (fun v => den cf 15 11 L (v :: st) M) := den_gf l_15_8
theorem l_15_11 : look (tab 15) 11 = some (.iload_n 1, 1, [], uu) := by decide +kernel
theorem e_15_11 : den cf 15 11 [v0, .int x] st M = den cf 15 12 [v0, .int x] (.int x :: st) M := den_go l_15_11 rfl
theorem l_15_12 : look (tab 15) 12 = some (.if_icmp .ne 14, 3, [26], uu) := by decide +kernel
theorem e_15_12 : den cf 15 12 L (.int y :: .int x :: st) M = if x = y then den cf 15 15 L st M else den cf 15 26 L st M := den_ic_ne l_15_12
theorem l_15_15 : look (tab 15) 15 = some (.aload_n 0, 1, [], uu) := by decide +kernel
theorem e_15_15 : den cf 15 15 [.ref a, v1] st M = den cf 15 16 [.ref a, v1] (.ref a :: st) M := den_go l_15_15 rfl
theorem l_15_16 : look (tab 15) 16 = some (.getfield 29, 3, [1, 6, 316], uu) := by decide +kernel
theorem e_15_16 : den cf 15 16 L (.ref a :: st) M = oK (gfA (M.2.2 a) 1 6) (fun v => den cf 15 19 L (v :: st) M) := den_gf l_15_16
theorem l_15_19 : look (tab 15) 19 = some (.ifnonnull 7, 3, [26], uu) := by decide +kernel
theorem e_15_19 : den cf 15 19 L (va_rf o :: st) M = oN o (den cf 15 22 L st M) (den cf 15 26 L st M) := den_nn l_15_19
theorem e_15_19_n : den cf 15 19 L (.null :: st) M = den cf 15 22 L st M := den_go l_15_19 rfl
theorem e_15_19_r : den cf 15 19 L (.ref a :: st) M = den cf 15 26 L st M := den_go l_15_19 rfl
theorem l_15_22 : look (tab 15) 22 = some (.iconst 1, 1, [], .int (zI 1)) := by decide +kernel
theorem e_15_22 : den cf 15 22 L st M = den cf 15 23 L (.int (zI 1) :: st) M := den_go l_15_22 rfl
theorem l_15_23 : look (tab 15) 23 = some (.goto 4, 3, [27], uu) := by decide +kernel
theorem e_15_23 : den cf 15 23 L st M = den cf 15 27 L st M := den_go l_15_23 rfl
theorem l_15_26 : look (tab 15) 26 = some (.iconst 0, 1, [], .int (zI 0)) := by decide +kernel
theorem e_15_26 : den cf 15 26 L st M = den cf 15 27 L (.int (zI 0) :: st) M := den_go l_15_26 rfl
theorem l_15_27 : look (tab 15) 27 = some (.ireturn, 1, [1], uu) := by decide +kernel
theorem e_15_27 : den cf 15 27 L [.int x] M = if x = zI 0 ∨ x = zI 1 then some (some (.int x), M) else none := den_e1 l_15_27
/-! yX1_leadsPair -/
theorem l_16_0 : look (tab 16) 0 = some (.aload_n 0, 1, [], uu) := by decide +kernel
theorem e_16_0 : den cf 16 0 [.ref a] st M = den cf 16 1 [.ref a] (.ref a :: st) M := den_go l_16_0 rfl
theorem l_16_1 : look (tab 16) 1 = some (.getfield 13, 3, [1, 1, 312], uu) := by decide +kernel
theorem e_16_1 : den cf 16 1 L (.ref a :: st) M = oK (gfA (M.2.2 a) 1 1) (fun v => den cf 16 4 L (v :: st) M) := den_gf l_16_1
theorem l_16_4 : look (tab 16) 4 = some (.ifCond .eq 21, 3, [25], uu) := by decide +kernel
theorem e_16_4 : den cf 16 4 L (.int x :: st) M = if x = zI 0 then den cf 16 25 L st M else den cf 16 7 L st M := den_if_eq l_16_4
theorem l_16_7 : look (tab 16) 7 = some (.aload_n 0, 1, [], uu) := by decide +kernel
theorem e_16_7 : den cf 16 7 [.ref a] st M = den cf 16 8 [.ref a] (.ref a :: st) M := den_go l_16_7 rfl
theorem l_16_8 : look (tab 16) 8 = some (.getfield 23, 3, [1, 4, 315], uu) := by decide +kernel
theorem e_16_8 : den cf 16 8 L (.ref a :: st) M = oK (gfA (M.2.2 a) 1 4) (fun v => den cf 16 11 L (v :: st) M) := den_gf l_16_8
theorem l_16_11 : look (tab 16) 11 = some (.ifCond .ne 14, 3, [25], uu) := by decide +kernel
theorem e_16_11 : den cf 16 11 L (.int x :: st) M = if x = zI 0 then den cf 16 14 L st M else den cf 16 25 L st M := den_if_ne l_16_11
theorem l_16_14 : look (tab 16) 14 = some (.aload_n 0, 1, [], uu) := by decide +kernel
theorem e_16_14 : den cf 16 14 [.ref a] st M = den cf 16 15 [.ref a] (.ref a :: st) M := den_go l_16_14 rfl
theorem l_16_15 : look (tab 16) 15 = some (.getfield 29, 3, [1, 6, 316], uu) := by decide +kernel
theorem e_16_15 : den cf 16 15 L (.ref a :: st) M = oK (gfA (M.2.2 a) 1 6) (fun v => den cf 16 18 L (v :: st) M) := den_gf l_16_15
theorem l_16_18 : look (tab 16) 18 = some (.ifnull 7, 3, [25], uu) := by decide +kernel
theorem e_16_18 : den cf 16 18 L (va_rf o :: st) M = oN o (den cf 16 25 L st M) (den cf 16 21 L st M) := den_nu l_16_18
theorem e_16_18_n : den cf 16 18 L (.null :: st) M = den cf 16 25 L st M := den_go l_16_18 rfl
theorem e_16_18_r : den cf 16 18 L (.ref a :: st) M = den cf 16 21 L st M := den_go l_16_18 rfl
theorem l_16_21 : look (tab 16) 21 = some (.iconst 1, 1, [], .int (zI 1)) := by decide +kernel
theorem e_16_21 : den cf 16 21 L st M = den cf 16 22 L (.int (zI 1) :: st) M := den_go l_16_21 rfl
theorem l_16_22 : look (tab 16) 22 = some (.goto 4, 3, [26], uu) := by decide +kernel
theorem e_16_22 : den cf 16 22 L st M = den cf 16 26 L st M := den_go l_16_22 rfl
theorem l_16_25 : look (tab 16) 25 = some (.iconst 0, 1, [], .int (zI 0)) := by decide +kernel
theorem e_16_25 : den cf 16 25 L st M = den cf 16 26 L (.int (zI 0) :: st) M := den_go l_16_25 rfl
theorem l_16_26 : look (tab 16) 26 = some (.ireturn, 1, [1], uu) := by decide +kernel
theorem e_16_26 : den cf 16 26 L [.int x] M = if x = zI 0 ∨ x = zI 1 then some (some (.int x), M) else none := den_e1 l_16_26
/-! yX1_join -/
theorem l_17_0 : look (tab 17) 0 = some (.aload_n 0, 1, [], uu) := by decide +kernel
theorem e_17_0 : den cf 17 0 [.ref a, v1] st M = den cf 17 1 [.ref a, v1] (.ref a :: st) M := den_go l_17_0 rfl
theorem l_17_1 : look (tab 17) 1 = some (.invokevirtual 33, 3, [1, 14, 1, 317, 318, 319, 41], uu) := by decide +kernel
theorem e_17_1 : den cf 17 1 L (.ref a :: st) M = if rcv M 1 [.ref a] = true ∧ st.length ≤ 4 then rK (cf 14 [.ref a] M) (fun v M' => den cf 17 4 L (pR v st) M') else none := den_iv [] l_17_1 rfl
theorem l_17_4 : look (tab 17) 4 = some (.aload_n 1, 1, [], uu) := by decide +kernel
theorem e_17_4 : den cf 17 4 [v0, v1] st M = if isRf v1 = true then den cf 17 5 [v0, v1] (v1 :: st) M else none := den_g l_17_4 rfl
theorem l_17_5 : look (tab 17) 5 = some (.invokevirtual 33, 3, [1, 14, 1, 317, 318, 319, 41], uu) := by decide +kernel
theorem e_17_5 : den cf 17 5 L (.ref a :: st) M = if rcv M 1 [.ref a] = true ∧ st.length ≤ 4 then rK (cf 14 [.ref a] M) (fun v M' => den cf 17 8 L (pR v st) M') else none := den_iv [] l_17_5 rfl
theorem l_17_8 : look (tab 17) 8 = some (.aload_n 0, 1, [], uu) := by decide +kernel
theorem e_17_8 : den cf 17 8 [.ref a, v1] st M = den cf 17 9 [.ref a, v1] (.ref a :: st) M := den_go l_17_8 rfl
theorem l_17_9 : look (tab 17) 9 = some (.aload_n 1, 1, [], uu) := by decide +kernel
theorem e_17_9 : den cf 17 9 [v0, v1] st M = if isRf v1 = true then den cf 17 10 [v0, v1] (v1 :: st) M else none := den_g l_17_9 rfl
theorem l_17_10 : look (tab 17) 10 = some (.putfield 29, 3, [1, 6, 2, 316, 0], uu) := by decide +kernel
theorem e_17_10 : den cf 17 10 L (v :: .ref a :: st) M = if okv 2 v = true then oK (pfA (M.2.2 a) 1 6 v) (fun c => den cf 17 13 L st (mU M a c)) else none := den_pf l_17_10
theorem l_17_13 : look (tab 17) 13 = some (.aload_n 1, 1, [], uu) := by decide +kernel
theorem e_17_13 : den cf 17 13 [v0, v1] st M = if isRf v1 = true then den cf 17 14 [v0, v1] (v1 :: st) M else none := den_g l_17_13 rfl
theorem l_17_14 : look (tab 17) 14 = some (.aload_n 0, 1, [], uu) := by decide +kernel
theorem e_17_14 : den cf 17 14 [.ref a, v1] st M = den cf 17 15 [.ref a, v1] (.ref a :: st) M := den_go l_17_14 rfl
theorem l_17_15 : look (tab 17) 15 = some (.putfield 29, 3, [1, 6, 2, 316, 0], uu) := by decide +kernel
theorem e_17_15 : den cf 17 15 L (v :: .ref a :: st) M = if okv 2 v = true then oK (pfA (M.2.2 a) 1 6 v) (fun c => den cf 17 18 L st (mU M a c)) else none := den_pf l_17_15
theorem l_17_18 : look (tab 17) 18 = some (.aload_n 0, 1, [], uu) := by decide +kernel
theorem e_17_18 : den cf 17 18 [.ref a, v1] st M = den cf 17 19 [.ref a, v1] (.ref a :: st) M := den_go l_17_18 rfl
theorem l_17_19 : look (tab 17) 19 = some (.iconst 1, 1, [], .int (zI 1)) := by decide +kernel
theorem e_17_19 : den cf 17 19 L st M = den cf 17 20 L (.int (zI 1) :: st) M := den_go l_17_19 rfl
theorem l_17_20 : look (tab 17) 20 = some (.putfield 36, 3, [1, 7, 1, 321, 0], uu) := by decide +kernel
theorem e_17_20 : den cf 17 20 L (v :: .ref a :: st) M = if okv 1 v = true then oK (pfA (M.2.2 a) 1 7 v) (fun c => den cf 17 23 L st (mU M a c)) else none := den_pf l_17_20
theorem l_17_23 : look (tab 17) 23 = some (.return_, 1, [], uu) := by decide +kernel
theorem e_17_23 : den cf 17 23 L [] M = some (none, M) := den_e4 l_17_23
/-! yX1_leave -/
theorem l_18_0 : look (tab 18) 0 = some (.aload_n 0, 1, [], uu) := by decide +kernel
theorem e_18_0 : den cf 18 0 [.ref a] st M = den cf 18 1 [.ref a] (.ref a :: st) M := den_go l_18_0 rfl
theorem l_18_1 : look (tab 18) 1 = some (.getfield 29, 3, [1, 6, 316], uu) := by decide +kernel
theorem e_18_1 : den cf 18 1 L (.ref a :: st) M = oK (gfA (M.2.2 a) 1 6) (fun v => den cf 18 4 L (v :: st) M) := den_gf l_18_1
theorem l_18_4 : look (tab 18) 4 = some (.ifnull 18, 3, [22], uu) := by decide +kernel
theorem e_18_4 : den cf 18 4 L (va_rf o :: st) M = oN o (den cf 18 22 L st M) (den cf 18 7 L st M) := den_nu l_18_4
theorem e_18_4_n : den cf 18 4 L (.null :: st) M = den cf 18 22 L st M := den_go l_18_4 rfl
theorem e_18_4_r : den cf 18 4 L (.ref a :: st) M = den cf 18 7 L st M := den_go l_18_4 rfl
theorem l_18_7 : look (tab 18) 7 = some (.aload_n 0, 1, [], uu) := by decide +kernel
theorem e_18_7 : den cf 18 7 [.ref a] st M = den cf 18 8 [.ref a] (.ref a :: st) M := den_go l_18_7 rfl
theorem l_18_8 : look (tab 18) 8 = some (.getfield 29, 3, [1, 6, 316], uu) := by decide +kernel
theorem e_18_8 : den cf 18 8 L (.ref a :: st) M = oK (gfA (M.2.2 a) 1 6) (fun v => den cf 18 11 L (v :: st) M) := den_gf l_18_8
theorem l_18_11 : look (tab 18) 11 = some (.invokevirtual 33, 3, [1, 14, 1, 317, 318, 319, 41], uu) := by decide +kernel
theorem e_18_11 : den cf 18 11 L (.ref a :: st) M = if rcv M 1 [.ref a] = true ∧ st.length ≤ 4 then rK (cf 14 [.ref a] M) (fun v M' => den cf 18 14 L (pR v st) M') else none := den_iv [] l_18_11 rfl
theorem l_18_14 : look (tab 18) 14 = some (.aload_n 0, 1, [], uu) := by decide +kernel
theorem e_18_14 : den cf 18 14 [.ref a] st M = den cf 18 15 [.ref a] (.ref a :: st) M := den_go l_18_14 rfl
theorem l_18_15 : look (tab 18) 15 = some (.getfield 29, 3, [1, 6, 316], uu) := by decide +kernel
theorem e_18_15 : den cf 18 15 L (.ref a :: st) M = oK (gfA (M.2.2 a) 1 6) (fun v => den cf 18 18 L (v :: st) M) := den_gf l_18_15
theorem l_18_18 : look (tab 18) 18 = some (.aconst_null, 1, [], uu) := by decide +kernel
theorem e_18_18 : den cf 18 18 L st M = den cf 18 19 L (.null :: st) M := den_go l_18_18 rfl
theorem l_18_19 : look (tab 18) 19 = some (.putfield 29, 3, [1, 6, 2, 316, 0], uu) := by decide +kernel
theorem e_18_19 : den cf 18 19 L (v :: .ref a :: st) M = if okv 2 v = true then oK (pfA (M.2.2 a) 1 6 v) (fun c => den cf 18 22 L st (mU M a c)) else none := den_pf l_18_19
theorem l_18_22 : look (tab 18) 22 = some (.aload_n 0, 1, [], uu) := by decide +kernel
theorem e_18_22 : den cf 18 22 [.ref a] st M = den cf 18 23 [.ref a] (.ref a :: st) M := den_go l_18_22 rfl
theorem l_18_23 : look (tab 18) 23 = some (.aconst_null, 1, [], uu) := by decide +kernel
theorem e_18_23 : den cf 18 23 L st M = den cf 18 24 L (.null :: st) M := den_go l_18_23 rfl
theorem l_18_24 : look (tab 18) 24 = some (.putfield 29, 3, [1, 6, 2, 316, 0], uu) := by decide +kernel
theorem e_18_24 : den cf 18 24 L (v :: .ref a :: st) M = if okv 2 v = true then oK (pfA (M.2.2 a) 1 6 v) (fun c => den cf 18 27 L st (mU M a c)) else none := den_pf l_18_24
theorem l_18_27 : look (tab 18) 27 = some (.aload_n 0, 1, [], uu) := by decide +kernel
theorem e_18_27 : den cf 18 27 [.ref a] st M = den cf 18 28 [.ref a] (.ref a :: st) M := den_go l_18_27 rfl
theorem l_18_28 : look (tab 18) 28 = some (.invokevirtual 33, 3, [1, 14, 1, 317, 318, 319, 41], uu) := by decide +kernel
theorem e_18_28 : den cf 18 28 L (.ref a :: st) M = if rcv M 1 [.ref a] = true ∧ st.length ≤ 4 then rK (cf 14 [.ref a] M) (fun v M' => den cf 18 31 L (pR v st) M') else none := den_iv [] l_18_28 rfl
theorem l_18_31 : look (tab 18) 31 = some (.return_, 1, [], uu) := by decide +kernel
theorem e_18_31 : den cf 18 31 L [] M = some (none, M) := den_e4 l_18_31
/-! yX1_debtor -/
theorem l_19_0 : look (tab 19) 0 = some (.aload_n 0, 1, [], uu) := by decide +kernel
theorem e_19_0 : den cf 19 0 [.ref a] st M = den cf 19 1 [.ref a] (.ref a :: st) M := den_go l_19_0 rfl
theorem l_19_1 : look (tab 19) 1 = some (.getfield 36, 3, [1, 7, 321], uu) := by decide +kernel
theorem e_19_1 : den cf 19 1 L (.ref a :: st) M = oK (gfA (M.2.2 a) 1 7) (fun v => den cf 19 4 L (v :: st) M) := den_gf l_19_1
theorem l_19_4 : look (tab 19) 4 = some (.ifCond .eq 7, 3, [11], uu) := by decide +kernel
theorem e_19_4 : den cf 19 4 L (.int x :: st) M = if x = zI 0 then den cf 19 11 L st M else den cf 19 7 L st M := den_if_eq l_19_4
theorem l_19_7 : look (tab 19) 7 = some (.aload_n 0, 1, [], uu) := by decide +kernel
theorem e_19_7 : den cf 19 7 [.ref a] st M = den cf 19 8 [.ref a] (.ref a :: st) M := den_go l_19_7 rfl
theorem l_19_8 : look (tab 19) 8 = some (.goto 7, 3, [15], uu) := by decide +kernel
theorem e_19_8 : den cf 19 8 L st M = den cf 19 15 L st M := den_go l_19_8 rfl
theorem l_19_11 : look (tab 19) 11 = some (.aload_n 0, 1, [], uu) := by decide +kernel
theorem e_19_11 : den cf 19 11 [.ref a] st M = den cf 19 12 [.ref a] (.ref a :: st) M := den_go l_19_11 rfl
theorem l_19_12 : look (tab 19) 12 = some (.getfield 29, 3, [1, 6, 316], uu) := by decide +kernel
theorem e_19_12 : den cf 19 12 L (.ref a :: st) M = oK (gfA (M.2.2 a) 1 6) (fun v => den cf 19 15 L (v :: st) M) := den_gf l_19_12
theorem l_19_15 : look (tab 19) 15 = some (.areturn, 1, [], uu) := by decide +kernel
theorem e_19_15 : den cf 19 15 L [v] M = if isRf v = true then some (some v, M) else none := den_e3 l_19_15
/-! yX1_commonWith -/
theorem l_20_0 : look (tab 20) 0 = some (.aload_n 0, 1, [], uu) := by decide +kernel
theorem e_20_0 : den cf 20 0 [.ref a, v1] st M = den cf 20 1 [.ref a, v1] (.ref a :: st) M := den_go l_20_0 rfl
theorem l_20_1 : look (tab 20) 1 = some (.getfield 26, 3, [1, 5, 264], uu) := by decide +kernel
theorem e_20_1 : den cf 20 1 L (.ref a :: st) M = oK (gfA (M.2.2 a) 1 5) (fun v => den cf 20 4 L (v :: st) M) := den_gf l_20_1
theorem l_20_4 : look (tab 20) 4 = some (.aload_n 1, 1, [], uu) := by decide +kernel
theorem e_20_4 : den cf 20 4 [v0, v1] st M = if isRf v1 = true then den cf 20 5 [v0, v1] (v1 :: st) M else none := den_g l_20_4 rfl
theorem l_20_5 : look (tab 20) 5 = some (.getfield 26, 3, [1, 5, 264], uu) := by decide +kernel
theorem e_20_5 : den cf 20 5 L (.ref a :: st) M = oK (gfA (M.2.2 a) 1 5) (fun v => den cf 20 8 L (v :: st) M) := den_gf l_20_5
theorem l_20_8 : look (tab 20) 8 = some (.iand, 1, [], uu) := by decide +kernel
theorem e_20_8 : den cf 20 8 L (.int y :: .int x :: st) M = den cf 20 9 L (.int (x &&& y) :: st) M := den_go l_20_8 rfl
theorem l_20_9 : look (tab 20) 9 = some (.invokestatic 45, 3, [1, 242, 1, 265, 266, 267], uu) := by decide +kernel
theorem e_20_9 : den cf 20 9 L (w1 :: st) M = if st.length ≤ 4 then rK (cf 242 [w1] M) (fun v M' => den cf 20 12 L (pR v st) M') else none := den_ist [w1] l_20_9 rfl
theorem l_20_12 : look (tab 20) 12 = some (.ireturn, 1, [0], uu) := by decide +kernel
theorem e_20_12 : den cf 20 12 L [.int x] M = some (some (.int x), M) := den_e0 l_20_12
/-! yX1_measure -/
theorem l_21_0 : look (tab 21) 0 = some (.iload_n 1, 1, [], uu) := by decide +kernel
theorem e_21_0 : den cf 21 0 [v0, .int x] st M = den cf 21 1 [v0, .int x] (.int x :: st) M := den_go l_21_0 rfl
theorem l_21_1 : look (tab 21) 1 = some (.ifCond .ne 8, 3, [9], uu) := by decide +kernel
theorem e_21_1 : den cf 21 1 L (.int x :: st) M = if x = zI 0 then den cf 21 4 L st M else den cf 21 9 L st M := den_if_ne l_21_1
theorem l_21_4 : look (tab 21) 4 = some (.aload_n 0, 1, [], uu) := by decide +kernel
theorem e_21_4 : den cf 21 4 [.ref a, v1] st M = den cf 21 5 [.ref a, v1] (.ref a :: st) M := den_go l_21_4 rfl
theorem l_21_5 : look (tab 21) 5 = some (.getfield 42, 3, [1, 9, 323], uu) := by decide +kernel
theorem e_21_5 : den cf 21 5 L (.ref a :: st) M = oK (gfA (M.2.2 a) 1 9) (fun v => den cf 21 8 L (v :: st) M) := den_gf l_21_5
theorem l_21_8 : look (tab 21) 8 = some (.ireturn, 1, [0], uu) := by decide +kernel
theorem e_21_8 : den cf 21 8 L [.int x] M = some (some (.int x), M) := den_e0 l_21_8
theorem l_21_9 : look (tab 21) 9 = some (.iload_n 1, 1, [], uu) := by decide +kernel
theorem e_21_9 : den cf 21 9 [v0, .int x] st M = den cf 21 10 [v0, .int x] (.int x :: st) M := den_go l_21_9 rfl
theorem l_21_10 : look (tab 21) 10 = some (.iconst 1, 1, [], .int (zI 1)) := by decide +kernel
theorem e_21_10 : den cf 21 10 L st M = den cf 21 11 L (.int (zI 1) :: st) M := den_go l_21_10 rfl
theorem l_21_11 : look (tab 21) 11 = some (.if_icmp .ne 10, 3, [21], uu) := by decide +kernel
theorem e_21_11 : den cf 21 11 L (.int y :: .int x :: st) M = if x = y then den cf 21 14 L st M else den cf 21 21 L st M := den_ic_ne l_21_11
theorem l_21_14 : look (tab 21) 14 = some (.aload_n 0, 1, [], uu) := by decide +kernel
theorem e_21_14 : den cf 21 14 [.ref a, v1] st M = den cf 21 15 [.ref a, v1] (.ref a :: st) M := den_go l_21_14 rfl
theorem l_21_15 : look (tab 21) 15 = some (.getfield 39, 3, [1, 8, 322], uu) := by decide +kernel
theorem e_21_15 : den cf 21 15 L (.ref a :: st) M = oK (gfA (M.2.2 a) 1 8) (fun v => den cf 21 18 L (v :: st) M) := den_gf l_21_15
theorem l_21_18 : look (tab 21) 18 = some (.goto 10, 3, [28], uu) := by decide +kernel
theorem e_21_18 : den cf 21 18 L st M = den cf 21 28 L st M := den_go l_21_18 rfl
theorem l_21_21 : look (tab 21) 21 = some (.aload_n 0, 1, [], uu) := by decide +kernel
theorem e_21_21 : den cf 21 21 [.ref a, v1] st M = den cf 21 22 [.ref a, v1] (.ref a :: st) M := den_go l_21_21 rfl
theorem l_21_22 : look (tab 21) 22 = some (.getfield 26, 3, [1, 5, 264], uu) := by decide +kernel
theorem e_21_22 : den cf 21 22 L (.ref a :: st) M = oK (gfA (M.2.2 a) 1 5) (fun v => den cf 21 25 L (v :: st) M) := den_gf l_21_22
theorem l_21_25 : look (tab 21) 25 = some (.invokestatic 45, 3, [1, 242, 1, 265, 266, 267], uu) := by decide +kernel
theorem e_21_25 : den cf 21 25 L (w1 :: st) M = if st.length ≤ 4 then rK (cf 242 [w1] M) (fun v M' => den cf 21 28 L (pR v st) M') else none := den_ist [w1] l_21_25 rfl
theorem l_21_28 : look (tab 21) 28 = some (.ireturn, 1, [0], uu) := by decide +kernel
theorem e_21_28 : den cf 21 28 L [.int x] M = some (some (.int x), M) := den_e0 l_21_28
/-! yX1_takeFrom -/
theorem l_22_0 : look (tab 22) 0 = some (.aload_n 0, 1, [], uu) := by decide +kernel
theorem e_22_0 : den cf 22 0 [.ref a, v1] st M = den cf 22 1 [.ref a, v1] (.ref a :: st) M := den_go l_22_0 rfl
theorem l_22_1 : look (tab 22) 1 = some (.aload_n 1, 1, [], uu) := by decide +kernel
theorem e_22_1 : den cf 22 1 [v0, v1] st M = if isRf v1 = true then den cf 22 2 [v0, v1] (v1 :: st) M else none := den_g l_22_1 rfl
theorem l_22_2 : look (tab 22) 2 = some (.getfield 13, 3, [1, 1, 312], uu) := by decide +kernel
theorem e_22_2 : den cf 22 2 L (.ref a :: st) M = oK (gfA (M.2.2 a) 1 1) (fun v => den cf 22 5 L (v :: st) M) := den_gf l_22_2
theorem l_22_5 : look (tab 22) 5 = some (.putfield 13, 3, [1, 1, 1, 312, 0], uu) := by decide +kernel
theorem e_22_5 : den cf 22 5 L (v :: .ref a :: st) M = if okv 1 v = true then oK (pfA (M.2.2 a) 1 1 v) (fun c => den cf 22 8 L st (mU M a c)) else none := den_pf l_22_5
theorem l_22_8 : look (tab 22) 8 = some (.aload_n 0, 1, [], uu) := by decide +kernel
theorem e_22_8 : den cf 22 8 [.ref a, v1] st M = den cf 22 9 [.ref a, v1] (.ref a :: st) M := den_go l_22_8 rfl
theorem l_22_9 : look (tab 22) 9 = some (.aload_n 1, 1, [], uu) := by decide +kernel
theorem e_22_9 : den cf 22 9 [v0, v1] st M = if isRf v1 = true then den cf 22 10 [v0, v1] (v1 :: st) M else none := den_g l_22_9 rfl
theorem l_22_10 : look (tab 22) 10 = some (.getfield 17, 3, [1, 2, 313], uu) := by decide +kernel
theorem e_22_10 : den cf 22 10 L (.ref a :: st) M = oK (gfA (M.2.2 a) 1 2) (fun v => den cf 22 13 L (v :: st) M) := den_gf l_22_10
theorem l_22_13 : look (tab 22) 13 = some (.putfield 17, 3, [1, 2, 0, 313, 0], uu) := by decide +kernel
theorem e_22_13 : den cf 22 13 L (.int x :: .ref a :: st) M = oK (pfA (M.2.2 a) 1 2 (.int x)) (fun c => den cf 22 16 L st (mU M a c)) := den_pf0 l_22_13
theorem l_22_16 : look (tab 22) 16 = some (.aload_n 0, 1, [], uu) := by decide +kernel
theorem e_22_16 : den cf 22 16 [.ref a, v1] st M = den cf 22 17 [.ref a, v1] (.ref a :: st) M := den_go l_22_16 rfl
theorem l_22_17 : look (tab 22) 17 = some (.aload_n 1, 1, [], uu) := by decide +kernel
theorem e_22_17 : den cf 22 17 [v0, v1] st M = if isRf v1 = true then den cf 22 18 [v0, v1] (v1 :: st) M else none := den_g l_22_17 rfl
theorem l_22_18 : look (tab 22) 18 = some (.getfield 20, 3, [1, 3, 314], uu) := by decide +kernel
theorem e_22_18 : den cf 22 18 L (.ref a :: st) M = oK (gfA (M.2.2 a) 1 3) (fun v => den cf 22 21 L (v :: st) M) := den_gf l_22_18
theorem l_22_21 : look (tab 22) 21 = some (.putfield 20, 3, [1, 3, 0, 314, 0], uu) := by decide +kernel
theorem e_22_21 : den cf 22 21 L (.int x :: .ref a :: st) M = oK (pfA (M.2.2 a) 1 3 (.int x)) (fun c => den cf 22 24 L st (mU M a c)) := den_pf0 l_22_21
theorem l_22_24 : look (tab 22) 24 = some (.aload_n 0, 1, [], uu) := by decide +kernel
theorem e_22_24 : den cf 22 24 [.ref a, v1] st M = den cf 22 25 [.ref a, v1] (.ref a :: st) M := den_go l_22_24 rfl
theorem l_22_25 : look (tab 22) 25 = some (.aload_n 1, 1, [], uu) := by decide +kernel
theorem e_22_25 : den cf 22 25 [v0, v1] st M = if isRf v1 = true then den cf 22 26 [v0, v1] (v1 :: st) M else none := den_g l_22_25 rfl
theorem l_22_26 : look (tab 22) 26 = some (.getfield 23, 3, [1, 4, 315], uu) := by decide +kernel
theorem e_22_26 : den cf 22 26 L (.ref a :: st) M = oK (gfA (M.2.2 a) 1 4) (fun v => den cf 22 29 L (v :: st) M) := den_gf l_22_26
theorem l_22_29 : look (tab 22) 29 = some (.putfield 23, 3, [1, 4, 0, 315, 0], uu) := by decide +kernel
theorem e_22_29 : den cf 22 29 L (.int x :: .ref a :: st) M = oK (pfA (M.2.2 a) 1 4 (.int x)) (fun c => den cf 22 32 L st (mU M a c)) := den_pf0 l_22_29
theorem l_22_32 : look (tab 22) 32 = some (.aload_n 0, 1, [], uu) := by decide +kernel
theorem e_22_32 : den cf 22 32 [.ref a, v1] st M = den cf 22 33 [.ref a, v1] (.ref a :: st) M := den_go l_22_32 rfl
theorem l_22_33 : look (tab 22) 33 = some (.aload_n 1, 1, [], uu) := by decide +kernel
theorem e_22_33 : den cf 22 33 [v0, v1] st M = if isRf v1 = true then den cf 22 34 [v0, v1] (v1 :: st) M else none := den_g l_22_33 rfl
theorem l_22_34 : look (tab 22) 34 = some (.getfield 26, 3, [1, 5, 264], uu) := by decide +kernel
theorem e_22_34 : den cf 22 34 L (.ref a :: st) M = oK (gfA (M.2.2 a) 1 5) (fun v => den cf 22 37 L (v :: st) M) := den_gf l_22_34
theorem l_22_37 : look (tab 22) 37 = some (.putfield 26, 3, [1, 5, 0, 264, 0], uu) := by decide +kernel
theorem e_22_37 : den cf 22 37 L (.int x :: .ref a :: st) M = oK (pfA (M.2.2 a) 1 5 (.int x)) (fun c => den cf 22 40 L st (mU M a c)) := den_pf0 l_22_37
theorem l_22_40 : look (tab 22) 40 = some (.aload_n 0, 1, [], uu) := by decide +kernel
theorem e_22_40 : den cf 22 40 [.ref a, v1] st M = den cf 22 41 [.ref a, v1] (.ref a :: st) M := den_go l_22_40 rfl
theorem l_22_41 : look (tab 22) 41 = some (.aload_n 1, 1, [], uu) := by decide +kernel
theorem e_22_41 : den cf 22 41 [v0, v1] st M = if isRf v1 = true then den cf 22 42 [v0, v1] (v1 :: st) M else none := den_g l_22_41 rfl
theorem l_22_42 : look (tab 22) 42 = some (.getfield 36, 3, [1, 7, 321], uu) := by decide +kernel
theorem e_22_42 : den cf 22 42 L (.ref a :: st) M = oK (gfA (M.2.2 a) 1 7) (fun v => den cf 22 45 L (v :: st) M) := den_gf l_22_42
theorem l_22_45 : look (tab 22) 45 = some (.putfield 36, 3, [1, 7, 1, 321, 0], uu) := by decide +kernel
theorem e_22_45 : den cf 22 45 L (v :: .ref a :: st) M = if okv 1 v = true then oK (pfA (M.2.2 a) 1 7 v) (fun c => den cf 22 48 L st (mU M a c)) else none := den_pf l_22_45
theorem l_22_48 : look (tab 22) 48 = some (.aload_n 0, 1, [], uu) := by decide +kernel
theorem e_22_48 : den cf 22 48 [.ref a, v1] st M = den cf 22 49 [.ref a, v1] (.ref a :: st) M := den_go l_22_48 rfl
theorem l_22_49 : look (tab 22) 49 = some (.aload_n 1, 1, [], uu) := by decide +kernel
theorem e_22_49 : den cf 22 49 [v0, v1] st M = if isRf v1 = true then den cf 22 50 [v0, v1] (v1 :: st) M else none := den_g l_22_49 rfl
theorem l_22_50 : look (tab 22) 50 = some (.getfield 39, 3, [1, 8, 322], uu) := by decide +kernel
theorem e_22_50 : den cf 22 50 L (.ref a :: st) M = oK (gfA (M.2.2 a) 1 8) (fun v => den cf 22 53 L (v :: st) M) := den_gf l_22_50
theorem l_22_53 : look (tab 22) 53 = some (.putfield 39, 3, [1, 8, 0, 322, 0], uu) := by decide +kernel
theorem e_22_53 : den cf 22 53 L (.int x :: .ref a :: st) M = oK (pfA (M.2.2 a) 1 8 (.int x)) (fun c => den cf 22 56 L st (mU M a c)) := den_pf0 l_22_53
theorem l_22_56 : look (tab 22) 56 = some (.aload_n 0, 1, [], uu) := by decide +kernel
theorem e_22_56 : den cf 22 56 [.ref a, v1] st M = den cf 22 57 [.ref a, v1] (.ref a :: st) M := den_go l_22_56 rfl
theorem l_22_57 : look (tab 22) 57 = some (.aload_n 1, 1, [], uu) := by decide +kernel
theorem e_22_57 : den cf 22 57 [v0, v1] st M = if isRf v1 = true then den cf 22 58 [v0, v1] (v1 :: st) M else none := den_g l_22_57 rfl
theorem l_22_58 : look (tab 22) 58 = some (.getfield 42, 3, [1, 9, 323], uu) := by decide +kernel
theorem e_22_58 : den cf 22 58 L (.ref a :: st) M = oK (gfA (M.2.2 a) 1 9) (fun v => den cf 22 61 L (v :: st) M) := den_gf l_22_58
theorem l_22_61 : look (tab 22) 61 = some (.putfield 42, 3, [1, 9, 0, 323, 0], uu) := by decide +kernel
theorem e_22_61 : den cf 22 61 L (.int x :: .ref a :: st) M = oK (pfA (M.2.2 a) 1 9 (.int x)) (fun c => den cf 22 64 L st (mU M a c)) := den_pf0 l_22_61
theorem l_22_64 : look (tab 22) 64 = some (.return_, 1, [], uu) := by decide +kernel
theorem e_22_64 : den cf 22 64 L [] M = some (none, M) := den_e4 l_22_64
/-! yX2_init -/
theorem l_23_0 : look (tab 23) 0 = some (.aload_n 0, 1, [], uu) := by decide +kernel
theorem e_23_0 : den cf 23 0 [.ref a, v1] st M = den cf 23 1 [.ref a, v1] (.ref a :: st) M := den_go l_23_0 rfl
theorem l_23_1 : look (tab 23) 1 = some (.invokespecial 3, 3, [0, 37, 11, 12], uu) := by decide +kernel
theorem e_23_1 : den cf 23 1 L (.ref a :: st) M = if st.length ≤ 4 then den cf 23 4 L st M else none := den_g l_23_1 rfl
theorem l_23_4 : look (tab 23) 4 = some (.aload_n 0, 1, [], uu) := by decide +kernel
theorem e_23_4 : den cf 23 4 [.ref a, v1] st M = den cf 23 5 [.ref a, v1] (.ref a :: st) M := den_go l_23_4 rfl
theorem l_23_5 : look (tab 23) 5 = some (.bipush 12, 2, [], .int (zI 12)) := by decide +kernel
theorem e_23_5 : den cf 23 5 L st M = den cf 23 7 L (.int (zI 12) :: st) M := den_go l_23_5 rfl
theorem l_23_7 : look (tab 23) 7 = some (.anewarray 9, 3, [2, 38], uu) := by decide +kernel
theorem e_23_7 : den cf 23 7 L (.int x :: st) M = if M.1 < 600000 ∧ 0 ≤ x.toInt ∧ x.toInt < 100000 then den cf 23 10 L (.ref M.1 :: st) (mN M x.toNatClampNeg (nwA 2 x.toNatClampNeg)) else none := den_g l_23_7 rfl
theorem l_23_10 : look (tab 23) 10 = some (.putfield 11, 3, [2, 0, 2, 39, 1], uu) := by decide +kernel
theorem e_23_10 : den cf 23 10 L (v :: .ref a :: st) M = if okv 2 v = true then oK (pfA (M.2.2 a) 2 0 v) (fun c => den cf 23 13 L st (mU M a c)) else none := den_pf l_23_10
theorem l_23_13 : look (tab 23) 13 = some (.iconst 0, 1, [], .int (zI 0)) := by decide +kernel
theorem e_23_13 : den cf 23 13 L st M = den cf 23 14 L (.int (zI 0) :: st) M := den_go l_23_13 rfl
theorem l_23_14 : look (tab 23) 14 = some (.istore_n 1, 1, [], uu) := by decide +kernel
theorem e_23_14 : den cf 23 14 [v0, v1] (.int x :: st) M = den cf 23 15 [kq v0, .int x] st M := den_st (k := 1) (v := .int x) l_23_14 rfl
theorem l_23_15 : look (tab 23) 15 = some (.iload_n 1, 1, [], uu) := by decide +kernel
theorem e_23_15 : den cf 23 15 [v0, .int x] st M = den cf 23 16 [v0, .int x] (.int x :: st) M := den_go l_23_15 rfl
theorem l_23_16 : look (tab 23) 16 = some (.bipush 12, 2, [], .int (zI 12)) := by decide +kernel
theorem e_23_16 : den cf 23 16 L st M = den cf 23 18 L (.int (zI 12) :: st) M := den_go l_23_16 rfl
theorem l_23_18 : look (tab 23) 18 = some (.if_icmp .ge 23, 3, [41], uu) := by decide +kernel
theorem e_23_18 : den cf 23 18 L (.int y :: .int x :: st) M = if x < y then den cf 23 21 L st M else den cf 23 41 L st M := den_ic_ge l_23_18
theorem l_23_21 : look (tab 23) 21 = some (.aload_n 0, 1, [], uu) := by decide +kernel
theorem e_23_21 : den cf 23 21 [.ref a, v1] st M = den cf 23 22 [.ref a, v1] (.ref a :: st) M := den_go l_23_21 rfl
theorem l_23_22 : look (tab 23) 22 = some (.getfield 11, 3, [2, 0, 39], uu) := by decide +kernel
theorem e_23_22 : den cf 23 22 L (.ref a :: st) M = oK (gfA (M.2.2 a) 2 0) (fun v => den cf 23 25 L (v :: st) M) := den_gf l_23_22
theorem l_23_25 : look (tab 23) 25 = some (.iload_n 1, 1, [], uu) := by decide +kernel
theorem e_23_25 : den cf 23 25 [v0, .int x] st M = den cf 23 26 [v0, .int x] (.int x :: st) M := den_go l_23_25 rfl
theorem l_23_26 : look (tab 23) 26 = some (.new 9, 3, [1, 38, 40, 41], uu) := by decide +kernel
theorem e_23_26 : den cf 23 26 L st M = if M.1 < 600000 then den cf 23 29 L (.ref M.1 :: st) (mN M 10 (.inl (1, dflA 1))) else none := den_g l_23_26 rfl
theorem l_23_29 : look (tab 23) 29 = some (.dup, 1, [], uu) := by decide +kernel
theorem e_23_29 : den cf 23 29 L (.ref a :: st) M = den cf 23 30 L (.ref a :: .ref a :: st) M := den_go l_23_29 rfl
theorem e_23_29_i : den cf 23 29 L (.int x :: st) M = den cf 23 30 L (.int x :: .int x :: st) M := den_go l_23_29 rfl
theorem l_23_30 : look (tab 23) 30 = some (.iload_n 1, 1, [], uu) := by decide +kernel
theorem e_23_30 : den cf 23 30 [v0, .int x] st M = den cf 23 31 [v0, .int x] (.int x :: st) M := den_go l_23_30 rfl
theorem l_23_31 : look (tab 23) 31 = some (.invokespecial 17, 3, [1, 1, 12, 2, 48, 49, 41], uu) := by decide +kernel
theorem e_23_31 : den cf 23 31 L (w1 :: .ref a :: st) M = if rcv M 1 [.ref a, w1] = true ∧ st.length ≤ 4 then rK (cf 12 [.ref a, w1] M) (fun v M' => den cf 23 34 L (pR v st) M') else none := den_isp [w1] l_23_31 rfl
theorem l_23_34 : look (tab 23) 34 = some (.aastore, 1, [], uu) := by decide +kernel
theorem e_23_34 : den cf 23 34 L (v :: .int y :: .ref a :: st) M = oK (stQ M (M.2.2 a) y v) (fun c => den cf 23 35 L st (mU M a c)) := den_qs l_23_34
theorem l_23_35 : look (tab 23) 35 = some (.iinc 1 1, 3, [], .int (zI 1)) := by decide +kernel
theorem e_23_35 : den cf 23 35 [v0, .int x] st M = den cf 23 38 [kq v0, .int (x + (zI 1))] st M := den_st (k := 1) (v := .int (x + (zI 1))) l_23_35 rfl
theorem l_23_38 : look (tab 23) 38 = some (.goto (-23), 3, [15], uu) := by decide +kernel
theorem e_23_38 : den cf 23 38 L st M = den cf 23 15 L st M := den_go l_23_38 rfl
theorem l_23_41 : look (tab 23) 41 = some (.aload_n 0, 1, [], uu) := by decide +kernel
theorem e_23_41 : den cf 23 41 [.ref a, v1] st M = den cf 23 42 [.ref a, v1] (.ref a :: st) M := den_go l_23_41 rfl
theorem l_23_42 : look (tab 23) 42 = some (.iconst 0, 1, [], .int (zI 0)) := by decide +kernel
theorem e_23_42 : den cf 23 42 L st M = den cf 23 43 L (.int (zI 0) :: st) M := den_go l_23_42 rfl
theorem l_23_43 : look (tab 23) 43 = some (.putfield 20, 3, [2, 1, 0, 42, 0], uu) := by decide +kernel
theorem e_23_43 : den cf 23 43 L (.int x :: .ref a :: st) M = oK (pfA (M.2.2 a) 2 1 (.int x)) (fun c => den cf 23 46 L st (mU M a c)) := den_pf0 l_23_43
theorem l_23_46 : look (tab 23) 46 = some (.aload_n 0, 1, [], uu) := by decide +kernel
theorem e_23_46 : den cf 23 46 [.ref a, v1] st M = den cf 23 47 [.ref a, v1] (.ref a :: st) M := den_go l_23_46 rfl
theorem l_23_47 : look (tab 23) 47 = some (.iconst 1, 1, [], .int (zI 1)) := by decide +kernel
theorem e_23_47 : den cf 23 47 L st M = den cf 23 48 L (.int (zI 1) :: st) M := den_go l_23_47 rfl
theorem l_23_48 : look (tab 23) 48 = some (.putfield 24, 3, [2, 2, 0, 43, 0], uu) := by decide +kernel
theorem e_23_48 : den cf 23 48 L (.int x :: .ref a :: st) M = oK (pfA (M.2.2 a) 2 2 (.int x)) (fun c => den cf 23 51 L st (mU M a c)) := den_pf0 l_23_48
theorem l_23_51 : look (tab 23) 51 = some (.aload_n 0, 1, [], uu) := by decide +kernel
theorem e_23_51 : den cf 23 51 [.ref a, v1] st M = den cf 23 52 [.ref a, v1] (.ref a :: st) M := den_go l_23_51 rfl
theorem l_23_52 : look (tab 23) 52 = some (.iconst 1, 1, [], .int (zI 1)) := by decide +kernel
theorem e_23_52 : den cf 23 52 L st M = den cf 23 53 L (.int (zI 1) :: st) M := den_go l_23_52 rfl
theorem l_23_53 : look (tab 23) 53 = some (.putfield 27, 3, [2, 3, 0, 44, 0], uu) := by decide +kernel
theorem e_23_53 : den cf 23 53 L (.int x :: .ref a :: st) M = oK (pfA (M.2.2 a) 2 3 (.int x)) (fun c => den cf 23 56 L st (mU M a c)) := den_pf0 l_23_53
theorem l_23_56 : look (tab 23) 56 = some (.aload_n 0, 1, [], uu) := by decide +kernel
theorem e_23_56 : den cf 23 56 [.ref a, v1] st M = den cf 23 57 [.ref a, v1] (.ref a :: st) M := den_go l_23_56 rfl
theorem l_23_57 : look (tab 23) 57 = some (.iconst 0, 1, [], .int (zI 0)) := by decide +kernel
theorem e_23_57 : den cf 23 57 L st M = den cf 23 58 L (.int (zI 0) :: st) M := den_go l_23_57 rfl
theorem l_23_58 : look (tab 23) 58 = some (.putfield 30, 3, [2, 4, 0, 45, 0], uu) := by decide +kernel
theorem e_23_58 : den cf 23 58 L (.int x :: .ref a :: st) M = oK (pfA (M.2.2 a) 2 4 (.int x)) (fun c => den cf 23 61 L st (mU M a c)) := den_pf0 l_23_58
theorem l_23_61 : look (tab 23) 61 = some (.aload_n 0, 1, [], uu) := by decide +kernel
theorem e_23_61 : den cf 23 61 [.ref a, v1] st M = den cf 23 62 [.ref a, v1] (.ref a :: st) M := den_go l_23_61 rfl
theorem l_23_62 : look (tab 23) 62 = some (.iconst 0, 1, [], .int (zI 0)) := by decide +kernel
theorem e_23_62 : den cf 23 62 L st M = den cf 23 63 L (.int (zI 0) :: st) M := den_go l_23_62 rfl
theorem l_23_63 : look (tab 23) 63 = some (.putfield 33, 3, [2, 5, 0, 46, 0], uu) := by decide +kernel
theorem e_23_63 : den cf 23 63 L (.int x :: .ref a :: st) M = oK (pfA (M.2.2 a) 2 5 (.int x)) (fun c => den cf 23 66 L st (mU M a c)) := den_pf0 l_23_63
theorem l_23_66 : look (tab 23) 66 = some (.aload_n 0, 1, [], uu) := by decide +kernel
theorem e_23_66 : den cf 23 66 [.ref a, v1] st M = den cf 23 67 [.ref a, v1] (.ref a :: st) M := den_go l_23_66 rfl
theorem l_23_67 : look (tab 23) 67 = some (.iconst 1, 1, [], .int (zI 1)) := by decide +kernel
theorem e_23_67 : den cf 23 67 L st M = den cf 23 68 L (.int (zI 1) :: st) M := den_go l_23_67 rfl
theorem l_23_68 : look (tab 23) 68 = some (.putfield 36, 3, [2, 6, 0, 47, 0], uu) := by decide +kernel
theorem e_23_68 : den cf 23 68 L (.int x :: .ref a :: st) M = oK (pfA (M.2.2 a) 2 6 (.int x)) (fun c => den cf 23 71 L st (mU M a c)) := den_pf0 l_23_68
theorem l_23_71 : look (tab 23) 71 = some (.return_, 1, [], uu) := by decide +kernel
theorem e_23_71 : den cf 23 71 L [] M = some (none, M) := den_e4 l_23_71
/-! yX2_at -/
theorem l_24_0 : look (tab 24) 0 = some (.iload_n 1, 1, [], uu) := by decide +kernel
theorem e_24_0 : den cf 24 0 [v0, .int x] st M = den cf 24 1 [v0, .int x] (.int x :: st) M := den_go l_24_0 rfl
theorem l_24_1 : look (tab 24) 1 = some (.ifCond .lt 26, 3, [27], uu) := by decide +kernel
theorem e_24_1 : den cf 24 1 L (.int x :: st) M = if x < zI 0 then den cf 24 27 L st M else den cf 24 4 L st M := den_if_lt l_24_1
theorem l_24_4 : look (tab 24) 4 = some (.iload_n 1, 1, [], uu) := by decide +kernel
theorem e_24_4 : den cf 24 4 [v0, .int x] st M = den cf 24 5 [v0, .int x] (.int x :: st) M := den_go l_24_4 rfl
theorem l_24_5 : look (tab 24) 5 = some (.aload_n 0, 1, [], uu) := by decide +kernel
theorem e_24_5 : den cf 24 5 [.ref a, v1] st M = den cf 24 6 [.ref a, v1] (.ref a :: st) M := den_go l_24_5 rfl
theorem l_24_6 : look (tab 24) 6 = some (.getfield 20, 3, [2, 1, 42], uu) := by decide +kernel
theorem e_24_6 : den cf 24 6 L (.ref a :: st) M = oK (gfA (M.2.2 a) 2 1) (fun v => den cf 24 9 L (v :: st) M) := den_gf l_24_6
theorem l_24_9 : look (tab 24) 9 = some (.if_icmp .ge 18, 3, [27], uu) := by decide +kernel
theorem e_24_9 : den cf 24 9 L (.int y :: .int x :: st) M = if x < y then den cf 24 12 L st M else den cf 24 27 L st M := den_ic_ge l_24_9
theorem l_24_12 : look (tab 24) 12 = some (.iload_n 1, 1, [], uu) := by decide +kernel
theorem e_24_12 : den cf 24 12 [v0, .int x] st M = den cf 24 13 [v0, .int x] (.int x :: st) M := den_go l_24_12 rfl
theorem l_24_13 : look (tab 24) 13 = some (.bipush 12, 2, [], .int (zI 12)) := by decide +kernel
theorem e_24_13 : den cf 24 13 L st M = den cf 24 15 L (.int (zI 12) :: st) M := den_go l_24_13 rfl
theorem l_24_15 : look (tab 24) 15 = some (.if_icmp .ge 12, 3, [27], uu) := by decide +kernel
theorem e_24_15 : den cf 24 15 L (.int y :: .int x :: st) M = if x < y then den cf 24 18 L st M else den cf 24 27 L st M := den_ic_ge l_24_15
theorem l_24_18 : look (tab 24) 18 = some (.aload_n 0, 1, [], uu) := by decide +kernel
theorem e_24_18 : den cf 24 18 [.ref a, v1] st M = den cf 24 19 [.ref a, v1] (.ref a :: st) M := den_go l_24_18 rfl
theorem l_24_19 : look (tab 24) 19 = some (.getfield 11, 3, [2, 0, 39], uu) := by decide +kernel
theorem e_24_19 : den cf 24 19 L (.ref a :: st) M = oK (gfA (M.2.2 a) 2 0) (fun v => den cf 24 22 L (v :: st) M) := den_gf l_24_19
theorem l_24_22 : look (tab 24) 22 = some (.iload_n 1, 1, [], uu) := by decide +kernel
theorem e_24_22 : den cf 24 22 [v0, .int x] st M = den cf 24 23 [v0, .int x] (.int x :: st) M := den_go l_24_22 rfl
theorem l_24_23 : look (tab 24) 23 = some (.aaload, 1, [], uu) := by decide +kernel
theorem e_24_23 : den cf 24 23 L (.int x :: .ref a :: st) M = oK (ldQ (M.2.2 a) x) (fun v => den cf 24 24 L (v :: st) M) := den_al (g := ldQ) l_24_23 rfl
theorem l_24_24 : look (tab 24) 24 = some (.goto 4, 3, [28], uu) := by decide +kernel
theorem e_24_24 : den cf 24 24 L st M = den cf 24 28 L st M := den_go l_24_24 rfl
theorem l_24_27 : look (tab 24) 27 = some (.aconst_null, 1, [], uu) := by decide +kernel
theorem e_24_27 : den cf 24 27 L st M = den cf 24 28 L (.null :: st) M := den_go l_24_27 rfl
theorem l_24_28 : look (tab 24) 28 = some (.areturn, 1, [], uu) := by decide +kernel
theorem e_24_28 : den cf 24 28 L [v] M = if isRf v = true then some (some v, M) else none := den_e3 l_24_28
/-! yX2_add -/
theorem l_25_0 : look (tab 25) 0 = some (.aload_n 0, 1, [], uu) := by decide +kernel
theorem e_25_0 : den cf 25 0 [.ref a, v1, v2, v3] st M = den cf 25 1 [.ref a, v1, v2, v3] (.ref a :: st) M := den_go l_25_0 rfl
theorem l_25_1 : look (tab 25) 1 = some (.getfield 20, 3, [2, 1, 42], uu) := by decide +kernel
theorem e_25_1 : den cf 25 1 L (.ref a :: st) M = oK (gfA (M.2.2 a) 2 1) (fun v => den cf 25 4 L (v :: st) M) := den_gf l_25_1
theorem l_25_4 : look (tab 25) 4 = some (.ifCond .lt 12, 3, [16], uu) := by decide +kernel
theorem e_25_4 : den cf 25 4 L (.int x :: st) M = if x < zI 0 then den cf 25 16 L st M else den cf 25 7 L st M := den_if_lt l_25_4
theorem l_25_7 : look (tab 25) 7 = some (.aload_n 0, 1, [], uu) := by decide +kernel
theorem e_25_7 : den cf 25 7 [.ref a, v1, v2, v3] st M = den cf 25 8 [.ref a, v1, v2, v3] (.ref a :: st) M := den_go l_25_7 rfl
theorem l_25_8 : look (tab 25) 8 = some (.getfield 20, 3, [2, 1, 42], uu) := by decide +kernel
theorem e_25_8 : den cf 25 8 L (.ref a :: st) M = oK (gfA (M.2.2 a) 2 1) (fun v => den cf 25 11 L (v :: st) M) := den_gf l_25_8
theorem l_25_11 : look (tab 25) 11 = some (.bipush 12, 2, [], .int (zI 12)) := by decide +kernel
theorem e_25_11 : den cf 25 11 L st M = den cf 25 13 L (.int (zI 12) :: st) M := den_go l_25_11 rfl
theorem l_25_13 : look (tab 25) 13 = some (.if_icmp .lt 5, 3, [18], uu) := by decide +kernel
theorem e_25_13 : den cf 25 13 L (.int y :: .int x :: st) M = if x < y then den cf 25 18 L st M else den cf 25 16 L st M := den_ic_lt l_25_13
theorem l_25_16 : look (tab 25) 16 = some (.iconst (-1), 1, [], .int (zI (-1))) := by decide +kernel
theorem e_25_16 : den cf 25 16 L st M = den cf 25 17 L (.int (zI (-1)) :: st) M := den_go l_25_16 rfl
theorem l_25_17 : look (tab 25) 17 = some (.ireturn, 1, [0], uu) := by decide +kernel
theorem e_25_17 : den cf 25 17 L [.int x] M = some (some (.int x), M) := den_e0 l_25_17
theorem l_25_18 : look (tab 25) 18 = some (.aload_n 0, 1, [], uu) := by decide +kernel
theorem e_25_18 : den cf 25 18 [.ref a, v1, v2, v3] st M = den cf 25 19 [.ref a, v1, v2, v3] (.ref a :: st) M := den_go l_25_18 rfl
theorem l_25_19 : look (tab 25) 19 = some (.getfield 11, 3, [2, 0, 39], uu) := by decide +kernel
theorem e_25_19 : den cf 25 19 L (.ref a :: st) M = oK (gfA (M.2.2 a) 2 0) (fun v => den cf 25 22 L (v :: st) M) := den_gf l_25_19
theorem l_25_22 : look (tab 25) 22 = some (.aload_n 0, 1, [], uu) := by decide +kernel
theorem e_25_22 : den cf 25 22 [.ref a, v1, v2, v3] st M = den cf 25 23 [.ref a, v1, v2, v3] (.ref a :: st) M := den_go l_25_22 rfl
theorem l_25_23 : look (tab 25) 23 = some (.getfield 20, 3, [2, 1, 42], uu) := by decide +kernel
theorem e_25_23 : den cf 25 23 L (.ref a :: st) M = oK (gfA (M.2.2 a) 2 1) (fun v => den cf 25 26 L (v :: st) M) := den_gf l_25_23
theorem l_25_26 : look (tab 25) 26 = some (.aaload, 1, [], uu) := by decide +kernel
theorem e_25_26 : den cf 25 26 L (.int x :: .ref a :: st) M = oK (ldQ (M.2.2 a) x) (fun v => den cf 25 27 L (v :: st) M) := den_al (g := ldQ) l_25_26 rfl
theorem l_25_27 : look (tab 25) 27 = some (.iload_n 1, 1, [], uu) := by decide +kernel
theorem e_25_27 : den cf 25 27 [v0, .int x, v2, v3] st M = den cf 25 28 [v0, .int x, v2, v3] (.int x :: st) M := den_go l_25_27 rfl
theorem l_25_28 : look (tab 25) 28 = some (.iload_n 2, 1, [], uu) := by decide +kernel
theorem e_25_28 : den cf 25 28 [v0, v1, .int x, v3] st M = den cf 25 29 [v0, v1, .int x, v3] (.int x :: st) M := den_go l_25_28 rfl
theorem l_25_29 : look (tab 25) 29 = some (.iload_n 3, 1, [], uu) := by decide +kernel
theorem e_25_29 : den cf 25 29 [v0, v1, v2, .int x] st M = den cf 25 30 [v0, v1, v2, .int x] (.int x :: st) M := den_go l_25_29 rfl
theorem l_25_30 : look (tab 25) 30 = some (.invokevirtual 39, 3, [1, 13, 4, 308, 309, 310, 41], uu) := by decide +kernel
theorem e_25_30 : den cf 25 30 L (w3 :: w2 :: w1 :: .ref a :: st) M = if rcv M 1 [.ref a, w1, w2, w3] = true ∧ st.length ≤ 4 then rK (cf 13 [.ref a, w1, w2, w3] M) (fun v M' => den cf 25 33 L (pR v st) M') else none := den_iv [w1, w2, w3] l_25_30 rfl
theorem l_25_33 : look (tab 25) 33 = some (.aload_n 0, 1, [], uu) := by decide +kernel
theorem e_25_33 : den cf 25 33 [.ref a, v1, v2, v3] st M = den cf 25 34 [.ref a, v1, v2, v3] (.ref a :: st) M := den_go l_25_33 rfl
theorem l_25_34 : look (tab 25) 34 = some (.dup, 1, [], uu) := by decide +kernel
theorem e_25_34 : den cf 25 34 L (.ref a :: st) M = den cf 25 35 L (.ref a :: .ref a :: st) M := den_go l_25_34 rfl
theorem e_25_34_i : den cf 25 34 L (.int x :: st) M = den cf 25 35 L (.int x :: .int x :: st) M := den_go l_25_34 rfl
theorem l_25_35 : look (tab 25) 35 = some (.getfield 20, 3, [2, 1, 42], uu) := by decide +kernel
theorem e_25_35 : den cf 25 35 L (.ref a :: st) M = oK (gfA (M.2.2 a) 2 1) (fun v => den cf 25 38 L (v :: st) M) := den_gf l_25_35
theorem l_25_38 : look (tab 25) 38 = some (.iconst 1, 1, [], .int (zI 1)) := by decide +kernel
theorem e_25_38 : den cf 25 38 L st M = den cf 25 39 L (.int (zI 1) :: st) M := den_go l_25_38 rfl
theorem l_25_39 : look (tab 25) 39 = some (.iadd, 1, [], uu) := by decide +kernel
theorem e_25_39 : den cf 25 39 L (.int y :: .int x :: st) M = den cf 25 40 L (.int (x + y) :: st) M := den_go l_25_39 rfl
theorem l_25_40 : look (tab 25) 40 = some (.putfield 20, 3, [2, 1, 0, 42, 0], uu) := by decide +kernel
theorem e_25_40 : den cf 25 40 L (.int x :: .ref a :: st) M = oK (pfA (M.2.2 a) 2 1 (.int x)) (fun c => den cf 25 43 L st (mU M a c)) := den_pf0 l_25_40
theorem l_25_43 : look (tab 25) 43 = some (.aload_n 0, 1, [], uu) := by decide +kernel
theorem e_25_43 : den cf 25 43 [.ref a, v1, v2, v3] st M = den cf 25 44 [.ref a, v1, v2, v3] (.ref a :: st) M := den_go l_25_43 rfl
theorem l_25_44 : look (tab 25) 44 = some (.getfield 20, 3, [2, 1, 42], uu) := by decide +kernel
theorem e_25_44 : den cf 25 44 L (.ref a :: st) M = oK (gfA (M.2.2 a) 2 1) (fun v => den cf 25 47 L (v :: st) M) := den_gf l_25_44
theorem l_25_47 : look (tab 25) 47 = some (.iconst 1, 1, [], .int (zI 1)) := by decide +kernel
theorem e_25_47 : den cf 25 47 L st M = den cf 25 48 L (.int (zI 1) :: st) M := den_go l_25_47 rfl
theorem l_25_48 : look (tab 25) 48 = some (.isub, 1, [], uu) := by decide +kernel
theorem e_25_48 : den cf 25 48 L (.int y :: .int x :: st) M = den cf 25 49 L (.int (x - y) :: st) M := den_go l_25_48 rfl
theorem l_25_49 : look (tab 25) 49 = some (.ireturn, 1, [0], uu) := by decide +kernel
theorem e_25_49 : den cf 25 49 L [.int x] M = some (some (.int x), M) := den_e0 l_25_49
/-! yX2_takeAll -/
theorem l_26_0 : look (tab 26) 0 = some (.aload_n 0, 1, [], uu) := by decide +kernel
theorem e_26_0 : den cf 26 0 [.ref a, v1, v2, v3] st M = den cf 26 1 [.ref a, v1, v2, v3] (.ref a :: st) M := den_go l_26_0 rfl
theorem l_26_1 : look (tab 26) 1 = some (.aload_n 1, 1, [], uu) := by decide +kernel
theorem e_26_1 : den cf 26 1 [v0, v1, v2, v3] st M = if isRf v1 = true then den cf 26 2 [v0, v1, v2, v3] (v1 :: st) M else none := den_g l_26_1 rfl
theorem l_26_2 : look (tab 26) 2 = some (.getfield 20, 3, [2, 1, 42], uu) := by decide +kernel
theorem e_26_2 : den cf 26 2 L (.ref a :: st) M = oK (gfA (M.2.2 a) 2 1) (fun v => den cf 26 5 L (v :: st) M) := den_gf l_26_2
theorem l_26_5 : look (tab 26) 5 = some (.putfield 20, 3, [2, 1, 0, 42, 0], uu) := by decide +kernel
theorem e_26_5 : den cf 26 5 L (.int x :: .ref a :: st) M = oK (pfA (M.2.2 a) 2 1 (.int x)) (fun c => den cf 26 8 L st (mU M a c)) := den_pf0 l_26_5
theorem l_26_8 : look (tab 26) 8 = some (.iconst 0, 1, [], .int (zI 0)) := by decide +kernel
theorem e_26_8 : den cf 26 8 L st M = den cf 26 9 L (.int (zI 0) :: st) M := den_go l_26_8 rfl
theorem l_26_9 : look (tab 26) 9 = some (.istore_n 2, 1, [], uu) := by decide +kernel
theorem e_26_9 : den cf 26 9 [v0, v1, v2, v3] (.int x :: st) M = den cf 26 10 [v0, kq v1, .int x, v3] st M := den_st (k := 2) (v := .int x) l_26_9 rfl
theorem l_26_10 : look (tab 26) 10 = some (.iload_n 2, 1, [], uu) := by decide +kernel
theorem e_26_10 : den cf 26 10 [v0, v1, .int x, v3] st M = den cf 26 11 [v0, v1, .int x, v3] (.int x :: st) M := den_go l_26_10 rfl
theorem l_26_11 : look (tab 26) 11 = some (.bipush 12, 2, [], .int (zI 12)) := by decide +kernel
theorem e_26_11 : den cf 26 11 L st M = den cf 26 13 L (.int (zI 12) :: st) M := den_go l_26_11 rfl
theorem l_26_13 : look (tab 26) 13 = some (.if_icmp .ge 57, 3, [70], uu) := by decide +kernel
theorem e_26_13 : den cf 26 13 L (.int y :: .int x :: st) M = if x < y then den cf 26 16 L st M else den cf 26 70 L st M := den_ic_ge l_26_13
theorem l_26_16 : look (tab 26) 16 = some (.aload_n 1, 1, [], uu) := by decide +kernel
theorem e_26_16 : den cf 26 16 [v0, v1, v2, v3] st M = if isRf v1 = true then den cf 26 17 [v0, v1, v2, v3] (v1 :: st) M else none := den_g l_26_16 rfl
theorem l_26_17 : look (tab 26) 17 = some (.getfield 11, 3, [2, 0, 39], uu) := by decide +kernel
theorem e_26_17 : den cf 26 17 L (.ref a :: st) M = oK (gfA (M.2.2 a) 2 0) (fun v => den cf 26 20 L (v :: st) M) := den_gf l_26_17
theorem l_26_20 : look (tab 26) 20 = some (.iload_n 2, 1, [], uu) := by decide +kernel
theorem e_26_20 : den cf 26 20 [v0, v1, .int x, v3] st M = den cf 26 21 [v0, v1, .int x, v3] (.int x :: st) M := den_go l_26_20 rfl
theorem l_26_21 : look (tab 26) 21 = some (.aaload, 1, [], uu) := by decide +kernel
theorem e_26_21 : den cf 26 21 L (.int x :: .ref a :: st) M = oK (ldQ (M.2.2 a) x) (fun v => den cf 26 22 L (v :: st) M) := den_al (g := ldQ) l_26_21 rfl
theorem l_26_22 : look (tab 26) 22 = some (.astore_n 3, 1, [], uu) := by decide +kernel
theorem e_26_22 : den cf 26 22 [v0, v1, v2, v3] (v :: st) M = if isRf v = true then den cf 26 23 [v0, v1, kq v2, v] st M else none := den_as (k := 3) (v := v) l_26_22 rfl (Nat.le_of_ble_eq_true rfl)
theorem l_26_23 : look (tab 26) 23 = some (.aload_n 0, 1, [], uu) := by decide +kernel
theorem e_26_23 : den cf 26 23 [.ref a, v1, v2, v3] st M = den cf 26 24 [.ref a, v1, v2, v3] (.ref a :: st) M := den_go l_26_23 rfl
theorem l_26_24 : look (tab 26) 24 = some (.getfield 11, 3, [2, 0, 39], uu) := by decide +kernel
theorem e_26_24 : den cf 26 24 L (.ref a :: st) M = oK (gfA (M.2.2 a) 2 0) (fun v => den cf 26 27 L (v :: st) M) := den_gf l_26_24
theorem l_26_27 : look (tab 26) 27 = some (.iload_n 2, 1, [], uu) := by decide +kernel
theorem e_26_27 : den cf 26 27 [v0, v1, .int x, v3] st M = den cf 26 28 [v0, v1, .int x, v3] (.int x :: st) M := den_go l_26_27 rfl
theorem l_26_28 : look (tab 26) 28 = some (.aaload, 1, [], uu) := by decide +kernel
theorem e_26_28 : den cf 26 28 L (.int x :: .ref a :: st) M = oK (ldQ (M.2.2 a) x) (fun v => den cf 26 29 L (v :: st) M) := den_al (g := ldQ) l_26_28 rfl
theorem l_26_29 : look (tab 26) 29 = some (.aload_n 3, 1, [], uu) := by decide +kernel
theorem e_26_29 : den cf 26 29 [v0, v1, v2, v3] st M = if isRf v3 = true then den cf 26 30 [v0, v1, v2, v3] (v3 :: st) M else none := den_g l_26_29 rfl
theorem l_26_30 : look (tab 26) 30 = some (.invokevirtual 43, 3, [1, 22, 2, 434, 435, 436, 41], uu) := by decide +kernel
theorem e_26_30 : den cf 26 30 L (w1 :: .ref a :: st) M = if rcv M 1 [.ref a, w1] = true ∧ st.length ≤ 4 then rK (cf 22 [.ref a, w1] M) (fun v M' => den cf 26 33 L (pR v st) M') else none := den_iv [w1] l_26_30 rfl
theorem l_26_33 : look (tab 26) 33 = some (.aload_n 0, 1, [], uu) := by decide +kernel
theorem e_26_33 : den cf 26 33 [.ref a, v1, v2, v3] st M = den cf 26 34 [.ref a, v1, v2, v3] (.ref a :: st) M := den_go l_26_33 rfl
theorem l_26_34 : look (tab 26) 34 = some (.getfield 11, 3, [2, 0, 39], uu) := by decide +kernel
theorem e_26_34 : den cf 26 34 L (.ref a :: st) M = oK (gfA (M.2.2 a) 2 0) (fun v => den cf 26 37 L (v :: st) M) := den_gf l_26_34
theorem l_26_37 : look (tab 26) 37 = some (.iload_n 2, 1, [], uu) := by decide +kernel
theorem e_26_37 : den cf 26 37 [v0, v1, .int x, v3] st M = den cf 26 38 [v0, v1, .int x, v3] (.int x :: st) M := den_go l_26_37 rfl
theorem l_26_38 : look (tab 26) 38 = some (.aaload, 1, [], uu) := by decide +kernel
theorem e_26_38 : den cf 26 38 L (.int x :: .ref a :: st) M = oK (ldQ (M.2.2 a) x) (fun v => den cf 26 39 L (v :: st) M) := den_al (g := ldQ) l_26_38 rfl
theorem l_26_39 : look (tab 26) 39 = some (.aload_n 3, 1, [], uu) := by decide +kernel
theorem e_26_39 : den cf 26 39 [v0, v1, v2, v3] st M = if isRf v3 = true then den cf 26 40 [v0, v1, v2, v3] (v3 :: st) M else none := den_g l_26_39 rfl
theorem l_26_40 : look (tab 26) 40 = some (.getfield 47, 3, [1, 6, 432], uu) := by decide +kernel
theorem e_26_40 : den cf 26 40 L (.ref a :: st) M = oK (gfA (M.2.2 a) 1 6) (fun v => den cf 26 43 L (v :: st) M) := den_gf l_26_40
theorem l_26_43 : look (tab 26) 43 = some (.ifnonnull 7, 3, [50], uu) := by decide +kernel
theorem e_26_43 : den cf 26 43 L (va_rf o :: st) M = oN o (den cf 26 46 L st M) (den cf 26 50 L st M) := den_nn l_26_43
theorem e_26_43_n : den cf 26 43 L (.null :: st) M = den cf 26 46 L st M := den_go l_26_43 rfl
theorem e_26_43_r : den cf 26 43 L (.ref a :: st) M = den cf 26 50 L st M := den_go l_26_43 rfl
theorem l_26_46 : look (tab 26) 46 = some (.aconst_null, 1, [], uu) := by decide +kernel
theorem e_26_46 : den cf 26 46 L st M = den cf 26 47 L (.null :: st) M := den_go l_26_46 rfl
theorem l_26_47 : look (tab 26) 47 = some (.goto 14, 3, [61], uu) := by decide +kernel
theorem e_26_47 : den cf 26 47 L st M = den cf 26 61 L st M := den_go l_26_47 rfl
theorem l_26_50 : look (tab 26) 50 = some (.aload_n 0, 1, [], uu) := by decide +kernel
theorem e_26_50 : den cf 26 50 [.ref a, v1, v2, v3] st M = den cf 26 51 [.ref a, v1, v2, v3] (.ref a :: st) M := den_go l_26_50 rfl
theorem l_26_51 : look (tab 26) 51 = some (.aload_n 3, 1, [], uu) := by decide +kernel
theorem e_26_51 : den cf 26 51 [v0, v1, v2, v3] st M = if isRf v3 = true then den cf 26 52 [v0, v1, v2, v3] (v3 :: st) M else none := den_g l_26_51 rfl
theorem l_26_52 : look (tab 26) 52 = some (.getfield 47, 3, [1, 6, 432], uu) := by decide +kernel
theorem e_26_52 : den cf 26 52 L (.ref a :: st) M = oK (gfA (M.2.2 a) 1 6) (fun v => den cf 26 55 L (v :: st) M) := den_gf l_26_52
theorem l_26_55 : look (tab 26) 55 = some (.getfield 51, 3, [1, 0, 433], uu) := by decide +kernel
theorem e_26_55 : den cf 26 55 L (.ref a :: st) M = oK (gfA (M.2.2 a) 1 0) (fun v => den cf 26 58 L (v :: st) M) := den_gf l_26_55
theorem l_26_58 : look (tab 26) 58 = some (.invokevirtual 54, 3, [2, 24, 2, 438, 210, 211, 15], uu) := by decide +kernel
theorem e_26_58 : den cf 26 58 L (w1 :: .ref a :: st) M = if rcv M 2 [.ref a, w1] = true ∧ st.length ≤ 4 then rK (cf 24 [.ref a, w1] M) (fun v M' => den cf 26 61 L (pR v st) M') else none := den_iv [w1] l_26_58 rfl
theorem l_26_61 : look (tab 26) 61 = some (.putfield 47, 3, [1, 6, 2, 432, 0], uu) := by decide +kernel
theorem e_26_61 : den cf 26 61 L (v :: .ref a :: st) M = if okv 2 v = true then oK (pfA (M.2.2 a) 1 6 v) (fun c => den cf 26 64 L st (mU M a c)) else none := den_pf l_26_61
theorem l_26_64 : look (tab 26) 64 = some (.iinc 2 1, 3, [], .int (zI 1)) := by decide +kernel
theorem e_26_64 : den cf 26 64 [v0, v1, .int x, v3] st M = den cf 26 67 [v0, kq v1, .int (x + (zI 1)), v3] st M := den_st (k := 2) (v := .int (x + (zI 1))) l_26_64 rfl
theorem l_26_67 : look (tab 26) 67 = some (.goto (-57), 3, [10], uu) := by decide +kernel
theorem e_26_67 : den cf 26 67 L st M = den cf 26 10 L st M := den_go l_26_67 rfl
theorem l_26_70 : look (tab 26) 70 = some (.aload_n 0, 1, [], uu) := by decide +kernel
theorem e_26_70 : den cf 26 70 [.ref a, v1, v2, v3] st M = den cf 26 71 [.ref a, v1, v2, v3] (.ref a :: st) M := den_go l_26_70 rfl
theorem l_26_71 : look (tab 26) 71 = some (.aload_n 1, 1, [], uu) := by decide +kernel
theorem e_26_71 : den cf 26 71 [v0, v1, v2, v3] st M = if isRf v1 = true then den cf 26 72 [v0, v1, v2, v3] (v1 :: st) M else none := den_g l_26_71 rfl
theorem l_26_72 : look (tab 26) 72 = some (.getfield 24, 3, [2, 2, 43], uu) := by decide +kernel
theorem e_26_72 : den cf 26 72 L (.ref a :: st) M = oK (gfA (M.2.2 a) 2 2) (fun v => den cf 26 75 L (v :: st) M) := den_gf l_26_72
theorem l_26_75 : look (tab 26) 75 = some (.putfield 24, 3, [2, 2, 0, 43, 0], uu) := by decide +kernel
theorem e_26_75 : den cf 26 75 L (.int x :: .ref a :: st) M = oK (pfA (M.2.2 a) 2 2 (.int x)) (fun c => den cf 26 78 L st (mU M a c)) := den_pf0 l_26_75
theorem l_26_78 : look (tab 26) 78 = some (.aload_n 0, 1, [], uu) := by decide +kernel
theorem e_26_78 : den cf 26 78 [.ref a, v1, v2, v3] st M = den cf 26 79 [.ref a, v1, v2, v3] (.ref a :: st) M := den_go l_26_78 rfl
theorem l_26_79 : look (tab 26) 79 = some (.aload_n 1, 1, [], uu) := by decide +kernel
theorem e_26_79 : den cf 26 79 [v0, v1, v2, v3] st M = if isRf v1 = true then den cf 26 80 [v0, v1, v2, v3] (v1 :: st) M else none := den_g l_26_79 rfl
theorem l_26_80 : look (tab 26) 80 = some (.getfield 27, 3, [2, 3, 44], uu) := by decide +kernel
theorem e_26_80 : den cf 26 80 L (.ref a :: st) M = oK (gfA (M.2.2 a) 2 3) (fun v => den cf 26 83 L (v :: st) M) := den_gf l_26_80
theorem l_26_83 : look (tab 26) 83 = some (.putfield 27, 3, [2, 3, 0, 44, 0], uu) := by decide +kernel
theorem e_26_83 : den cf 26 83 L (.int x :: .ref a :: st) M = oK (pfA (M.2.2 a) 2 3 (.int x)) (fun c => den cf 26 86 L st (mU M a c)) := den_pf0 l_26_83
theorem l_26_86 : look (tab 26) 86 = some (.aload_n 0, 1, [], uu) := by decide +kernel
theorem e_26_86 : den cf 26 86 [.ref a, v1, v2, v3] st M = den cf 26 87 [.ref a, v1, v2, v3] (.ref a :: st) M := den_go l_26_86 rfl
theorem l_26_87 : look (tab 26) 87 = some (.aload_n 1, 1, [], uu) := by decide +kernel
theorem e_26_87 : den cf 26 87 [v0, v1, v2, v3] st M = if isRf v1 = true then den cf 26 88 [v0, v1, v2, v3] (v1 :: st) M else none := den_g l_26_87 rfl
theorem l_26_88 : look (tab 26) 88 = some (.getfield 30, 3, [2, 4, 45], uu) := by decide +kernel
theorem e_26_88 : den cf 26 88 L (.ref a :: st) M = oK (gfA (M.2.2 a) 2 4) (fun v => den cf 26 91 L (v :: st) M) := den_gf l_26_88
theorem l_26_91 : look (tab 26) 91 = some (.putfield 30, 3, [2, 4, 0, 45, 0], uu) := by decide +kernel
theorem e_26_91 : den cf 26 91 L (.int x :: .ref a :: st) M = oK (pfA (M.2.2 a) 2 4 (.int x)) (fun c => den cf 26 94 L st (mU M a c)) := den_pf0 l_26_91
theorem l_26_94 : look (tab 26) 94 = some (.aload_n 0, 1, [], uu) := by decide +kernel
theorem e_26_94 : den cf 26 94 [.ref a, v1, v2, v3] st M = den cf 26 95 [.ref a, v1, v2, v3] (.ref a :: st) M := den_go l_26_94 rfl
theorem l_26_95 : look (tab 26) 95 = some (.aload_n 1, 1, [], uu) := by decide +kernel
theorem e_26_95 : den cf 26 95 [v0, v1, v2, v3] st M = if isRf v1 = true then den cf 26 96 [v0, v1, v2, v3] (v1 :: st) M else none := den_g l_26_95 rfl
theorem l_26_96 : look (tab 26) 96 = some (.getfield 33, 3, [2, 5, 46], uu) := by decide +kernel
theorem e_26_96 : den cf 26 96 L (.ref a :: st) M = oK (gfA (M.2.2 a) 2 5) (fun v => den cf 26 99 L (v :: st) M) := den_gf l_26_96
theorem l_26_99 : look (tab 26) 99 = some (.putfield 33, 3, [2, 5, 0, 46, 0], uu) := by decide +kernel
theorem e_26_99 : den cf 26 99 L (.int x :: .ref a :: st) M = oK (pfA (M.2.2 a) 2 5 (.int x)) (fun c => den cf 26 102 L st (mU M a c)) := den_pf0 l_26_99
theorem l_26_102 : look (tab 26) 102 = some (.aload_n 0, 1, [], uu) := by decide +kernel
theorem e_26_102 : den cf 26 102 [.ref a, v1, v2, v3] st M = den cf 26 103 [.ref a, v1, v2, v3] (.ref a :: st) M := den_go l_26_102 rfl
theorem l_26_103 : look (tab 26) 103 = some (.aload_n 1, 1, [], uu) := by decide +kernel
theorem e_26_103 : den cf 26 103 [v0, v1, v2, v3] st M = if isRf v1 = true then den cf 26 104 [v0, v1, v2, v3] (v1 :: st) M else none := den_g l_26_103 rfl
theorem l_26_104 : look (tab 26) 104 = some (.getfield 36, 3, [2, 6, 47], uu) := by decide +kernel
theorem e_26_104 : den cf 26 104 L (.ref a :: st) M = oK (gfA (M.2.2 a) 2 6) (fun v => den cf 26 107 L (v :: st) M) := den_gf l_26_104
theorem l_26_107 : look (tab 26) 107 = some (.putfield 36, 3, [2, 6, 0, 47, 0], uu) := by decide +kernel
theorem e_26_107 : den cf 26 107 L (.int x :: .ref a :: st) M = oK (pfA (M.2.2 a) 2 6 (.int x)) (fun c => den cf 26 110 L st (mU M a c)) := den_pf0 l_26_107
theorem l_26_110 : look (tab 26) 110 = some (.return_, 1, [], uu) := by decide +kernel
theorem e_26_110 : den cf 26 110 L [] M = some (none, M) := den_e4 l_26_110
/-! yX2_willTo -/
theorem l_27_0 : look (tab 27) 0 = some (.aload_n 0, 1, [], uu) := by decide +kernel
theorem e_27_0 : den cf 27 0 [.ref a, v1, v2] st M = den cf 27 1 [.ref a, v1, v2] (.ref a :: st) M := den_go l_27_0 rfl
theorem l_27_1 : look (tab 27) 1 = some (.aload_n 1, 1, [], uu) := by decide +kernel
theorem e_27_1 : den cf 27 1 [v0, v1, v2] st M = if isRf v1 = true then den cf 27 2 [v0, v1, v2] (v1 :: st) M else none := den_g l_27_1 rfl
theorem l_27_2 : look (tab 27) 2 = some (.aload_n 2, 1, [], uu) := by decide +kernel
theorem e_27_2 : den cf 27 2 [v0, v1, v2] st M = if isRf v2 = true then den cf 27 3 [v0, v1, v2] (v2 :: st) M else none := den_g l_27_2 rfl
theorem l_27_3 : look (tab 27) 3 = some (.aload_n 1, 1, [], uu) := by decide +kernel
theorem e_27_3 : den cf 27 3 [v0, v1, v2] st M = if isRf v1 = true then den cf 27 4 [v0, v1, v2] (v1 :: st) M else none := den_g l_27_3 rfl
theorem l_27_4 : look (tab 27) 4 = some (.getfield 58, 3, [1, 8, 245], uu) := by decide +kernel
theorem e_27_4 : den cf 27 4 L (.ref a :: st) M = oK (gfA (M.2.2 a) 1 8) (fun v => den cf 27 7 L (v :: st) M) := den_gf l_27_4
theorem l_27_7 : look (tab 27) 7 = some (.invokevirtual 61, 3, [2, 28, 4, 246, 247, 248, 15], uu) := by decide +kernel
theorem e_27_7 : den cf 27 7 L (w3 :: w2 :: w1 :: .ref a :: st) M = if rcv M 2 [.ref a, w1, w2, w3] = true ∧ st.length ≤ 4 then rK (cf 28 [.ref a, w1, w2, w3] M) (fun v M' => den cf 27 10 L (pR v st) M') else none := den_iv [w1, w2, w3] l_27_7 rfl
theorem l_27_10 : look (tab 27) 10 = some (.ireturn, 1, [0], uu) := by decide +kernel
theorem e_27_10 : den cf 27 10 L [.int x] M = some (some (.int x), M) := den_e0 l_27_10
