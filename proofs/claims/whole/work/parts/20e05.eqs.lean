variable {cf : Nat → List Value → AM → Option AR} {L st : List Value} {M : AM} {x y : Int32} {p q : Int64} {a b : Nat} {v w : Value} {o : Option Nat} {v0 v1 v2 v3 v4 v5 v6 v7 v8 v9 v10 v11 v12 v13 v14 v15 v16 v17 v18 v19 v20 w1 w2 w3 w4 w5 w6 : Value}
/-! yX5_list -/
theorem l_89_0 : look (tab 89) 0 = some (.aload_n 0, 1, [], uu) := by decide +kernel
theorem e_89_0 : den cf 89 0 [.ref a, v1] st M = den cf 89 1 [.ref a, v1] (.ref a :: st) M := den_go l_89_0 rfl
theorem l_89_1 : look (tab 89) 1 = some (.getfield 16, 3, [5, 1, 17], uu) := by decide +kernel
theorem e_89_1 : den cf 89 1 L (.ref a :: st) M = oK (gfA (M.2.2 a) 5 1) (fun v => den cf 89 4 L (v :: st) M) := den_gf l_89_1
theorem l_89_4 : look (tab 89) 4 = some (.aload_n 0, 1, [], uu) := by decide +kernel
theorem e_89_4 : den cf 89 4 [.ref a, v1] st M = den cf 89 5 [.ref a, v1] (.ref a :: st) M := den_go l_89_4 rfl
theorem l_89_5 : look (tab 89) 5 = some (.getfield 10, 3, [5, 0, 16], uu) := by decide +kernel
theorem e_89_5 : den cf 89 5 L (.ref a :: st) M = oK (gfA (M.2.2 a) 5 0) (fun v => den cf 89 8 L (v :: st) M) := den_gf l_89_5
theorem l_89_8 : look (tab 89) 8 = some (.invokevirtual 174, 3, [2, 26, 2, 428, 429, 430, 15], uu) := by decide +kernel
theorem e_89_8 : den cf 89 8 L (w1 :: .ref a :: st) M = if rcv M 2 [.ref a, w1] = true ∧ st.length ≤ 4 then rK (cf 26 [.ref a, w1] M) (fun v M' => den cf 89 11 L (pR v st) M') else none := den_iv [w1] l_89_8 rfl
theorem l_89_11 : look (tab 89) 11 = some (.aload_n 0, 1, [], uu) := by decide +kernel
theorem e_89_11 : den cf 89 11 [.ref a, v1] st M = den cf 89 12 [.ref a, v1] (.ref a :: st) M := den_go l_89_11 rfl
theorem l_89_12 : look (tab 89) 12 = some (.getfield 43, 3, [5, 6, 31], uu) := by decide +kernel
theorem e_89_12 : den cf 89 12 L (.ref a :: st) M = oK (gfA (M.2.2 a) 5 6) (fun v => den cf 89 15 L (v :: st) M) := den_gf l_89_12
theorem l_89_15 : look (tab 89) 15 = some (.aload_n 0, 1, [], uu) := by decide +kernel
theorem e_89_15 : den cf 89 15 [.ref a, v1] st M = den cf 89 16 [.ref a, v1] (.ref a :: st) M := den_go l_89_15 rfl
theorem l_89_16 : look (tab 89) 16 = some (.getfield 16, 3, [5, 1, 17], uu) := by decide +kernel
theorem e_89_16 : den cf 89 16 L (.ref a :: st) M = oK (gfA (M.2.2 a) 5 1) (fun v => den cf 89 19 L (v :: st) M) := den_gf l_89_16
theorem l_89_19 : look (tab 89) 19 = some (.invokevirtual 178, 3, [4, 62, 2, 439, 440, 441, 30], uu) := by decide +kernel
theorem e_89_19 : den cf 89 19 L (w1 :: .ref a :: st) M = if rcv M 4 [.ref a, w1] = true ∧ st.length ≤ 4 then rK (cf 62 [.ref a, w1] M) (fun v M' => den cf 89 22 L (pR v st) M') else none := den_iv [w1] l_89_19 rfl
theorem l_89_22 : look (tab 89) 22 = some (.istore_n 1, 1, [], uu) := by decide +kernel
theorem e_89_22 : den cf 89 22 [v0, v1] (.int x :: st) M = den cf 89 23 [kq v0, .int x] st M := den_st (k := 1) (v := .int x) l_89_22 rfl
theorem l_89_23 : look (tab 89) 23 = some (.aload_n 0, 1, [], uu) := by decide +kernel
theorem e_89_23 : den cf 89 23 [.ref a, v1] st M = den cf 89 24 [.ref a, v1] (.ref a :: st) M := den_go l_89_23 rfl
theorem l_89_24 : look (tab 89) 24 = some (.getfield 43, 3, [5, 6, 31], uu) := by decide +kernel
theorem e_89_24 : den cf 89 24 L (.ref a :: st) M = oK (gfA (M.2.2 a) 5 6) (fun v => den cf 89 27 L (v :: st) M) := den_gf l_89_24
theorem l_89_27 : look (tab 89) 27 = some (.iconst 0, 1, [], .int (zI 0)) := by decide +kernel
theorem e_89_27 : den cf 89 27 L st M = den cf 89 28 L (.int (zI 0) :: st) M := den_go l_89_27 rfl
theorem l_89_28 : look (tab 89) 28 = some (.putfield 170, 3, [4, 1, 0, 404, 0], uu) := by decide +kernel
theorem e_89_28 : den cf 89 28 L (.int x :: .ref a :: st) M = oK (pfA (M.2.2 a) 4 1 (.int x)) (fun c => den cf 89 31 L st (mU M a c)) := den_pf0 l_89_28
theorem l_89_31 : look (tab 89) 31 = some (.iload_n 1, 1, [], uu) := by decide +kernel
theorem e_89_31 : den cf 89 31 [v0, .int x] st M = den cf 89 32 [v0, .int x] (.int x :: st) M := den_go l_89_31 rfl
theorem l_89_32 : look (tab 89) 32 = some (.iconst (-1), 1, [], .int (zI (-1))) := by decide +kernel
theorem e_89_32 : den cf 89 32 L st M = den cf 89 33 L (.int (zI (-1)) :: st) M := den_go l_89_32 rfl
theorem l_89_33 : look (tab 89) 33 = some (.if_icmp .ne 21, 3, [54], uu) := by decide +kernel
theorem e_89_33 : den cf 89 33 L (.int y :: .int x :: st) M = if x = y then den cf 89 36 L st M else den cf 89 54 L st M := den_ic_ne l_89_33
theorem l_89_36 : look (tab 89) 36 = some (.aload_n 0, 1, [], uu) := by decide +kernel
theorem e_89_36 : den cf 89 36 [.ref a, v1] st M = den cf 89 37 [.ref a, v1] (.ref a :: st) M := den_go l_89_36 rfl
theorem l_89_37 : look (tab 89) 37 = some (.bipush (-2), 2, [], .int (zI (-2))) := by decide +kernel
theorem e_89_37 : den cf 89 37 L st M = den cf 89 39 L (.int (zI (-2)) :: st) M := den_go l_89_37 rfl
theorem l_89_39 : look (tab 89) 39 = some (.invokevirtual 59, 3, [5, 128, 2, 113, 114, 115, 2], uu) := by decide +kernel
theorem e_89_39 : den cf 89 39 L (w1 :: .ref a :: st) M = if rcv M 5 [.ref a, w1] = true ∧ st.length ≤ 4 then rK (cf 128 [.ref a, w1] M) (fun v M' => den cf 89 42 L (pR v st) M') else none := den_iv [w1] l_89_39 rfl
theorem l_89_42 : look (tab 89) 42 = some (.pop, 1, [], uu) := by decide +kernel
theorem e_89_42 : den cf 89 42 L (.int x :: st) M = den cf 89 43 L st M := den_go l_89_42 rfl
theorem l_89_43 : look (tab 89) 43 = some (.bipush (-20), 2, [], .int (zI (-20))) := by decide +kernel
theorem e_89_43 : den cf 89 43 L st M = den cf 89 45 L (.int (zI (-20)) :: st) M := den_go l_89_43 rfl
theorem l_89_45 : look (tab 89) 45 = some (.aload_n 0, 1, [], uu) := by decide +kernel
theorem e_89_45 : den cf 89 45 [.ref a, v1] st M = den cf 89 46 [.ref a, v1] (.ref a :: st) M := den_go l_89_45 rfl
theorem l_89_46 : look (tab 89) 46 = some (.getfield 43, 3, [5, 6, 31], uu) := by decide +kernel
theorem e_89_46 : den cf 89 46 L (.ref a :: st) M = oK (gfA (M.2.2 a) 5 6) (fun v => den cf 89 49 L (v :: st) M) := den_gf l_89_46
theorem l_89_49 : look (tab 89) 49 = some (.getfield 182, 3, [4, 2, 427], uu) := by decide +kernel
theorem e_89_49 : den cf 89 49 L (.ref a :: st) M = oK (gfA (M.2.2 a) 4 2) (fun v => den cf 89 52 L (v :: st) M) := den_gf l_89_49
theorem l_89_52 : look (tab 89) 52 = some (.isub, 1, [], uu) := by decide +kernel
theorem e_89_52 : den cf 89 52 L (.int y :: .int x :: st) M = den cf 89 53 L (.int (x - y) :: st) M := den_go l_89_52 rfl
theorem l_89_53 : look (tab 89) 53 = some (.ireturn, 1, [0], uu) := by decide +kernel
theorem e_89_53 : den cf 89 53 L [.int x] M = some (some (.int x), M) := den_e0 l_89_53
theorem l_89_54 : look (tab 89) 54 = some (.aload_n 0, 1, [], uu) := by decide +kernel
theorem e_89_54 : den cf 89 54 [.ref a, v1] st M = den cf 89 55 [.ref a, v1] (.ref a :: st) M := den_go l_89_54 rfl
theorem l_89_55 : look (tab 89) 55 = some (.getfield 10, 3, [5, 0, 16], uu) := by decide +kernel
theorem e_89_55 : den cf 89 55 L (.ref a :: st) M = oK (gfA (M.2.2 a) 5 0) (fun v => den cf 89 58 L (v :: st) M) := den_gf l_89_55
theorem l_89_58 : look (tab 89) 58 = some (.aload_n 0, 1, [], uu) := by decide +kernel
theorem e_89_58 : den cf 89 58 [.ref a, v1] st M = den cf 89 59 [.ref a, v1] (.ref a :: st) M := den_go l_89_58 rfl
theorem l_89_59 : look (tab 89) 59 = some (.getfield 16, 3, [5, 1, 17], uu) := by decide +kernel
theorem e_89_59 : den cf 89 59 L (.ref a :: st) M = oK (gfA (M.2.2 a) 5 1) (fun v => den cf 89 62 L (v :: st) M) := den_gf l_89_59
theorem l_89_62 : look (tab 89) 62 = some (.invokevirtual 174, 3, [2, 26, 2, 428, 429, 430, 15], uu) := by decide +kernel
theorem e_89_62 : den cf 89 62 L (w1 :: .ref a :: st) M = if rcv M 2 [.ref a, w1] = true ∧ st.length ≤ 4 then rK (cf 26 [.ref a, w1] M) (fun v M' => den cf 89 65 L (pR v st) M') else none := den_iv [w1] l_89_62 rfl
theorem l_89_65 : look (tab 89) 65 = some (.iload_n 1, 1, [], uu) := by decide +kernel
theorem e_89_65 : den cf 89 65 [v0, .int x] st M = den cf 89 66 [v0, .int x] (.int x :: st) M := den_go l_89_65 rfl
theorem l_89_66 : look (tab 89) 66 = some (.ireturn, 1, [0], uu) := by decide +kernel
theorem e_89_66 : den cf 89 66 L [.int x] M = some (some (.int x), M) := den_e0 l_89_66
/-! yX5_pupilOf -/
theorem l_90_0 : look (tab 90) 0 = some (.aload_n 0, 1, [], uu) := by decide +kernel
theorem e_90_0 : den cf 90 0 [.ref a, v1, v2, v3] st M = den cf 90 1 [.ref a, v1, v2, v3] (.ref a :: st) M := den_go l_90_0 rfl
theorem l_90_1 : look (tab 90) 1 = some (.getfield 10, 3, [5, 0, 16], uu) := by decide +kernel
theorem e_90_1 : den cf 90 1 L (.ref a :: st) M = oK (gfA (M.2.2 a) 5 0) (fun v => den cf 90 4 L (v :: st) M) := den_gf l_90_1
theorem l_90_4 : look (tab 90) 4 = some (.iload_n 1, 1, [], uu) := by decide +kernel
theorem e_90_4 : den cf 90 4 [v0, .int x, v2, v3] st M = den cf 90 5 [v0, .int x, v2, v3] (.int x :: st) M := den_go l_90_4 rfl
theorem l_90_5 : look (tab 90) 5 = some (.invokevirtual 105, 3, [2, 24, 2, 209, 210, 211, 15], uu) := by decide +kernel
theorem e_90_5 : den cf 90 5 L (w1 :: .ref a :: st) M = if rcv M 2 [.ref a, w1] = true ∧ st.length ≤ 4 then rK (cf 24 [.ref a, w1] M) (fun v M' => den cf 90 8 L (pR v st) M') else none := den_iv [w1] l_90_5 rfl
theorem l_90_8 : look (tab 90) 8 = some (.astore_n 3, 1, [], uu) := by decide +kernel
theorem e_90_8 : den cf 90 8 [v0, v1, v2, v3] (v :: st) M = if isRf v = true then den cf 90 9 [v0, v1, kq v2, v] st M else none := den_as (k := 3) (v := v) l_90_8 rfl (Nat.le_of_ble_eq_true rfl)
theorem l_90_9 : look (tab 90) 9 = some (.aload_n 3, 1, [], uu) := by decide +kernel
theorem e_90_9 : den cf 90 9 [v0, v1, v2, v3] st M = if isRf v3 = true then den cf 90 10 [v0, v1, v2, v3] (v3 :: st) M else none := den_g l_90_9 rfl
theorem l_90_10 : look (tab 90) 10 = some (.ifnonnull 10, 3, [20], uu) := by decide +kernel
theorem e_90_10 : den cf 90 10 L (va_rf o :: st) M = oN o (den cf 90 13 L st M) (den cf 90 20 L st M) := den_nn l_90_10
theorem e_90_10_n : den cf 90 10 L (.null :: st) M = den cf 90 13 L st M := den_go l_90_10 rfl
theorem e_90_10_r : den cf 90 10 L (.ref a :: st) M = den cf 90 20 L st M := den_go l_90_10 rfl
theorem l_90_13 : look (tab 90) 13 = some (.aload_n 0, 1, [], uu) := by decide +kernel
theorem e_90_13 : den cf 90 13 [.ref a, v1, v2, v3] st M = den cf 90 14 [.ref a, v1, v2, v3] (.ref a :: st) M := den_go l_90_13 rfl
theorem l_90_14 : look (tab 90) 14 = some (.bipush (-2), 2, [], .int (zI (-2))) := by decide +kernel
theorem e_90_14 : den cf 90 14 L st M = den cf 90 16 L (.int (zI (-2)) :: st) M := den_go l_90_14 rfl
theorem l_90_16 : look (tab 90) 16 = some (.invokevirtual 59, 3, [5, 128, 2, 113, 114, 115, 2], uu) := by decide +kernel
theorem e_90_16 : den cf 90 16 L (w1 :: .ref a :: st) M = if rcv M 5 [.ref a, w1] = true ∧ st.length ≤ 4 then rK (cf 128 [.ref a, w1] M) (fun v M' => den cf 90 19 L (pR v st) M') else none := den_iv [w1] l_90_16 rfl
theorem l_90_19 : look (tab 90) 19 = some (.ireturn, 1, [0], uu) := by decide +kernel
theorem e_90_19 : den cf 90 19 L [.int x] M = some (some (.int x), M) := den_e0 l_90_19
theorem l_90_20 : look (tab 90) 20 = some (.iload_n 2, 1, [], uu) := by decide +kernel
theorem e_90_20 : den cf 90 20 [v0, v1, .int x, v3] st M = den cf 90 21 [v0, v1, .int x, v3] (.int x :: st) M := den_go l_90_20 rfl
theorem l_90_21 : look (tab 90) 21 = some (.tableswitch 109 0 7 #[47, 52, 57, 62, 67, 86, 99, 104], 47, [130, 68, 73, 78, 83, 88, 107, 120, 125], uu) := by decide +kernel
theorem e_90_21 : den cf 90 21 L (.int x :: st) M = if x.toInt < 0 ∨ 7 < x.toInt then den cf 90 130 L st M else oK ([68, 73, 78, 83, 88, 107, 120, 125] : List Nat)[(x.toInt - 0).toNat]? (fun t => den cf 90 t L st M) := den_ts l_90_21
theorem l_90_68 : look (tab 90) 68 = some (.aload_n 3, 1, [], uu) := by decide +kernel
theorem e_90_68 : den cf 90 68 [v0, v1, v2, v3] st M = if isRf v3 = true then den cf 90 69 [v0, v1, v2, v3] (v3 :: st) M else none := den_g l_90_68 rfl
theorem l_90_69 : look (tab 90) 69 = some (.getfield 116, 3, [1, 2, 235], uu) := by decide +kernel
theorem e_90_69 : den cf 90 69 L (.ref a :: st) M = oK (gfA (M.2.2 a) 1 2) (fun v => den cf 90 72 L (v :: st) M) := den_gf l_90_69
theorem l_90_72 : look (tab 90) 72 = some (.ireturn, 1, [0], uu) := by decide +kernel
theorem e_90_72 : den cf 90 72 L [.int x] M = some (some (.int x), M) := den_e0 l_90_72
theorem l_90_73 : look (tab 90) 73 = some (.aload_n 3, 1, [], uu) := by decide +kernel
theorem e_90_73 : den cf 90 73 [v0, v1, v2, v3] st M = if isRf v3 = true then den cf 90 74 [v0, v1, v2, v3] (v3 :: st) M else none := den_g l_90_73 rfl
theorem l_90_74 : look (tab 90) 74 = some (.getfield 185, 3, [1, 3, 628], uu) := by decide +kernel
theorem e_90_74 : den cf 90 74 L (.ref a :: st) M = oK (gfA (M.2.2 a) 1 3) (fun v => den cf 90 77 L (v :: st) M) := den_gf l_90_74
theorem l_90_77 : look (tab 90) 77 = some (.ireturn, 1, [0], uu) := by decide +kernel
theorem e_90_77 : den cf 90 77 L [.int x] M = some (some (.int x), M) := den_e0 l_90_77
theorem l_90_78 : look (tab 90) 78 = some (.aload_n 3, 1, [], uu) := by decide +kernel
theorem e_90_78 : den cf 90 78 [v0, v1, v2, v3] st M = if isRf v3 = true then den cf 90 79 [v0, v1, v2, v3] (v3 :: st) M else none := den_g l_90_78 rfl
theorem l_90_79 : look (tab 90) 79 = some (.getfield 188, 3, [1, 4, 629], uu) := by decide +kernel
theorem e_90_79 : den cf 90 79 L (.ref a :: st) M = oK (gfA (M.2.2 a) 1 4) (fun v => den cf 90 82 L (v :: st) M) := den_gf l_90_79
theorem l_90_82 : look (tab 90) 82 = some (.ireturn, 1, [0], uu) := by decide +kernel
theorem e_90_82 : den cf 90 82 L [.int x] M = some (some (.int x), M) := den_e0 l_90_82
theorem l_90_83 : look (tab 90) 83 = some (.aload_n 3, 1, [], uu) := by decide +kernel
theorem e_90_83 : den cf 90 83 [v0, v1, v2, v3] st M = if isRf v3 = true then den cf 90 84 [v0, v1, v2, v3] (v3 :: st) M else none := den_g l_90_83 rfl
theorem l_90_84 : look (tab 90) 84 = some (.getfield 124, 3, [1, 5, 236], uu) := by decide +kernel
theorem e_90_84 : den cf 90 84 L (.ref a :: st) M = oK (gfA (M.2.2 a) 1 5) (fun v => den cf 90 87 L (v :: st) M) := den_gf l_90_84
theorem l_90_87 : look (tab 90) 87 = some (.ireturn, 1, [0], uu) := by decide +kernel
theorem e_90_87 : den cf 90 87 L [.int x] M = some (some (.int x), M) := den_e0 l_90_87
theorem l_90_88 : look (tab 90) 88 = some (.aload_n 3, 1, [], uu) := by decide +kernel
theorem e_90_88 : den cf 90 88 [v0, v1, v2, v3] st M = if isRf v3 = true then den cf 90 89 [v0, v1, v2, v3] (v3 :: st) M else none := den_g l_90_88 rfl
theorem l_90_89 : look (tab 90) 89 = some (.getfield 127, 3, [1, 6, 237], uu) := by decide +kernel
theorem e_90_89 : den cf 90 89 L (.ref a :: st) M = oK (gfA (M.2.2 a) 1 6) (fun v => den cf 90 92 L (v :: st) M) := den_gf l_90_89
theorem l_90_92 : look (tab 90) 92 = some (.ifnonnull 7, 3, [99], uu) := by decide +kernel
theorem e_90_92 : den cf 90 92 L (va_rf o :: st) M = oN o (den cf 90 95 L st M) (den cf 90 99 L st M) := den_nn l_90_92
theorem e_90_92_n : den cf 90 92 L (.null :: st) M = den cf 90 95 L st M := den_go l_90_92 rfl
theorem e_90_92_r : den cf 90 92 L (.ref a :: st) M = den cf 90 99 L st M := den_go l_90_92 rfl
theorem l_90_95 : look (tab 90) 95 = some (.iconst (-1), 1, [], .int (zI (-1))) := by decide +kernel
theorem e_90_95 : den cf 90 95 L st M = den cf 90 96 L (.int (zI (-1)) :: st) M := den_go l_90_95 rfl
theorem l_90_96 : look (tab 90) 96 = some (.goto 10, 3, [106], uu) := by decide +kernel
theorem e_90_96 : den cf 90 96 L st M = den cf 90 106 L st M := den_go l_90_96 rfl
theorem l_90_99 : look (tab 90) 99 = some (.aload_n 3, 1, [], uu) := by decide +kernel
theorem e_90_99 : den cf 90 99 [v0, v1, v2, v3] st M = if isRf v3 = true then den cf 90 100 [v0, v1, v2, v3] (v3 :: st) M else none := den_g l_90_99 rfl
theorem l_90_100 : look (tab 90) 100 = some (.getfield 127, 3, [1, 6, 237], uu) := by decide +kernel
theorem e_90_100 : den cf 90 100 L (.ref a :: st) M = oK (gfA (M.2.2 a) 1 6) (fun v => den cf 90 103 L (v :: st) M) := den_gf l_90_100
theorem l_90_103 : look (tab 90) 103 = some (.getfield 160, 3, [1, 0, 374], uu) := by decide +kernel
theorem e_90_103 : den cf 90 103 L (.ref a :: st) M = oK (gfA (M.2.2 a) 1 0) (fun v => den cf 90 106 L (v :: st) M) := den_gf l_90_103
theorem l_90_106 : look (tab 90) 106 = some (.ireturn, 1, [0], uu) := by decide +kernel
theorem e_90_106 : den cf 90 106 L [.int x] M = some (some (.int x), M) := den_e0 l_90_106
theorem l_90_107 : look (tab 90) 107 = some (.aload_n 3, 1, [], uu) := by decide +kernel
theorem e_90_107 : den cf 90 107 [v0, v1, v2, v3] st M = if isRf v3 = true then den cf 90 108 [v0, v1, v2, v3] (v3 :: st) M else none := den_g l_90_107 rfl
theorem l_90_108 : look (tab 90) 108 = some (.getfield 191, 3, [1, 7, 630], uu) := by decide +kernel
theorem e_90_108 : den cf 90 108 L (.ref a :: st) M = oK (gfA (M.2.2 a) 1 7) (fun v => den cf 90 111 L (v :: st) M) := den_gf l_90_108
theorem l_90_111 : look (tab 90) 111 = some (.ifCond .eq 7, 3, [118], uu) := by decide +kernel
theorem e_90_111 : den cf 90 111 L (.int x :: st) M = if x = zI 0 then den cf 90 118 L st M else den cf 90 114 L st M := den_if_eq l_90_111
theorem l_90_114 : look (tab 90) 114 = some (.iconst 1, 1, [], .int (zI 1)) := by decide +kernel
theorem e_90_114 : den cf 90 114 L st M = den cf 90 115 L (.int (zI 1) :: st) M := den_go l_90_114 rfl
theorem l_90_115 : look (tab 90) 115 = some (.goto 4, 3, [119], uu) := by decide +kernel
theorem e_90_115 : den cf 90 115 L st M = den cf 90 119 L st M := den_go l_90_115 rfl
theorem l_90_118 : look (tab 90) 118 = some (.iconst 0, 1, [], .int (zI 0)) := by decide +kernel
theorem e_90_118 : den cf 90 118 L st M = den cf 90 119 L (.int (zI 0) :: st) M := den_go l_90_118 rfl
theorem l_90_119 : look (tab 90) 119 = some (.ireturn, 1, [0], uu) := by decide +kernel
theorem e_90_119 : den cf 90 119 L [.int x] M = some (some (.int x), M) := den_e0 l_90_119
theorem l_90_120 : look (tab 90) 120 = some (.aload_n 3, 1, [], uu) := by decide +kernel
theorem e_90_120 : den cf 90 120 [v0, v1, v2, v3] st M = if isRf v3 = true then den cf 90 121 [v0, v1, v2, v3] (v3 :: st) M else none := den_g l_90_120 rfl
theorem l_90_121 : look (tab 90) 121 = some (.getfield 194, 3, [1, 8, 631], uu) := by decide +kernel
theorem e_90_121 : den cf 90 121 L (.ref a :: st) M = oK (gfA (M.2.2 a) 1 8) (fun v => den cf 90 124 L (v :: st) M) := den_gf l_90_121
theorem l_90_124 : look (tab 90) 124 = some (.ireturn, 1, [0], uu) := by decide +kernel
theorem e_90_124 : den cf 90 124 L [.int x] M = some (some (.int x), M) := den_e0 l_90_124
theorem l_90_125 : look (tab 90) 125 = some (.aload_n 3, 1, [], uu) := by decide +kernel
theorem e_90_125 : den cf 90 125 [v0, v1, v2, v3] st M = if isRf v3 = true then den cf 90 126 [v0, v1, v2, v3] (v3 :: st) M else none := den_g l_90_125 rfl
theorem l_90_126 : look (tab 90) 126 = some (.getfield 197, 3, [1, 9, 632], uu) := by decide +kernel
theorem e_90_126 : den cf 90 126 L (.ref a :: st) M = oK (gfA (M.2.2 a) 1 9) (fun v => den cf 90 129 L (v :: st) M) := den_gf l_90_126
theorem l_90_129 : look (tab 90) 129 = some (.ireturn, 1, [0], uu) := by decide +kernel
theorem e_90_129 : den cf 90 129 L [.int x] M = some (some (.int x), M) := den_e0 l_90_129
theorem l_90_130 : look (tab 90) 130 = some (.aload_n 0, 1, [], uu) := by decide +kernel
theorem e_90_130 : den cf 90 130 [.ref a, v1, v2, v3] st M = den cf 90 131 [.ref a, v1, v2, v3] (.ref a :: st) M := den_go l_90_130 rfl
theorem l_90_131 : look (tab 90) 131 = some (.bipush (-2), 2, [], .int (zI (-2))) := by decide +kernel
theorem e_90_131 : den cf 90 131 L st M = den cf 90 133 L (.int (zI (-2)) :: st) M := den_go l_90_131 rfl
theorem l_90_133 : look (tab 90) 133 = some (.invokevirtual 59, 3, [5, 128, 2, 113, 114, 115, 2], uu) := by decide +kernel
theorem e_90_133 : den cf 90 133 L (w1 :: .ref a :: st) M = if rcv M 5 [.ref a, w1] = true ∧ st.length ≤ 4 then rK (cf 128 [.ref a, w1] M) (fun v M' => den cf 90 136 L (pR v st) M') else none := den_iv [w1] l_90_133 rfl
theorem l_90_136 : look (tab 90) 136 = some (.ireturn, 1, [0], uu) := by decide +kernel
theorem e_90_136 : den cf 90 136 L [.int x] M = some (some (.int x), M) := den_e0 l_90_136
/-! yX5_common -/
theorem l_91_0 : look (tab 91) 0 = some (.aload_n 0, 1, [], uu) := by decide +kernel
theorem e_91_0 : den cf 91 0 [.ref a, v1, v2, v3, v4] st M = den cf 91 1 [.ref a, v1, v2, v3, v4] (.ref a :: st) M := den_go l_91_0 rfl
theorem l_91_1 : look (tab 91) 1 = some (.getfield 10, 3, [5, 0, 16], uu) := by decide +kernel
theorem e_91_1 : den cf 91 1 L (.ref a :: st) M = oK (gfA (M.2.2 a) 5 0) (fun v => den cf 91 4 L (v :: st) M) := den_gf l_91_1
theorem l_91_4 : look (tab 91) 4 = some (.iload_n 1, 1, [], uu) := by decide +kernel
theorem e_91_4 : den cf 91 4 [v0, .int x, v2, v3, v4] st M = den cf 91 5 [v0, .int x, v2, v3, v4] (.int x :: st) M := den_go l_91_4 rfl
theorem l_91_5 : look (tab 91) 5 = some (.invokevirtual 105, 3, [2, 24, 2, 209, 210, 211, 15], uu) := by decide +kernel
theorem e_91_5 : den cf 91 5 L (w1 :: .ref a :: st) M = if rcv M 2 [.ref a, w1] = true ∧ st.length ≤ 4 then rK (cf 24 [.ref a, w1] M) (fun v M' => den cf 91 8 L (pR v st) M') else none := den_iv [w1] l_91_5 rfl
theorem l_91_8 : look (tab 91) 8 = some (.astore_n 3, 1, [], uu) := by decide +kernel
theorem e_91_8 : den cf 91 8 [v0, v1, v2, v3, v4] (v :: st) M = if isRf v = true then den cf 91 9 [v0, v1, kq v2, v, v4] st M else none := den_as (k := 3) (v := v) l_91_8 rfl (Nat.le_of_ble_eq_true rfl)
theorem l_91_9 : look (tab 91) 9 = some (.aload_n 0, 1, [], uu) := by decide +kernel
theorem e_91_9 : den cf 91 9 [.ref a, v1, v2, v3, v4] st M = den cf 91 10 [.ref a, v1, v2, v3, v4] (.ref a :: st) M := den_go l_91_9 rfl
theorem l_91_10 : look (tab 91) 10 = some (.getfield 10, 3, [5, 0, 16], uu) := by decide +kernel
theorem e_91_10 : den cf 91 10 L (.ref a :: st) M = oK (gfA (M.2.2 a) 5 0) (fun v => den cf 91 13 L (v :: st) M) := den_gf l_91_10
theorem l_91_13 : look (tab 91) 13 = some (.iload_n 2, 1, [], uu) := by decide +kernel
theorem e_91_13 : den cf 91 13 [v0, v1, .int x, v3, v4] st M = den cf 91 14 [v0, v1, .int x, v3, v4] (.int x :: st) M := den_go l_91_13 rfl
theorem l_91_14 : look (tab 91) 14 = some (.invokevirtual 105, 3, [2, 24, 2, 209, 210, 211, 15], uu) := by decide +kernel
theorem e_91_14 : den cf 91 14 L (w1 :: .ref a :: st) M = if rcv M 2 [.ref a, w1] = true ∧ st.length ≤ 4 then rK (cf 24 [.ref a, w1] M) (fun v M' => den cf 91 17 L (pR v st) M') else none := den_iv [w1] l_91_14 rfl
theorem l_91_17 : look (tab 91) 17 = some (.astore 4, 2, [], uu) := by decide +kernel
theorem e_91_17 : den cf 91 17 [v0, v1, v2, v3, v4] (v :: st) M = if isRf v = true then den cf 91 19 [v0, v1, v2, kq v3, v] st M else none := den_as (k := 4) (v := v) l_91_17 rfl (Nat.le_of_ble_eq_true rfl)
theorem l_91_19 : look (tab 91) 19 = some (.aload_n 3, 1, [], uu) := by decide +kernel
theorem e_91_19 : den cf 91 19 [v0, v1, v2, v3, v4] st M = if isRf v3 = true then den cf 91 20 [v0, v1, v2, v3, v4] (v3 :: st) M else none := den_g l_91_19 rfl
theorem l_91_20 : look (tab 91) 20 = some (.ifnull 8, 3, [28], uu) := by decide +kernel
theorem e_91_20 : den cf 91 20 L (va_rf o :: st) M = oN o (den cf 91 28 L st M) (den cf 91 23 L st M) := den_nu l_91_20
theorem e_91_20_n : den cf 91 20 L (.null :: st) M = den cf 91 28 L st M := den_go l_91_20 rfl
theorem e_91_20_r : den cf 91 20 L (.ref a :: st) M = den cf 91 23 L st M := den_go l_91_20 rfl
theorem l_91_23 : look (tab 91) 23 = some (.aload 4, 2, [], uu) := by decide +kernel
theorem e_91_23 : den cf 91 23 [v0, v1, v2, v3, v4] st M = if isRf v4 = true then den cf 91 25 [v0, v1, v2, v3, v4] (v4 :: st) M else none := den_g l_91_23 rfl
theorem l_91_25 : look (tab 91) 25 = some (.ifnonnull 10, 3, [35], uu) := by decide +kernel
theorem e_91_25 : den cf 91 25 L (va_rf o :: st) M = oN o (den cf 91 28 L st M) (den cf 91 35 L st M) := den_nn l_91_25
theorem e_91_25_n : den cf 91 25 L (.null :: st) M = den cf 91 28 L st M := den_go l_91_25 rfl
theorem e_91_25_r : den cf 91 25 L (.ref a :: st) M = den cf 91 35 L st M := den_go l_91_25 rfl
theorem l_91_28 : look (tab 91) 28 = some (.aload_n 0, 1, [], uu) := by decide +kernel
theorem e_91_28 : den cf 91 28 [.ref a, v1, v2, v3, v4] st M = den cf 91 29 [.ref a, v1, v2, v3, v4] (.ref a :: st) M := den_go l_91_28 rfl
theorem l_91_29 : look (tab 91) 29 = some (.bipush (-2), 2, [], .int (zI (-2))) := by decide +kernel
theorem e_91_29 : den cf 91 29 L st M = den cf 91 31 L (.int (zI (-2)) :: st) M := den_go l_91_29 rfl
theorem l_91_31 : look (tab 91) 31 = some (.invokevirtual 59, 3, [5, 128, 2, 113, 114, 115, 2], uu) := by decide +kernel
theorem e_91_31 : den cf 91 31 L (w1 :: .ref a :: st) M = if rcv M 5 [.ref a, w1] = true ∧ st.length ≤ 4 then rK (cf 128 [.ref a, w1] M) (fun v M' => den cf 91 34 L (pR v st) M') else none := den_iv [w1] l_91_31 rfl
theorem l_91_34 : look (tab 91) 34 = some (.ireturn, 1, [0], uu) := by decide +kernel
theorem e_91_34 : den cf 91 34 L [.int x] M = some (some (.int x), M) := den_e0 l_91_34
theorem l_91_35 : look (tab 91) 35 = some (.aload_n 3, 1, [], uu) := by decide +kernel
theorem e_91_35 : den cf 91 35 [v0, v1, v2, v3, v4] st M = if isRf v3 = true then den cf 91 36 [v0, v1, v2, v3, v4] (v3 :: st) M else none := den_g l_91_35 rfl
theorem l_91_36 : look (tab 91) 36 = some (.aload 4, 2, [], uu) := by decide +kernel
theorem e_91_36 : den cf 91 36 [v0, v1, v2, v3, v4] st M = if isRf v4 = true then den cf 91 38 [v0, v1, v2, v3, v4] (v4 :: st) M else none := den_g l_91_36 rfl
theorem l_91_38 : look (tab 91) 38 = some (.invokevirtual 153, 3, [1, 20, 2, 353, 261, 262, 41], uu) := by decide +kernel
theorem e_91_38 : den cf 91 38 L (w1 :: .ref a :: st) M = if rcv M 1 [.ref a, w1] = true ∧ st.length ≤ 4 then rK (cf 20 [.ref a, w1] M) (fun v M' => den cf 91 41 L (pR v st) M') else none := den_iv [w1] l_91_38 rfl
theorem l_91_41 : look (tab 91) 41 = some (.ireturn, 1, [0], uu) := by decide +kernel
theorem e_91_41 : den cf 91 41 L [.int x] M = some (some (.int x), M) := den_e0 l_91_41
/-! yX5_will -/
theorem l_92_0 : look (tab 92) 0 = some (.aload_n 0, 1, [], uu) := by decide +kernel
theorem e_92_0 : den cf 92 0 [.ref a, v1, v2, v3] st M = den cf 92 1 [.ref a, v1, v2, v3] (.ref a :: st) M := den_go l_92_0 rfl
theorem l_92_1 : look (tab 92) 1 = some (.getfield 10, 3, [5, 0, 16], uu) := by decide +kernel
theorem e_92_1 : den cf 92 1 L (.ref a :: st) M = oK (gfA (M.2.2 a) 5 0) (fun v => den cf 92 4 L (v :: st) M) := den_gf l_92_1
theorem l_92_4 : look (tab 92) 4 = some (.iload_n 1, 1, [], uu) := by decide +kernel
theorem e_92_4 : den cf 92 4 [v0, .int x, v2, v3] st M = den cf 92 5 [v0, .int x, v2, v3] (.int x :: st) M := den_go l_92_4 rfl
theorem l_92_5 : look (tab 92) 5 = some (.invokevirtual 105, 3, [2, 24, 2, 209, 210, 211, 15], uu) := by decide +kernel
theorem e_92_5 : den cf 92 5 L (w1 :: .ref a :: st) M = if rcv M 2 [.ref a, w1] = true ∧ st.length ≤ 4 then rK (cf 24 [.ref a, w1] M) (fun v M' => den cf 92 8 L (pR v st) M') else none := den_iv [w1] l_92_5 rfl
theorem l_92_8 : look (tab 92) 8 = some (.astore_n 3, 1, [], uu) := by decide +kernel
theorem e_92_8 : den cf 92 8 [v0, v1, v2, v3] (v :: st) M = if isRf v = true then den cf 92 9 [v0, v1, kq v2, v] st M else none := den_as (k := 3) (v := v) l_92_8 rfl (Nat.le_of_ble_eq_true rfl)
theorem l_92_9 : look (tab 92) 9 = some (.aload_n 3, 1, [], uu) := by decide +kernel
theorem e_92_9 : den cf 92 9 [v0, v1, v2, v3] st M = if isRf v3 = true then den cf 92 10 [v0, v1, v2, v3] (v3 :: st) M else none := den_g l_92_9 rfl
theorem l_92_10 : look (tab 92) 10 = some (.ifnull 11, 3, [21], uu) := by decide +kernel
theorem e_92_10 : den cf 92 10 L (va_rf o :: st) M = oN o (den cf 92 21 L st M) (den cf 92 13 L st M) := den_nu l_92_10
theorem e_92_10_n : den cf 92 10 L (.null :: st) M = den cf 92 21 L st M := den_go l_92_10 rfl
theorem e_92_10_r : den cf 92 10 L (.ref a :: st) M = den cf 92 13 L st M := den_go l_92_10 rfl
theorem l_92_13 : look (tab 92) 13 = some (.iload_n 2, 1, [], uu) := by decide +kernel
theorem e_92_13 : den cf 92 13 [v0, v1, .int x, v3] st M = den cf 92 14 [v0, v1, .int x, v3] (.int x :: st) M := den_go l_92_13 rfl
theorem l_92_14 : look (tab 92) 14 = some (.iconst 1, 1, [], .int (zI 1)) := by decide +kernel
theorem e_92_14 : den cf 92 14 L st M = den cf 92 15 L (.int (zI 1) :: st) M := den_go l_92_14 rfl
theorem l_92_15 : look (tab 92) 15 = some (.invokestatic 55, 3, [1, 129, 2, 110, 111, 2], uu) := by decide +kernel
theorem e_92_15 : den cf 92 15 L (w2 :: w1 :: st) M = if st.length ≤ 4 then rK (cf 129 [w1, w2] M) (fun v M' => den cf 92 18 L (pR v st) M') else none := den_ist [w1, w2] l_92_15 rfl
theorem l_92_18 : look (tab 92) 18 = some (.ifCond .ne 10, 3, [28], uu) := by decide +kernel
theorem e_92_18 : den cf 92 18 L (.int x :: st) M = if x = zI 0 then den cf 92 21 L st M else den cf 92 28 L st M := den_if_ne l_92_18
theorem l_92_21 : look (tab 92) 21 = some (.aload_n 0, 1, [], uu) := by decide +kernel
theorem e_92_21 : den cf 92 21 [.ref a, v1, v2, v3] st M = den cf 92 22 [.ref a, v1, v2, v3] (.ref a :: st) M := den_go l_92_21 rfl
theorem l_92_22 : look (tab 92) 22 = some (.bipush (-2), 2, [], .int (zI (-2))) := by decide +kernel
theorem e_92_22 : den cf 92 22 L st M = den cf 92 24 L (.int (zI (-2)) :: st) M := den_go l_92_22 rfl
theorem l_92_24 : look (tab 92) 24 = some (.invokevirtual 59, 3, [5, 128, 2, 113, 114, 115, 2], uu) := by decide +kernel
theorem e_92_24 : den cf 92 24 L (w1 :: .ref a :: st) M = if rcv M 5 [.ref a, w1] = true ∧ st.length ≤ 4 then rK (cf 128 [.ref a, w1] M) (fun v M' => den cf 92 27 L (pR v st) M') else none := den_iv [w1] l_92_24 rfl
theorem l_92_27 : look (tab 92) 27 = some (.ireturn, 1, [0], uu) := by decide +kernel
theorem e_92_27 : den cf 92 27 L [.int x] M = some (some (.int x), M) := den_e0 l_92_27
theorem l_92_28 : look (tab 92) 28 = some (.aload_n 3, 1, [], uu) := by decide +kernel
theorem e_92_28 : den cf 92 28 [v0, v1, v2, v3] st M = if isRf v3 = true then den cf 92 29 [v0, v1, v2, v3] (v3 :: st) M else none := den_g l_92_28 rfl
theorem l_92_29 : look (tab 92) 29 = some (.getfield 127, 3, [1, 6, 237], uu) := by decide +kernel
theorem e_92_29 : den cf 92 29 L (.ref a :: st) M = oK (gfA (M.2.2 a) 1 6) (fun v => den cf 92 32 L (v :: st) M) := den_gf l_92_29
theorem l_92_32 : look (tab 92) 32 = some (.ifnonnull 10, 3, [42], uu) := by decide +kernel
theorem e_92_32 : den cf 92 32 L (va_rf o :: st) M = oN o (den cf 92 35 L st M) (den cf 92 42 L st M) := den_nn l_92_32
theorem e_92_32_n : den cf 92 32 L (.null :: st) M = den cf 92 35 L st M := den_go l_92_32 rfl
theorem e_92_32_r : den cf 92 32 L (.ref a :: st) M = den cf 92 42 L st M := den_go l_92_32 rfl
theorem l_92_35 : look (tab 92) 35 = some (.aload_n 0, 1, [], uu) := by decide +kernel
theorem e_92_35 : den cf 92 35 [.ref a, v1, v2, v3] st M = den cf 92 36 [.ref a, v1, v2, v3] (.ref a :: st) M := den_go l_92_35 rfl
theorem l_92_36 : look (tab 92) 36 = some (.bipush (-5), 2, [], .int (zI (-5))) := by decide +kernel
theorem e_92_36 : den cf 92 36 L st M = den cf 92 38 L (.int (zI (-5)) :: st) M := den_go l_92_36 rfl
theorem l_92_38 : look (tab 92) 38 = some (.invokevirtual 59, 3, [5, 128, 2, 113, 114, 115, 2], uu) := by decide +kernel
theorem e_92_38 : den cf 92 38 L (w1 :: .ref a :: st) M = if rcv M 5 [.ref a, w1] = true ∧ st.length ≤ 4 then rK (cf 128 [.ref a, w1] M) (fun v M' => den cf 92 41 L (pR v st) M') else none := den_iv [w1] l_92_38 rfl
theorem l_92_41 : look (tab 92) 41 = some (.ireturn, 1, [0], uu) := by decide +kernel
theorem e_92_41 : den cf 92 41 L [.int x] M = some (some (.int x), M) := den_e0 l_92_41
theorem l_92_42 : look (tab 92) 42 = some (.iload_n 2, 1, [], uu) := by decide +kernel
theorem e_92_42 : den cf 92 42 [v0, v1, .int x, v3] st M = den cf 92 43 [v0, v1, .int x, v3] (.int x :: st) M := den_go l_92_42 rfl
theorem l_92_43 : look (tab 92) 43 = some (.ifCond .ne 18, 3, [61], uu) := by decide +kernel
theorem e_92_43 : den cf 92 43 L (.int x :: st) M = if x = zI 0 then den cf 92 46 L st M else den cf 92 61 L st M := den_if_ne l_92_43
theorem l_92_46 : look (tab 92) 46 = some (.aload_n 0, 1, [], uu) := by decide +kernel
theorem e_92_46 : den cf 92 46 [.ref a, v1, v2, v3] st M = den cf 92 47 [.ref a, v1, v2, v3] (.ref a :: st) M := den_go l_92_46 rfl
theorem l_92_47 : look (tab 92) 47 = some (.getfield 10, 3, [5, 0, 16], uu) := by decide +kernel
theorem e_92_47 : den cf 92 47 L (.ref a :: st) M = oK (gfA (M.2.2 a) 5 0) (fun v => den cf 92 50 L (v :: st) M) := den_gf l_92_47
theorem l_92_50 : look (tab 92) 50 = some (.aload_n 3, 1, [], uu) := by decide +kernel
theorem e_92_50 : den cf 92 50 [v0, v1, v2, v3] st M = if isRf v3 = true then den cf 92 51 [v0, v1, v2, v3] (v3 :: st) M else none := den_g l_92_50 rfl
theorem l_92_51 : look (tab 92) 51 = some (.aload_n 3, 1, [], uu) := by decide +kernel
theorem e_92_51 : den cf 92 51 [v0, v1, v2, v3] st M = if isRf v3 = true then den cf 92 52 [v0, v1, v2, v3] (v3 :: st) M else none := den_g l_92_51 rfl
theorem l_92_52 : look (tab 92) 52 = some (.getfield 127, 3, [1, 6, 237], uu) := by decide +kernel
theorem e_92_52 : den cf 92 52 L (.ref a :: st) M = oK (gfA (M.2.2 a) 1 6) (fun v => den cf 92 55 L (v :: st) M) := den_gf l_92_52
theorem l_92_55 : look (tab 92) 55 = some (.invokevirtual 131, 3, [2, 27, 3, 241, 242, 243, 15], uu) := by decide +kernel
theorem e_92_55 : den cf 92 55 L (w2 :: w1 :: .ref a :: st) M = if rcv M 2 [.ref a, w1, w2] = true ∧ st.length ≤ 4 then rK (cf 27 [.ref a, w1, w2] M) (fun v M' => den cf 92 58 L (pR v st) M') else none := den_iv [w1, w2] l_92_55 rfl
theorem l_92_58 : look (tab 92) 58 = some (.goto 15, 3, [73], uu) := by decide +kernel
theorem e_92_58 : den cf 92 58 L st M = den cf 92 73 L st M := den_go l_92_58 rfl
theorem l_92_61 : look (tab 92) 61 = some (.aload_n 0, 1, [], uu) := by decide +kernel
theorem e_92_61 : den cf 92 61 [.ref a, v1, v2, v3] st M = den cf 92 62 [.ref a, v1, v2, v3] (.ref a :: st) M := den_go l_92_61 rfl
theorem l_92_62 : look (tab 92) 62 = some (.getfield 10, 3, [5, 0, 16], uu) := by decide +kernel
theorem e_92_62 : den cf 92 62 L (.ref a :: st) M = oK (gfA (M.2.2 a) 5 0) (fun v => den cf 92 65 L (v :: st) M) := den_gf l_92_62
theorem l_92_65 : look (tab 92) 65 = some (.aload_n 3, 1, [], uu) := by decide +kernel
theorem e_92_65 : den cf 92 65 [v0, v1, v2, v3] st M = if isRf v3 = true then den cf 92 66 [v0, v1, v2, v3] (v3 :: st) M else none := den_g l_92_65 rfl
theorem l_92_66 : look (tab 92) 66 = some (.aload_n 3, 1, [], uu) := by decide +kernel
theorem e_92_66 : den cf 92 66 [v0, v1, v2, v3] st M = if isRf v3 = true then den cf 92 67 [v0, v1, v2, v3] (v3 :: st) M else none := den_g l_92_66 rfl
theorem l_92_67 : look (tab 92) 67 = some (.getfield 127, 3, [1, 6, 237], uu) := by decide +kernel
theorem e_92_67 : den cf 92 67 L (.ref a :: st) M = oK (gfA (M.2.2 a) 1 6) (fun v => den cf 92 70 L (v :: st) M) := den_gf l_92_67
theorem l_92_70 : look (tab 92) 70 = some (.invokevirtual 135, 3, [2, 29, 3, 272, 273, 274, 15], uu) := by decide +kernel
theorem e_92_70 : den cf 92 70 L (w2 :: w1 :: .ref a :: st) M = if rcv M 2 [.ref a, w1, w2] = true ∧ st.length ≤ 4 then rK (cf 29 [.ref a, w1, w2] M) (fun v M' => den cf 92 73 L (pR v st) M') else none := den_iv [w1, w2] l_92_70 rfl
theorem l_92_73 : look (tab 92) 73 = some (.ireturn, 1, [0], uu) := by decide +kernel
theorem e_92_73 : den cf 92 73 L [.int x] M = some (some (.int x), M) := den_e0 l_92_73
/-! yX5_over -/
theorem l_93_0 : look (tab 93) 0 = some (.aload_n 0, 1, [], uu) := by decide +kernel
theorem e_93_0 : den cf 93 0 [.ref a, v1, v2] st M = den cf 93 1 [.ref a, v1, v2] (.ref a :: st) M := den_go l_93_0 rfl
theorem l_93_1 : look (tab 93) 1 = some (.getfield 10, 3, [5, 0, 16], uu) := by decide +kernel
theorem e_93_1 : den cf 93 1 L (.ref a :: st) M = oK (gfA (M.2.2 a) 5 0) (fun v => den cf 93 4 L (v :: st) M) := den_gf l_93_1
theorem l_93_4 : look (tab 93) 4 = some (.iload_n 1, 1, [], uu) := by decide +kernel
theorem e_93_4 : den cf 93 4 [v0, .int x, v2] st M = den cf 93 5 [v0, .int x, v2] (.int x :: st) M := den_go l_93_4 rfl
theorem l_93_5 : look (tab 93) 5 = some (.invokevirtual 105, 3, [2, 24, 2, 209, 210, 211, 15], uu) := by decide +kernel
theorem e_93_5 : den cf 93 5 L (w1 :: .ref a :: st) M = if rcv M 2 [.ref a, w1] = true ∧ st.length ≤ 4 then rK (cf 24 [.ref a, w1] M) (fun v M' => den cf 93 8 L (pR v st) M') else none := den_iv [w1] l_93_5 rfl
theorem l_93_8 : look (tab 93) 8 = some (.astore_n 2, 1, [], uu) := by decide +kernel
theorem e_93_8 : den cf 93 8 [v0, v1, v2] (v :: st) M = if isRf v = true then den cf 93 9 [v0, kq v1, v] st M else none := den_as (k := 2) (v := v) l_93_8 rfl (Nat.le_of_ble_eq_true rfl)
theorem l_93_9 : look (tab 93) 9 = some (.aload_n 2, 1, [], uu) := by decide +kernel
theorem e_93_9 : den cf 93 9 [v0, v1, v2] st M = if isRf v2 = true then den cf 93 10 [v0, v1, v2] (v2 :: st) M else none := den_g l_93_9 rfl
theorem l_93_10 : look (tab 93) 10 = some (.ifnonnull 10, 3, [20], uu) := by decide +kernel
theorem e_93_10 : den cf 93 10 L (va_rf o :: st) M = oN o (den cf 93 13 L st M) (den cf 93 20 L st M) := den_nn l_93_10
theorem e_93_10_n : den cf 93 10 L (.null :: st) M = den cf 93 13 L st M := den_go l_93_10 rfl
theorem e_93_10_r : den cf 93 10 L (.ref a :: st) M = den cf 93 20 L st M := den_go l_93_10 rfl
theorem l_93_13 : look (tab 93) 13 = some (.aload_n 0, 1, [], uu) := by decide +kernel
theorem e_93_13 : den cf 93 13 [.ref a, v1, v2] st M = den cf 93 14 [.ref a, v1, v2] (.ref a :: st) M := den_go l_93_13 rfl
theorem l_93_14 : look (tab 93) 14 = some (.bipush (-2), 2, [], .int (zI (-2))) := by decide +kernel
theorem e_93_14 : den cf 93 14 L st M = den cf 93 16 L (.int (zI (-2)) :: st) M := den_go l_93_14 rfl
theorem l_93_16 : look (tab 93) 16 = some (.invokevirtual 59, 3, [5, 128, 2, 113, 114, 115, 2], uu) := by decide +kernel
theorem e_93_16 : den cf 93 16 L (w1 :: .ref a :: st) M = if rcv M 5 [.ref a, w1] = true ∧ st.length ≤ 4 then rK (cf 128 [.ref a, w1] M) (fun v M' => den cf 93 19 L (pR v st) M') else none := den_iv [w1] l_93_16 rfl
theorem l_93_19 : look (tab 93) 19 = some (.ireturn, 1, [0], uu) := by decide +kernel
theorem e_93_19 : den cf 93 19 L [.int x] M = some (some (.int x), M) := den_e0 l_93_19
theorem l_93_20 : look (tab 93) 20 = some (.aload_n 2, 1, [], uu) := by decide +kernel
theorem e_93_20 : den cf 93 20 [v0, v1, v2] st M = if isRf v2 = true then den cf 93 21 [v0, v1, v2] (v2 :: st) M else none := den_g l_93_20 rfl
theorem l_93_21 : look (tab 93) 21 = some (.getfield 127, 3, [1, 6, 237], uu) := by decide +kernel
theorem e_93_21 : den cf 93 21 L (.ref a :: st) M = oK (gfA (M.2.2 a) 1 6) (fun v => den cf 93 24 L (v :: st) M) := den_gf l_93_21
theorem l_93_24 : look (tab 93) 24 = some (.ifnonnull 10, 3, [34], uu) := by decide +kernel
theorem e_93_24 : den cf 93 24 L (va_rf o :: st) M = oN o (den cf 93 27 L st M) (den cf 93 34 L st M) := den_nn l_93_24
theorem e_93_24_n : den cf 93 24 L (.null :: st) M = den cf 93 27 L st M := den_go l_93_24 rfl
theorem e_93_24_r : den cf 93 24 L (.ref a :: st) M = den cf 93 34 L st M := den_go l_93_24 rfl
theorem l_93_27 : look (tab 93) 27 = some (.aload_n 0, 1, [], uu) := by decide +kernel
theorem e_93_27 : den cf 93 27 [.ref a, v1, v2] st M = den cf 93 28 [.ref a, v1, v2] (.ref a :: st) M := den_go l_93_27 rfl
theorem l_93_28 : look (tab 93) 28 = some (.bipush (-5), 2, [], .int (zI (-5))) := by decide +kernel
theorem e_93_28 : den cf 93 28 L st M = den cf 93 30 L (.int (zI (-5)) :: st) M := den_go l_93_28 rfl
theorem l_93_30 : look (tab 93) 30 = some (.invokevirtual 59, 3, [5, 128, 2, 113, 114, 115, 2], uu) := by decide +kernel
theorem e_93_30 : den cf 93 30 L (w1 :: .ref a :: st) M = if rcv M 5 [.ref a, w1] = true ∧ st.length ≤ 4 then rK (cf 128 [.ref a, w1] M) (fun v M' => den cf 93 33 L (pR v st) M') else none := den_iv [w1] l_93_30 rfl
theorem l_93_33 : look (tab 93) 33 = some (.ireturn, 1, [0], uu) := by decide +kernel
theorem e_93_33 : den cf 93 33 L [.int x] M = some (some (.int x), M) := den_e0 l_93_33
theorem l_93_34 : look (tab 93) 34 = some (.aload_n 0, 1, [], uu) := by decide +kernel
theorem e_93_34 : den cf 93 34 [.ref a, v1, v2] st M = den cf 93 35 [.ref a, v1, v2] (.ref a :: st) M := den_go l_93_34 rfl
theorem l_93_35 : look (tab 93) 35 = some (.getfield 10, 3, [5, 0, 16], uu) := by decide +kernel
theorem e_93_35 : den cf 93 35 L (.ref a :: st) M = oK (gfA (M.2.2 a) 5 0) (fun v => den cf 93 38 L (v :: st) M) := den_gf l_93_35
theorem l_93_38 : look (tab 93) 38 = some (.aload_n 2, 1, [], uu) := by decide +kernel
theorem e_93_38 : den cf 93 38 [v0, v1, v2] st M = if isRf v2 = true then den cf 93 39 [v0, v1, v2] (v2 :: st) M else none := den_g l_93_38 rfl
theorem l_93_39 : look (tab 93) 39 = some (.invokevirtual 200, 3, [2, 32, 2, 661, 662, 663, 15], uu) := by decide +kernel
theorem e_93_39 : den cf 93 39 L (w1 :: .ref a :: st) M = if rcv M 2 [.ref a, w1] = true ∧ st.length ≤ 4 then rK (cf 32 [.ref a, w1] M) (fun v M' => den cf 93 42 L (pR v st) M') else none := den_iv [w1] l_93_39 rfl
theorem l_93_42 : look (tab 93) 42 = some (.ifCond .eq 7, 3, [49], uu) := by decide +kernel
theorem e_93_42 : den cf 93 42 L (.int x :: st) M = if x = zI 0 then den cf 93 49 L st M else den cf 93 45 L st M := den_if_eq l_93_42
theorem l_93_45 : look (tab 93) 45 = some (.iconst 1, 1, [], .int (zI 1)) := by decide +kernel
theorem e_93_45 : den cf 93 45 L st M = den cf 93 46 L (.int (zI 1) :: st) M := den_go l_93_45 rfl
theorem l_93_46 : look (tab 93) 46 = some (.goto 4, 3, [50], uu) := by decide +kernel
theorem e_93_46 : den cf 93 46 L st M = den cf 93 50 L st M := den_go l_93_46 rfl
theorem l_93_49 : look (tab 93) 49 = some (.iconst 0, 1, [], .int (zI 0)) := by decide +kernel
theorem e_93_49 : den cf 93 49 L st M = den cf 93 50 L (.int (zI 0) :: st) M := den_go l_93_49 rfl
theorem l_93_50 : look (tab 93) 50 = some (.ireturn, 1, [0], uu) := by decide +kernel
theorem e_93_50 : den cf 93 50 L [.int x] M = some (some (.int x), M) := den_e0 l_93_50
/-! yX5_still -/
theorem l_94_0 : look (tab 94) 0 = some (.aload_n 0, 1, [], uu) := by decide +kernel
theorem e_94_0 : den cf 94 0 [.ref a, v1, v2, v3] st M = den cf 94 1 [.ref a, v1, v2, v3] (.ref a :: st) M := den_go l_94_0 rfl
theorem l_94_1 : look (tab 94) 1 = some (.getfield 10, 3, [5, 0, 16], uu) := by decide +kernel
theorem e_94_1 : den cf 94 1 L (.ref a :: st) M = oK (gfA (M.2.2 a) 5 0) (fun v => den cf 94 4 L (v :: st) M) := den_gf l_94_1
theorem l_94_4 : look (tab 94) 4 = some (.iload_n 1, 1, [], uu) := by decide +kernel
theorem e_94_4 : den cf 94 4 [v0, .int x, v2, v3] st M = den cf 94 5 [v0, .int x, v2, v3] (.int x :: st) M := den_go l_94_4 rfl
theorem l_94_5 : look (tab 94) 5 = some (.invokevirtual 105, 3, [2, 24, 2, 209, 210, 211, 15], uu) := by decide +kernel
theorem e_94_5 : den cf 94 5 L (w1 :: .ref a :: st) M = if rcv M 2 [.ref a, w1] = true ∧ st.length ≤ 4 then rK (cf 24 [.ref a, w1] M) (fun v M' => den cf 94 8 L (pR v st) M') else none := den_iv [w1] l_94_5 rfl
theorem l_94_8 : look (tab 94) 8 = some (.astore_n 3, 1, [], uu) := by decide +kernel
theorem e_94_8 : den cf 94 8 [v0, v1, v2, v3] (v :: st) M = if isRf v = true then den cf 94 9 [v0, v1, kq v2, v] st M else none := den_as (k := 3) (v := v) l_94_8 rfl (Nat.le_of_ble_eq_true rfl)
theorem l_94_9 : look (tab 94) 9 = some (.aload_n 3, 1, [], uu) := by decide +kernel
theorem e_94_9 : den cf 94 9 [v0, v1, v2, v3] st M = if isRf v3 = true then den cf 94 10 [v0, v1, v2, v3] (v3 :: st) M else none := den_g l_94_9 rfl
theorem l_94_10 : look (tab 94) 10 = some (.ifnull 12, 3, [22], uu) := by decide +kernel
theorem e_94_10 : den cf 94 10 L (va_rf o :: st) M = oN o (den cf 94 22 L st M) (den cf 94 13 L st M) := den_nu l_94_10
theorem e_94_10_n : den cf 94 10 L (.null :: st) M = den cf 94 22 L st M := den_go l_94_10 rfl
theorem e_94_10_r : den cf 94 10 L (.ref a :: st) M = den cf 94 13 L st M := den_go l_94_10 rfl
theorem l_94_13 : look (tab 94) 13 = some (.iload_n 2, 1, [], uu) := by decide +kernel
theorem e_94_13 : den cf 94 13 [v0, v1, .int x, v3] st M = den cf 94 14 [v0, v1, .int x, v3] (.int x :: st) M := den_go l_94_13 rfl
theorem l_94_14 : look (tab 94) 14 = some (.bipush 12, 2, [], .int (zI 12)) := by decide +kernel
theorem e_94_14 : den cf 94 14 L st M = den cf 94 16 L (.int (zI 12) :: st) M := den_go l_94_14 rfl
theorem l_94_16 : look (tab 94) 16 = some (.invokestatic 55, 3, [1, 129, 2, 110, 111, 2], uu) := by decide +kernel
theorem e_94_16 : den cf 94 16 L (w2 :: w1 :: st) M = if st.length ≤ 4 then rK (cf 129 [w1, w2] M) (fun v M' => den cf 94 19 L (pR v st) M') else none := den_ist [w1, w2] l_94_16 rfl
theorem l_94_19 : look (tab 94) 19 = some (.ifCond .ne 10, 3, [29], uu) := by decide +kernel
theorem e_94_19 : den cf 94 19 L (.int x :: st) M = if x = zI 0 then den cf 94 22 L st M else den cf 94 29 L st M := den_if_ne l_94_19
theorem l_94_22 : look (tab 94) 22 = some (.aload_n 0, 1, [], uu) := by decide +kernel
theorem e_94_22 : den cf 94 22 [.ref a, v1, v2, v3] st M = den cf 94 23 [.ref a, v1, v2, v3] (.ref a :: st) M := den_go l_94_22 rfl
theorem l_94_23 : look (tab 94) 23 = some (.bipush (-2), 2, [], .int (zI (-2))) := by decide +kernel
theorem e_94_23 : den cf 94 23 L st M = den cf 94 25 L (.int (zI (-2)) :: st) M := den_go l_94_23 rfl
theorem l_94_25 : look (tab 94) 25 = some (.invokevirtual 59, 3, [5, 128, 2, 113, 114, 115, 2], uu) := by decide +kernel
theorem e_94_25 : den cf 94 25 L (w1 :: .ref a :: st) M = if rcv M 5 [.ref a, w1] = true ∧ st.length ≤ 4 then rK (cf 128 [.ref a, w1] M) (fun v M' => den cf 94 28 L (pR v st) M') else none := den_iv [w1] l_94_25 rfl
theorem l_94_28 : look (tab 94) 28 = some (.ireturn, 1, [0], uu) := by decide +kernel
theorem e_94_28 : den cf 94 28 L [.int x] M = some (some (.int x), M) := den_e0 l_94_28
theorem l_94_29 : look (tab 94) 29 = some (.aload_n 3, 1, [], uu) := by decide +kernel
theorem e_94_29 : den cf 94 29 [v0, v1, v2, v3] st M = if isRf v3 = true then den cf 94 30 [v0, v1, v2, v3] (v3 :: st) M else none := den_g l_94_29 rfl
theorem l_94_30 : look (tab 94) 30 = some (.getfield 127, 3, [1, 6, 237], uu) := by decide +kernel
theorem e_94_30 : den cf 94 30 L (.ref a :: st) M = oK (gfA (M.2.2 a) 1 6) (fun v => den cf 94 33 L (v :: st) M) := den_gf l_94_30
theorem l_94_33 : look (tab 94) 33 = some (.ifnonnull 10, 3, [43], uu) := by decide +kernel
theorem e_94_33 : den cf 94 33 L (va_rf o :: st) M = oN o (den cf 94 36 L st M) (den cf 94 43 L st M) := den_nn l_94_33
theorem e_94_33_n : den cf 94 33 L (.null :: st) M = den cf 94 36 L st M := den_go l_94_33 rfl
theorem e_94_33_r : den cf 94 33 L (.ref a :: st) M = den cf 94 43 L st M := den_go l_94_33 rfl
theorem l_94_36 : look (tab 94) 36 = some (.aload_n 0, 1, [], uu) := by decide +kernel
theorem e_94_36 : den cf 94 36 [.ref a, v1, v2, v3] st M = den cf 94 37 [.ref a, v1, v2, v3] (.ref a :: st) M := den_go l_94_36 rfl
theorem l_94_37 : look (tab 94) 37 = some (.bipush (-5), 2, [], .int (zI (-5))) := by decide +kernel
theorem e_94_37 : den cf 94 37 L st M = den cf 94 39 L (.int (zI (-5)) :: st) M := den_go l_94_37 rfl
theorem l_94_39 : look (tab 94) 39 = some (.invokevirtual 59, 3, [5, 128, 2, 113, 114, 115, 2], uu) := by decide +kernel
theorem e_94_39 : den cf 94 39 L (w1 :: .ref a :: st) M = if rcv M 5 [.ref a, w1] = true ∧ st.length ≤ 4 then rK (cf 128 [.ref a, w1] M) (fun v M' => den cf 94 42 L (pR v st) M') else none := den_iv [w1] l_94_39 rfl
theorem l_94_42 : look (tab 94) 42 = some (.ireturn, 1, [0], uu) := by decide +kernel
theorem e_94_42 : den cf 94 42 L [.int x] M = some (some (.int x), M) := den_e0 l_94_42
theorem l_94_43 : look (tab 94) 43 = some (.aload_n 0, 1, [], uu) := by decide +kernel
theorem e_94_43 : den cf 94 43 [.ref a, v1, v2, v3] st M = den cf 94 44 [.ref a, v1, v2, v3] (.ref a :: st) M := den_go l_94_43 rfl
theorem l_94_44 : look (tab 94) 44 = some (.getfield 10, 3, [5, 0, 16], uu) := by decide +kernel
theorem e_94_44 : den cf 94 44 L (.ref a :: st) M = oK (gfA (M.2.2 a) 5 0) (fun v => den cf 94 47 L (v :: st) M) := den_gf l_94_44
theorem l_94_47 : look (tab 94) 47 = some (.aload_n 3, 1, [], uu) := by decide +kernel
theorem e_94_47 : den cf 94 47 [v0, v1, v2, v3] st M = if isRf v3 = true then den cf 94 48 [v0, v1, v2, v3] (v3 :: st) M else none := den_g l_94_47 rfl
theorem l_94_48 : look (tab 94) 48 = some (.iload_n 2, 1, [], uu) := by decide +kernel
theorem e_94_48 : den cf 94 48 [v0, v1, .int x, v3] st M = den cf 94 49 [v0, v1, .int x, v3] (.int x :: st) M := den_go l_94_48 rfl
theorem l_94_49 : look (tab 94) 49 = some (.invokevirtual 204, 3, [2, 33, 3, 686, 687, 688, 15], uu) := by decide +kernel
theorem e_94_49 : den cf 94 49 L (w2 :: w1 :: .ref a :: st) M = if rcv M 2 [.ref a, w1, w2] = true ∧ st.length ≤ 4 then rK (cf 33 [.ref a, w1, w2] M) (fun v M' => den cf 94 52 L (pR v st) M') else none := den_iv [w1, w2] l_94_49 rfl
theorem l_94_52 : look (tab 94) 52 = some (.ireturn, 1, [0], uu) := by decide +kernel
theorem e_94_52 : den cf 94 52 L [.int x] M = some (some (.int x), M) := den_e0 l_94_52
/-! yX5_again -/
theorem l_95_0 : look (tab 95) 0 = some (.aload_n 0, 1, [], uu) := by decide +kernel
theorem e_95_0 : den cf 95 0 [.ref a, v1, v2, v3, v4] st M = den cf 95 1 [.ref a, v1, v2, v3, v4] (.ref a :: st) M := den_go l_95_0 rfl
theorem l_95_1 : look (tab 95) 1 = some (.getfield 10, 3, [5, 0, 16], uu) := by decide +kernel
theorem e_95_1 : den cf 95 1 L (.ref a :: st) M = oK (gfA (M.2.2 a) 5 0) (fun v => den cf 95 4 L (v :: st) M) := den_gf l_95_1
theorem l_95_4 : look (tab 95) 4 = some (.iload_n 1, 1, [], uu) := by decide +kernel
theorem e_95_4 : den cf 95 4 [v0, .int x, v2, v3, v4] st M = den cf 95 5 [v0, .int x, v2, v3, v4] (.int x :: st) M := den_go l_95_4 rfl
theorem l_95_5 : look (tab 95) 5 = some (.invokevirtual 105, 3, [2, 24, 2, 209, 210, 211, 15], uu) := by decide +kernel
theorem e_95_5 : den cf 95 5 L (w1 :: .ref a :: st) M = if rcv M 2 [.ref a, w1] = true ∧ st.length ≤ 4 then rK (cf 24 [.ref a, w1] M) (fun v M' => den cf 95 8 L (pR v st) M') else none := den_iv [w1] l_95_5 rfl
theorem l_95_8 : look (tab 95) 8 = some (.astore_n 3, 1, [], uu) := by decide +kernel
theorem e_95_8 : den cf 95 8 [v0, v1, v2, v3, v4] (v :: st) M = if isRf v = true then den cf 95 9 [v0, v1, kq v2, v, v4] st M else none := den_as (k := 3) (v := v) l_95_8 rfl (Nat.le_of_ble_eq_true rfl)
theorem l_95_9 : look (tab 95) 9 = some (.aload_n 3, 1, [], uu) := by decide +kernel
theorem e_95_9 : den cf 95 9 [v0, v1, v2, v3, v4] st M = if isRf v3 = true then den cf 95 10 [v0, v1, v2, v3, v4] (v3 :: st) M else none := den_g l_95_9 rfl
theorem l_95_10 : look (tab 95) 10 = some (.ifnull 12, 3, [22], uu) := by decide +kernel
theorem e_95_10 : den cf 95 10 L (va_rf o :: st) M = oN o (den cf 95 22 L st M) (den cf 95 13 L st M) := den_nu l_95_10
theorem e_95_10_n : den cf 95 10 L (.null :: st) M = den cf 95 22 L st M := den_go l_95_10 rfl
theorem e_95_10_r : den cf 95 10 L (.ref a :: st) M = den cf 95 13 L st M := den_go l_95_10 rfl
theorem l_95_13 : look (tab 95) 13 = some (.iload_n 2, 1, [], uu) := by decide +kernel
theorem e_95_13 : den cf 95 13 [v0, v1, .int x, v3, v4] st M = den cf 95 14 [v0, v1, .int x, v3, v4] (.int x :: st) M := den_go l_95_13 rfl
theorem l_95_14 : look (tab 95) 14 = some (.ldc 208, 2, [709], .int (zI 1000000)) := by decide +kernel
theorem e_95_14 : den cf 95 14 L st M = den cf 95 16 L (.int (zI 1000000) :: st) M := den_go l_95_14 rfl
theorem l_95_16 : look (tab 95) 16 = some (.invokestatic 55, 3, [1, 129, 2, 110, 111, 2], uu) := by decide +kernel
theorem e_95_16 : den cf 95 16 L (w2 :: w1 :: st) M = if st.length ≤ 4 then rK (cf 129 [w1, w2] M) (fun v M' => den cf 95 19 L (pR v st) M') else none := den_ist [w1, w2] l_95_16 rfl
theorem l_95_19 : look (tab 95) 19 = some (.ifCond .ne 10, 3, [29], uu) := by decide +kernel
theorem e_95_19 : den cf 95 19 L (.int x :: st) M = if x = zI 0 then den cf 95 22 L st M else den cf 95 29 L st M := den_if_ne l_95_19
theorem l_95_22 : look (tab 95) 22 = some (.aload_n 0, 1, [], uu) := by decide +kernel
theorem e_95_22 : den cf 95 22 [.ref a, v1, v2, v3, v4] st M = den cf 95 23 [.ref a, v1, v2, v3, v4] (.ref a :: st) M := den_go l_95_22 rfl
theorem l_95_23 : look (tab 95) 23 = some (.bipush (-2), 2, [], .int (zI (-2))) := by decide +kernel
theorem e_95_23 : den cf 95 23 L st M = den cf 95 25 L (.int (zI (-2)) :: st) M := den_go l_95_23 rfl
theorem l_95_25 : look (tab 95) 25 = some (.invokevirtual 59, 3, [5, 128, 2, 113, 114, 115, 2], uu) := by decide +kernel
theorem e_95_25 : den cf 95 25 L (w1 :: .ref a :: st) M = if rcv M 5 [.ref a, w1] = true ∧ st.length ≤ 4 then rK (cf 128 [.ref a, w1] M) (fun v M' => den cf 95 28 L (pR v st) M') else none := den_iv [w1] l_95_25 rfl
theorem l_95_28 : look (tab 95) 28 = some (.ireturn, 1, [0], uu) := by decide +kernel
theorem e_95_28 : den cf 95 28 L [.int x] M = some (some (.int x), M) := den_e0 l_95_28
theorem l_95_29 : look (tab 95) 29 = some (.aload_n 3, 1, [], uu) := by decide +kernel
theorem e_95_29 : den cf 95 29 [v0, v1, v2, v3, v4] st M = if isRf v3 = true then den cf 95 30 [v0, v1, v2, v3, v4] (v3 :: st) M else none := den_g l_95_29 rfl
theorem l_95_30 : look (tab 95) 30 = some (.getfield 127, 3, [1, 6, 237], uu) := by decide +kernel
theorem e_95_30 : den cf 95 30 L (.ref a :: st) M = oK (gfA (M.2.2 a) 1 6) (fun v => den cf 95 33 L (v :: st) M) := den_gf l_95_30
theorem l_95_33 : look (tab 95) 33 = some (.ifnonnull 10, 3, [43], uu) := by decide +kernel
theorem e_95_33 : den cf 95 33 L (va_rf o :: st) M = oN o (den cf 95 36 L st M) (den cf 95 43 L st M) := den_nn l_95_33
theorem e_95_33_n : den cf 95 33 L (.null :: st) M = den cf 95 36 L st M := den_go l_95_33 rfl
theorem e_95_33_r : den cf 95 33 L (.ref a :: st) M = den cf 95 43 L st M := den_go l_95_33 rfl
theorem l_95_36 : look (tab 95) 36 = some (.aload_n 0, 1, [], uu) := by decide +kernel
theorem e_95_36 : den cf 95 36 [.ref a, v1, v2, v3, v4] st M = den cf 95 37 [.ref a, v1, v2, v3, v4] (.ref a :: st) M := den_go l_95_36 rfl
theorem l_95_37 : look (tab 95) 37 = some (.bipush (-5), 2, [], .int (zI (-5))) := by decide +kernel
theorem e_95_37 : den cf 95 37 L st M = den cf 95 39 L (.int (zI (-5)) :: st) M := den_go l_95_37 rfl
theorem l_95_39 : look (tab 95) 39 = some (.invokevirtual 59, 3, [5, 128, 2, 113, 114, 115, 2], uu) := by decide +kernel
theorem e_95_39 : den cf 95 39 L (w1 :: .ref a :: st) M = if rcv M 5 [.ref a, w1] = true ∧ st.length ≤ 4 then rK (cf 128 [.ref a, w1] M) (fun v M' => den cf 95 42 L (pR v st) M') else none := den_iv [w1] l_95_39 rfl
theorem l_95_42 : look (tab 95) 42 = some (.ireturn, 1, [0], uu) := by decide +kernel
theorem e_95_42 : den cf 95 42 L [.int x] M = some (some (.int x), M) := den_e0 l_95_42
theorem l_95_43 : look (tab 95) 43 = some (.iconst 1, 1, [], .int (zI 1)) := by decide +kernel
theorem e_95_43 : den cf 95 43 L st M = den cf 95 44 L (.int (zI 1) :: st) M := den_go l_95_43 rfl
theorem l_95_44 : look (tab 95) 44 = some (.istore 4, 2, [], uu) := by decide +kernel
theorem e_95_44 : den cf 95 44 [v0, v1, v2, v3, v4] (.int x :: st) M = den cf 95 46 [v0, v1, v2, kq v3, .int x] st M := den_st (k := 4) (v := .int x) l_95_44 rfl
theorem l_95_46 : look (tab 95) 46 = some (.iload 4, 2, [], uu) := by decide +kernel
theorem e_95_46 : den cf 95 46 [v0, v1, v2, v3, .int x] st M = den cf 95 48 [v0, v1, v2, v3, .int x] (.int x :: st) M := den_go l_95_46 rfl
theorem l_95_48 : look (tab 95) 48 = some (.bipush 12, 2, [], .int (zI 12)) := by decide +kernel
theorem e_95_48 : den cf 95 48 L st M = den cf 95 50 L (.int (zI 12) :: st) M := den_go l_95_48 rfl
theorem l_95_50 : look (tab 95) 50 = some (.if_icmp .gt 26, 3, [76], uu) := by decide +kernel
theorem e_95_50 : den cf 95 50 L (.int y :: .int x :: st) M = if y < x then den cf 95 76 L st M else den cf 95 53 L st M := den_ic_gt l_95_50
theorem l_95_53 : look (tab 95) 53 = some (.aload_n 0, 1, [], uu) := by decide +kernel
theorem e_95_53 : den cf 95 53 [.ref a, v1, v2, v3, v4] st M = den cf 95 54 [.ref a, v1, v2, v3, v4] (.ref a :: st) M := den_go l_95_53 rfl
theorem l_95_54 : look (tab 95) 54 = some (.getfield 10, 3, [5, 0, 16], uu) := by decide +kernel
theorem e_95_54 : den cf 95 54 L (.ref a :: st) M = oK (gfA (M.2.2 a) 5 0) (fun v => den cf 95 57 L (v :: st) M) := den_gf l_95_54
theorem l_95_57 : look (tab 95) 57 = some (.aload_n 3, 1, [], uu) := by decide +kernel
theorem e_95_57 : den cf 95 57 [v0, v1, v2, v3, v4] st M = if isRf v3 = true then den cf 95 58 [v0, v1, v2, v3, v4] (v3 :: st) M else none := den_g l_95_57 rfl
theorem l_95_58 : look (tab 95) 58 = some (.iload 4, 2, [], uu) := by decide +kernel
theorem e_95_58 : den cf 95 58 [v0, v1, v2, v3, .int x] st M = den cf 95 60 [v0, v1, v2, v3, .int x] (.int x :: st) M := den_go l_95_58 rfl
theorem l_95_60 : look (tab 95) 60 = some (.invokevirtual 204, 3, [2, 33, 3, 686, 687, 688, 15], uu) := by decide +kernel
theorem e_95_60 : den cf 95 60 L (w2 :: w1 :: .ref a :: st) M = if rcv M 2 [.ref a, w1, w2] = true ∧ st.length ≤ 4 then rK (cf 33 [.ref a, w1, w2] M) (fun v M' => den cf 95 63 L (pR v st) M') else none := den_iv [w1, w2] l_95_60 rfl
theorem l_95_63 : look (tab 95) 63 = some (.iload_n 2, 1, [], uu) := by decide +kernel
theorem e_95_63 : den cf 95 63 [v0, v1, .int x, v3, v4] st M = den cf 95 64 [v0, v1, .int x, v3, v4] (.int x :: st) M := den_go l_95_63 rfl
theorem l_95_64 : look (tab 95) 64 = some (.if_icmp .lt 6, 3, [70], uu) := by decide +kernel
theorem e_95_64 : den cf 95 64 L (.int y :: .int x :: st) M = if x < y then den cf 95 70 L st M else den cf 95 67 L st M := den_ic_lt l_95_64
theorem l_95_67 : look (tab 95) 67 = some (.iload 4, 2, [], uu) := by decide +kernel
theorem e_95_67 : den cf 95 67 [v0, v1, v2, v3, .int x] st M = den cf 95 69 [v0, v1, v2, v3, .int x] (.int x :: st) M := den_go l_95_67 rfl
theorem l_95_69 : look (tab 95) 69 = some (.ireturn, 1, [0], uu) := by decide +kernel
theorem e_95_69 : den cf 95 69 L [.int x] M = some (some (.int x), M) := den_e0 l_95_69
theorem l_95_70 : look (tab 95) 70 = some (.iinc 4 1, 3, [], .int (zI 1)) := by decide +kernel
theorem e_95_70 : den cf 95 70 [v0, v1, v2, v3, .int x] st M = den cf 95 73 [v0, v1, v2, kq v3, .int (x + (zI 1))] st M := den_st (k := 4) (v := .int (x + (zI 1))) l_95_70 rfl
theorem l_95_73 : look (tab 95) 73 = some (.goto (-27), 3, [46], uu) := by decide +kernel
theorem e_95_73 : den cf 95 73 L st M = den cf 95 46 L st M := den_go l_95_73 rfl
theorem l_95_76 : look (tab 95) 76 = some (.iconst (-1), 1, [], .int (zI (-1))) := by decide +kernel
theorem e_95_76 : den cf 95 76 L st M = den cf 95 77 L (.int (zI (-1)) :: st) M := den_go l_95_76 rfl
theorem l_95_77 : look (tab 95) 77 = some (.ireturn, 1, [0], uu) := by decide +kernel
theorem e_95_77 : den cf 95 77 L [.int x] M = some (some (.int x), M) := den_e0 l_95_77
/-! yX5_lost -/
theorem l_96_0 : look (tab 96) 0 = some (.aload_n 0, 1, [], uu) := by decide +kernel
theorem e_96_0 : den cf 96 0 [.ref a, v1, v2, v3] st M = den cf 96 1 [.ref a, v1, v2, v3] (.ref a :: st) M := den_go l_96_0 rfl
theorem l_96_1 : look (tab 96) 1 = some (.getfield 10, 3, [5, 0, 16], uu) := by decide +kernel
theorem e_96_1 : den cf 96 1 L (.ref a :: st) M = oK (gfA (M.2.2 a) 5 0) (fun v => den cf 96 4 L (v :: st) M) := den_gf l_96_1
theorem l_96_4 : look (tab 96) 4 = some (.iload_n 1, 1, [], uu) := by decide +kernel
theorem e_96_4 : den cf 96 4 [v0, .int x, v2, v3] st M = den cf 96 5 [v0, .int x, v2, v3] (.int x :: st) M := den_go l_96_4 rfl
theorem l_96_5 : look (tab 96) 5 = some (.invokevirtual 105, 3, [2, 24, 2, 209, 210, 211, 15], uu) := by decide +kernel
theorem e_96_5 : den cf 96 5 L (w1 :: .ref a :: st) M = if rcv M 2 [.ref a, w1] = true ∧ st.length ≤ 4 then rK (cf 24 [.ref a, w1] M) (fun v M' => den cf 96 8 L (pR v st) M') else none := den_iv [w1] l_96_5 rfl
theorem l_96_8 : look (tab 96) 8 = some (.astore_n 3, 1, [], uu) := by decide +kernel
theorem e_96_8 : den cf 96 8 [v0, v1, v2, v3] (v :: st) M = if isRf v = true then den cf 96 9 [v0, v1, kq v2, v] st M else none := den_as (k := 3) (v := v) l_96_8 rfl (Nat.le_of_ble_eq_true rfl)
theorem l_96_9 : look (tab 96) 9 = some (.aload_n 3, 1, [], uu) := by decide +kernel
theorem e_96_9 : den cf 96 9 [v0, v1, v2, v3] st M = if isRf v3 = true then den cf 96 10 [v0, v1, v2, v3] (v3 :: st) M else none := den_g l_96_9 rfl
theorem l_96_10 : look (tab 96) 10 = some (.ifnull 12, 3, [22], uu) := by decide +kernel
theorem e_96_10 : den cf 96 10 L (va_rf o :: st) M = oN o (den cf 96 22 L st M) (den cf 96 13 L st M) := den_nu l_96_10
theorem e_96_10_n : den cf 96 10 L (.null :: st) M = den cf 96 22 L st M := den_go l_96_10 rfl
theorem e_96_10_r : den cf 96 10 L (.ref a :: st) M = den cf 96 13 L st M := den_go l_96_10 rfl
theorem l_96_13 : look (tab 96) 13 = some (.iload_n 2, 1, [], uu) := by decide +kernel
theorem e_96_13 : den cf 96 13 [v0, v1, .int x, v3] st M = den cf 96 14 [v0, v1, .int x, v3] (.int x :: st) M := den_go l_96_13 rfl
theorem l_96_14 : look (tab 96) 14 = some (.bipush 40, 2, [], .int (zI 40)) := by decide +kernel
theorem e_96_14 : den cf 96 14 L st M = den cf 96 16 L (.int (zI 40) :: st) M := den_go l_96_14 rfl
theorem l_96_16 : look (tab 96) 16 = some (.invokestatic 55, 3, [1, 129, 2, 110, 111, 2], uu) := by decide +kernel
theorem e_96_16 : den cf 96 16 L (w2 :: w1 :: st) M = if st.length ≤ 4 then rK (cf 129 [w1, w2] M) (fun v M' => den cf 96 19 L (pR v st) M') else none := den_ist [w1, w2] l_96_16 rfl
theorem l_96_19 : look (tab 96) 19 = some (.ifCond .ne 10, 3, [29], uu) := by decide +kernel
theorem e_96_19 : den cf 96 19 L (.int x :: st) M = if x = zI 0 then den cf 96 22 L st M else den cf 96 29 L st M := den_if_ne l_96_19
theorem l_96_22 : look (tab 96) 22 = some (.aload_n 0, 1, [], uu) := by decide +kernel
theorem e_96_22 : den cf 96 22 [.ref a, v1, v2, v3] st M = den cf 96 23 [.ref a, v1, v2, v3] (.ref a :: st) M := den_go l_96_22 rfl
theorem l_96_23 : look (tab 96) 23 = some (.bipush (-2), 2, [], .int (zI (-2))) := by decide +kernel
theorem e_96_23 : den cf 96 23 L st M = den cf 96 25 L (.int (zI (-2)) :: st) M := den_go l_96_23 rfl
theorem l_96_25 : look (tab 96) 25 = some (.invokevirtual 59, 3, [5, 128, 2, 113, 114, 115, 2], uu) := by decide +kernel
theorem e_96_25 : den cf 96 25 L (w1 :: .ref a :: st) M = if rcv M 5 [.ref a, w1] = true ∧ st.length ≤ 4 then rK (cf 128 [.ref a, w1] M) (fun v M' => den cf 96 28 L (pR v st) M') else none := den_iv [w1] l_96_25 rfl
theorem l_96_28 : look (tab 96) 28 = some (.ireturn, 1, [0], uu) := by decide +kernel
theorem e_96_28 : den cf 96 28 L [.int x] M = some (some (.int x), M) := den_e0 l_96_28
theorem l_96_29 : look (tab 96) 29 = some (.aload_n 3, 1, [], uu) := by decide +kernel
theorem e_96_29 : den cf 96 29 [v0, v1, v2, v3] st M = if isRf v3 = true then den cf 96 30 [v0, v1, v2, v3] (v3 :: st) M else none := den_g l_96_29 rfl
theorem l_96_30 : look (tab 96) 30 = some (.getfield 127, 3, [1, 6, 237], uu) := by decide +kernel
theorem e_96_30 : den cf 96 30 L (.ref a :: st) M = oK (gfA (M.2.2 a) 1 6) (fun v => den cf 96 33 L (v :: st) M) := den_gf l_96_30
theorem l_96_33 : look (tab 96) 33 = some (.ifnonnull 10, 3, [43], uu) := by decide +kernel
theorem e_96_33 : den cf 96 33 L (va_rf o :: st) M = oN o (den cf 96 36 L st M) (den cf 96 43 L st M) := den_nn l_96_33
theorem e_96_33_n : den cf 96 33 L (.null :: st) M = den cf 96 36 L st M := den_go l_96_33 rfl
theorem e_96_33_r : den cf 96 33 L (.ref a :: st) M = den cf 96 43 L st M := den_go l_96_33 rfl
theorem l_96_36 : look (tab 96) 36 = some (.aload_n 0, 1, [], uu) := by decide +kernel
theorem e_96_36 : den cf 96 36 [.ref a, v1, v2, v3] st M = den cf 96 37 [.ref a, v1, v2, v3] (.ref a :: st) M := den_go l_96_36 rfl
theorem l_96_37 : look (tab 96) 37 = some (.bipush (-5), 2, [], .int (zI (-5))) := by decide +kernel
theorem e_96_37 : den cf 96 37 L st M = den cf 96 39 L (.int (zI (-5)) :: st) M := den_go l_96_37 rfl
theorem l_96_39 : look (tab 96) 39 = some (.invokevirtual 59, 3, [5, 128, 2, 113, 114, 115, 2], uu) := by decide +kernel
theorem e_96_39 : den cf 96 39 L (w1 :: .ref a :: st) M = if rcv M 5 [.ref a, w1] = true ∧ st.length ≤ 4 then rK (cf 128 [.ref a, w1] M) (fun v M' => den cf 96 42 L (pR v st) M') else none := den_iv [w1] l_96_39 rfl
theorem l_96_42 : look (tab 96) 42 = some (.ireturn, 1, [0], uu) := by decide +kernel
theorem e_96_42 : den cf 96 42 L [.int x] M = some (some (.int x), M) := den_e0 l_96_42
theorem l_96_43 : look (tab 96) 43 = some (.aload_n 0, 1, [], uu) := by decide +kernel
theorem e_96_43 : den cf 96 43 [.ref a, v1, v2, v3] st M = den cf 96 44 [.ref a, v1, v2, v3] (.ref a :: st) M := den_go l_96_43 rfl
theorem l_96_44 : look (tab 96) 44 = some (.getfield 10, 3, [5, 0, 16], uu) := by decide +kernel
theorem e_96_44 : den cf 96 44 L (.ref a :: st) M = oK (gfA (M.2.2 a) 5 0) (fun v => den cf 96 47 L (v :: st) M) := den_gf l_96_44
theorem l_96_47 : look (tab 96) 47 = some (.aload_n 3, 1, [], uu) := by decide +kernel
theorem e_96_47 : den cf 96 47 [v0, v1, v2, v3] st M = if isRf v3 = true then den cf 96 48 [v0, v1, v2, v3] (v3 :: st) M else none := den_g l_96_47 rfl
theorem l_96_48 : look (tab 96) 48 = some (.iload_n 2, 1, [], uu) := by decide +kernel
theorem e_96_48 : den cf 96 48 [v0, v1, .int x, v3] st M = den cf 96 49 [v0, v1, .int x, v3] (.int x :: st) M := den_go l_96_48 rfl
theorem l_96_49 : look (tab 96) 49 = some (.invokevirtual 209, 3, [2, 35, 3, 718, 719, 720, 15], uu) := by decide +kernel
theorem e_96_49 : den cf 96 49 L (w2 :: w1 :: .ref a :: st) M = if rcv M 2 [.ref a, w1, w2] = true ∧ st.length ≤ 4 then rK (cf 35 [.ref a, w1, w2] M) (fun v M' => den cf 96 52 L (pR v st) M') else none := den_iv [w1, w2] l_96_49 rfl
theorem l_96_52 : look (tab 96) 52 = some (.ireturn, 1, [0], uu) := by decide +kernel
theorem e_96_52 : den cf 96 52 L [.int x] M = some (some (.int x), M) := den_e0 l_96_52
/-! yX5_lasts -/
theorem l_97_0 : look (tab 97) 0 = some (.aload_n 0, 1, [], uu) := by decide +kernel
theorem e_97_0 : den cf 97 0 [.ref a, v1, v2, v3] st M = den cf 97 1 [.ref a, v1, v2, v3] (.ref a :: st) M := den_go l_97_0 rfl
theorem l_97_1 : look (tab 97) 1 = some (.getfield 10, 3, [5, 0, 16], uu) := by decide +kernel
theorem e_97_1 : den cf 97 1 L (.ref a :: st) M = oK (gfA (M.2.2 a) 5 0) (fun v => den cf 97 4 L (v :: st) M) := den_gf l_97_1
theorem l_97_4 : look (tab 97) 4 = some (.iload_n 1, 1, [], uu) := by decide +kernel
theorem e_97_4 : den cf 97 4 [v0, .int x, v2, v3] st M = den cf 97 5 [v0, .int x, v2, v3] (.int x :: st) M := den_go l_97_4 rfl
theorem l_97_5 : look (tab 97) 5 = some (.invokevirtual 105, 3, [2, 24, 2, 209, 210, 211, 15], uu) := by decide +kernel
theorem e_97_5 : den cf 97 5 L (w1 :: .ref a :: st) M = if rcv M 2 [.ref a, w1] = true ∧ st.length ≤ 4 then rK (cf 24 [.ref a, w1] M) (fun v M' => den cf 97 8 L (pR v st) M') else none := den_iv [w1] l_97_5 rfl
theorem l_97_8 : look (tab 97) 8 = some (.astore_n 2, 1, [], uu) := by decide +kernel
theorem e_97_8 : den cf 97 8 [v0, v1, v2, v3] (v :: st) M = if isRf v = true then den cf 97 9 [v0, kq v1, v, v3] st M else none := den_as (k := 2) (v := v) l_97_8 rfl (Nat.le_of_ble_eq_true rfl)
theorem l_97_9 : look (tab 97) 9 = some (.aload_n 2, 1, [], uu) := by decide +kernel
theorem e_97_9 : den cf 97 9 [v0, v1, v2, v3] st M = if isRf v2 = true then den cf 97 10 [v0, v1, v2, v3] (v2 :: st) M else none := den_g l_97_9 rfl
theorem l_97_10 : look (tab 97) 10 = some (.ifnonnull 10, 3, [20], uu) := by decide +kernel
theorem e_97_10 : den cf 97 10 L (va_rf o :: st) M = oN o (den cf 97 13 L st M) (den cf 97 20 L st M) := den_nn l_97_10
theorem e_97_10_n : den cf 97 10 L (.null :: st) M = den cf 97 13 L st M := den_go l_97_10 rfl
theorem e_97_10_r : den cf 97 10 L (.ref a :: st) M = den cf 97 20 L st M := den_go l_97_10 rfl
theorem l_97_13 : look (tab 97) 13 = some (.aload_n 0, 1, [], uu) := by decide +kernel
theorem e_97_13 : den cf 97 13 [.ref a, v1, v2, v3] st M = den cf 97 14 [.ref a, v1, v2, v3] (.ref a :: st) M := den_go l_97_13 rfl
theorem l_97_14 : look (tab 97) 14 = some (.bipush (-2), 2, [], .int (zI (-2))) := by decide +kernel
theorem e_97_14 : den cf 97 14 L st M = den cf 97 16 L (.int (zI (-2)) :: st) M := den_go l_97_14 rfl
theorem l_97_16 : look (tab 97) 16 = some (.invokevirtual 59, 3, [5, 128, 2, 113, 114, 115, 2], uu) := by decide +kernel
theorem e_97_16 : den cf 97 16 L (w1 :: .ref a :: st) M = if rcv M 5 [.ref a, w1] = true ∧ st.length ≤ 4 then rK (cf 128 [.ref a, w1] M) (fun v M' => den cf 97 19 L (pR v st) M') else none := den_iv [w1] l_97_16 rfl
theorem l_97_19 : look (tab 97) 19 = some (.ireturn, 1, [0], uu) := by decide +kernel
theorem e_97_19 : den cf 97 19 L [.int x] M = some (some (.int x), M) := den_e0 l_97_19
theorem l_97_20 : look (tab 97) 20 = some (.aload_n 2, 1, [], uu) := by decide +kernel
theorem e_97_20 : den cf 97 20 [v0, v1, v2, v3] st M = if isRf v2 = true then den cf 97 21 [v0, v1, v2, v3] (v2 :: st) M else none := den_g l_97_20 rfl
theorem l_97_21 : look (tab 97) 21 = some (.getfield 127, 3, [1, 6, 237], uu) := by decide +kernel
theorem e_97_21 : den cf 97 21 L (.ref a :: st) M = oK (gfA (M.2.2 a) 1 6) (fun v => den cf 97 24 L (v :: st) M) := den_gf l_97_21
theorem l_97_24 : look (tab 97) 24 = some (.ifnonnull 10, 3, [34], uu) := by decide +kernel
theorem e_97_24 : den cf 97 24 L (va_rf o :: st) M = oN o (den cf 97 27 L st M) (den cf 97 34 L st M) := den_nn l_97_24
theorem e_97_24_n : den cf 97 24 L (.null :: st) M = den cf 97 27 L st M := den_go l_97_24 rfl
theorem e_97_24_r : den cf 97 24 L (.ref a :: st) M = den cf 97 34 L st M := den_go l_97_24 rfl
theorem l_97_27 : look (tab 97) 27 = some (.aload_n 0, 1, [], uu) := by decide +kernel
theorem e_97_27 : den cf 97 27 [.ref a, v1, v2, v3] st M = den cf 97 28 [.ref a, v1, v2, v3] (.ref a :: st) M := den_go l_97_27 rfl
theorem l_97_28 : look (tab 97) 28 = some (.bipush (-5), 2, [], .int (zI (-5))) := by decide +kernel
theorem e_97_28 : den cf 97 28 L st M = den cf 97 30 L (.int (zI (-5)) :: st) M := den_go l_97_28 rfl
theorem l_97_30 : look (tab 97) 30 = some (.invokevirtual 59, 3, [5, 128, 2, 113, 114, 115, 2], uu) := by decide +kernel
theorem e_97_30 : den cf 97 30 L (w1 :: .ref a :: st) M = if rcv M 5 [.ref a, w1] = true ∧ st.length ≤ 4 then rK (cf 128 [.ref a, w1] M) (fun v M' => den cf 97 33 L (pR v st) M') else none := den_iv [w1] l_97_30 rfl
theorem l_97_33 : look (tab 97) 33 = some (.ireturn, 1, [0], uu) := by decide +kernel
theorem e_97_33 : den cf 97 33 L [.int x] M = some (some (.int x), M) := den_e0 l_97_33
theorem l_97_34 : look (tab 97) 34 = some (.iconst 0, 1, [], .int (zI 0)) := by decide +kernel
theorem e_97_34 : den cf 97 34 L st M = den cf 97 35 L (.int (zI 0) :: st) M := den_go l_97_34 rfl
theorem l_97_35 : look (tab 97) 35 = some (.istore_n 3, 1, [], uu) := by decide +kernel
theorem e_97_35 : den cf 97 35 [v0, v1, v2, v3] (.int x :: st) M = den cf 97 36 [v0, v1, kq v2, .int x] st M := den_st (k := 3) (v := .int x) l_97_35 rfl
theorem l_97_36 : look (tab 97) 36 = some (.iload_n 3, 1, [], uu) := by decide +kernel
theorem e_97_36 : den cf 97 36 [v0, v1, v2, .int x] st M = den cf 97 37 [v0, v1, v2, .int x] (.int x :: st) M := den_go l_97_36 rfl
theorem l_97_37 : look (tab 97) 37 = some (.bipush 99, 2, [], .int (zI 99)) := by decide +kernel
theorem e_97_37 : den cf 97 37 L st M = den cf 97 39 L (.int (zI 99) :: st) M := den_go l_97_37 rfl
theorem l_97_39 : look (tab 97) 39 = some (.if_icmp .gt 32, 3, [71], uu) := by decide +kernel
theorem e_97_39 : den cf 97 39 L (.int y :: .int x :: st) M = if y < x then den cf 97 71 L st M else den cf 97 42 L st M := den_ic_gt l_97_39
theorem l_97_42 : look (tab 97) 42 = some (.aload_n 0, 1, [], uu) := by decide +kernel
theorem e_97_42 : den cf 97 42 [.ref a, v1, v2, v3] st M = den cf 97 43 [.ref a, v1, v2, v3] (.ref a :: st) M := den_go l_97_42 rfl
theorem l_97_43 : look (tab 97) 43 = some (.getfield 10, 3, [5, 0, 16], uu) := by decide +kernel
theorem e_97_43 : den cf 97 43 L (.ref a :: st) M = oK (gfA (M.2.2 a) 5 0) (fun v => den cf 97 46 L (v :: st) M) := den_gf l_97_43
theorem l_97_46 : look (tab 97) 46 = some (.aload_n 2, 1, [], uu) := by decide +kernel
theorem e_97_46 : den cf 97 46 [v0, v1, v2, v3] st M = if isRf v2 = true then den cf 97 47 [v0, v1, v2, v3] (v2 :: st) M else none := den_g l_97_46 rfl
theorem l_97_47 : look (tab 97) 47 = some (.aload_n 2, 1, [], uu) := by decide +kernel
theorem e_97_47 : den cf 97 47 [v0, v1, v2, v3] st M = if isRf v2 = true then den cf 97 48 [v0, v1, v2, v3] (v2 :: st) M else none := den_g l_97_47 rfl
theorem l_97_48 : look (tab 97) 48 = some (.getfield 127, 3, [1, 6, 237], uu) := by decide +kernel
theorem e_97_48 : den cf 97 48 L (.ref a :: st) M = oK (gfA (M.2.2 a) 1 6) (fun v => den cf 97 51 L (v :: st) M) := den_gf l_97_48
theorem l_97_51 : look (tab 97) 51 = some (.aload_n 2, 1, [], uu) := by decide +kernel
theorem e_97_51 : den cf 97 51 [v0, v1, v2, v3] st M = if isRf v2 = true then den cf 97 52 [v0, v1, v2, v3] (v2 :: st) M else none := den_g l_97_51 rfl
theorem l_97_52 : look (tab 97) 52 = some (.getfield 194, 3, [1, 8, 631], uu) := by decide +kernel
theorem e_97_52 : den cf 97 52 L (.ref a :: st) M = oK (gfA (M.2.2 a) 1 8) (fun v => den cf 97 55 L (v :: st) M) := den_gf l_97_52
theorem l_97_55 : look (tab 97) 55 = some (.iload_n 3, 1, [], uu) := by decide +kernel
theorem e_97_55 : den cf 97 55 [v0, v1, v2, .int x] st M = den cf 97 56 [v0, v1, v2, .int x] (.int x :: st) M := den_go l_97_55 rfl
theorem l_97_56 : look (tab 97) 56 = some (.iadd, 1, [], uu) := by decide +kernel
theorem e_97_56 : den cf 97 56 L (.int y :: .int x :: st) M = den cf 97 57 L (.int (x + y) :: st) M := den_go l_97_56 rfl
theorem l_97_57 : look (tab 97) 57 = some (.invokevirtual 212, 3, [2, 28, 4, 970, 247, 248, 15], uu) := by decide +kernel
theorem e_97_57 : den cf 97 57 L (w3 :: w2 :: w1 :: .ref a :: st) M = if rcv M 2 [.ref a, w1, w2, w3] = true ∧ st.length ≤ 4 then rK (cf 28 [.ref a, w1, w2, w3] M) (fun v M' => den cf 97 60 L (pR v st) M') else none := den_iv [w1, w2, w3] l_97_57 rfl
theorem l_97_60 : look (tab 97) 60 = some (.ifCond .ne 5, 3, [65], uu) := by decide +kernel
theorem e_97_60 : den cf 97 60 L (.int x :: st) M = if x = zI 0 then den cf 97 63 L st M else den cf 97 65 L st M := den_if_ne l_97_60
theorem l_97_63 : look (tab 97) 63 = some (.iload_n 3, 1, [], uu) := by decide +kernel
theorem e_97_63 : den cf 97 63 [v0, v1, v2, .int x] st M = den cf 97 64 [v0, v1, v2, .int x] (.int x :: st) M := den_go l_97_63 rfl
theorem l_97_64 : look (tab 97) 64 = some (.ireturn, 1, [0], uu) := by decide +kernel
theorem e_97_64 : den cf 97 64 L [.int x] M = some (some (.int x), M) := den_e0 l_97_64
theorem l_97_65 : look (tab 97) 65 = some (.iinc 3 1, 3, [], .int (zI 1)) := by decide +kernel
theorem e_97_65 : den cf 97 65 [v0, v1, v2, .int x] st M = den cf 97 68 [v0, v1, kq v2, .int (x + (zI 1))] st M := den_st (k := 3) (v := .int (x + (zI 1))) l_97_65 rfl
theorem l_97_68 : look (tab 97) 68 = some (.goto (-32), 3, [36], uu) := by decide +kernel
theorem e_97_68 : den cf 97 68 L st M = den cf 97 36 L st M := den_go l_97_68 rfl
theorem l_97_71 : look (tab 97) 71 = some (.iconst (-1), 1, [], .int (zI (-1))) := by decide +kernel
theorem e_97_71 : den cf 97 71 L st M = den cf 97 72 L (.int (zI (-1)) :: st) M := den_go l_97_71 rfl
theorem l_97_72 : look (tab 97) 72 = some (.ireturn, 1, [0], uu) := by decide +kernel
theorem e_97_72 : den cf 97 72 L [.int x] M = some (some (.int x), M) := den_e0 l_97_72
/-! yX5_wish -/
theorem l_98_0 : look (tab 98) 0 = some (.aload_n 0, 1, [], uu) := by decide +kernel
theorem e_98_0 : den cf 98 0 [.ref a, v1, v2, v3, v4, v5, v6, v7, v8] st M = den cf 98 1 [.ref a, v1, v2, v3, v4, v5, v6, v7, v8] (.ref a :: st) M := den_go l_98_0 rfl
theorem l_98_1 : look (tab 98) 1 = some (.getfield 16, 3, [5, 1, 17], uu) := by decide +kernel
theorem e_98_1 : den cf 98 1 L (.ref a :: st) M = oK (gfA (M.2.2 a) 5 1) (fun v => den cf 98 4 L (v :: st) M) := den_gf l_98_1
theorem l_98_4 : look (tab 98) 4 = some (.aload_n 0, 1, [], uu) := by decide +kernel
theorem e_98_4 : den cf 98 4 [.ref a, v1, v2, v3, v4, v5, v6, v7, v8] st M = den cf 98 5 [.ref a, v1, v2, v3, v4, v5, v6, v7, v8] (.ref a :: st) M := den_go l_98_4 rfl
theorem l_98_5 : look (tab 98) 5 = some (.getfield 10, 3, [5, 0, 16], uu) := by decide +kernel
theorem e_98_5 : den cf 98 5 L (.ref a :: st) M = oK (gfA (M.2.2 a) 5 0) (fun v => den cf 98 8 L (v :: st) M) := den_gf l_98_5
theorem l_98_8 : look (tab 98) 8 = some (.invokevirtual 174, 3, [2, 26, 2, 428, 429, 430, 15], uu) := by decide +kernel
theorem e_98_8 : den cf 98 8 L (w1 :: .ref a :: st) M = if rcv M 2 [.ref a, w1] = true ∧ st.length ≤ 4 then rK (cf 26 [.ref a, w1] M) (fun v M' => den cf 98 11 L (pR v st) M') else none := den_iv [w1] l_98_8 rfl
theorem l_98_11 : look (tab 98) 11 = some (.aload_n 0, 1, [], uu) := by decide +kernel
theorem e_98_11 : den cf 98 11 [.ref a, v1, v2, v3, v4, v5, v6, v7, v8] st M = den cf 98 12 [.ref a, v1, v2, v3, v4, v5, v6, v7, v8] (.ref a :: st) M := den_go l_98_11 rfl
theorem l_98_12 : look (tab 98) 12 = some (.getfield 16, 3, [5, 1, 17], uu) := by decide +kernel
theorem e_98_12 : den cf 98 12 L (.ref a :: st) M = oK (gfA (M.2.2 a) 5 1) (fun v => den cf 98 15 L (v :: st) M) := den_gf l_98_12
theorem l_98_15 : look (tab 98) 15 = some (.iload_n 1, 1, [], uu) := by decide +kernel
theorem e_98_15 : den cf 98 15 [v0, .int x, v2, v3, v4, v5, v6, v7, v8] st M = den cf 98 16 [v0, .int x, v2, v3, v4, v5, v6, v7, v8] (.int x :: st) M := den_go l_98_15 rfl
theorem l_98_16 : look (tab 98) 16 = some (.invokevirtual 105, 3, [2, 24, 2, 209, 210, 211, 15], uu) := by decide +kernel
theorem e_98_16 : den cf 98 16 L (w1 :: .ref a :: st) M = if rcv M 2 [.ref a, w1] = true ∧ st.length ≤ 4 then rK (cf 24 [.ref a, w1] M) (fun v M' => den cf 98 19 L (pR v st) M') else none := den_iv [w1] l_98_16 rfl
theorem l_98_19 : look (tab 98) 19 = some (.astore_n 2, 1, [], uu) := by decide +kernel
theorem e_98_19 : den cf 98 19 [v0, v1, v2, v3, v4, v5, v6, v7, v8] (v :: st) M = if isRf v = true then den cf 98 20 [v0, kq v1, v, v3, v4, v5, v6, v7, v8] st M else none := den_as (k := 2) (v := v) l_98_19 rfl (Nat.le_of_ble_eq_true rfl)
theorem l_98_20 : look (tab 98) 20 = some (.aload_n 2, 1, [], uu) := by decide +kernel
theorem e_98_20 : den cf 98 20 [v0, v1, v2, v3, v4, v5, v6, v7, v8] st M = if isRf v2 = true then den cf 98 21 [v0, v1, v2, v3, v4, v5, v6, v7, v8] (v2 :: st) M else none := den_g l_98_20 rfl
theorem l_98_21 : look (tab 98) 21 = some (.ifnonnull 10, 3, [31], uu) := by decide +kernel
theorem e_98_21 : den cf 98 21 L (va_rf o :: st) M = oN o (den cf 98 24 L st M) (den cf 98 31 L st M) := den_nn l_98_21
theorem e_98_21_n : den cf 98 21 L (.null :: st) M = den cf 98 24 L st M := den_go l_98_21 rfl
theorem e_98_21_r : den cf 98 21 L (.ref a :: st) M = den cf 98 31 L st M := den_go l_98_21 rfl
theorem l_98_24 : look (tab 98) 24 = some (.aload_n 0, 1, [], uu) := by decide +kernel
theorem e_98_24 : den cf 98 24 [.ref a, v1, v2, v3, v4, v5, v6, v7, v8] st M = den cf 98 25 [.ref a, v1, v2, v3, v4, v5, v6, v7, v8] (.ref a :: st) M := den_go l_98_24 rfl
theorem l_98_25 : look (tab 98) 25 = some (.bipush (-2), 2, [], .int (zI (-2))) := by decide +kernel
theorem e_98_25 : den cf 98 25 L st M = den cf 98 27 L (.int (zI (-2)) :: st) M := den_go l_98_25 rfl
theorem l_98_27 : look (tab 98) 27 = some (.invokevirtual 59, 3, [5, 128, 2, 113, 114, 115, 2], uu) := by decide +kernel
theorem e_98_27 : den cf 98 27 L (w1 :: .ref a :: st) M = if rcv M 5 [.ref a, w1] = true ∧ st.length ≤ 4 then rK (cf 128 [.ref a, w1] M) (fun v M' => den cf 98 30 L (pR v st) M') else none := den_iv [w1] l_98_27 rfl
theorem l_98_30 : look (tab 98) 30 = some (.ireturn, 1, [0], uu) := by decide +kernel
theorem e_98_30 : den cf 98 30 L [.int x] M = some (some (.int x), M) := den_e0 l_98_30
theorem l_98_31 : look (tab 98) 31 = some (.aload_n 2, 1, [], uu) := by decide +kernel
theorem e_98_31 : den cf 98 31 [v0, v1, v2, v3, v4, v5, v6, v7, v8] st M = if isRf v2 = true then den cf 98 32 [v0, v1, v2, v3, v4, v5, v6, v7, v8] (v2 :: st) M else none := den_g l_98_31 rfl
theorem l_98_32 : look (tab 98) 32 = some (.getfield 127, 3, [1, 6, 237], uu) := by decide +kernel
theorem e_98_32 : den cf 98 32 L (.ref a :: st) M = oK (gfA (M.2.2 a) 1 6) (fun v => den cf 98 35 L (v :: st) M) := den_gf l_98_32
theorem l_98_35 : look (tab 98) 35 = some (.astore_n 3, 1, [], uu) := by decide +kernel
theorem e_98_35 : den cf 98 35 [v0, v1, v2, v3, v4, v5, v6, v7, v8] (v :: st) M = if isRf v = true then den cf 98 36 [v0, v1, kq v2, v, v4, v5, v6, v7, v8] st M else none := den_as (k := 3) (v := v) l_98_35 rfl (Nat.le_of_ble_eq_true rfl)
theorem l_98_36 : look (tab 98) 36 = some (.aload_n 3, 1, [], uu) := by decide +kernel
theorem e_98_36 : den cf 98 36 [v0, v1, v2, v3, v4, v5, v6, v7, v8] st M = if isRf v3 = true then den cf 98 37 [v0, v1, v2, v3, v4, v5, v6, v7, v8] (v3 :: st) M else none := den_g l_98_36 rfl
theorem l_98_37 : look (tab 98) 37 = some (.ifnonnull 10, 3, [47], uu) := by decide +kernel
theorem e_98_37 : den cf 98 37 L (va_rf o :: st) M = oN o (den cf 98 40 L st M) (den cf 98 47 L st M) := den_nn l_98_37
theorem e_98_37_n : den cf 98 37 L (.null :: st) M = den cf 98 40 L st M := den_go l_98_37 rfl
theorem e_98_37_r : den cf 98 37 L (.ref a :: st) M = den cf 98 47 L st M := den_go l_98_37 rfl
theorem l_98_40 : look (tab 98) 40 = some (.aload_n 0, 1, [], uu) := by decide +kernel
theorem e_98_40 : den cf 98 40 [.ref a, v1, v2, v3, v4, v5, v6, v7, v8] st M = den cf 98 41 [.ref a, v1, v2, v3, v4, v5, v6, v7, v8] (.ref a :: st) M := den_go l_98_40 rfl
theorem l_98_41 : look (tab 98) 41 = some (.bipush (-5), 2, [], .int (zI (-5))) := by decide +kernel
theorem e_98_41 : den cf 98 41 L st M = den cf 98 43 L (.int (zI (-5)) :: st) M := den_go l_98_41 rfl
theorem l_98_43 : look (tab 98) 43 = some (.invokevirtual 59, 3, [5, 128, 2, 113, 114, 115, 2], uu) := by decide +kernel
theorem e_98_43 : den cf 98 43 L (w1 :: .ref a :: st) M = if rcv M 5 [.ref a, w1] = true ∧ st.length ≤ 4 then rK (cf 128 [.ref a, w1] M) (fun v M' => den cf 98 46 L (pR v st) M') else none := den_iv [w1] l_98_43 rfl
theorem l_98_46 : look (tab 98) 46 = some (.ireturn, 1, [0], uu) := by decide +kernel
theorem e_98_46 : den cf 98 46 L [.int x] M = some (some (.int x), M) := den_e0 l_98_46
theorem l_98_47 : look (tab 98) 47 = some (.aload_n 2, 1, [], uu) := by decide +kernel
theorem e_98_47 : den cf 98 47 [v0, v1, v2, v3, v4, v5, v6, v7, v8] st M = if isRf v2 = true then den cf 98 48 [v0, v1, v2, v3, v4, v5, v6, v7, v8] (v2 :: st) M else none := den_g l_98_47 rfl
theorem l_98_48 : look (tab 98) 48 = some (.getfield 124, 3, [1, 5, 236], uu) := by decide +kernel
theorem e_98_48 : den cf 98 48 L (.ref a :: st) M = oK (gfA (M.2.2 a) 1 5) (fun v => den cf 98 51 L (v :: st) M) := den_gf l_98_48
theorem l_98_51 : look (tab 98) 51 = some (.istore 4, 2, [], uu) := by decide +kernel
theorem e_98_51 : den cf 98 51 [v0, v1, v2, v3, v4, v5, v6, v7, v8] (.int x :: st) M = den cf 98 53 [v0, v1, v2, kq v3, .int x, v5, v6, v7, v8] st M := den_st (k := 4) (v := .int x) l_98_51 rfl
theorem l_98_53 : look (tab 98) 53 = some (.aload_n 0, 1, [], uu) := by decide +kernel
theorem e_98_53 : den cf 98 53 [.ref a, v1, v2, v3, v4, v5, v6, v7, v8] st M = den cf 98 54 [.ref a, v1, v2, v3, v4, v5, v6, v7, v8] (.ref a :: st) M := den_go l_98_53 rfl
theorem l_98_54 : look (tab 98) 54 = some (.getfield 16, 3, [5, 1, 17], uu) := by decide +kernel
theorem e_98_54 : den cf 98 54 L (.ref a :: st) M = oK (gfA (M.2.2 a) 5 1) (fun v => den cf 98 57 L (v :: st) M) := den_gf l_98_54
theorem l_98_57 : look (tab 98) 57 = some (.aload_n 3, 1, [], uu) := by decide +kernel
theorem e_98_57 : den cf 98 57 [v0, v1, v2, v3, v4, v5, v6, v7, v8] st M = if isRf v3 = true then den cf 98 58 [v0, v1, v2, v3, v4, v5, v6, v7, v8] (v3 :: st) M else none := den_g l_98_57 rfl
theorem l_98_58 : look (tab 98) 58 = some (.aload_n 2, 1, [], uu) := by decide +kernel
theorem e_98_58 : den cf 98 58 [v0, v1, v2, v3, v4, v5, v6, v7, v8] st M = if isRf v2 = true then den cf 98 59 [v0, v1, v2, v3, v4, v5, v6, v7, v8] (v2 :: st) M else none := den_g l_98_58 rfl
theorem l_98_59 : look (tab 98) 59 = some (.invokevirtual 131, 3, [2, 27, 3, 241, 242, 243, 15], uu) := by decide +kernel
theorem e_98_59 : den cf 98 59 L (w2 :: w1 :: .ref a :: st) M = if rcv M 2 [.ref a, w1, w2] = true ∧ st.length ≤ 4 then rK (cf 27 [.ref a, w1, w2] M) (fun v M' => den cf 98 62 L (pR v st) M') else none := den_iv [w1, w2] l_98_59 rfl
theorem l_98_62 : look (tab 98) 62 = some (.istore 5, 2, [], uu) := by decide +kernel
theorem e_98_62 : den cf 98 62 [v0, v1, v2, v3, v4, v5, v6, v7, v8] (.int x :: st) M = den cf 98 64 [v0, v1, v2, v3, kq v4, .int x, v6, v7, v8] st M := den_st (k := 5) (v := .int x) l_98_62 rfl
theorem l_98_64 : look (tab 98) 64 = some (.iconst (-1), 1, [], .int (zI (-1))) := by decide +kernel
theorem e_98_64 : den cf 98 64 L st M = den cf 98 65 L (.int (zI (-1)) :: st) M := den_go l_98_64 rfl
theorem l_98_65 : look (tab 98) 65 = some (.istore 6, 2, [], uu) := by decide +kernel
theorem e_98_65 : den cf 98 65 [v0, v1, v2, v3, v4, v5, v6, v7, v8] (.int x :: st) M = den cf 98 67 [v0, v1, v2, v3, v4, kq v5, .int x, v7, v8] st M := den_st (k := 6) (v := .int x) l_98_65 rfl
theorem l_98_67 : look (tab 98) 67 = some (.iconst 0, 1, [], .int (zI 0)) := by decide +kernel
theorem e_98_67 : den cf 98 67 L st M = den cf 98 68 L (.int (zI 0) :: st) M := den_go l_98_67 rfl
theorem l_98_68 : look (tab 98) 68 = some (.istore 7, 2, [], uu) := by decide +kernel
theorem e_98_68 : den cf 98 68 [v0, v1, v2, v3, v4, v5, v6, v7, v8] (.int x :: st) M = den cf 98 70 [v0, v1, v2, v3, v4, v5, kq v6, .int x, v8] st M := den_st (k := 7) (v := .int x) l_98_68 rfl
theorem l_98_70 : look (tab 98) 70 = some (.iload 7, 2, [], uu) := by decide +kernel
theorem e_98_70 : den cf 98 70 [v0, v1, v2, v3, v4, v5, v6, .int x, v8] st M = den cf 98 72 [v0, v1, v2, v3, v4, v5, v6, .int x, v8] (.int x :: st) M := den_go l_98_70 rfl
theorem l_98_72 : look (tab 98) 72 = some (.bipush 8, 2, [], .int (zI 8)) := by decide +kernel
theorem e_98_72 : den cf 98 72 L st M = den cf 98 74 L (.int (zI 8) :: st) M := den_go l_98_72 rfl
theorem l_98_74 : look (tab 98) 74 = some (.if_icmp .ge 46, 3, [120], uu) := by decide +kernel
theorem e_98_74 : den cf 98 74 L (.int y :: .int x :: st) M = if x < y then den cf 98 77 L st M else den cf 98 120 L st M := den_ic_ge l_98_74
theorem l_98_77 : look (tab 98) 77 = some (.aload_n 2, 1, [], uu) := by decide +kernel
theorem e_98_77 : den cf 98 77 [v0, v1, v2, v3, v4, v5, v6, v7, v8] st M = if isRf v2 = true then den cf 98 78 [v0, v1, v2, v3, v4, v5, v6, v7, v8] (v2 :: st) M else none := den_g l_98_77 rfl
theorem l_98_78 : look (tab 98) 78 = some (.iload 4, 2, [], uu) := by decide +kernel
theorem e_98_78 : den cf 98 78 [v0, v1, v2, v3, .int x, v5, v6, v7, v8] st M = den cf 98 80 [v0, v1, v2, v3, .int x, v5, v6, v7, v8] (.int x :: st) M := den_go l_98_78 rfl
theorem l_98_80 : look (tab 98) 80 = some (.iconst 1, 1, [], .int (zI 1)) := by decide +kernel
theorem e_98_80 : den cf 98 80 L st M = den cf 98 81 L (.int (zI 1) :: st) M := den_go l_98_80 rfl
theorem l_98_81 : look (tab 98) 81 = some (.iload 7, 2, [], uu) := by decide +kernel
theorem e_98_81 : den cf 98 81 [v0, v1, v2, v3, v4, v5, v6, .int x, v8] st M = den cf 98 83 [v0, v1, v2, v3, v4, v5, v6, .int x, v8] (.int x :: st) M := den_go l_98_81 rfl
theorem l_98_83 : look (tab 98) 83 = some (.ishl, 1, [], uu) := by decide +kernel
theorem e_98_83 : den cf 98 83 L (.int y :: .int x :: st) M = den cf 98 84 L (.int (x <<< (y &&& 31)) :: st) M := den_go l_98_83 rfl
theorem l_98_84 : look (tab 98) 84 = some (.ior, 1, [], uu) := by decide +kernel
theorem e_98_84 : den cf 98 84 L (.int y :: .int x :: st) M = den cf 98 85 L (.int (x ||| y) :: st) M := den_go l_98_84 rfl
theorem l_98_85 : look (tab 98) 85 = some (.putfield 124, 3, [1, 5, 0, 236, 0], uu) := by decide +kernel
theorem e_98_85 : den cf 98 85 L (.int x :: .ref a :: st) M = oK (pfA (M.2.2 a) 1 5 (.int x)) (fun c => den cf 98 88 L st (mU M a c)) := den_pf0 l_98_85
theorem l_98_88 : look (tab 98) 88 = some (.aload_n 0, 1, [], uu) := by decide +kernel
theorem e_98_88 : den cf 98 88 [.ref a, v1, v2, v3, v4, v5, v6, v7, v8] st M = den cf 98 89 [.ref a, v1, v2, v3, v4, v5, v6, v7, v8] (.ref a :: st) M := den_go l_98_88 rfl
theorem l_98_89 : look (tab 98) 89 = some (.getfield 16, 3, [5, 1, 17], uu) := by decide +kernel
theorem e_98_89 : den cf 98 89 L (.ref a :: st) M = oK (gfA (M.2.2 a) 5 1) (fun v => den cf 98 92 L (v :: st) M) := den_gf l_98_89
theorem l_98_92 : look (tab 98) 92 = some (.aload_n 3, 1, [], uu) := by decide +kernel
theorem e_98_92 : den cf 98 92 [v0, v1, v2, v3, v4, v5, v6, v7, v8] st M = if isRf v3 = true then den cf 98 93 [v0, v1, v2, v3, v4, v5, v6, v7, v8] (v3 :: st) M else none := den_g l_98_92 rfl
theorem l_98_93 : look (tab 98) 93 = some (.aload_n 2, 1, [], uu) := by decide +kernel
theorem e_98_93 : den cf 98 93 [v0, v1, v2, v3, v4, v5, v6, v7, v8] st M = if isRf v2 = true then den cf 98 94 [v0, v1, v2, v3, v4, v5, v6, v7, v8] (v2 :: st) M else none := den_g l_98_93 rfl
theorem l_98_94 : look (tab 98) 94 = some (.invokevirtual 131, 3, [2, 27, 3, 241, 242, 243, 15], uu) := by decide +kernel
theorem e_98_94 : den cf 98 94 L (w2 :: w1 :: .ref a :: st) M = if rcv M 2 [.ref a, w1, w2] = true ∧ st.length ≤ 4 then rK (cf 27 [.ref a, w1, w2] M) (fun v M' => den cf 98 97 L (pR v st) M') else none := den_iv [w1, w2] l_98_94 rfl
theorem l_98_97 : look (tab 98) 97 = some (.istore 8, 2, [], uu) := by decide +kernel
theorem e_98_97 : den cf 98 97 [v0, v1, v2, v3, v4, v5, v6, v7, v8] (.int x :: st) M = den cf 98 99 [v0, v1, v2, v3, v4, v5, v6, kq v7, .int x] st M := den_st (k := 8) (v := .int x) l_98_97 rfl
theorem l_98_99 : look (tab 98) 99 = some (.iload 8, 2, [], uu) := by decide +kernel
theorem e_98_99 : den cf 98 99 [v0, v1, v2, v3, v4, v5, v6, v7, .int x] st M = den cf 98 101 [v0, v1, v2, v3, v4, v5, v6, v7, .int x] (.int x :: st) M := den_go l_98_99 rfl
theorem l_98_101 : look (tab 98) 101 = some (.iload 5, 2, [], uu) := by decide +kernel
theorem e_98_101 : den cf 98 101 [v0, v1, v2, v3, v4, .int x, v6, v7, v8] st M = den cf 98 103 [v0, v1, v2, v3, v4, .int x, v6, v7, v8] (.int x :: st) M := den_go l_98_101 rfl
theorem l_98_103 : look (tab 98) 103 = some (.if_icmp .le 11, 3, [114], uu) := by decide +kernel
theorem e_98_103 : den cf 98 103 L (.int y :: .int x :: st) M = if y < x then den cf 98 106 L st M else den cf 98 114 L st M := den_ic_le l_98_103
theorem l_98_106 : look (tab 98) 106 = some (.iload 8, 2, [], uu) := by decide +kernel
theorem e_98_106 : den cf 98 106 [v0, v1, v2, v3, v4, v5, v6, v7, .int x] st M = den cf 98 108 [v0, v1, v2, v3, v4, v5, v6, v7, .int x] (.int x :: st) M := den_go l_98_106 rfl
theorem l_98_108 : look (tab 98) 108 = some (.istore 5, 2, [], uu) := by decide +kernel
theorem e_98_108 : den cf 98 108 [v0, v1, v2, v3, v4, v5, v6, v7, v8] (.int x :: st) M = den cf 98 110 [v0, v1, v2, v3, kq v4, .int x, v6, v7, v8] st M := den_st (k := 5) (v := .int x) l_98_108 rfl
theorem l_98_110 : look (tab 98) 110 = some (.iload 7, 2, [], uu) := by decide +kernel
theorem e_98_110 : den cf 98 110 [v0, v1, v2, v3, v4, v5, v6, .int x, v8] st M = den cf 98 112 [v0, v1, v2, v3, v4, v5, v6, .int x, v8] (.int x :: st) M := den_go l_98_110 rfl
theorem l_98_112 : look (tab 98) 112 = some (.istore 6, 2, [], uu) := by decide +kernel
theorem e_98_112 : den cf 98 112 [v0, v1, v2, v3, v4, v5, v6, v7, v8] (.int x :: st) M = den cf 98 114 [v0, v1, v2, v3, v4, kq v5, .int x, v7, v8] st M := den_st (k := 6) (v := .int x) l_98_112 rfl
theorem l_98_114 : look (tab 98) 114 = some (.iinc 7 1, 3, [], .int (zI 1)) := by decide +kernel
theorem e_98_114 : den cf 98 114 [v0, v1, v2, v3, v4, v5, v6, .int x, v8] st M = den cf 98 117 [v0, v1, v2, v3, v4, v5, kq v6, .int (x + (zI 1)), v8] st M := den_st (k := 7) (v := .int (x + (zI 1))) l_98_114 rfl
theorem l_98_117 : look (tab 98) 117 = some (.goto (-47), 3, [70], uu) := by decide +kernel
theorem e_98_117 : den cf 98 117 L st M = den cf 98 70 L st M := den_go l_98_117 rfl
theorem l_98_120 : look (tab 98) 120 = some (.iload 6, 2, [], uu) := by decide +kernel
theorem e_98_120 : den cf 98 120 [v0, v1, v2, v3, v4, v5, .int x, v7, v8] st M = den cf 98 122 [v0, v1, v2, v3, v4, v5, .int x, v7, v8] (.int x :: st) M := den_go l_98_120 rfl
theorem l_98_122 : look (tab 98) 122 = some (.ireturn, 1, [0], uu) := by decide +kernel
theorem e_98_122 : den cf 98 122 L [.int x] M = some (some (.int x), M) := den_e0 l_98_122
/-! yX5_asPair -/
theorem l_99_0 : look (tab 99) 0 = some (.aload_n 0, 1, [], uu) := by decide +kernel
theorem e_99_0 : den cf 99 0 [.ref a, v1, v2, v3, v4, v5] st M = den cf 99 1 [.ref a, v1, v2, v3, v4, v5] (.ref a :: st) M := den_go l_99_0 rfl
theorem l_99_1 : look (tab 99) 1 = some (.getfield 10, 3, [5, 0, 16], uu) := by decide +kernel
theorem e_99_1 : den cf 99 1 L (.ref a :: st) M = oK (gfA (M.2.2 a) 5 0) (fun v => den cf 99 4 L (v :: st) M) := den_gf l_99_1
theorem l_99_4 : look (tab 99) 4 = some (.iload_n 1, 1, [], uu) := by decide +kernel
theorem e_99_4 : den cf 99 4 [v0, .int x, v2, v3, v4, v5] st M = den cf 99 5 [v0, .int x, v2, v3, v4, v5] (.int x :: st) M := den_go l_99_4 rfl
theorem l_99_5 : look (tab 99) 5 = some (.invokevirtual 105, 3, [2, 24, 2, 209, 210, 211, 15], uu) := by decide +kernel
theorem e_99_5 : den cf 99 5 L (w1 :: .ref a :: st) M = if rcv M 2 [.ref a, w1] = true ∧ st.length ≤ 4 then rK (cf 24 [.ref a, w1] M) (fun v M' => den cf 99 8 L (pR v st) M') else none := den_iv [w1] l_99_5 rfl
theorem l_99_8 : look (tab 99) 8 = some (.astore 4, 2, [], uu) := by decide +kernel
theorem e_99_8 : den cf 99 8 [v0, v1, v2, v3, v4, v5] (v :: st) M = if isRf v = true then den cf 99 10 [v0, v1, v2, kq v3, v, v5] st M else none := den_as (k := 4) (v := v) l_99_8 rfl (Nat.le_of_ble_eq_true rfl)
theorem l_99_10 : look (tab 99) 10 = some (.aload_n 0, 1, [], uu) := by decide +kernel
theorem e_99_10 : den cf 99 10 [.ref a, v1, v2, v3, v4, v5] st M = den cf 99 11 [.ref a, v1, v2, v3, v4, v5] (.ref a :: st) M := den_go l_99_10 rfl
theorem l_99_11 : look (tab 99) 11 = some (.getfield 10, 3, [5, 0, 16], uu) := by decide +kernel
theorem e_99_11 : den cf 99 11 L (.ref a :: st) M = oK (gfA (M.2.2 a) 5 0) (fun v => den cf 99 14 L (v :: st) M) := den_gf l_99_11
theorem l_99_14 : look (tab 99) 14 = some (.iload_n 2, 1, [], uu) := by decide +kernel
theorem e_99_14 : den cf 99 14 [v0, v1, .int x, v3, v4, v5] st M = den cf 99 15 [v0, v1, .int x, v3, v4, v5] (.int x :: st) M := den_go l_99_14 rfl
theorem l_99_15 : look (tab 99) 15 = some (.invokevirtual 105, 3, [2, 24, 2, 209, 210, 211, 15], uu) := by decide +kernel
theorem e_99_15 : den cf 99 15 L (w1 :: .ref a :: st) M = if rcv M 2 [.ref a, w1] = true ∧ st.length ≤ 4 then rK (cf 24 [.ref a, w1] M) (fun v M' => den cf 99 18 L (pR v st) M') else none := den_iv [w1] l_99_15 rfl
theorem l_99_18 : look (tab 99) 18 = some (.astore 5, 2, [], uu) := by decide +kernel
theorem e_99_18 : den cf 99 18 [v0, v1, v2, v3, v4, v5] (v :: st) M = if isRf v = true then den cf 99 20 [v0, v1, v2, v3, kq v4, v] st M else none := den_as (k := 5) (v := v) l_99_18 rfl (Nat.le_of_ble_eq_true rfl)
theorem l_99_20 : look (tab 99) 20 = some (.aload 4, 2, [], uu) := by decide +kernel
theorem e_99_20 : den cf 99 20 [v0, v1, v2, v3, v4, v5] st M = if isRf v4 = true then den cf 99 22 [v0, v1, v2, v3, v4, v5] (v4 :: st) M else none := den_g l_99_20 rfl
theorem l_99_22 : look (tab 99) 22 = some (.ifnull 29, 3, [51], uu) := by decide +kernel
theorem e_99_22 : den cf 99 22 L (va_rf o :: st) M = oN o (den cf 99 51 L st M) (den cf 99 25 L st M) := den_nu l_99_22
theorem e_99_22_n : den cf 99 22 L (.null :: st) M = den cf 99 51 L st M := den_go l_99_22 rfl
theorem e_99_22_r : den cf 99 22 L (.ref a :: st) M = den cf 99 25 L st M := den_go l_99_22 rfl
theorem l_99_25 : look (tab 99) 25 = some (.aload 5, 2, [], uu) := by decide +kernel
theorem e_99_25 : den cf 99 25 [v0, v1, v2, v3, v4, v5] st M = if isRf v5 = true then den cf 99 27 [v0, v1, v2, v3, v4, v5] (v5 :: st) M else none := den_g l_99_25 rfl
theorem l_99_27 : look (tab 99) 27 = some (.ifnull 24, 3, [51], uu) := by decide +kernel
theorem e_99_27 : den cf 99 27 L (va_rf o :: st) M = oN o (den cf 99 51 L st M) (den cf 99 30 L st M) := den_nu l_99_27
theorem e_99_27_n : den cf 99 27 L (.null :: st) M = den cf 99 51 L st M := den_go l_99_27 rfl
theorem e_99_27_r : den cf 99 27 L (.ref a :: st) M = den cf 99 30 L st M := den_go l_99_27 rfl
theorem l_99_30 : look (tab 99) 30 = some (.aload 4, 2, [], uu) := by decide +kernel
theorem e_99_30 : den cf 99 30 [v0, v1, v2, v3, v4, v5] st M = if isRf v4 = true then den cf 99 32 [v0, v1, v2, v3, v4, v5] (v4 :: st) M else none := den_g l_99_30 rfl
theorem l_99_32 : look (tab 99) 32 = some (.getfield 188, 3, [1, 4, 629], uu) := by decide +kernel
theorem e_99_32 : den cf 99 32 L (.ref a :: st) M = oK (gfA (M.2.2 a) 1 4) (fun v => den cf 99 35 L (v :: st) M) := den_gf l_99_32
theorem l_99_35 : look (tab 99) 35 = some (.aload 5, 2, [], uu) := by decide +kernel
theorem e_99_35 : den cf 99 35 [v0, v1, v2, v3, v4, v5] st M = if isRf v5 = true then den cf 99 37 [v0, v1, v2, v3, v4, v5] (v5 :: st) M else none := den_g l_99_35 rfl
theorem l_99_37 : look (tab 99) 37 = some (.getfield 188, 3, [1, 4, 629], uu) := by decide +kernel
theorem e_99_37 : den cf 99 37 L (.ref a :: st) M = oK (gfA (M.2.2 a) 1 4) (fun v => den cf 99 40 L (v :: st) M) := den_gf l_99_37
theorem l_99_40 : look (tab 99) 40 = some (.if_icmp .eq 11, 3, [51], uu) := by decide +kernel
theorem e_99_40 : den cf 99 40 L (.int y :: .int x :: st) M = if x = y then den cf 99 51 L st M else den cf 99 43 L st M := den_ic_eq l_99_40
theorem l_99_43 : look (tab 99) 43 = some (.iload_n 3, 1, [], uu) := by decide +kernel
theorem e_99_43 : den cf 99 43 [v0, v1, v2, .int x, v4, v5] st M = den cf 99 44 [v0, v1, v2, .int x, v4, v5] (.int x :: st) M := den_go l_99_43 rfl
theorem l_99_44 : look (tab 99) 44 = some (.iconst 1, 1, [], .int (zI 1)) := by decide +kernel
theorem e_99_44 : den cf 99 44 L st M = den cf 99 45 L (.int (zI 1) :: st) M := den_go l_99_44 rfl
theorem l_99_45 : look (tab 99) 45 = some (.invokestatic 55, 3, [1, 129, 2, 110, 111, 2], uu) := by decide +kernel
theorem e_99_45 : den cf 99 45 L (w2 :: w1 :: st) M = if st.length ≤ 4 then rK (cf 129 [w1, w2] M) (fun v M' => den cf 99 48 L (pR v st) M') else none := den_ist [w1, w2] l_99_45 rfl
theorem l_99_48 : look (tab 99) 48 = some (.ifCond .ne 10, 3, [58], uu) := by decide +kernel
theorem e_99_48 : den cf 99 48 L (.int x :: st) M = if x = zI 0 then den cf 99 51 L st M else den cf 99 58 L st M := den_if_ne l_99_48
theorem l_99_51 : look (tab 99) 51 = some (.aload_n 0, 1, [], uu) := by decide +kernel
theorem e_99_51 : den cf 99 51 [.ref a, v1, v2, v3, v4, v5] st M = den cf 99 52 [.ref a, v1, v2, v3, v4, v5] (.ref a :: st) M := den_go l_99_51 rfl
theorem l_99_52 : look (tab 99) 52 = some (.bipush (-2), 2, [], .int (zI (-2))) := by decide +kernel
theorem e_99_52 : den cf 99 52 L st M = den cf 99 54 L (.int (zI (-2)) :: st) M := den_go l_99_52 rfl
theorem l_99_54 : look (tab 99) 54 = some (.invokevirtual 59, 3, [5, 128, 2, 113, 114, 115, 2], uu) := by decide +kernel
theorem e_99_54 : den cf 99 54 L (w1 :: .ref a :: st) M = if rcv M 5 [.ref a, w1] = true ∧ st.length ≤ 4 then rK (cf 128 [.ref a, w1] M) (fun v M' => den cf 99 57 L (pR v st) M') else none := den_iv [w1] l_99_54 rfl
theorem l_99_57 : look (tab 99) 57 = some (.ireturn, 1, [0], uu) := by decide +kernel
theorem e_99_57 : den cf 99 57 L [.int x] M = some (some (.int x), M) := den_e0 l_99_57
theorem l_99_58 : look (tab 99) 58 = some (.iload_n 3, 1, [], uu) := by decide +kernel
theorem e_99_58 : den cf 99 58 [v0, v1, v2, .int x, v4, v5] st M = den cf 99 59 [v0, v1, v2, .int x, v4, v5] (.int x :: st) M := den_go l_99_58 rfl
theorem l_99_59 : look (tab 99) 59 = some (.ifCond .ne 17, 3, [76], uu) := by decide +kernel
theorem e_99_59 : den cf 99 59 L (.int x :: st) M = if x = zI 0 then den cf 99 62 L st M else den cf 99 76 L st M := den_if_ne l_99_59
theorem l_99_62 : look (tab 99) 62 = some (.aload_n 0, 1, [], uu) := by decide +kernel
theorem e_99_62 : den cf 99 62 [.ref a, v1, v2, v3, v4, v5] st M = den cf 99 63 [.ref a, v1, v2, v3, v4, v5] (.ref a :: st) M := den_go l_99_62 rfl
theorem l_99_63 : look (tab 99) 63 = some (.getfield 10, 3, [5, 0, 16], uu) := by decide +kernel
theorem e_99_63 : den cf 99 63 L (.ref a :: st) M = oK (gfA (M.2.2 a) 5 0) (fun v => den cf 99 66 L (v :: st) M) := den_gf l_99_63
theorem l_99_66 : look (tab 99) 66 = some (.aload 4, 2, [], uu) := by decide +kernel
theorem e_99_66 : den cf 99 66 [v0, v1, v2, v3, v4, v5] st M = if isRf v4 = true then den cf 99 68 [v0, v1, v2, v3, v4, v5] (v4 :: st) M else none := den_g l_99_66 rfl
theorem l_99_68 : look (tab 99) 68 = some (.aload 5, 2, [], uu) := by decide +kernel
theorem e_99_68 : den cf 99 68 [v0, v1, v2, v3, v4, v5] st M = if isRf v5 = true then den cf 99 70 [v0, v1, v2, v3, v4, v5] (v5 :: st) M else none := den_g l_99_68 rfl
theorem l_99_70 : look (tab 99) 70 = some (.invokevirtual 131, 3, [2, 27, 3, 241, 242, 243, 15], uu) := by decide +kernel
theorem e_99_70 : den cf 99 70 L (w2 :: w1 :: .ref a :: st) M = if rcv M 2 [.ref a, w1, w2] = true ∧ st.length ≤ 4 then rK (cf 27 [.ref a, w1, w2] M) (fun v M' => den cf 99 73 L (pR v st) M') else none := den_iv [w1, w2] l_99_70 rfl
theorem l_99_73 : look (tab 99) 73 = some (.goto 14, 3, [87], uu) := by decide +kernel
theorem e_99_73 : den cf 99 73 L st M = den cf 99 87 L st M := den_go l_99_73 rfl
theorem l_99_76 : look (tab 99) 76 = some (.aload_n 0, 1, [], uu) := by decide +kernel
theorem e_99_76 : den cf 99 76 [.ref a, v1, v2, v3, v4, v5] st M = den cf 99 77 [.ref a, v1, v2, v3, v4, v5] (.ref a :: st) M := den_go l_99_76 rfl
theorem l_99_77 : look (tab 99) 77 = some (.getfield 10, 3, [5, 0, 16], uu) := by decide +kernel
theorem e_99_77 : den cf 99 77 L (.ref a :: st) M = oK (gfA (M.2.2 a) 5 0) (fun v => den cf 99 80 L (v :: st) M) := den_gf l_99_77
theorem l_99_80 : look (tab 99) 80 = some (.aload 4, 2, [], uu) := by decide +kernel
theorem e_99_80 : den cf 99 80 [v0, v1, v2, v3, v4, v5] st M = if isRf v4 = true then den cf 99 82 [v0, v1, v2, v3, v4, v5] (v4 :: st) M else none := den_g l_99_80 rfl
theorem l_99_82 : look (tab 99) 82 = some (.aload 5, 2, [], uu) := by decide +kernel
theorem e_99_82 : den cf 99 82 [v0, v1, v2, v3, v4, v5] st M = if isRf v5 = true then den cf 99 84 [v0, v1, v2, v3, v4, v5] (v5 :: st) M else none := den_g l_99_82 rfl
theorem l_99_84 : look (tab 99) 84 = some (.invokevirtual 135, 3, [2, 29, 3, 272, 273, 274, 15], uu) := by decide +kernel
theorem e_99_84 : den cf 99 84 L (w2 :: w1 :: .ref a :: st) M = if rcv M 2 [.ref a, w1, w2] = true ∧ st.length ≤ 4 then rK (cf 29 [.ref a, w1, w2] M) (fun v M' => den cf 99 87 L (pR v st) M') else none := den_iv [w1, w2] l_99_84 rfl
theorem l_99_87 : look (tab 99) 87 = some (.ireturn, 1, [0], uu) := by decide +kernel
theorem e_99_87 : den cf 99 87 L [.int x] M = some (some (.int x), M) := den_e0 l_99_87
/-! yX5_bears -/
theorem l_100_0 : look (tab 100) 0 = some (.aload_n 0, 1, [], uu) := by decide +kernel
theorem e_100_0 : den cf 100 0 [.ref a, v1, v2, v3, v4, v5] st M = den cf 100 1 [.ref a, v1, v2, v3, v4, v5] (.ref a :: st) M := den_go l_100_0 rfl
theorem l_100_1 : look (tab 100) 1 = some (.getfield 16, 3, [5, 1, 17], uu) := by decide +kernel
theorem e_100_1 : den cf 100 1 L (.ref a :: st) M = oK (gfA (M.2.2 a) 5 1) (fun v => den cf 100 4 L (v :: st) M) := den_gf l_100_1
theorem l_100_4 : look (tab 100) 4 = some (.aload_n 0, 1, [], uu) := by decide +kernel
theorem e_100_4 : den cf 100 4 [.ref a, v1, v2, v3, v4, v5] st M = den cf 100 5 [.ref a, v1, v2, v3, v4, v5] (.ref a :: st) M := den_go l_100_4 rfl
theorem l_100_5 : look (tab 100) 5 = some (.getfield 10, 3, [5, 0, 16], uu) := by decide +kernel
theorem e_100_5 : den cf 100 5 L (.ref a :: st) M = oK (gfA (M.2.2 a) 5 0) (fun v => den cf 100 8 L (v :: st) M) := den_gf l_100_5
theorem l_100_8 : look (tab 100) 8 = some (.invokevirtual 174, 3, [2, 26, 2, 428, 429, 430, 15], uu) := by decide +kernel
theorem e_100_8 : den cf 100 8 L (w1 :: .ref a :: st) M = if rcv M 2 [.ref a, w1] = true ∧ st.length ≤ 4 then rK (cf 26 [.ref a, w1] M) (fun v M' => den cf 100 11 L (pR v st) M') else none := den_iv [w1] l_100_8 rfl
theorem l_100_11 : look (tab 100) 11 = some (.aload_n 0, 1, [], uu) := by decide +kernel
theorem e_100_11 : den cf 100 11 [.ref a, v1, v2, v3, v4, v5] st M = den cf 100 12 [.ref a, v1, v2, v3, v4, v5] (.ref a :: st) M := den_go l_100_11 rfl
theorem l_100_12 : look (tab 100) 12 = some (.getfield 16, 3, [5, 1, 17], uu) := by decide +kernel
theorem e_100_12 : den cf 100 12 L (.ref a :: st) M = oK (gfA (M.2.2 a) 5 1) (fun v => den cf 100 15 L (v :: st) M) := den_gf l_100_12
theorem l_100_15 : look (tab 100) 15 = some (.iload_n 1, 1, [], uu) := by decide +kernel
theorem e_100_15 : den cf 100 15 [v0, .int x, v2, v3, v4, v5] st M = den cf 100 16 [v0, .int x, v2, v3, v4, v5] (.int x :: st) M := den_go l_100_15 rfl
theorem l_100_16 : look (tab 100) 16 = some (.invokevirtual 105, 3, [2, 24, 2, 209, 210, 211, 15], uu) := by decide +kernel
theorem e_100_16 : den cf 100 16 L (w1 :: .ref a :: st) M = if rcv M 2 [.ref a, w1] = true ∧ st.length ≤ 4 then rK (cf 24 [.ref a, w1] M) (fun v M' => den cf 100 19 L (pR v st) M') else none := den_iv [w1] l_100_16 rfl
theorem l_100_19 : look (tab 100) 19 = some (.astore 4, 2, [], uu) := by decide +kernel
theorem e_100_19 : den cf 100 19 [v0, v1, v2, v3, v4, v5] (v :: st) M = if isRf v = true then den cf 100 21 [v0, v1, v2, kq v3, v, v5] st M else none := den_as (k := 4) (v := v) l_100_19 rfl (Nat.le_of_ble_eq_true rfl)
theorem l_100_21 : look (tab 100) 21 = some (.aload 4, 2, [], uu) := by decide +kernel
theorem e_100_21 : den cf 100 21 [v0, v1, v2, v3, v4, v5] st M = if isRf v4 = true then den cf 100 23 [v0, v1, v2, v3, v4, v5] (v4 :: st) M else none := den_g l_100_21 rfl
theorem l_100_23 : look (tab 100) 23 = some (.ifnull 21, 3, [44], uu) := by decide +kernel
theorem e_100_23 : den cf 100 23 L (va_rf o :: st) M = oN o (den cf 100 44 L st M) (den cf 100 26 L st M) := den_nu l_100_23
theorem e_100_23_n : den cf 100 23 L (.null :: st) M = den cf 100 44 L st M := den_go l_100_23 rfl
theorem e_100_23_r : den cf 100 23 L (.ref a :: st) M = den cf 100 26 L st M := den_go l_100_23 rfl
theorem l_100_26 : look (tab 100) 26 = some (.iload_n 2, 1, [], uu) := by decide +kernel
theorem e_100_26 : den cf 100 26 [v0, v1, .int x, v3, v4, v5] st M = den cf 100 27 [v0, v1, .int x, v3, v4, v5] (.int x :: st) M := den_go l_100_26 rfl
theorem l_100_27 : look (tab 100) 27 = some (.bipush 12, 2, [], .int (zI 12)) := by decide +kernel
theorem e_100_27 : den cf 100 27 L st M = den cf 100 29 L (.int (zI 12) :: st) M := den_go l_100_27 rfl
theorem l_100_29 : look (tab 100) 29 = some (.invokestatic 55, 3, [1, 129, 2, 110, 111, 2], uu) := by decide +kernel
theorem e_100_29 : den cf 100 29 L (w2 :: w1 :: st) M = if st.length ≤ 4 then rK (cf 129 [w1, w2] M) (fun v M' => den cf 100 32 L (pR v st) M') else none := den_ist [w1, w2] l_100_29 rfl
theorem l_100_32 : look (tab 100) 32 = some (.ifCond .eq 12, 3, [44], uu) := by decide +kernel
theorem e_100_32 : den cf 100 32 L (.int x :: st) M = if x = zI 0 then den cf 100 44 L st M else den cf 100 35 L st M := den_if_eq l_100_32
theorem l_100_35 : look (tab 100) 35 = some (.iload_n 3, 1, [], uu) := by decide +kernel
theorem e_100_35 : den cf 100 35 [v0, v1, v2, .int x, v4, v5] st M = den cf 100 36 [v0, v1, v2, .int x, v4, v5] (.int x :: st) M := den_go l_100_35 rfl
theorem l_100_36 : look (tab 100) 36 = some (.ldc 208, 2, [709], .int (zI 1000000)) := by decide +kernel
theorem e_100_36 : den cf 100 36 L st M = den cf 100 38 L (.int (zI 1000000) :: st) M := den_go l_100_36 rfl
theorem l_100_38 : look (tab 100) 38 = some (.invokestatic 55, 3, [1, 129, 2, 110, 111, 2], uu) := by decide +kernel
theorem e_100_38 : den cf 100 38 L (w2 :: w1 :: st) M = if st.length ≤ 4 then rK (cf 129 [w1, w2] M) (fun v M' => den cf 100 41 L (pR v st) M') else none := den_ist [w1, w2] l_100_38 rfl
theorem l_100_41 : look (tab 100) 41 = some (.ifCond .ne 10, 3, [51], uu) := by decide +kernel
theorem e_100_41 : den cf 100 41 L (.int x :: st) M = if x = zI 0 then den cf 100 44 L st M else den cf 100 51 L st M := den_if_ne l_100_41
theorem l_100_44 : look (tab 100) 44 = some (.aload_n 0, 1, [], uu) := by decide +kernel
theorem e_100_44 : den cf 100 44 [.ref a, v1, v2, v3, v4, v5] st M = den cf 100 45 [.ref a, v1, v2, v3, v4, v5] (.ref a :: st) M := den_go l_100_44 rfl
theorem l_100_45 : look (tab 100) 45 = some (.bipush (-2), 2, [], .int (zI (-2))) := by decide +kernel
theorem e_100_45 : den cf 100 45 L st M = den cf 100 47 L (.int (zI (-2)) :: st) M := den_go l_100_45 rfl
theorem l_100_47 : look (tab 100) 47 = some (.invokevirtual 59, 3, [5, 128, 2, 113, 114, 115, 2], uu) := by decide +kernel
theorem e_100_47 : den cf 100 47 L (w1 :: .ref a :: st) M = if rcv M 5 [.ref a, w1] = true ∧ st.length ≤ 4 then rK (cf 128 [.ref a, w1] M) (fun v M' => den cf 100 50 L (pR v st) M') else none := den_iv [w1] l_100_47 rfl
theorem l_100_50 : look (tab 100) 50 = some (.ireturn, 1, [0], uu) := by decide +kernel
theorem e_100_50 : den cf 100 50 L [.int x] M = some (some (.int x), M) := den_e0 l_100_50
theorem l_100_51 : look (tab 100) 51 = some (.aload 4, 2, [], uu) := by decide +kernel
theorem e_100_51 : den cf 100 51 [v0, v1, v2, v3, v4, v5] st M = if isRf v4 = true then den cf 100 53 [v0, v1, v2, v3, v4, v5] (v4 :: st) M else none := den_g l_100_51 rfl
theorem l_100_53 : look (tab 100) 53 = some (.getfield 127, 3, [1, 6, 237], uu) := by decide +kernel
theorem e_100_53 : den cf 100 53 L (.ref a :: st) M = oK (gfA (M.2.2 a) 1 6) (fun v => den cf 100 56 L (v :: st) M) := den_gf l_100_53
theorem l_100_56 : look (tab 100) 56 = some (.ifnonnull 10, 3, [66], uu) := by decide +kernel
theorem e_100_56 : den cf 100 56 L (va_rf o :: st) M = oN o (den cf 100 59 L st M) (den cf 100 66 L st M) := den_nn l_100_56
theorem e_100_56_n : den cf 100 56 L (.null :: st) M = den cf 100 59 L st M := den_go l_100_56 rfl
theorem e_100_56_r : den cf 100 56 L (.ref a :: st) M = den cf 100 66 L st M := den_go l_100_56 rfl
theorem l_100_59 : look (tab 100) 59 = some (.aload_n 0, 1, [], uu) := by decide +kernel
theorem e_100_59 : den cf 100 59 [.ref a, v1, v2, v3, v4, v5] st M = den cf 100 60 [.ref a, v1, v2, v3, v4, v5] (.ref a :: st) M := den_go l_100_59 rfl
theorem l_100_60 : look (tab 100) 60 = some (.bipush (-5), 2, [], .int (zI (-5))) := by decide +kernel
theorem e_100_60 : den cf 100 60 L st M = den cf 100 62 L (.int (zI (-5)) :: st) M := den_go l_100_60 rfl
theorem l_100_62 : look (tab 100) 62 = some (.invokevirtual 59, 3, [5, 128, 2, 113, 114, 115, 2], uu) := by decide +kernel
theorem e_100_62 : den cf 100 62 L (w1 :: .ref a :: st) M = if rcv M 5 [.ref a, w1] = true ∧ st.length ≤ 4 then rK (cf 128 [.ref a, w1] M) (fun v M' => den cf 100 65 L (pR v st) M') else none := den_iv [w1] l_100_62 rfl
theorem l_100_65 : look (tab 100) 65 = some (.ireturn, 1, [0], uu) := by decide +kernel
theorem e_100_65 : den cf 100 65 L [.int x] M = some (some (.int x), M) := den_e0 l_100_65
theorem l_100_66 : look (tab 100) 66 = some (.bipush 12, 2, [], .int (zI 12)) := by decide +kernel
theorem e_100_66 : den cf 100 66 L st M = den cf 100 68 L (.int (zI 12) :: st) M := den_go l_100_66 rfl
theorem l_100_68 : look (tab 100) 68 = some (.istore 5, 2, [], uu) := by decide +kernel
theorem e_100_68 : den cf 100 68 [v0, v1, v2, v3, v4, v5] (.int x :: st) M = den cf 100 70 [v0, v1, v2, v3, kq v4, .int x] st M := den_st (k := 5) (v := .int x) l_100_68 rfl
theorem l_100_70 : look (tab 100) 70 = some (.iload 5, 2, [], uu) := by decide +kernel
theorem e_100_70 : den cf 100 70 [v0, v1, v2, v3, v4, .int x] st M = den cf 100 72 [v0, v1, v2, v3, v4, .int x] (.int x :: st) M := den_go l_100_70 rfl
theorem l_100_72 : look (tab 100) 72 = some (.ifCond .lt 35, 3, [107], uu) := by decide +kernel
theorem e_100_72 : den cf 100 72 L (.int x :: st) M = if x < zI 0 then den cf 100 107 L st M else den cf 100 75 L st M := den_if_lt l_100_72
theorem l_100_75 : look (tab 100) 75 = some (.aload_n 0, 1, [], uu) := by decide +kernel
theorem e_100_75 : den cf 100 75 [.ref a, v1, v2, v3, v4, v5] st M = den cf 100 76 [.ref a, v1, v2, v3, v4, v5] (.ref a :: st) M := den_go l_100_75 rfl
theorem l_100_76 : look (tab 100) 76 = some (.getfield 16, 3, [5, 1, 17], uu) := by decide +kernel
theorem e_100_76 : den cf 100 76 L (.ref a :: st) M = oK (gfA (M.2.2 a) 5 1) (fun v => den cf 100 79 L (v :: st) M) := den_gf l_100_76
theorem l_100_79 : look (tab 100) 79 = some (.iload 5, 2, [], uu) := by decide +kernel
theorem e_100_79 : den cf 100 79 [v0, v1, v2, v3, v4, .int x] st M = den cf 100 81 [v0, v1, v2, v3, v4, .int x] (.int x :: st) M := den_go l_100_79 rfl
theorem l_100_81 : look (tab 100) 81 = some (.putfield 161, 3, [2, 2, 0, 391, 0], uu) := by decide +kernel
theorem e_100_81 : den cf 100 81 L (.int x :: .ref a :: st) M = oK (pfA (M.2.2 a) 2 2 (.int x)) (fun c => den cf 100 84 L st (mU M a c)) := den_pf0 l_100_81
theorem l_100_84 : look (tab 100) 84 = some (.aload_n 0, 1, [], uu) := by decide +kernel
theorem e_100_84 : den cf 100 84 [.ref a, v1, v2, v3, v4, v5] st M = den cf 100 85 [.ref a, v1, v2, v3, v4, v5] (.ref a :: st) M := den_go l_100_84 rfl
theorem l_100_85 : look (tab 100) 85 = some (.getfield 16, 3, [5, 1, 17], uu) := by decide +kernel
theorem e_100_85 : den cf 100 85 L (.ref a :: st) M = oK (gfA (M.2.2 a) 5 1) (fun v => den cf 100 88 L (v :: st) M) := den_gf l_100_85
theorem l_100_88 : look (tab 100) 88 = some (.aload 4, 2, [], uu) := by decide +kernel
theorem e_100_88 : den cf 100 88 [v0, v1, v2, v3, v4, v5] st M = if isRf v4 = true then den cf 100 90 [v0, v1, v2, v3, v4, v5] (v4 :: st) M else none := den_g l_100_88 rfl
theorem l_100_90 : look (tab 100) 90 = some (.iload_n 2, 1, [], uu) := by decide +kernel
theorem e_100_90 : den cf 100 90 [v0, v1, .int x, v3, v4, v5] st M = den cf 100 91 [v0, v1, .int x, v3, v4, v5] (.int x :: st) M := den_go l_100_90 rfl
theorem l_100_91 : look (tab 100) 91 = some (.invokevirtual 204, 3, [2, 33, 3, 686, 687, 688, 15], uu) := by decide +kernel
theorem e_100_91 : den cf 100 91 L (w2 :: w1 :: .ref a :: st) M = if rcv M 2 [.ref a, w1, w2] = true ∧ st.length ≤ 4 then rK (cf 33 [.ref a, w1, w2] M) (fun v M' => den cf 100 94 L (pR v st) M') else none := den_iv [w1, w2] l_100_91 rfl
theorem l_100_94 : look (tab 100) 94 = some (.iload_n 3, 1, [], uu) := by decide +kernel
theorem e_100_94 : den cf 100 94 [v0, v1, v2, .int x, v4, v5] st M = den cf 100 95 [v0, v1, v2, .int x, v4, v5] (.int x :: st) M := den_go l_100_94 rfl
theorem l_100_95 : look (tab 100) 95 = some (.if_icmp .lt 6, 3, [101], uu) := by decide +kernel
theorem e_100_95 : den cf 100 95 L (.int y :: .int x :: st) M = if x < y then den cf 100 101 L st M else den cf 100 98 L st M := den_ic_lt l_100_95
theorem l_100_98 : look (tab 100) 98 = some (.iload 5, 2, [], uu) := by decide +kernel
theorem e_100_98 : den cf 100 98 [v0, v1, v2, v3, v4, .int x] st M = den cf 100 100 [v0, v1, v2, v3, v4, .int x] (.int x :: st) M := den_go l_100_98 rfl
theorem l_100_100 : look (tab 100) 100 = some (.ireturn, 1, [0], uu) := by decide +kernel
theorem e_100_100 : den cf 100 100 L [.int x] M = some (some (.int x), M) := den_e0 l_100_100
theorem l_100_101 : look (tab 100) 101 = some (.iinc 5 (-1), 3, [], .int (zI (-1))) := by decide +kernel
theorem e_100_101 : den cf 100 101 [v0, v1, v2, v3, v4, .int x] st M = den cf 100 104 [v0, v1, v2, v3, kq v4, .int (x + (zI (-1)))] st M := den_st (k := 5) (v := .int (x + (zI (-1)))) l_100_101 rfl
theorem l_100_104 : look (tab 100) 104 = some (.goto (-34), 3, [70], uu) := by decide +kernel
theorem e_100_104 : den cf 100 104 L st M = den cf 100 70 L st M := den_go l_100_104 rfl
theorem l_100_107 : look (tab 100) 107 = some (.iconst (-1), 1, [], .int (zI (-1))) := by decide +kernel
theorem e_100_107 : den cf 100 107 L st M = den cf 100 108 L (.int (zI (-1)) :: st) M := den_go l_100_107 rfl
theorem l_100_108 : look (tab 100) 108 = some (.ireturn, 1, [0], uu) := by decide +kernel
theorem e_100_108 : den cf 100 108 L [.int x] M = some (some (.int x), M) := den_e0 l_100_108
/-! yX5_drift -/
theorem l_101_0 : look (tab 101) 0 = some (.aload_n 0, 1, [], uu) := by decide +kernel
theorem e_101_0 : den cf 101 0 [.ref a, v1, v2, v3, v4, v5, v6, v7] st M = den cf 101 1 [.ref a, v1, v2, v3, v4, v5, v6, v7] (.ref a :: st) M := den_go l_101_0 rfl
theorem l_101_1 : look (tab 101) 1 = some (.getfield 16, 3, [5, 1, 17], uu) := by decide +kernel
theorem e_101_1 : den cf 101 1 L (.ref a :: st) M = oK (gfA (M.2.2 a) 5 1) (fun v => den cf 101 4 L (v :: st) M) := den_gf l_101_1
theorem l_101_4 : look (tab 101) 4 = some (.aload_n 0, 1, [], uu) := by decide +kernel
theorem e_101_4 : den cf 101 4 [.ref a, v1, v2, v3, v4, v5, v6, v7] st M = den cf 101 5 [.ref a, v1, v2, v3, v4, v5, v6, v7] (.ref a :: st) M := den_go l_101_4 rfl
theorem l_101_5 : look (tab 101) 5 = some (.getfield 10, 3, [5, 0, 16], uu) := by decide +kernel
theorem e_101_5 : den cf 101 5 L (.ref a :: st) M = oK (gfA (M.2.2 a) 5 0) (fun v => den cf 101 8 L (v :: st) M) := den_gf l_101_5
theorem l_101_8 : look (tab 101) 8 = some (.invokevirtual 174, 3, [2, 26, 2, 428, 429, 430, 15], uu) := by decide +kernel
theorem e_101_8 : den cf 101 8 L (w1 :: .ref a :: st) M = if rcv M 2 [.ref a, w1] = true ∧ st.length ≤ 4 then rK (cf 26 [.ref a, w1] M) (fun v M' => den cf 101 11 L (pR v st) M') else none := den_iv [w1] l_101_8 rfl
theorem l_101_11 : look (tab 101) 11 = some (.aload_n 0, 1, [], uu) := by decide +kernel
theorem e_101_11 : den cf 101 11 [.ref a, v1, v2, v3, v4, v5, v6, v7] st M = den cf 101 12 [.ref a, v1, v2, v3, v4, v5, v6, v7] (.ref a :: st) M := den_go l_101_11 rfl
theorem l_101_12 : look (tab 101) 12 = some (.getfield 16, 3, [5, 1, 17], uu) := by decide +kernel
theorem e_101_12 : den cf 101 12 L (.ref a :: st) M = oK (gfA (M.2.2 a) 5 1) (fun v => den cf 101 15 L (v :: st) M) := den_gf l_101_12
theorem l_101_15 : look (tab 101) 15 = some (.iload_n 1, 1, [], uu) := by decide +kernel
theorem e_101_15 : den cf 101 15 [v0, .int x, v2, v3, v4, v5, v6, v7] st M = den cf 101 16 [v0, .int x, v2, v3, v4, v5, v6, v7] (.int x :: st) M := den_go l_101_15 rfl
theorem l_101_16 : look (tab 101) 16 = some (.invokevirtual 105, 3, [2, 24, 2, 209, 210, 211, 15], uu) := by decide +kernel
theorem e_101_16 : den cf 101 16 L (w1 :: .ref a :: st) M = if rcv M 2 [.ref a, w1] = true ∧ st.length ≤ 4 then rK (cf 24 [.ref a, w1] M) (fun v M' => den cf 101 19 L (pR v st) M') else none := den_iv [w1] l_101_16 rfl
theorem l_101_19 : look (tab 101) 19 = some (.astore_n 3, 1, [], uu) := by decide +kernel
theorem e_101_19 : den cf 101 19 [v0, v1, v2, v3, v4, v5, v6, v7] (v :: st) M = if isRf v = true then den cf 101 20 [v0, v1, kq v2, v, v4, v5, v6, v7] st M else none := den_as (k := 3) (v := v) l_101_19 rfl (Nat.le_of_ble_eq_true rfl)
theorem l_101_20 : look (tab 101) 20 = some (.aload_n 3, 1, [], uu) := by decide +kernel
theorem e_101_20 : den cf 101 20 [v0, v1, v2, v3, v4, v5, v6, v7] st M = if isRf v3 = true then den cf 101 21 [v0, v1, v2, v3, v4, v5, v6, v7] (v3 :: st) M else none := den_g l_101_20 rfl
theorem l_101_21 : look (tab 101) 21 = some (.ifnull 12, 3, [33], uu) := by decide +kernel
theorem e_101_21 : den cf 101 21 L (va_rf o :: st) M = oN o (den cf 101 33 L st M) (den cf 101 24 L st M) := den_nu l_101_21
theorem e_101_21_n : den cf 101 21 L (.null :: st) M = den cf 101 33 L st M := den_go l_101_21 rfl
theorem e_101_21_r : den cf 101 21 L (.ref a :: st) M = den cf 101 24 L st M := den_go l_101_21 rfl
theorem l_101_24 : look (tab 101) 24 = some (.iload_n 2, 1, [], uu) := by decide +kernel
theorem e_101_24 : den cf 101 24 [v0, v1, .int x, v3, v4, v5, v6, v7] st M = den cf 101 25 [v0, v1, .int x, v3, v4, v5, v6, v7] (.int x :: st) M := den_go l_101_24 rfl
theorem l_101_25 : look (tab 101) 25 = some (.bipush 40, 2, [], .int (zI 40)) := by decide +kernel
theorem e_101_25 : den cf 101 25 L st M = den cf 101 27 L (.int (zI 40) :: st) M := den_go l_101_25 rfl
theorem l_101_27 : look (tab 101) 27 = some (.invokestatic 55, 3, [1, 129, 2, 110, 111, 2], uu) := by decide +kernel
theorem e_101_27 : den cf 101 27 L (w2 :: w1 :: st) M = if st.length ≤ 4 then rK (cf 129 [w1, w2] M) (fun v M' => den cf 101 30 L (pR v st) M') else none := den_ist [w1, w2] l_101_27 rfl
theorem l_101_30 : look (tab 101) 30 = some (.ifCond .ne 10, 3, [40], uu) := by decide +kernel
theorem e_101_30 : den cf 101 30 L (.int x :: st) M = if x = zI 0 then den cf 101 33 L st M else den cf 101 40 L st M := den_if_ne l_101_30
theorem l_101_33 : look (tab 101) 33 = some (.aload_n 0, 1, [], uu) := by decide +kernel
theorem e_101_33 : den cf 101 33 [.ref a, v1, v2, v3, v4, v5, v6, v7] st M = den cf 101 34 [.ref a, v1, v2, v3, v4, v5, v6, v7] (.ref a :: st) M := den_go l_101_33 rfl
theorem l_101_34 : look (tab 101) 34 = some (.bipush (-2), 2, [], .int (zI (-2))) := by decide +kernel
theorem e_101_34 : den cf 101 34 L st M = den cf 101 36 L (.int (zI (-2)) :: st) M := den_go l_101_34 rfl
theorem l_101_36 : look (tab 101) 36 = some (.invokevirtual 59, 3, [5, 128, 2, 113, 114, 115, 2], uu) := by decide +kernel
theorem e_101_36 : den cf 101 36 L (w1 :: .ref a :: st) M = if rcv M 5 [.ref a, w1] = true ∧ st.length ≤ 4 then rK (cf 128 [.ref a, w1] M) (fun v M' => den cf 101 39 L (pR v st) M') else none := den_iv [w1] l_101_36 rfl
theorem l_101_39 : look (tab 101) 39 = some (.ireturn, 1, [0], uu) := by decide +kernel
theorem e_101_39 : den cf 101 39 L [.int x] M = some (some (.int x), M) := den_e0 l_101_39
theorem l_101_40 : look (tab 101) 40 = some (.aload_n 3, 1, [], uu) := by decide +kernel
theorem e_101_40 : den cf 101 40 [v0, v1, v2, v3, v4, v5, v6, v7] st M = if isRf v3 = true then den cf 101 41 [v0, v1, v2, v3, v4, v5, v6, v7] (v3 :: st) M else none := den_g l_101_40 rfl
theorem l_101_41 : look (tab 101) 41 = some (.invokevirtual 216, 3, [1, 19, 1, 1011, 666, 667, 41], uu) := by decide +kernel
theorem e_101_41 : den cf 101 41 L (.ref a :: st) M = if rcv M 1 [.ref a] = true ∧ st.length ≤ 4 then rK (cf 19 [.ref a] M) (fun v M' => den cf 101 44 L (pR v st) M') else none := den_iv [] l_101_41 rfl
theorem l_101_44 : look (tab 101) 44 = some (.astore 4, 2, [], uu) := by decide +kernel
theorem e_101_44 : den cf 101 44 [v0, v1, v2, v3, v4, v5, v6, v7] (v :: st) M = if isRf v = true then den cf 101 46 [v0, v1, v2, kq v3, v, v5, v6, v7] st M else none := den_as (k := 4) (v := v) l_101_44 rfl (Nat.le_of_ble_eq_true rfl)
theorem l_101_46 : look (tab 101) 46 = some (.aload 4, 2, [], uu) := by decide +kernel
theorem e_101_46 : den cf 101 46 [v0, v1, v2, v3, v4, v5, v6, v7] st M = if isRf v4 = true then den cf 101 48 [v0, v1, v2, v3, v4, v5, v6, v7] (v4 :: st) M else none := den_g l_101_46 rfl
theorem l_101_48 : look (tab 101) 48 = some (.ifnull 11, 3, [59], uu) := by decide +kernel
theorem e_101_48 : den cf 101 48 L (va_rf o :: st) M = oN o (den cf 101 59 L st M) (den cf 101 51 L st M) := den_nu l_101_48
theorem e_101_48_n : den cf 101 48 L (.null :: st) M = den cf 101 59 L st M := den_go l_101_48 rfl
theorem e_101_48_r : den cf 101 48 L (.ref a :: st) M = den cf 101 51 L st M := den_go l_101_48 rfl
theorem l_101_51 : look (tab 101) 51 = some (.aload 4, 2, [], uu) := by decide +kernel
theorem e_101_51 : den cf 101 51 [v0, v1, v2, v3, v4, v5, v6, v7] st M = if isRf v4 = true then den cf 101 53 [v0, v1, v2, v3, v4, v5, v6, v7] (v4 :: st) M else none := den_g l_101_51 rfl
theorem l_101_53 : look (tab 101) 53 = some (.getfield 127, 3, [1, 6, 237], uu) := by decide +kernel
theorem e_101_53 : den cf 101 53 L (.ref a :: st) M = oK (gfA (M.2.2 a) 1 6) (fun v => den cf 101 56 L (v :: st) M) := den_gf l_101_53
theorem l_101_56 : look (tab 101) 56 = some (.ifnonnull 10, 3, [66], uu) := by decide +kernel
theorem e_101_56 : den cf 101 56 L (va_rf o :: st) M = oN o (den cf 101 59 L st M) (den cf 101 66 L st M) := den_nn l_101_56
theorem e_101_56_n : den cf 101 56 L (.null :: st) M = den cf 101 59 L st M := den_go l_101_56 rfl
theorem e_101_56_r : den cf 101 56 L (.ref a :: st) M = den cf 101 66 L st M := den_go l_101_56 rfl
theorem l_101_59 : look (tab 101) 59 = some (.aload_n 0, 1, [], uu) := by decide +kernel
theorem e_101_59 : den cf 101 59 [.ref a, v1, v2, v3, v4, v5, v6, v7] st M = den cf 101 60 [.ref a, v1, v2, v3, v4, v5, v6, v7] (.ref a :: st) M := den_go l_101_59 rfl
theorem l_101_60 : look (tab 101) 60 = some (.bipush (-5), 2, [], .int (zI (-5))) := by decide +kernel
theorem e_101_60 : den cf 101 60 L st M = den cf 101 62 L (.int (zI (-5)) :: st) M := den_go l_101_60 rfl
theorem l_101_62 : look (tab 101) 62 = some (.invokevirtual 59, 3, [5, 128, 2, 113, 114, 115, 2], uu) := by decide +kernel
theorem e_101_62 : den cf 101 62 L (w1 :: .ref a :: st) M = if rcv M 5 [.ref a, w1] = true ∧ st.length ≤ 4 then rK (cf 128 [.ref a, w1] M) (fun v M' => den cf 101 65 L (pR v st) M') else none := den_iv [w1] l_101_62 rfl
theorem l_101_65 : look (tab 101) 65 = some (.ireturn, 1, [0], uu) := by decide +kernel
theorem e_101_65 : den cf 101 65 L [.int x] M = some (some (.int x), M) := den_e0 l_101_65
theorem l_101_66 : look (tab 101) 66 = some (.aload 4, 2, [], uu) := by decide +kernel
theorem e_101_66 : den cf 101 66 [v0, v1, v2, v3, v4, v5, v6, v7] st M = if isRf v4 = true then den cf 101 68 [v0, v1, v2, v3, v4, v5, v6, v7] (v4 :: st) M else none := den_g l_101_66 rfl
theorem l_101_68 : look (tab 101) 68 = some (.getfield 127, 3, [1, 6, 237], uu) := by decide +kernel
theorem e_101_68 : den cf 101 68 L (.ref a :: st) M = oK (gfA (M.2.2 a) 1 6) (fun v => den cf 101 71 L (v :: st) M) := den_gf l_101_68
theorem l_101_71 : look (tab 101) 71 = some (.astore 5, 2, [], uu) := by decide +kernel
theorem e_101_71 : den cf 101 71 [v0, v1, v2, v3, v4, v5, v6, v7] (v :: st) M = if isRf v = true then den cf 101 73 [v0, v1, v2, v3, kq v4, v, v6, v7] st M else none := den_as (k := 5) (v := v) l_101_71 rfl (Nat.le_of_ble_eq_true rfl)
theorem l_101_73 : look (tab 101) 73 = some (.iconst 0, 1, [], .int (zI 0)) := by decide +kernel
theorem e_101_73 : den cf 101 73 L st M = den cf 101 74 L (.int (zI 0) :: st) M := den_go l_101_73 rfl
theorem l_101_74 : look (tab 101) 74 = some (.istore 6, 2, [], uu) := by decide +kernel
theorem e_101_74 : den cf 101 74 [v0, v1, v2, v3, v4, v5, v6, v7] (.int x :: st) M = den cf 101 76 [v0, v1, v2, v3, v4, kq v5, .int x, v7] st M := den_st (k := 6) (v := .int x) l_101_74 rfl
theorem l_101_76 : look (tab 101) 76 = some (.iload 6, 2, [], uu) := by decide +kernel
theorem e_101_76 : den cf 101 76 [v0, v1, v2, v3, v4, v5, .int x, v7] st M = den cf 101 78 [v0, v1, v2, v3, v4, v5, .int x, v7] (.int x :: st) M := den_go l_101_76 rfl
theorem l_101_78 : look (tab 101) 78 = some (.iload_n 2, 1, [], uu) := by decide +kernel
theorem e_101_78 : den cf 101 78 [v0, v1, .int x, v3, v4, v5, v6, v7] st M = den cf 101 79 [v0, v1, .int x, v3, v4, v5, v6, v7] (.int x :: st) M := den_go l_101_78 rfl
theorem l_101_79 : look (tab 101) 79 = some (.if_icmp .ge 31, 3, [110], uu) := by decide +kernel
theorem e_101_79 : den cf 101 79 L (.int y :: .int x :: st) M = if x < y then den cf 101 82 L st M else den cf 101 110 L st M := den_ic_ge l_101_79
theorem l_101_82 : look (tab 101) 82 = some (.aload 5, 2, [], uu) := by decide +kernel
theorem e_101_82 : den cf 101 82 [v0, v1, v2, v3, v4, v5, v6, v7] st M = if isRf v5 = true then den cf 101 84 [v0, v1, v2, v3, v4, v5, v6, v7] (v5 :: st) M else none := den_g l_101_82 rfl
theorem l_101_84 : look (tab 101) 84 = some (.astore 7, 2, [], uu) := by decide +kernel
theorem e_101_84 : den cf 101 84 [v0, v1, v2, v3, v4, v5, v6, v7] (v :: st) M = if isRf v = true then den cf 101 86 [v0, v1, v2, v3, v4, v5, kq v6, v] st M else none := den_as (k := 7) (v := v) l_101_84 rfl (Nat.le_of_ble_eq_true rfl)
theorem l_101_86 : look (tab 101) 86 = some (.aload_n 0, 1, [], uu) := by decide +kernel
theorem e_101_86 : den cf 101 86 [.ref a, v1, v2, v3, v4, v5, v6, v7] st M = den cf 101 87 [.ref a, v1, v2, v3, v4, v5, v6, v7] (.ref a :: st) M := den_go l_101_86 rfl
theorem l_101_87 : look (tab 101) 87 = some (.getfield 16, 3, [5, 1, 17], uu) := by decide +kernel
theorem e_101_87 : den cf 101 87 L (.ref a :: st) M = oK (gfA (M.2.2 a) 5 1) (fun v => den cf 101 90 L (v :: st) M) := den_gf l_101_87
theorem l_101_90 : look (tab 101) 90 = some (.aload 4, 2, [], uu) := by decide +kernel
theorem e_101_90 : den cf 101 90 [v0, v1, v2, v3, v4, v5, v6, v7] st M = if isRf v4 = true then den cf 101 92 [v0, v1, v2, v3, v4, v5, v6, v7] (v4 :: st) M else none := den_g l_101_90 rfl
theorem l_101_92 : look (tab 101) 92 = some (.iconst 1, 1, [], .int (zI 1)) := by decide +kernel
theorem e_101_92 : den cf 101 92 L st M = den cf 101 93 L (.int (zI 1) :: st) M := den_go l_101_92 rfl
theorem l_101_93 : look (tab 101) 93 = some (.invokevirtual 220, 3, [2, 30, 3, 1012, 1013, 1014, 15], uu) := by decide +kernel
theorem e_101_93 : den cf 101 93 L (w2 :: w1 :: .ref a :: st) M = if rcv M 2 [.ref a, w1, w2] = true ∧ st.length ≤ 4 then rK (cf 30 [.ref a, w1, w2] M) (fun v M' => den cf 101 96 L (pR v st) M') else none := den_iv [w1, w2] l_101_93 rfl
theorem l_101_96 : look (tab 101) 96 = some (.aload 4, 2, [], uu) := by decide +kernel
theorem e_101_96 : den cf 101 96 [v0, v1, v2, v3, v4, v5, v6, v7] st M = if isRf v4 = true then den cf 101 98 [v0, v1, v2, v3, v4, v5, v6, v7] (v4 :: st) M else none := den_g l_101_96 rfl
theorem l_101_98 : look (tab 101) 98 = some (.astore 5, 2, [], uu) := by decide +kernel
theorem e_101_98 : den cf 101 98 [v0, v1, v2, v3, v4, v5, v6, v7] (v :: st) M = if isRf v = true then den cf 101 100 [v0, v1, v2, v3, kq v4, v, v6, v7] st M else none := den_as (k := 5) (v := v) l_101_98 rfl (Nat.le_of_ble_eq_true rfl)
theorem l_101_100 : look (tab 101) 100 = some (.aload 7, 2, [], uu) := by decide +kernel
theorem e_101_100 : den cf 101 100 [v0, v1, v2, v3, v4, v5, v6, v7] st M = if isRf v7 = true then den cf 101 102 [v0, v1, v2, v3, v4, v5, v6, v7] (v7 :: st) M else none := den_g l_101_100 rfl
theorem l_101_102 : look (tab 101) 102 = some (.astore 4, 2, [], uu) := by decide +kernel
theorem e_101_102 : den cf 101 102 [v0, v1, v2, v3, v4, v5, v6, v7] (v :: st) M = if isRf v = true then den cf 101 104 [v0, v1, v2, kq v3, v, v5, v6, v7] st M else none := den_as (k := 4) (v := v) l_101_102 rfl (Nat.le_of_ble_eq_true rfl)
theorem l_101_104 : look (tab 101) 104 = some (.iinc 6 1, 3, [], .int (zI 1)) := by decide +kernel
theorem e_101_104 : den cf 101 104 [v0, v1, v2, v3, v4, v5, .int x, v7] st M = den cf 101 107 [v0, v1, v2, v3, v4, kq v5, .int (x + (zI 1)), v7] st M := den_st (k := 6) (v := .int (x + (zI 1))) l_101_104 rfl
theorem l_101_107 : look (tab 101) 107 = some (.goto (-31), 3, [76], uu) := by decide +kernel
theorem e_101_107 : den cf 101 107 L st M = den cf 101 76 L st M := den_go l_101_107 rfl
theorem l_101_110 : look (tab 101) 110 = some (.aload 5, 2, [], uu) := by decide +kernel
theorem e_101_110 : den cf 101 110 [v0, v1, v2, v3, v4, v5, v6, v7] st M = if isRf v5 = true then den cf 101 112 [v0, v1, v2, v3, v4, v5, v6, v7] (v5 :: st) M else none := den_g l_101_110 rfl
theorem l_101_112 : look (tab 101) 112 = some (.getfield 197, 3, [1, 9, 632], uu) := by decide +kernel
theorem e_101_112 : den cf 101 112 L (.ref a :: st) M = oK (gfA (M.2.2 a) 1 9) (fun v => den cf 101 115 L (v :: st) M) := den_gf l_101_112
theorem l_101_115 : look (tab 101) 115 = some (.ireturn, 1, [0], uu) := by decide +kernel
theorem e_101_115 : den cf 101 115 L [.int x] M = some (some (.int x), M) := den_e0 l_101_115
/-! yX5_paired -/
theorem l_102_0 : look (tab 102) 0 = some (.aload_n 0, 1, [], uu) := by decide +kernel
theorem e_102_0 : den cf 102 0 [.ref a, v1, v2] st M = den cf 102 1 [.ref a, v1, v2] (.ref a :: st) M := den_go l_102_0 rfl
theorem l_102_1 : look (tab 102) 1 = some (.getfield 29, 3, [5, 4, 23], uu) := by decide +kernel
theorem e_102_1 : den cf 102 1 L (.ref a :: st) M = oK (gfA (M.2.2 a) 5 4) (fun v => den cf 102 4 L (v :: st) M) := den_gf l_102_1
theorem l_102_4 : look (tab 102) 4 = some (.aload_n 0, 1, [], uu) := by decide +kernel
theorem e_102_4 : den cf 102 4 [.ref a, v1, v2] st M = den cf 102 5 [.ref a, v1, v2] (.ref a :: st) M := den_go l_102_4 rfl
theorem l_102_5 : look (tab 102) 5 = some (.getfield 10, 3, [5, 0, 16], uu) := by decide +kernel
theorem e_102_5 : den cf 102 5 L (.ref a :: st) M = oK (gfA (M.2.2 a) 5 0) (fun v => den cf 102 8 L (v :: st) M) := den_gf l_102_5
theorem l_102_8 : look (tab 102) 8 = some (.invokevirtual 224, 3, [0, 5, 2, 733, 734, 735, 22], uu) := by decide +kernel
theorem e_102_8 : den cf 102 8 L (w1 :: .ref a :: st) M = if rcv M 0 [.ref a, w1] = true ∧ st.length ≤ 4 then rK (cf 5 [.ref a, w1] M) (fun v M' => den cf 102 11 L (pR v st) M') else none := den_iv [w1] l_102_8 rfl
theorem l_102_11 : look (tab 102) 11 = some (.iload_n 1, 1, [], uu) := by decide +kernel
theorem e_102_11 : den cf 102 11 [v0, .int x, v2] st M = den cf 102 12 [v0, .int x, v2] (.int x :: st) M := den_go l_102_11 rfl
theorem l_102_12 : look (tab 102) 12 = some (.iconst (-1), 1, [], .int (zI (-1))) := by decide +kernel
theorem e_102_12 : den cf 102 12 L st M = den cf 102 13 L (.int (zI (-1)) :: st) M := den_go l_102_12 rfl
theorem l_102_13 : look (tab 102) 13 = some (.if_icmp .ne 11, 3, [24], uu) := by decide +kernel
theorem e_102_13 : den cf 102 13 L (.int y :: .int x :: st) M = if x = y then den cf 102 16 L st M else den cf 102 24 L st M := den_ic_ne l_102_13
theorem l_102_16 : look (tab 102) 16 = some (.aload_n 0, 1, [], uu) := by decide +kernel
theorem e_102_16 : den cf 102 16 [.ref a, v1, v2] st M = den cf 102 17 [.ref a, v1, v2] (.ref a :: st) M := den_go l_102_16 rfl
theorem l_102_17 : look (tab 102) 17 = some (.getfield 29, 3, [5, 4, 23], uu) := by decide +kernel
theorem e_102_17 : den cf 102 17 L (.ref a :: st) M = oK (gfA (M.2.2 a) 5 4) (fun v => den cf 102 20 L (v :: st) M) := den_gf l_102_17
theorem l_102_20 : look (tab 102) 20 = some (.getfield 227, 3, [0, 6, 731], uu) := by decide +kernel
theorem e_102_20 : den cf 102 20 L (.ref a :: st) M = oK (gfA (M.2.2 a) 0 6) (fun v => den cf 102 23 L (v :: st) M) := den_gf l_102_20
theorem l_102_23 : look (tab 102) 23 = some (.ireturn, 1, [0], uu) := by decide +kernel
theorem e_102_23 : den cf 102 23 L [.int x] M = some (some (.int x), M) := den_e0 l_102_23
theorem l_102_24 : look (tab 102) 24 = some (.iload_n 1, 1, [], uu) := by decide +kernel
theorem e_102_24 : den cf 102 24 [v0, .int x, v2] st M = den cf 102 25 [v0, .int x, v2] (.int x :: st) M := den_go l_102_24 rfl
theorem l_102_25 : look (tab 102) 25 = some (.ifCond .lt 14, 3, [39], uu) := by decide +kernel
theorem e_102_25 : den cf 102 25 L (.int x :: st) M = if x < zI 0 then den cf 102 39 L st M else den cf 102 28 L st M := den_if_lt l_102_25
theorem l_102_28 : look (tab 102) 28 = some (.iload_n 1, 1, [], uu) := by decide +kernel
theorem e_102_28 : den cf 102 28 [v0, .int x, v2] st M = den cf 102 29 [v0, .int x, v2] (.int x :: st) M := den_go l_102_28 rfl
theorem l_102_29 : look (tab 102) 29 = some (.aload_n 0, 1, [], uu) := by decide +kernel
theorem e_102_29 : den cf 102 29 [.ref a, v1, v2] st M = den cf 102 30 [.ref a, v1, v2] (.ref a :: st) M := den_go l_102_29 rfl
theorem l_102_30 : look (tab 102) 30 = some (.getfield 29, 3, [5, 4, 23], uu) := by decide +kernel
theorem e_102_30 : den cf 102 30 L (.ref a :: st) M = oK (gfA (M.2.2 a) 5 4) (fun v => den cf 102 33 L (v :: st) M) := den_gf l_102_30
theorem l_102_33 : look (tab 102) 33 = some (.getfield 230, 3, [0, 4, 732], uu) := by decide +kernel
theorem e_102_33 : den cf 102 33 L (.ref a :: st) M = oK (gfA (M.2.2 a) 0 4) (fun v => den cf 102 36 L (v :: st) M) := den_gf l_102_33
theorem l_102_36 : look (tab 102) 36 = some (.if_icmp .lt 10, 3, [46], uu) := by decide +kernel
theorem e_102_36 : den cf 102 36 L (.int y :: .int x :: st) M = if x < y then den cf 102 46 L st M else den cf 102 39 L st M := den_ic_lt l_102_36
theorem l_102_39 : look (tab 102) 39 = some (.aload_n 0, 1, [], uu) := by decide +kernel
theorem e_102_39 : den cf 102 39 [.ref a, v1, v2] st M = den cf 102 40 [.ref a, v1, v2] (.ref a :: st) M := den_go l_102_39 rfl
theorem l_102_40 : look (tab 102) 40 = some (.bipush (-2), 2, [], .int (zI (-2))) := by decide +kernel
theorem e_102_40 : den cf 102 40 L st M = den cf 102 42 L (.int (zI (-2)) :: st) M := den_go l_102_40 rfl
theorem l_102_42 : look (tab 102) 42 = some (.invokevirtual 59, 3, [5, 128, 2, 113, 114, 115, 2], uu) := by decide +kernel
theorem e_102_42 : den cf 102 42 L (w1 :: .ref a :: st) M = if rcv M 5 [.ref a, w1] = true ∧ st.length ≤ 4 then rK (cf 128 [.ref a, w1] M) (fun v M' => den cf 102 45 L (pR v st) M') else none := den_iv [w1] l_102_42 rfl
theorem l_102_45 : look (tab 102) 45 = some (.ireturn, 1, [0], uu) := by decide +kernel
theorem e_102_45 : den cf 102 45 L [.int x] M = some (some (.int x), M) := den_e0 l_102_45
theorem l_102_46 : look (tab 102) 46 = some (.aload_n 0, 1, [], uu) := by decide +kernel
theorem e_102_46 : den cf 102 46 [.ref a, v1, v2] st M = den cf 102 47 [.ref a, v1, v2] (.ref a :: st) M := den_go l_102_46 rfl
theorem l_102_47 : look (tab 102) 47 = some (.getfield 29, 3, [5, 4, 23], uu) := by decide +kernel
theorem e_102_47 : den cf 102 47 L (.ref a :: st) M = oK (gfA (M.2.2 a) 5 4) (fun v => den cf 102 50 L (v :: st) M) := den_gf l_102_47
theorem l_102_50 : look (tab 102) 50 = some (.iload_n 1, 1, [], uu) := by decide +kernel
theorem e_102_50 : den cf 102 50 [v0, .int x, v2] st M = den cf 102 51 [v0, .int x, v2] (.int x :: st) M := den_go l_102_50 rfl
theorem l_102_51 : look (tab 102) 51 = some (.invokevirtual 233, 3, [0, 3, 2, 778, 779, 780, 22], uu) := by decide +kernel
theorem e_102_51 : den cf 102 51 L (w1 :: .ref a :: st) M = if rcv M 0 [.ref a, w1] = true ∧ st.length ≤ 4 then rK (cf 3 [.ref a, w1] M) (fun v M' => den cf 102 54 L (pR v st) M') else none := den_iv [w1] l_102_51 rfl
theorem l_102_54 : look (tab 102) 54 = some (.astore_n 2, 1, [], uu) := by decide +kernel
theorem e_102_54 : den cf 102 54 [v0, v1, v2] (v :: st) M = if isRf v = true then den cf 102 55 [v0, kq v1, v] st M else none := den_as (k := 2) (v := v) l_102_54 rfl (Nat.le_of_ble_eq_true rfl)
theorem l_102_55 : look (tab 102) 55 = some (.aload_n 2, 1, [], uu) := by decide +kernel
theorem e_102_55 : den cf 102 55 [v0, v1, v2] st M = if isRf v2 = true then den cf 102 56 [v0, v1, v2] (v2 :: st) M else none := den_g l_102_55 rfl
theorem l_102_56 : look (tab 102) 56 = some (.ifnonnull 7, 3, [63], uu) := by decide +kernel
theorem e_102_56 : den cf 102 56 L (va_rf o :: st) M = oN o (den cf 102 59 L st M) (den cf 102 63 L st M) := den_nn l_102_56
theorem e_102_56_n : den cf 102 56 L (.null :: st) M = den cf 102 59 L st M := den_go l_102_56 rfl
theorem e_102_56_r : den cf 102 56 L (.ref a :: st) M = den cf 102 63 L st M := den_go l_102_56 rfl
theorem l_102_59 : look (tab 102) 59 = some (.iconst (-1), 1, [], .int (zI (-1))) := by decide +kernel
theorem e_102_59 : den cf 102 59 L st M = den cf 102 60 L (.int (zI (-1)) :: st) M := den_go l_102_59 rfl
theorem l_102_60 : look (tab 102) 60 = some (.goto 7, 3, [67], uu) := by decide +kernel
theorem e_102_60 : den cf 102 60 L st M = den cf 102 67 L st M := den_go l_102_60 rfl
theorem l_102_63 : look (tab 102) 63 = some (.aload_n 2, 1, [], uu) := by decide +kernel
theorem e_102_63 : den cf 102 63 [v0, v1, v2] st M = if isRf v2 = true then den cf 102 64 [v0, v1, v2] (v2 :: st) M else none := den_g l_102_63 rfl
theorem l_102_64 : look (tab 102) 64 = some (.getfield 160, 3, [1, 0, 374], uu) := by decide +kernel
theorem e_102_64 : den cf 102 64 L (.ref a :: st) M = oK (gfA (M.2.2 a) 1 0) (fun v => den cf 102 67 L (v :: st) M) := den_gf l_102_64
theorem l_102_67 : look (tab 102) 67 = some (.ireturn, 1, [0], uu) := by decide +kernel
theorem e_102_67 : den cf 102 67 L [.int x] M = some (some (.int x), M) := den_e0 l_102_67
/-! yX5_left -/
theorem l_103_0 : look (tab 103) 0 = some (.aload_n 0, 1, [], uu) := by decide +kernel
theorem e_103_0 : den cf 103 0 [.ref a, v1, v2, v3, v4, v5] st M = den cf 103 1 [.ref a, v1, v2, v3, v4, v5] (.ref a :: st) M := den_go l_103_0 rfl
theorem l_103_1 : look (tab 103) 1 = some (.getfield 29, 3, [5, 4, 23], uu) := by decide +kernel
theorem e_103_1 : den cf 103 1 L (.ref a :: st) M = oK (gfA (M.2.2 a) 5 4) (fun v => den cf 103 4 L (v :: st) M) := den_gf l_103_1
theorem l_103_4 : look (tab 103) 4 = some (.aload_n 0, 1, [], uu) := by decide +kernel
theorem e_103_4 : den cf 103 4 [.ref a, v1, v2, v3, v4, v5] st M = den cf 103 5 [.ref a, v1, v2, v3, v4, v5] (.ref a :: st) M := den_go l_103_4 rfl
theorem l_103_5 : look (tab 103) 5 = some (.getfield 10, 3, [5, 0, 16], uu) := by decide +kernel
theorem e_103_5 : den cf 103 5 L (.ref a :: st) M = oK (gfA (M.2.2 a) 5 0) (fun v => den cf 103 8 L (v :: st) M) := den_gf l_103_5
theorem l_103_8 : look (tab 103) 8 = some (.invokevirtual 224, 3, [0, 5, 2, 733, 734, 735, 22], uu) := by decide +kernel
theorem e_103_8 : den cf 103 8 L (w1 :: .ref a :: st) M = if rcv M 0 [.ref a, w1] = true ∧ st.length ≤ 4 then rK (cf 5 [.ref a, w1] M) (fun v M' => den cf 103 11 L (pR v st) M') else none := den_iv [w1] l_103_8 rfl
theorem l_103_11 : look (tab 103) 11 = some (.iconst 0, 1, [], .int (zI 0)) := by decide +kernel
theorem e_103_11 : den cf 103 11 L st M = den cf 103 12 L (.int (zI 0) :: st) M := den_go l_103_11 rfl
theorem l_103_12 : look (tab 103) 12 = some (.istore_n 1, 1, [], uu) := by decide +kernel
theorem e_103_12 : den cf 103 12 [v0, v1, v2, v3, v4, v5] (.int x :: st) M = den cf 103 13 [kq v0, .int x, v2, v3, v4, v5] st M := den_st (k := 1) (v := .int x) l_103_12 rfl
theorem l_103_13 : look (tab 103) 13 = some (.aload_n 0, 1, [], uu) := by decide +kernel
theorem e_103_13 : den cf 103 13 [.ref a, v1, v2, v3, v4, v5] st M = den cf 103 14 [.ref a, v1, v2, v3, v4, v5] (.ref a :: st) M := den_go l_103_13 rfl
theorem l_103_14 : look (tab 103) 14 = some (.getfield 10, 3, [5, 0, 16], uu) := by decide +kernel
theorem e_103_14 : den cf 103 14 L (.ref a :: st) M = oK (gfA (M.2.2 a) 5 0) (fun v => den cf 103 17 L (v :: st) M) := den_gf l_103_14
theorem l_103_17 : look (tab 103) 17 = some (.getfield 236, 3, [2, 0, 802], uu) := by decide +kernel
theorem e_103_17 : den cf 103 17 L (.ref a :: st) M = oK (gfA (M.2.2 a) 2 0) (fun v => den cf 103 20 L (v :: st) M) := den_gf l_103_17
theorem l_103_20 : look (tab 103) 20 = some (.astore_n 2, 1, [], uu) := by decide +kernel
theorem e_103_20 : den cf 103 20 [v0, v1, v2, v3, v4, v5] (v :: st) M = if isRf v = true then den cf 103 21 [v0, kq v1, v, v3, v4, v5] st M else none := den_as (k := 2) (v := v) l_103_20 rfl (Nat.le_of_ble_eq_true rfl)
theorem l_103_21 : look (tab 103) 21 = some (.aload_n 2, 1, [], uu) := by decide +kernel
theorem e_103_21 : den cf 103 21 [v0, v1, v2, v3, v4, v5] st M = if isRf v2 = true then den cf 103 22 [v0, v1, v2, v3, v4, v5] (v2 :: st) M else none := den_g l_103_21 rfl
theorem l_103_22 : look (tab 103) 22 = some (.arraylength, 1, [], uu) := by decide +kernel
theorem e_103_22 : den cf 103 22 L (.ref a :: st) M = oK (lenA (M.2.2 a)) (fun n => den cf 103 23 L (.int (zI n) :: st) M) := den_len l_103_22
theorem l_103_23 : look (tab 103) 23 = some (.istore_n 3, 1, [], uu) := by decide +kernel
theorem e_103_23 : den cf 103 23 [v0, v1, v2, v3, v4, v5] (.int x :: st) M = den cf 103 24 [v0, v1, kq v2, .int x, v4, v5] st M := den_st (k := 3) (v := .int x) l_103_23 rfl
theorem l_103_24 : look (tab 103) 24 = some (.iconst 0, 1, [], .int (zI 0)) := by decide +kernel
theorem e_103_24 : den cf 103 24 L st M = den cf 103 25 L (.int (zI 0) :: st) M := den_go l_103_24 rfl
theorem l_103_25 : look (tab 103) 25 = some (.istore 4, 2, [], uu) := by decide +kernel
theorem e_103_25 : den cf 103 25 [v0, v1, v2, v3, v4, v5] (.int x :: st) M = den cf 103 27 [v0, v1, v2, kq v3, .int x, v5] st M := den_st (k := 4) (v := .int x) l_103_25 rfl
theorem l_103_27 : look (tab 103) 27 = some (.iload 4, 2, [], uu) := by decide +kernel
theorem e_103_27 : den cf 103 27 [v0, v1, v2, v3, .int x, v5] st M = den cf 103 29 [v0, v1, v2, v3, .int x, v5] (.int x :: st) M := den_go l_103_27 rfl
theorem l_103_29 : look (tab 103) 29 = some (.iload_n 3, 1, [], uu) := by decide +kernel
theorem e_103_29 : den cf 103 29 [v0, v1, v2, .int x, v4, v5] st M = den cf 103 30 [v0, v1, v2, .int x, v4, v5] (.int x :: st) M := den_go l_103_29 rfl
theorem l_103_30 : look (tab 103) 30 = some (.if_icmp .ge 36, 3, [66], uu) := by decide +kernel
theorem e_103_30 : den cf 103 30 L (.int y :: .int x :: st) M = if x < y then den cf 103 33 L st M else den cf 103 66 L st M := den_ic_ge l_103_30
theorem l_103_33 : look (tab 103) 33 = some (.aload_n 2, 1, [], uu) := by decide +kernel
theorem e_103_33 : den cf 103 33 [v0, v1, v2, v3, v4, v5] st M = if isRf v2 = true then den cf 103 34 [v0, v1, v2, v3, v4, v5] (v2 :: st) M else none := den_g l_103_33 rfl
theorem l_103_34 : look (tab 103) 34 = some (.iload 4, 2, [], uu) := by decide +kernel
theorem e_103_34 : den cf 103 34 [v0, v1, v2, v3, .int x, v5] st M = den cf 103 36 [v0, v1, v2, v3, .int x, v5] (.int x :: st) M := den_go l_103_34 rfl
theorem l_103_36 : look (tab 103) 36 = some (.aaload, 1, [], uu) := by decide +kernel
theorem e_103_36 : den cf 103 36 L (.int x :: .ref a :: st) M = oK (ldQ (M.2.2 a) x) (fun v => den cf 103 37 L (v :: st) M) := den_al (g := ldQ) l_103_36 rfl
theorem l_103_37 : look (tab 103) 37 = some (.astore 5, 2, [], uu) := by decide +kernel
theorem e_103_37 : den cf 103 37 [v0, v1, v2, v3, v4, v5] (v :: st) M = if isRf v = true then den cf 103 39 [v0, v1, v2, v3, kq v4, v] st M else none := den_as (k := 5) (v := v) l_103_37 rfl (Nat.le_of_ble_eq_true rfl)
theorem l_103_39 : look (tab 103) 39 = some (.aload 5, 2, [], uu) := by decide +kernel
theorem e_103_39 : den cf 103 39 [v0, v1, v2, v3, v4, v5] st M = if isRf v5 = true then den cf 103 41 [v0, v1, v2, v3, v4, v5] (v5 :: st) M else none := den_g l_103_39 rfl
theorem l_103_41 : look (tab 103) 41 = some (.iconst 0, 1, [], .int (zI 0)) := by decide +kernel
theorem e_103_41 : den cf 103 41 L st M = den cf 103 42 L (.int (zI 0) :: st) M := den_go l_103_41 rfl
theorem l_103_42 : look (tab 103) 42 = some (.invokevirtual 145, 3, [1, 15, 2, 345, 346, 347, 41], uu) := by decide +kernel
theorem e_103_42 : den cf 103 42 L (w1 :: .ref a :: st) M = if rcv M 1 [.ref a, w1] = true ∧ st.length ≤ 4 then rK (cf 15 [.ref a, w1] M) (fun v M' => den cf 103 45 L (pR v st) M') else none := den_iv [w1] l_103_42 rfl
theorem l_103_45 : look (tab 103) 45 = some (.ifCond .ne 12, 3, [57], uu) := by decide +kernel
theorem e_103_45 : den cf 103 45 L (.int x :: st) M = if x = zI 0 then den cf 103 48 L st M else den cf 103 57 L st M := den_if_ne l_103_45
theorem l_103_48 : look (tab 103) 48 = some (.aload 5, 2, [], uu) := by decide +kernel
theorem e_103_48 : den cf 103 48 [v0, v1, v2, v3, v4, v5] st M = if isRf v5 = true then den cf 103 50 [v0, v1, v2, v3, v4, v5] (v5 :: st) M else none := den_g l_103_48 rfl
theorem l_103_50 : look (tab 103) 50 = some (.iconst 1, 1, [], .int (zI 1)) := by decide +kernel
theorem e_103_50 : den cf 103 50 L st M = den cf 103 51 L (.int (zI 1) :: st) M := den_go l_103_50 rfl
theorem l_103_51 : look (tab 103) 51 = some (.invokevirtual 145, 3, [1, 15, 2, 345, 346, 347, 41], uu) := by decide +kernel
theorem e_103_51 : den cf 103 51 L (w1 :: .ref a :: st) M = if rcv M 1 [.ref a, w1] = true ∧ st.length ≤ 4 then rK (cf 15 [.ref a, w1] M) (fun v M' => den cf 103 54 L (pR v st) M') else none := den_iv [w1] l_103_51 rfl
theorem l_103_54 : look (tab 103) 54 = some (.ifCond .eq 6, 3, [60], uu) := by decide +kernel
theorem e_103_54 : den cf 103 54 L (.int x :: st) M = if x = zI 0 then den cf 103 60 L st M else den cf 103 57 L st M := den_if_eq l_103_54
theorem l_103_57 : look (tab 103) 57 = some (.iinc 1 1, 3, [], .int (zI 1)) := by decide +kernel
theorem e_103_57 : den cf 103 57 [v0, .int x, v2, v3, v4, v5] st M = den cf 103 60 [kq v0, .int (x + (zI 1)), v2, v3, v4, v5] st M := den_st (k := 1) (v := .int (x + (zI 1))) l_103_57 rfl
theorem l_103_60 : look (tab 103) 60 = some (.iinc 4 1, 3, [], .int (zI 1)) := by decide +kernel
theorem e_103_60 : den cf 103 60 [v0, v1, v2, v3, .int x, v5] st M = den cf 103 63 [v0, v1, v2, kq v3, .int (x + (zI 1)), v5] st M := den_st (k := 4) (v := .int (x + (zI 1))) l_103_60 rfl
theorem l_103_63 : look (tab 103) 63 = some (.goto (-36), 3, [27], uu) := by decide +kernel
theorem e_103_63 : den cf 103 63 L st M = den cf 103 27 L st M := den_go l_103_63 rfl
theorem l_103_66 : look (tab 103) 66 = some (.iload_n 1, 1, [], uu) := by decide +kernel
theorem e_103_66 : den cf 103 66 [v0, .int x, v2, v3, v4, v5] st M = den cf 103 67 [v0, .int x, v2, v3, v4, v5] (.int x :: st) M := den_go l_103_66 rfl
theorem l_103_67 : look (tab 103) 67 = some (.iconst 2, 1, [], .int (zI 2)) := by decide +kernel
theorem e_103_67 : den cf 103 67 L st M = den cf 103 68 L (.int (zI 2) :: st) M := den_go l_103_67 rfl
theorem l_103_68 : look (tab 103) 68 = some (.aload_n 0, 1, [], uu) := by decide +kernel
theorem e_103_68 : den cf 103 68 [.ref a, v1, v2, v3, v4, v5] st M = den cf 103 69 [.ref a, v1, v2, v3, v4, v5] (.ref a :: st) M := den_go l_103_68 rfl
theorem l_103_69 : look (tab 103) 69 = some (.getfield 29, 3, [5, 4, 23], uu) := by decide +kernel
theorem e_103_69 : den cf 103 69 L (.ref a :: st) M = oK (gfA (M.2.2 a) 5 4) (fun v => den cf 103 72 L (v :: st) M) := den_gf l_103_69
theorem l_103_72 : look (tab 103) 72 = some (.getfield 240, 3, [0, 7, 803], uu) := by decide +kernel
theorem e_103_72 : den cf 103 72 L (.ref a :: st) M = oK (gfA (M.2.2 a) 0 7) (fun v => den cf 103 75 L (v :: st) M) := den_gf l_103_72
theorem l_103_75 : look (tab 103) 75 = some (.imul, 1, [], uu) := by decide +kernel
theorem e_103_75 : den cf 103 75 L (.int y :: .int x :: st) M = den cf 103 76 L (.int (x * y) :: st) M := den_go l_103_75 rfl
theorem l_103_76 : look (tab 103) 76 = some (.isub, 1, [], uu) := by decide +kernel
theorem e_103_76 : den cf 103 76 L (.int y :: .int x :: st) M = den cf 103 77 L (.int (x - y) :: st) M := den_go l_103_76 rfl
theorem l_103_77 : look (tab 103) 77 = some (.ireturn, 1, [0], uu) := by decide +kernel
theorem e_103_77 : den cf 103 77 L [.int x] M = some (some (.int x), M) := den_e0 l_103_77
/-! yX5_anew -/
theorem l_104_0 : look (tab 104) 0 = some (.aload_n 0, 1, [], uu) := by decide +kernel
theorem e_104_0 : den cf 104 0 [.ref a, v1, v2, v3, v4] st M = den cf 104 1 [.ref a, v1, v2, v3, v4] (.ref a :: st) M := den_go l_104_0 rfl
theorem l_104_1 : look (tab 104) 1 = some (.getfield 10, 3, [5, 0, 16], uu) := by decide +kernel
theorem e_104_1 : den cf 104 1 L (.ref a :: st) M = oK (gfA (M.2.2 a) 5 0) (fun v => den cf 104 4 L (v :: st) M) := den_gf l_104_1
theorem l_104_4 : look (tab 104) 4 = some (.getfield 236, 3, [2, 0, 802], uu) := by decide +kernel
theorem e_104_4 : den cf 104 4 L (.ref a :: st) M = oK (gfA (M.2.2 a) 2 0) (fun v => den cf 104 7 L (v :: st) M) := den_gf l_104_4
theorem l_104_7 : look (tab 104) 7 = some (.astore_n 1, 1, [], uu) := by decide +kernel
theorem e_104_7 : den cf 104 7 [v0, v1, v2, v3, v4] (v :: st) M = if isRf v = true then den cf 104 8 [kq v0, v, v2, v3, v4] st M else none := den_as (k := 1) (v := v) l_104_7 rfl (Nat.le_of_ble_eq_true rfl)
theorem l_104_8 : look (tab 104) 8 = some (.aload_n 1, 1, [], uu) := by decide +kernel
theorem e_104_8 : den cf 104 8 [v0, v1, v2, v3, v4] st M = if isRf v1 = true then den cf 104 9 [v0, v1, v2, v3, v4] (v1 :: st) M else none := den_g l_104_8 rfl
theorem l_104_9 : look (tab 104) 9 = some (.arraylength, 1, [], uu) := by decide +kernel
theorem e_104_9 : den cf 104 9 L (.ref a :: st) M = oK (lenA (M.2.2 a)) (fun n => den cf 104 10 L (.int (zI n) :: st) M) := den_len l_104_9
theorem l_104_10 : look (tab 104) 10 = some (.istore_n 2, 1, [], uu) := by decide +kernel
theorem e_104_10 : den cf 104 10 [v0, v1, v2, v3, v4] (.int x :: st) M = den cf 104 11 [v0, kq v1, .int x, v3, v4] st M := den_st (k := 2) (v := .int x) l_104_10 rfl
theorem l_104_11 : look (tab 104) 11 = some (.iconst 0, 1, [], .int (zI 0)) := by decide +kernel
theorem e_104_11 : den cf 104 11 L st M = den cf 104 12 L (.int (zI 0) :: st) M := den_go l_104_11 rfl
theorem l_104_12 : look (tab 104) 12 = some (.istore_n 3, 1, [], uu) := by decide +kernel
theorem e_104_12 : den cf 104 12 [v0, v1, v2, v3, v4] (.int x :: st) M = den cf 104 13 [v0, v1, kq v2, .int x, v4] st M := den_st (k := 3) (v := .int x) l_104_12 rfl
theorem l_104_13 : look (tab 104) 13 = some (.iload_n 3, 1, [], uu) := by decide +kernel
theorem e_104_13 : den cf 104 13 [v0, v1, v2, .int x, v4] st M = den cf 104 14 [v0, v1, v2, .int x, v4] (.int x :: st) M := den_go l_104_13 rfl
theorem l_104_14 : look (tab 104) 14 = some (.iload_n 2, 1, [], uu) := by decide +kernel
theorem e_104_14 : den cf 104 14 [v0, v1, .int x, v3, v4] st M = den cf 104 15 [v0, v1, .int x, v3, v4] (.int x :: st) M := den_go l_104_14 rfl
theorem l_104_15 : look (tab 104) 15 = some (.if_icmp .ge 39, 3, [54], uu) := by decide +kernel
theorem e_104_15 : den cf 104 15 L (.int y :: .int x :: st) M = if x < y then den cf 104 18 L st M else den cf 104 54 L st M := den_ic_ge l_104_15
theorem l_104_18 : look (tab 104) 18 = some (.aload_n 1, 1, [], uu) := by decide +kernel
theorem e_104_18 : den cf 104 18 [v0, v1, v2, v3, v4] st M = if isRf v1 = true then den cf 104 19 [v0, v1, v2, v3, v4] (v1 :: st) M else none := den_g l_104_18 rfl
theorem l_104_19 : look (tab 104) 19 = some (.iload_n 3, 1, [], uu) := by decide +kernel
theorem e_104_19 : den cf 104 19 [v0, v1, v2, .int x, v4] st M = den cf 104 20 [v0, v1, v2, .int x, v4] (.int x :: st) M := den_go l_104_19 rfl
theorem l_104_20 : look (tab 104) 20 = some (.aaload, 1, [], uu) := by decide +kernel
theorem e_104_20 : den cf 104 20 L (.int x :: .ref a :: st) M = oK (ldQ (M.2.2 a) x) (fun v => den cf 104 21 L (v :: st) M) := den_al (g := ldQ) l_104_20 rfl
theorem l_104_21 : look (tab 104) 21 = some (.astore 4, 2, [], uu) := by decide +kernel
theorem e_104_21 : den cf 104 21 [v0, v1, v2, v3, v4] (v :: st) M = if isRf v = true then den cf 104 23 [v0, v1, v2, kq v3, v] st M else none := den_as (k := 4) (v := v) l_104_21 rfl (Nat.le_of_ble_eq_true rfl)
theorem l_104_23 : look (tab 104) 23 = some (.aload 4, 2, [], uu) := by decide +kernel
theorem e_104_23 : den cf 104 23 [v0, v1, v2, v3, v4] st M = if isRf v4 = true then den cf 104 25 [v0, v1, v2, v3, v4] (v4 :: st) M else none := den_g l_104_23 rfl
theorem l_104_25 : look (tab 104) 25 = some (.invokevirtual 243, 3, [1, 16, 1, 935, 865, 866, 41], uu) := by decide +kernel
theorem e_104_25 : den cf 104 25 L (.ref a :: st) M = if rcv M 1 [.ref a] = true ∧ st.length ≤ 4 then rK (cf 16 [.ref a] M) (fun v M' => den cf 104 28 L (pR v st) M') else none := den_iv [] l_104_25 rfl
theorem l_104_28 : look (tab 104) 28 = some (.ifCond .eq 20, 3, [48], uu) := by decide +kernel
theorem e_104_28 : den cf 104 28 L (.int x :: st) M = if x = zI 0 then den cf 104 48 L st M else den cf 104 31 L st M := den_if_eq l_104_28
theorem l_104_31 : look (tab 104) 31 = some (.aload_n 0, 1, [], uu) := by decide +kernel
theorem e_104_31 : den cf 104 31 [.ref a, v1, v2, v3, v4] st M = den cf 104 32 [.ref a, v1, v2, v3, v4] (.ref a :: st) M := den_go l_104_31 rfl
theorem l_104_32 : look (tab 104) 32 = some (.getfield 10, 3, [5, 0, 16], uu) := by decide +kernel
theorem e_104_32 : den cf 104 32 L (.ref a :: st) M = oK (gfA (M.2.2 a) 5 0) (fun v => den cf 104 35 L (v :: st) M) := den_gf l_104_32
theorem l_104_35 : look (tab 104) 35 = some (.aload 4, 2, [], uu) := by decide +kernel
theorem e_104_35 : den cf 104 35 [v0, v1, v2, v3, v4] st M = if isRf v4 = true then den cf 104 37 [v0, v1, v2, v3, v4] (v4 :: st) M else none := den_g l_104_35 rfl
theorem l_104_37 : look (tab 104) 37 = some (.invokevirtual 200, 3, [2, 32, 2, 661, 662, 663, 15], uu) := by decide +kernel
theorem e_104_37 : den cf 104 37 L (w1 :: .ref a :: st) M = if rcv M 2 [.ref a, w1] = true ∧ st.length ≤ 4 then rK (cf 32 [.ref a, w1] M) (fun v M' => den cf 104 40 L (pR v st) M') else none := den_iv [w1] l_104_37 rfl
theorem l_104_40 : look (tab 104) 40 = some (.ifCond .eq 8, 3, [48], uu) := by decide +kernel
theorem e_104_40 : den cf 104 40 L (.int x :: st) M = if x = zI 0 then den cf 104 48 L st M else den cf 104 43 L st M := den_if_eq l_104_40
theorem l_104_43 : look (tab 104) 43 = some (.aload 4, 2, [], uu) := by decide +kernel
theorem e_104_43 : den cf 104 43 [v0, v1, v2, v3, v4] st M = if isRf v4 = true then den cf 104 45 [v0, v1, v2, v3, v4] (v4 :: st) M else none := den_g l_104_43 rfl
theorem l_104_45 : look (tab 104) 45 = some (.invokevirtual 157, 3, [1, 18, 1, 375, 376, 377, 41], uu) := by decide +kernel
theorem e_104_45 : den cf 104 45 L (.ref a :: st) M = if rcv M 1 [.ref a] = true ∧ st.length ≤ 4 then rK (cf 18 [.ref a] M) (fun v M' => den cf 104 48 L (pR v st) M') else none := den_iv [] l_104_45 rfl
theorem l_104_48 : look (tab 104) 48 = some (.iinc 3 1, 3, [], .int (zI 1)) := by decide +kernel
theorem e_104_48 : den cf 104 48 [v0, v1, v2, .int x, v4] st M = den cf 104 51 [v0, v1, kq v2, .int (x + (zI 1)), v4] st M := den_st (k := 3) (v := .int (x + (zI 1))) l_104_48 rfl
theorem l_104_51 : look (tab 104) 51 = some (.goto (-38), 3, [13], uu) := by decide +kernel
theorem e_104_51 : den cf 104 51 L st M = den cf 104 13 L st M := den_go l_104_51 rfl
theorem l_104_54 : look (tab 104) 54 = some (.aload_n 0, 1, [], uu) := by decide +kernel
theorem e_104_54 : den cf 104 54 [.ref a, v1, v2, v3, v4] st M = den cf 104 55 [.ref a, v1, v2, v3, v4] (.ref a :: st) M := den_go l_104_54 rfl
theorem l_104_55 : look (tab 104) 55 = some (.getfield 29, 3, [5, 4, 23], uu) := by decide +kernel
theorem e_104_55 : den cf 104 55 L (.ref a :: st) M = oK (gfA (M.2.2 a) 5 4) (fun v => den cf 104 58 L (v :: st) M) := den_gf l_104_55
theorem l_104_58 : look (tab 104) 58 = some (.aload_n 0, 1, [], uu) := by decide +kernel
theorem e_104_58 : den cf 104 58 [.ref a, v1, v2, v3, v4] st M = den cf 104 59 [.ref a, v1, v2, v3, v4] (.ref a :: st) M := den_go l_104_58 rfl
theorem l_104_59 : look (tab 104) 59 = some (.getfield 10, 3, [5, 0, 16], uu) := by decide +kernel
theorem e_104_59 : den cf 104 59 L (.ref a :: st) M = oK (gfA (M.2.2 a) 5 0) (fun v => den cf 104 62 L (v :: st) M) := den_gf l_104_59
theorem l_104_62 : look (tab 104) 62 = some (.invokevirtual 224, 3, [0, 5, 2, 733, 734, 735, 22], uu) := by decide +kernel
theorem e_104_62 : den cf 104 62 L (w1 :: .ref a :: st) M = if rcv M 0 [.ref a, w1] = true ∧ st.length ≤ 4 then rK (cf 5 [.ref a, w1] M) (fun v M' => den cf 104 65 L (pR v st) M') else none := den_iv [w1] l_104_62 rfl
theorem l_104_65 : look (tab 104) 65 = some (.iconst 0, 1, [], .int (zI 0)) := by decide +kernel
theorem e_104_65 : den cf 104 65 L st M = den cf 104 66 L (.int (zI 0) :: st) M := den_go l_104_65 rfl
theorem l_104_66 : look (tab 104) 66 = some (.istore_n 1, 1, [], uu) := by decide +kernel
theorem e_104_66 : den cf 104 66 [v0, v1, v2, v3, v4] (.int x :: st) M = den cf 104 67 [kq v0, .int x, v2, v3, v4] st M := den_st (k := 1) (v := .int x) l_104_66 rfl
theorem l_104_67 : look (tab 104) 67 = some (.iload_n 1, 1, [], uu) := by decide +kernel
theorem e_104_67 : den cf 104 67 [v0, .int x, v2, v3, v4] st M = den cf 104 68 [v0, .int x, v2, v3, v4] (.int x :: st) M := den_go l_104_67 rfl
theorem l_104_68 : look (tab 104) 68 = some (.aload_n 0, 1, [], uu) := by decide +kernel
theorem e_104_68 : den cf 104 68 [.ref a, v1, v2, v3, v4] st M = den cf 104 69 [.ref a, v1, v2, v3, v4] (.ref a :: st) M := den_go l_104_68 rfl
theorem l_104_69 : look (tab 104) 69 = some (.getfield 29, 3, [5, 4, 23], uu) := by decide +kernel
theorem e_104_69 : den cf 104 69 L (.ref a :: st) M = oK (gfA (M.2.2 a) 5 4) (fun v => den cf 104 72 L (v :: st) M) := den_gf l_104_69
theorem l_104_72 : look (tab 104) 72 = some (.getfield 230, 3, [0, 4, 732], uu) := by decide +kernel
theorem e_104_72 : den cf 104 72 L (.ref a :: st) M = oK (gfA (M.2.2 a) 0 4) (fun v => den cf 104 75 L (v :: st) M) := den_gf l_104_72
theorem l_104_75 : look (tab 104) 75 = some (.if_icmp .ge 40, 3, [115], uu) := by decide +kernel
theorem e_104_75 : den cf 104 75 L (.int y :: .int x :: st) M = if x < y then den cf 104 78 L st M else den cf 104 115 L st M := den_ic_ge l_104_75
theorem l_104_78 : look (tab 104) 78 = some (.aload_n 0, 1, [], uu) := by decide +kernel
theorem e_104_78 : den cf 104 78 [.ref a, v1, v2, v3, v4] st M = den cf 104 79 [.ref a, v1, v2, v3, v4] (.ref a :: st) M := den_go l_104_78 rfl
theorem l_104_79 : look (tab 104) 79 = some (.getfield 29, 3, [5, 4, 23], uu) := by decide +kernel
theorem e_104_79 : den cf 104 79 L (.ref a :: st) M = oK (gfA (M.2.2 a) 5 4) (fun v => den cf 104 82 L (v :: st) M) := den_gf l_104_79
theorem l_104_82 : look (tab 104) 82 = some (.iload_n 1, 1, [], uu) := by decide +kernel
theorem e_104_82 : den cf 104 82 [v0, .int x, v2, v3, v4] st M = den cf 104 83 [v0, .int x, v2, v3, v4] (.int x :: st) M := den_go l_104_82 rfl
theorem l_104_83 : look (tab 104) 83 = some (.invokevirtual 247, 3, [0, 2, 2, 1183, 756, 757, 22], uu) := by decide +kernel
theorem e_104_83 : den cf 104 83 L (w1 :: .ref a :: st) M = if rcv M 0 [.ref a, w1] = true ∧ st.length ≤ 4 then rK (cf 2 [.ref a, w1] M) (fun v M' => den cf 104 86 L (pR v st) M') else none := den_iv [w1] l_104_83 rfl
theorem l_104_86 : look (tab 104) 86 = some (.astore_n 2, 1, [], uu) := by decide +kernel
theorem e_104_86 : den cf 104 86 [v0, v1, v2, v3, v4] (v :: st) M = if isRf v = true then den cf 104 87 [v0, kq v1, v, v3, v4] st M else none := den_as (k := 2) (v := v) l_104_86 rfl (Nat.le_of_ble_eq_true rfl)
theorem l_104_87 : look (tab 104) 87 = some (.aload_n 0, 1, [], uu) := by decide +kernel
theorem e_104_87 : den cf 104 87 [.ref a, v1, v2, v3, v4] st M = den cf 104 88 [.ref a, v1, v2, v3, v4] (.ref a :: st) M := den_go l_104_87 rfl
theorem l_104_88 : look (tab 104) 88 = some (.getfield 29, 3, [5, 4, 23], uu) := by decide +kernel
theorem e_104_88 : den cf 104 88 L (.ref a :: st) M = oK (gfA (M.2.2 a) 5 4) (fun v => den cf 104 91 L (v :: st) M) := den_gf l_104_88
theorem l_104_91 : look (tab 104) 91 = some (.iload_n 1, 1, [], uu) := by decide +kernel
theorem e_104_91 : den cf 104 91 [v0, .int x, v2, v3, v4] st M = den cf 104 92 [v0, .int x, v2, v3, v4] (.int x :: st) M := den_go l_104_91 rfl
theorem l_104_92 : look (tab 104) 92 = some (.invokevirtual 233, 3, [0, 3, 2, 778, 779, 780, 22], uu) := by decide +kernel
theorem e_104_92 : den cf 104 92 L (w1 :: .ref a :: st) M = if rcv M 0 [.ref a, w1] = true ∧ st.length ≤ 4 then rK (cf 3 [.ref a, w1] M) (fun v M' => den cf 104 95 L (pR v st) M') else none := den_iv [w1] l_104_92 rfl
theorem l_104_95 : look (tab 104) 95 = some (.astore_n 3, 1, [], uu) := by decide +kernel
theorem e_104_95 : den cf 104 95 [v0, v1, v2, v3, v4] (v :: st) M = if isRf v = true then den cf 104 96 [v0, v1, kq v2, v, v4] st M else none := den_as (k := 3) (v := v) l_104_95 rfl (Nat.le_of_ble_eq_true rfl)
theorem l_104_96 : look (tab 104) 96 = some (.aload_n 2, 1, [], uu) := by decide +kernel
theorem e_104_96 : den cf 104 96 [v0, v1, v2, v3, v4] st M = if isRf v2 = true then den cf 104 97 [v0, v1, v2, v3, v4] (v2 :: st) M else none := den_g l_104_96 rfl
theorem l_104_97 : look (tab 104) 97 = some (.ifnull 12, 3, [109], uu) := by decide +kernel
theorem e_104_97 : den cf 104 97 L (va_rf o :: st) M = oN o (den cf 104 109 L st M) (den cf 104 100 L st M) := den_nu l_104_97
theorem e_104_97_n : den cf 104 97 L (.null :: st) M = den cf 104 109 L st M := den_go l_104_97 rfl
theorem e_104_97_r : den cf 104 97 L (.ref a :: st) M = den cf 104 100 L st M := den_go l_104_97 rfl
theorem l_104_100 : look (tab 104) 100 = some (.aload_n 3, 1, [], uu) := by decide +kernel
theorem e_104_100 : den cf 104 100 [v0, v1, v2, v3, v4] st M = if isRf v3 = true then den cf 104 101 [v0, v1, v2, v3, v4] (v3 :: st) M else none := den_g l_104_100 rfl
theorem l_104_101 : look (tab 104) 101 = some (.ifnull 8, 3, [109], uu) := by decide +kernel
theorem e_104_101 : den cf 104 101 L (va_rf o :: st) M = oN o (den cf 104 109 L st M) (den cf 104 104 L st M) := den_nu l_104_101
theorem e_104_101_n : den cf 104 101 L (.null :: st) M = den cf 104 109 L st M := den_go l_104_101 rfl
theorem e_104_101_r : den cf 104 101 L (.ref a :: st) M = den cf 104 104 L st M := den_go l_104_101 rfl
theorem l_104_104 : look (tab 104) 104 = some (.aload_n 2, 1, [], uu) := by decide +kernel
theorem e_104_104 : den cf 104 104 [v0, v1, v2, v3, v4] st M = if isRf v2 = true then den cf 104 105 [v0, v1, v2, v3, v4] (v2 :: st) M else none := den_g l_104_104 rfl
theorem l_104_105 : look (tab 104) 105 = some (.aload_n 3, 1, [], uu) := by decide +kernel
theorem e_104_105 : den cf 104 105 [v0, v1, v2, v3, v4] st M = if isRf v3 = true then den cf 104 106 [v0, v1, v2, v3, v4] (v3 :: st) M else none := den_g l_104_105 rfl
theorem l_104_106 : look (tab 104) 106 = some (.invokevirtual 149, 3, [1, 17, 2, 349, 350, 351, 41], uu) := by decide +kernel
theorem e_104_106 : den cf 104 106 L (w1 :: .ref a :: st) M = if rcv M 1 [.ref a, w1] = true ∧ st.length ≤ 4 then rK (cf 17 [.ref a, w1] M) (fun v M' => den cf 104 109 L (pR v st) M') else none := den_iv [w1] l_104_106 rfl
theorem l_104_109 : look (tab 104) 109 = some (.iinc 1 1, 3, [], .int (zI 1)) := by decide +kernel
theorem e_104_109 : den cf 104 109 [v0, .int x, v2, v3, v4] st M = den cf 104 112 [kq v0, .int (x + (zI 1)), v2, v3, v4] st M := den_st (k := 1) (v := .int (x + (zI 1))) l_104_109 rfl
theorem l_104_112 : look (tab 104) 112 = some (.goto (-45), 3, [67], uu) := by decide +kernel
theorem e_104_112 : den cf 104 112 L st M = den cf 104 67 L st M := den_go l_104_112 rfl
theorem l_104_115 : look (tab 104) 115 = some (.aload_n 0, 1, [], uu) := by decide +kernel
theorem e_104_115 : den cf 104 115 [.ref a, v1, v2, v3, v4] st M = den cf 104 116 [.ref a, v1, v2, v3, v4] (.ref a :: st) M := den_go l_104_115 rfl
theorem l_104_116 : look (tab 104) 116 = some (.getfield 29, 3, [5, 4, 23], uu) := by decide +kernel
theorem e_104_116 : den cf 104 116 L (.ref a :: st) M = oK (gfA (M.2.2 a) 5 4) (fun v => den cf 104 119 L (v :: st) M) := den_gf l_104_116
theorem l_104_119 : look (tab 104) 119 = some (.getfield 240, 3, [0, 7, 803], uu) := by decide +kernel
theorem e_104_119 : den cf 104 119 L (.ref a :: st) M = oK (gfA (M.2.2 a) 0 7) (fun v => den cf 104 122 L (v :: st) M) := den_gf l_104_119
theorem l_104_122 : look (tab 104) 122 = some (.ireturn, 1, [0], uu) := by decide +kernel
theorem e_104_122 : den cf 104 122 L [.int x] M = some (some (.int x), M) := den_e0 l_104_122
/-! yX5_best -/
theorem l_105_0 : look (tab 105) 0 = some (.aload_n 0, 1, [], uu) := by decide +kernel
theorem e_105_0 : den cf 105 0 [.ref a, v1, v2, v3] st M = den cf 105 1 [.ref a, v1, v2, v3] (.ref a :: st) M := den_go l_105_0 rfl
theorem l_105_1 : look (tab 105) 1 = some (.getfield 10, 3, [5, 0, 16], uu) := by decide +kernel
theorem e_105_1 : den cf 105 1 L (.ref a :: st) M = oK (gfA (M.2.2 a) 5 0) (fun v => den cf 105 4 L (v :: st) M) := den_gf l_105_1
theorem l_105_4 : look (tab 105) 4 = some (.iload_n 1, 1, [], uu) := by decide +kernel
theorem e_105_4 : den cf 105 4 [v0, .int x, v2, v3] st M = den cf 105 5 [v0, .int x, v2, v3] (.int x :: st) M := den_go l_105_4 rfl
theorem l_105_5 : look (tab 105) 5 = some (.invokevirtual 105, 3, [2, 24, 2, 209, 210, 211, 15], uu) := by decide +kernel
theorem e_105_5 : den cf 105 5 L (w1 :: .ref a :: st) M = if rcv M 2 [.ref a, w1] = true ∧ st.length ≤ 4 then rK (cf 24 [.ref a, w1] M) (fun v M' => den cf 105 8 L (pR v st) M') else none := den_iv [w1] l_105_5 rfl
theorem l_105_8 : look (tab 105) 8 = some (.astore_n 2, 1, [], uu) := by decide +kernel
theorem e_105_8 : den cf 105 8 [v0, v1, v2, v3] (v :: st) M = if isRf v = true then den cf 105 9 [v0, kq v1, v, v3] st M else none := den_as (k := 2) (v := v) l_105_8 rfl (Nat.le_of_ble_eq_true rfl)
theorem l_105_9 : look (tab 105) 9 = some (.aload_n 2, 1, [], uu) := by decide +kernel
theorem e_105_9 : den cf 105 9 [v0, v1, v2, v3] st M = if isRf v2 = true then den cf 105 10 [v0, v1, v2, v3] (v2 :: st) M else none := den_g l_105_9 rfl
theorem l_105_10 : look (tab 105) 10 = some (.ifnonnull 10, 3, [20], uu) := by decide +kernel
theorem e_105_10 : den cf 105 10 L (va_rf o :: st) M = oN o (den cf 105 13 L st M) (den cf 105 20 L st M) := den_nn l_105_10
theorem e_105_10_n : den cf 105 10 L (.null :: st) M = den cf 105 13 L st M := den_go l_105_10 rfl
theorem e_105_10_r : den cf 105 10 L (.ref a :: st) M = den cf 105 20 L st M := den_go l_105_10 rfl
theorem l_105_13 : look (tab 105) 13 = some (.aload_n 0, 1, [], uu) := by decide +kernel
theorem e_105_13 : den cf 105 13 [.ref a, v1, v2, v3] st M = den cf 105 14 [.ref a, v1, v2, v3] (.ref a :: st) M := den_go l_105_13 rfl
theorem l_105_14 : look (tab 105) 14 = some (.bipush (-2), 2, [], .int (zI (-2))) := by decide +kernel
theorem e_105_14 : den cf 105 14 L st M = den cf 105 16 L (.int (zI (-2)) :: st) M := den_go l_105_14 rfl
theorem l_105_16 : look (tab 105) 16 = some (.invokevirtual 59, 3, [5, 128, 2, 113, 114, 115, 2], uu) := by decide +kernel
theorem e_105_16 : den cf 105 16 L (w1 :: .ref a :: st) M = if rcv M 5 [.ref a, w1] = true ∧ st.length ≤ 4 then rK (cf 128 [.ref a, w1] M) (fun v M' => den cf 105 19 L (pR v st) M') else none := den_iv [w1] l_105_16 rfl
theorem l_105_19 : look (tab 105) 19 = some (.ireturn, 1, [0], uu) := by decide +kernel
theorem e_105_19 : den cf 105 19 L [.int x] M = some (some (.int x), M) := den_e0 l_105_19
theorem l_105_20 : look (tab 105) 20 = some (.aload_n 0, 1, [], uu) := by decide +kernel
theorem e_105_20 : den cf 105 20 [.ref a, v1, v2, v3] st M = den cf 105 21 [.ref a, v1, v2, v3] (.ref a :: st) M := den_go l_105_20 rfl
theorem l_105_21 : look (tab 105) 21 = some (.getfield 10, 3, [5, 0, 16], uu) := by decide +kernel
theorem e_105_21 : den cf 105 21 L (.ref a :: st) M = oK (gfA (M.2.2 a) 5 0) (fun v => den cf 105 24 L (v :: st) M) := den_gf l_105_21
theorem l_105_24 : look (tab 105) 24 = some (.aload_n 2, 1, [], uu) := by decide +kernel
theorem e_105_24 : den cf 105 24 [v0, v1, v2, v3] st M = if isRf v2 = true then den cf 105 25 [v0, v1, v2, v3] (v2 :: st) M else none := den_g l_105_24 rfl
theorem l_105_25 : look (tab 105) 25 = some (.invokevirtual 250, 3, [2, 36, 2, 816, 817, 818, 15], uu) := by decide +kernel
theorem e_105_25 : den cf 105 25 L (w1 :: .ref a :: st) M = if rcv M 2 [.ref a, w1] = true ∧ st.length ≤ 4 then rK (cf 36 [.ref a, w1] M) (fun v M' => den cf 105 28 L (pR v st) M') else none := den_iv [w1] l_105_25 rfl
theorem l_105_28 : look (tab 105) 28 = some (.astore_n 3, 1, [], uu) := by decide +kernel
theorem e_105_28 : den cf 105 28 [v0, v1, v2, v3] (v :: st) M = if isRf v = true then den cf 105 29 [v0, v1, kq v2, v] st M else none := den_as (k := 3) (v := v) l_105_28 rfl (Nat.le_of_ble_eq_true rfl)
theorem l_105_29 : look (tab 105) 29 = some (.aload_n 3, 1, [], uu) := by decide +kernel
theorem e_105_29 : den cf 105 29 [v0, v1, v2, v3] st M = if isRf v3 = true then den cf 105 30 [v0, v1, v2, v3] (v3 :: st) M else none := den_g l_105_29 rfl
theorem l_105_30 : look (tab 105) 30 = some (.ifnonnull 12, 3, [42], uu) := by decide +kernel
theorem e_105_30 : den cf 105 30 L (va_rf o :: st) M = oN o (den cf 105 33 L st M) (den cf 105 42 L st M) := den_nn l_105_30
theorem e_105_30_n : den cf 105 30 L (.null :: st) M = den cf 105 33 L st M := den_go l_105_30 rfl
theorem e_105_30_r : den cf 105 30 L (.ref a :: st) M = den cf 105 42 L st M := den_go l_105_30 rfl
theorem l_105_33 : look (tab 105) 33 = some (.aload_n 0, 1, [], uu) := by decide +kernel
theorem e_105_33 : den cf 105 33 [.ref a, v1, v2, v3] st M = den cf 105 34 [.ref a, v1, v2, v3] (.ref a :: st) M := den_go l_105_33 rfl
theorem l_105_34 : look (tab 105) 34 = some (.bipush (-5), 2, [], .int (zI (-5))) := by decide +kernel
theorem e_105_34 : den cf 105 34 L st M = den cf 105 36 L (.int (zI (-5)) :: st) M := den_go l_105_34 rfl
theorem l_105_36 : look (tab 105) 36 = some (.invokevirtual 59, 3, [5, 128, 2, 113, 114, 115, 2], uu) := by decide +kernel
theorem e_105_36 : den cf 105 36 L (w1 :: .ref a :: st) M = if rcv M 5 [.ref a, w1] = true ∧ st.length ≤ 4 then rK (cf 128 [.ref a, w1] M) (fun v M' => den cf 105 39 L (pR v st) M') else none := den_iv [w1] l_105_36 rfl
theorem l_105_39 : look (tab 105) 39 = some (.goto 7, 3, [46], uu) := by decide +kernel
theorem e_105_39 : den cf 105 39 L st M = den cf 105 46 L st M := den_go l_105_39 rfl
theorem l_105_42 : look (tab 105) 42 = some (.aload_n 3, 1, [], uu) := by decide +kernel
theorem e_105_42 : den cf 105 42 [v0, v1, v2, v3] st M = if isRf v3 = true then den cf 105 43 [v0, v1, v2, v3] (v3 :: st) M else none := den_g l_105_42 rfl
theorem l_105_43 : look (tab 105) 43 = some (.getfield 160, 3, [1, 0, 374], uu) := by decide +kernel
theorem e_105_43 : den cf 105 43 L (.ref a :: st) M = oK (gfA (M.2.2 a) 1 0) (fun v => den cf 105 46 L (v :: st) M) := den_gf l_105_43
theorem l_105_46 : look (tab 105) 46 = some (.ireturn, 1, [0], uu) := by decide +kernel
theorem e_105_46 : den cf 105 46 L [.int x] M = some (some (.int x), M) := den_e0 l_105_46
