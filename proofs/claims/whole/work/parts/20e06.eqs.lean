variable {cf : Nat → List Value → AM → Option AR} {L st : List Value} {M : AM} {x y : Int32} {p q : Int64} {a b : Nat} {v w : Value} {o : Option Nat} {v0 v1 v2 v3 v4 v5 v6 v7 v8 v9 v10 v11 v12 v13 v14 v15 v16 v17 v18 v19 v20 w1 w2 w3 w4 w5 w6 : Value}
/-! yX5_same -/
theorem l_106_0 : look (tab 106) 0 = some (.iload_n 1, 1, [], uu) := by decide +kernel
theorem e_106_0 : den cf 106 0 [v0, .int x, v2] st M = den cf 106 1 [v0, .int x, v2] (.int x :: st) M := den_go l_106_0 rfl
theorem l_106_1 : look (tab 106) 1 = some (.iconst 2, 1, [], .int (zI 2)) := by decide +kernel
theorem e_106_1 : den cf 106 1 L st M = den cf 106 2 L (.int (zI 2) :: st) M := den_go l_106_1 rfl
theorem l_106_2 : look (tab 106) 2 = some (.invokestatic 55, 3, [1, 129, 2, 110, 111, 2], uu) := by decide +kernel
theorem e_106_2 : den cf 106 2 L (w2 :: w1 :: st) M = if st.length ≤ 4 then rK (cf 129 [w1, w2] M) (fun v M' => den cf 106 5 L (pR v st) M') else none := den_ist [w1, w2] l_106_2 rfl
theorem l_106_5 : look (tab 106) 5 = some (.ifCond .ne 10, 3, [15], uu) := by decide +kernel
theorem e_106_5 : den cf 106 5 L (.int x :: st) M = if x = zI 0 then den cf 106 8 L st M else den cf 106 15 L st M := den_if_ne l_106_5
theorem l_106_8 : look (tab 106) 8 = some (.aload_n 0, 1, [], uu) := by decide +kernel
theorem e_106_8 : den cf 106 8 [.ref a, v1, v2] st M = den cf 106 9 [.ref a, v1, v2] (.ref a :: st) M := den_go l_106_8 rfl
theorem l_106_9 : look (tab 106) 9 = some (.bipush (-2), 2, [], .int (zI (-2))) := by decide +kernel
theorem e_106_9 : den cf 106 9 L st M = den cf 106 11 L (.int (zI (-2)) :: st) M := den_go l_106_9 rfl
theorem l_106_11 : look (tab 106) 11 = some (.invokevirtual 59, 3, [5, 128, 2, 113, 114, 115, 2], uu) := by decide +kernel
theorem e_106_11 : den cf 106 11 L (w1 :: .ref a :: st) M = if rcv M 5 [.ref a, w1] = true ∧ st.length ≤ 4 then rK (cf 128 [.ref a, w1] M) (fun v M' => den cf 106 14 L (pR v st) M') else none := den_iv [w1] l_106_11 rfl
theorem l_106_14 : look (tab 106) 14 = some (.ireturn, 1, [0], uu) := by decide +kernel
theorem e_106_14 : den cf 106 14 L [.int x] M = some (some (.int x), M) := den_e0 l_106_14
theorem l_106_15 : look (tab 106) 15 = some (.iload_n 1, 1, [], uu) := by decide +kernel
theorem e_106_15 : den cf 106 15 [v0, .int x, v2] st M = den cf 106 16 [v0, .int x, v2] (.int x :: st) M := den_go l_106_15 rfl
theorem l_106_16 : look (tab 106) 16 = some (.iconst 2, 1, [], .int (zI 2)) := by decide +kernel
theorem e_106_16 : den cf 106 16 L st M = den cf 106 17 L (.int (zI 2) :: st) M := den_go l_106_16 rfl
theorem l_106_17 : look (tab 106) 17 = some (.if_icmp .ne 11, 3, [28], uu) := by decide +kernel
theorem e_106_17 : den cf 106 17 L (.int y :: .int x :: st) M = if x = y then den cf 106 20 L st M else den cf 106 28 L st M := den_ic_ne l_106_17
theorem l_106_20 : look (tab 106) 20 = some (.aload_n 0, 1, [], uu) := by decide +kernel
theorem e_106_20 : den cf 106 20 [.ref a, v1, v2] st M = den cf 106 21 [.ref a, v1, v2] (.ref a :: st) M := den_go l_106_20 rfl
theorem l_106_21 : look (tab 106) 21 = some (.getfield 10, 3, [5, 0, 16], uu) := by decide +kernel
theorem e_106_21 : den cf 106 21 L (.ref a :: st) M = oK (gfA (M.2.2 a) 5 0) (fun v => den cf 106 24 L (v :: st) M) := den_gf l_106_21
theorem l_106_24 : look (tab 106) 24 = some (.invokevirtual 254, 3, [2, 39, 1, 830, 831, 832, 15], uu) := by decide +kernel
theorem e_106_24 : den cf 106 24 L (.ref a :: st) M = if rcv M 2 [.ref a] = true ∧ st.length ≤ 4 then rK (cf 39 [.ref a] M) (fun v M' => den cf 106 27 L (pR v st) M') else none := den_iv [] l_106_24 rfl
theorem l_106_27 : look (tab 106) 27 = some (.ireturn, 1, [0], uu) := by decide +kernel
theorem e_106_27 : den cf 106 27 L [.int x] M = some (some (.int x), M) := den_e0 l_106_27
theorem l_106_28 : look (tab 106) 28 = some (.aload_n 0, 1, [], uu) := by decide +kernel
theorem e_106_28 : den cf 106 28 [.ref a, v1, v2] st M = den cf 106 29 [.ref a, v1, v2] (.ref a :: st) M := den_go l_106_28 rfl
theorem l_106_29 : look (tab 106) 29 = some (.getfield 10, 3, [5, 0, 16], uu) := by decide +kernel
theorem e_106_29 : den cf 106 29 L (.ref a :: st) M = oK (gfA (M.2.2 a) 5 0) (fun v => den cf 106 32 L (v :: st) M) := den_gf l_106_29
theorem l_106_32 : look (tab 106) 32 = some (.invokevirtual 257, 3, [2, 38, 1, 835, 836, 837, 15], uu) := by decide +kernel
theorem e_106_32 : den cf 106 32 L (.ref a :: st) M = if rcv M 2 [.ref a] = true ∧ st.length ≤ 4 then rK (cf 38 [.ref a] M) (fun v M' => den cf 106 35 L (pR v st) M') else none := den_iv [] l_106_32 rfl
theorem l_106_35 : look (tab 106) 35 = some (.istore_n 2, 1, [], uu) := by decide +kernel
theorem e_106_35 : den cf 106 35 [v0, v1, v2] (.int x :: st) M = den cf 106 36 [v0, kq v1, .int x] st M := den_st (k := 2) (v := .int x) l_106_35 rfl
theorem l_106_36 : look (tab 106) 36 = some (.iload_n 1, 1, [], uu) := by decide +kernel
theorem e_106_36 : den cf 106 36 [v0, .int x, v2] st M = den cf 106 37 [v0, .int x, v2] (.int x :: st) M := den_go l_106_36 rfl
theorem l_106_37 : look (tab 106) 37 = some (.ifCond .ne 7, 3, [44], uu) := by decide +kernel
theorem e_106_37 : den cf 106 37 L (.int x :: st) M = if x = zI 0 then den cf 106 40 L st M else den cf 106 44 L st M := den_if_ne l_106_37
theorem l_106_40 : look (tab 106) 40 = some (.iload_n 2, 1, [], uu) := by decide +kernel
theorem e_106_40 : den cf 106 40 [v0, v1, .int x] st M = den cf 106 41 [v0, v1, .int x] (.int x :: st) M := den_go l_106_40 rfl
theorem l_106_41 : look (tab 106) 41 = some (.goto 11, 3, [52], uu) := by decide +kernel
theorem e_106_41 : den cf 106 41 L st M = den cf 106 52 L st M := den_go l_106_41 rfl
theorem l_106_44 : look (tab 106) 44 = some (.aload_n 0, 1, [], uu) := by decide +kernel
theorem e_106_44 : den cf 106 44 [.ref a, v1, v2] st M = den cf 106 45 [.ref a, v1, v2] (.ref a :: st) M := den_go l_106_44 rfl
theorem l_106_45 : look (tab 106) 45 = some (.getfield 10, 3, [5, 0, 16], uu) := by decide +kernel
theorem e_106_45 : den cf 106 45 L (.ref a :: st) M = oK (gfA (M.2.2 a) 5 0) (fun v => den cf 106 48 L (v :: st) M) := den_gf l_106_45
theorem l_106_48 : look (tab 106) 48 = some (.iload_n 2, 1, [], uu) := by decide +kernel
theorem e_106_48 : den cf 106 48 [v0, v1, .int x] st M = den cf 106 49 [v0, v1, .int x] (.int x :: st) M := den_go l_106_48 rfl
theorem l_106_49 : look (tab 106) 49 = some (.invokevirtual 260, 3, [2, 37, 2, 843, 840, 841, 15], uu) := by decide +kernel
theorem e_106_49 : den cf 106 49 L (w1 :: .ref a :: st) M = if rcv M 2 [.ref a, w1] = true ∧ st.length ≤ 4 then rK (cf 37 [.ref a, w1] M) (fun v M' => den cf 106 52 L (pR v st) M') else none := den_iv [w1] l_106_49 rfl
theorem l_106_52 : look (tab 106) 52 = some (.ireturn, 1, [0], uu) := by decide +kernel
theorem e_106_52 : den cf 106 52 L [.int x] M = some (some (.int x), M) := den_e0 l_106_52
/-! yX5_near -/
theorem l_107_0 : look (tab 107) 0 = some (.aload_n 0, 1, [], uu) := by decide +kernel
theorem e_107_0 : den cf 107 0 [.ref a, v1, v2, v3, v4, v5, v6, v7, v8] st M = den cf 107 1 [.ref a, v1, v2, v3, v4, v5, v6, v7, v8] (.ref a :: st) M := den_go l_107_0 rfl
theorem l_107_1 : look (tab 107) 1 = some (.getfield 10, 3, [5, 0, 16], uu) := by decide +kernel
theorem e_107_1 : den cf 107 1 L (.ref a :: st) M = oK (gfA (M.2.2 a) 5 0) (fun v => den cf 107 4 L (v :: st) M) := den_gf l_107_1
theorem l_107_4 : look (tab 107) 4 = some (.iload_n 1, 1, [], uu) := by decide +kernel
theorem e_107_4 : den cf 107 4 [v0, .int x, v2, v3, v4, v5, v6, v7, v8] st M = den cf 107 5 [v0, .int x, v2, v3, v4, v5, v6, v7, v8] (.int x :: st) M := den_go l_107_4 rfl
theorem l_107_5 : look (tab 107) 5 = some (.invokevirtual 105, 3, [2, 24, 2, 209, 210, 211, 15], uu) := by decide +kernel
theorem e_107_5 : den cf 107 5 L (w1 :: .ref a :: st) M = if rcv M 2 [.ref a, w1] = true ∧ st.length ≤ 4 then rK (cf 24 [.ref a, w1] M) (fun v M' => den cf 107 8 L (pR v st) M') else none := den_iv [w1] l_107_5 rfl
theorem l_107_8 : look (tab 107) 8 = some (.astore_n 3, 1, [], uu) := by decide +kernel
theorem e_107_8 : den cf 107 8 [v0, v1, v2, v3, v4, v5, v6, v7, v8] (v :: st) M = if isRf v = true then den cf 107 9 [v0, v1, kq v2, v, v4, v5, v6, v7, v8] st M else none := den_as (k := 3) (v := v) l_107_8 rfl (Nat.le_of_ble_eq_true rfl)
theorem l_107_9 : look (tab 107) 9 = some (.aload_n 3, 1, [], uu) := by decide +kernel
theorem e_107_9 : den cf 107 9 [v0, v1, v2, v3, v4, v5, v6, v7, v8] st M = if isRf v3 = true then den cf 107 10 [v0, v1, v2, v3, v4, v5, v6, v7, v8] (v3 :: st) M else none := den_g l_107_9 rfl
theorem l_107_10 : look (tab 107) 10 = some (.ifnull 12, 3, [22], uu) := by decide +kernel
theorem e_107_10 : den cf 107 10 L (va_rf o :: st) M = oN o (den cf 107 22 L st M) (den cf 107 13 L st M) := den_nu l_107_10
theorem e_107_10_n : den cf 107 10 L (.null :: st) M = den cf 107 22 L st M := den_go l_107_10 rfl
theorem e_107_10_r : den cf 107 10 L (.ref a :: st) M = den cf 107 13 L st M := den_go l_107_10 rfl
theorem l_107_13 : look (tab 107) 13 = some (.iload_n 2, 1, [], uu) := by decide +kernel
theorem e_107_13 : den cf 107 13 [v0, v1, .int x, v3, v4, v5, v6, v7, v8] st M = den cf 107 14 [v0, v1, .int x, v3, v4, v5, v6, v7, v8] (.int x :: st) M := den_go l_107_13 rfl
theorem l_107_14 : look (tab 107) 14 = some (.bipush 8, 2, [], .int (zI 8)) := by decide +kernel
theorem e_107_14 : den cf 107 14 L st M = den cf 107 16 L (.int (zI 8) :: st) M := den_go l_107_14 rfl
theorem l_107_16 : look (tab 107) 16 = some (.invokestatic 55, 3, [1, 129, 2, 110, 111, 2], uu) := by decide +kernel
theorem e_107_16 : den cf 107 16 L (w2 :: w1 :: st) M = if st.length ≤ 4 then rK (cf 129 [w1, w2] M) (fun v M' => den cf 107 19 L (pR v st) M') else none := den_ist [w1, w2] l_107_16 rfl
theorem l_107_19 : look (tab 107) 19 = some (.ifCond .ne 10, 3, [29], uu) := by decide +kernel
theorem e_107_19 : den cf 107 19 L (.int x :: st) M = if x = zI 0 then den cf 107 22 L st M else den cf 107 29 L st M := den_if_ne l_107_19
theorem l_107_22 : look (tab 107) 22 = some (.aload_n 0, 1, [], uu) := by decide +kernel
theorem e_107_22 : den cf 107 22 [.ref a, v1, v2, v3, v4, v5, v6, v7, v8] st M = den cf 107 23 [.ref a, v1, v2, v3, v4, v5, v6, v7, v8] (.ref a :: st) M := den_go l_107_22 rfl
theorem l_107_23 : look (tab 107) 23 = some (.bipush (-2), 2, [], .int (zI (-2))) := by decide +kernel
theorem e_107_23 : den cf 107 23 L st M = den cf 107 25 L (.int (zI (-2)) :: st) M := den_go l_107_23 rfl
theorem l_107_25 : look (tab 107) 25 = some (.invokevirtual 59, 3, [5, 128, 2, 113, 114, 115, 2], uu) := by decide +kernel
theorem e_107_25 : den cf 107 25 L (w1 :: .ref a :: st) M = if rcv M 5 [.ref a, w1] = true ∧ st.length ≤ 4 then rK (cf 128 [.ref a, w1] M) (fun v M' => den cf 107 28 L (pR v st) M') else none := den_iv [w1] l_107_25 rfl
theorem l_107_28 : look (tab 107) 28 = some (.ireturn, 1, [0], uu) := by decide +kernel
theorem e_107_28 : den cf 107 28 L [.int x] M = some (some (.int x), M) := den_e0 l_107_28
theorem l_107_29 : look (tab 107) 29 = some (.iconst 0, 1, [], .int (zI 0)) := by decide +kernel
theorem e_107_29 : den cf 107 29 L st M = den cf 107 30 L (.int (zI 0) :: st) M := den_go l_107_29 rfl
theorem l_107_30 : look (tab 107) 30 = some (.istore 4, 2, [], uu) := by decide +kernel
theorem e_107_30 : den cf 107 30 [v0, v1, v2, v3, v4, v5, v6, v7, v8] (.int x :: st) M = den cf 107 32 [v0, v1, v2, kq v3, .int x, v5, v6, v7, v8] st M := den_st (k := 4) (v := .int x) l_107_30 rfl
theorem l_107_32 : look (tab 107) 32 = some (.aload_n 0, 1, [], uu) := by decide +kernel
theorem e_107_32 : den cf 107 32 [.ref a, v1, v2, v3, v4, v5, v6, v7, v8] st M = den cf 107 33 [.ref a, v1, v2, v3, v4, v5, v6, v7, v8] (.ref a :: st) M := den_go l_107_32 rfl
theorem l_107_33 : look (tab 107) 33 = some (.getfield 10, 3, [5, 0, 16], uu) := by decide +kernel
theorem e_107_33 : den cf 107 33 L (.ref a :: st) M = oK (gfA (M.2.2 a) 5 0) (fun v => den cf 107 36 L (v :: st) M) := den_gf l_107_33
theorem l_107_36 : look (tab 107) 36 = some (.getfield 236, 3, [2, 0, 802], uu) := by decide +kernel
theorem e_107_36 : den cf 107 36 L (.ref a :: st) M = oK (gfA (M.2.2 a) 2 0) (fun v => den cf 107 39 L (v :: st) M) := den_gf l_107_36
theorem l_107_39 : look (tab 107) 39 = some (.astore 5, 2, [], uu) := by decide +kernel
theorem e_107_39 : den cf 107 39 [v0, v1, v2, v3, v4, v5, v6, v7, v8] (v :: st) M = if isRf v = true then den cf 107 41 [v0, v1, v2, v3, kq v4, v, v6, v7, v8] st M else none := den_as (k := 5) (v := v) l_107_39 rfl (Nat.le_of_ble_eq_true rfl)
theorem l_107_41 : look (tab 107) 41 = some (.aload 5, 2, [], uu) := by decide +kernel
theorem e_107_41 : den cf 107 41 [v0, v1, v2, v3, v4, v5, v6, v7, v8] st M = if isRf v5 = true then den cf 107 43 [v0, v1, v2, v3, v4, v5, v6, v7, v8] (v5 :: st) M else none := den_g l_107_41 rfl
theorem l_107_43 : look (tab 107) 43 = some (.arraylength, 1, [], uu) := by decide +kernel
theorem e_107_43 : den cf 107 43 L (.ref a :: st) M = oK (lenA (M.2.2 a)) (fun n => den cf 107 44 L (.int (zI n) :: st) M) := den_len l_107_43
theorem l_107_44 : look (tab 107) 44 = some (.istore 6, 2, [], uu) := by decide +kernel
theorem e_107_44 : den cf 107 44 [v0, v1, v2, v3, v4, v5, v6, v7, v8] (.int x :: st) M = den cf 107 46 [v0, v1, v2, v3, v4, kq v5, .int x, v7, v8] st M := den_st (k := 6) (v := .int x) l_107_44 rfl
theorem l_107_46 : look (tab 107) 46 = some (.iconst 0, 1, [], .int (zI 0)) := by decide +kernel
theorem e_107_46 : den cf 107 46 L st M = den cf 107 47 L (.int (zI 0) :: st) M := den_go l_107_46 rfl
theorem l_107_47 : look (tab 107) 47 = some (.istore 7, 2, [], uu) := by decide +kernel
theorem e_107_47 : den cf 107 47 [v0, v1, v2, v3, v4, v5, v6, v7, v8] (.int x :: st) M = den cf 107 49 [v0, v1, v2, v3, v4, v5, kq v6, .int x, v8] st M := den_st (k := 7) (v := .int x) l_107_47 rfl
theorem l_107_49 : look (tab 107) 49 = some (.iload 7, 2, [], uu) := by decide +kernel
theorem e_107_49 : den cf 107 49 [v0, v1, v2, v3, v4, v5, v6, .int x, v8] st M = den cf 107 51 [v0, v1, v2, v3, v4, v5, v6, .int x, v8] (.int x :: st) M := den_go l_107_49 rfl
theorem l_107_51 : look (tab 107) 51 = some (.iload 6, 2, [], uu) := by decide +kernel
theorem e_107_51 : den cf 107 51 [v0, v1, v2, v3, v4, v5, .int x, v7, v8] st M = den cf 107 53 [v0, v1, v2, v3, v4, v5, .int x, v7, v8] (.int x :: st) M := den_go l_107_51 rfl
theorem l_107_53 : look (tab 107) 53 = some (.if_icmp .ge 58, 3, [111], uu) := by decide +kernel
theorem e_107_53 : den cf 107 53 L (.int y :: .int x :: st) M = if x < y then den cf 107 56 L st M else den cf 107 111 L st M := den_ic_ge l_107_53
theorem l_107_56 : look (tab 107) 56 = some (.aload 5, 2, [], uu) := by decide +kernel
theorem e_107_56 : den cf 107 56 [v0, v1, v2, v3, v4, v5, v6, v7, v8] st M = if isRf v5 = true then den cf 107 58 [v0, v1, v2, v3, v4, v5, v6, v7, v8] (v5 :: st) M else none := den_g l_107_56 rfl
theorem l_107_58 : look (tab 107) 58 = some (.iload 7, 2, [], uu) := by decide +kernel
theorem e_107_58 : den cf 107 58 [v0, v1, v2, v3, v4, v5, v6, .int x, v8] st M = den cf 107 60 [v0, v1, v2, v3, v4, v5, v6, .int x, v8] (.int x :: st) M := den_go l_107_58 rfl
theorem l_107_60 : look (tab 107) 60 = some (.aaload, 1, [], uu) := by decide +kernel
theorem e_107_60 : den cf 107 60 L (.int x :: .ref a :: st) M = oK (ldQ (M.2.2 a) x) (fun v => den cf 107 61 L (v :: st) M) := den_al (g := ldQ) l_107_60 rfl
theorem l_107_61 : look (tab 107) 61 = some (.astore 8, 2, [], uu) := by decide +kernel
theorem e_107_61 : den cf 107 61 [v0, v1, v2, v3, v4, v5, v6, v7, v8] (v :: st) M = if isRf v = true then den cf 107 63 [v0, v1, v2, v3, v4, v5, v6, kq v7, v] st M else none := den_as (k := 8) (v := v) l_107_61 rfl (Nat.le_of_ble_eq_true rfl)
theorem l_107_63 : look (tab 107) 63 = some (.aload 8, 2, [], uu) := by decide +kernel
theorem e_107_63 : den cf 107 63 [v0, v1, v2, v3, v4, v5, v6, v7, v8] st M = if isRf v8 = true then den cf 107 65 [v0, v1, v2, v3, v4, v5, v6, v7, v8] (v8 :: st) M else none := den_g l_107_63 rfl
theorem l_107_65 : look (tab 107) 65 = some (.getfield 263, 3, [1, 1, 918], uu) := by decide +kernel
theorem e_107_65 : den cf 107 65 L (.ref a :: st) M = oK (gfA (M.2.2 a) 1 1) (fun v => den cf 107 68 L (v :: st) M) := den_gf l_107_65
theorem l_107_68 : look (tab 107) 68 = some (.ifCond .eq 37, 3, [105], uu) := by decide +kernel
theorem e_107_68 : den cf 107 68 L (.int x :: st) M = if x = zI 0 then den cf 107 105 L st M else den cf 107 71 L st M := den_if_eq l_107_68
theorem l_107_71 : look (tab 107) 71 = some (.aload 8, 2, [], uu) := by decide +kernel
theorem e_107_71 : den cf 107 71 [v0, v1, v2, v3, v4, v5, v6, v7, v8] st M = if isRf v8 = true then den cf 107 73 [v0, v1, v2, v3, v4, v5, v6, v7, v8] (v8 :: st) M else none := den_g l_107_71 rfl
theorem l_107_73 : look (tab 107) 73 = some (.getfield 188, 3, [1, 4, 629], uu) := by decide +kernel
theorem e_107_73 : den cf 107 73 L (.ref a :: st) M = oK (gfA (M.2.2 a) 1 4) (fun v => den cf 107 76 L (v :: st) M) := den_gf l_107_73
theorem l_107_76 : look (tab 107) 76 = some (.aload_n 3, 1, [], uu) := by decide +kernel
theorem e_107_76 : den cf 107 76 [v0, v1, v2, v3, v4, v5, v6, v7, v8] st M = if isRf v3 = true then den cf 107 77 [v0, v1, v2, v3, v4, v5, v6, v7, v8] (v3 :: st) M else none := den_g l_107_76 rfl
theorem l_107_77 : look (tab 107) 77 = some (.getfield 188, 3, [1, 4, 629], uu) := by decide +kernel
theorem e_107_77 : den cf 107 77 L (.ref a :: st) M = oK (gfA (M.2.2 a) 1 4) (fun v => den cf 107 80 L (v :: st) M) := den_gf l_107_77
theorem l_107_80 : look (tab 107) 80 = some (.if_icmp .eq 25, 3, [105], uu) := by decide +kernel
theorem e_107_80 : den cf 107 80 L (.int y :: .int x :: st) M = if x = y then den cf 107 105 L st M else den cf 107 83 L st M := den_ic_eq l_107_80
theorem l_107_83 : look (tab 107) 83 = some (.aload_n 3, 1, [], uu) := by decide +kernel
theorem e_107_83 : den cf 107 83 [v0, v1, v2, v3, v4, v5, v6, v7, v8] st M = if isRf v3 = true then den cf 107 84 [v0, v1, v2, v3, v4, v5, v6, v7, v8] (v3 :: st) M else none := den_g l_107_83 rfl
theorem l_107_84 : look (tab 107) 84 = some (.aload 8, 2, [], uu) := by decide +kernel
theorem e_107_84 : den cf 107 84 [v0, v1, v2, v3, v4, v5, v6, v7, v8] st M = if isRf v8 = true then den cf 107 86 [v0, v1, v2, v3, v4, v5, v6, v7, v8] (v8 :: st) M else none := den_g l_107_84 rfl
theorem l_107_86 : look (tab 107) 86 = some (.invokevirtual 153, 3, [1, 20, 2, 353, 261, 262, 41], uu) := by decide +kernel
theorem e_107_86 : den cf 107 86 L (w1 :: .ref a :: st) M = if rcv M 1 [.ref a, w1] = true ∧ st.length ≤ 4 then rK (cf 20 [.ref a, w1] M) (fun v M' => den cf 107 89 L (pR v st) M') else none := den_iv [w1] l_107_86 rfl
theorem l_107_89 : look (tab 107) 89 = some (.iload_n 2, 1, [], uu) := by decide +kernel
theorem e_107_89 : den cf 107 89 [v0, v1, .int x, v3, v4, v5, v6, v7, v8] st M = den cf 107 90 [v0, v1, .int x, v3, v4, v5, v6, v7, v8] (.int x :: st) M := den_go l_107_89 rfl
theorem l_107_90 : look (tab 107) 90 = some (.if_icmp .lt 15, 3, [105], uu) := by decide +kernel
theorem e_107_90 : den cf 107 90 L (.int y :: .int x :: st) M = if x < y then den cf 107 105 L st M else den cf 107 93 L st M := den_ic_lt l_107_90
theorem l_107_93 : look (tab 107) 93 = some (.iload 4, 2, [], uu) := by decide +kernel
theorem e_107_93 : den cf 107 93 [v0, v1, v2, v3, .int x, v5, v6, v7, v8] st M = den cf 107 95 [v0, v1, v2, v3, .int x, v5, v6, v7, v8] (.int x :: st) M := den_go l_107_93 rfl
theorem l_107_95 : look (tab 107) 95 = some (.iconst 1, 1, [], .int (zI 1)) := by decide +kernel
theorem e_107_95 : den cf 107 95 L st M = den cf 107 96 L (.int (zI 1) :: st) M := den_go l_107_95 rfl
theorem l_107_96 : look (tab 107) 96 = some (.aload 8, 2, [], uu) := by decide +kernel
theorem e_107_96 : den cf 107 96 [v0, v1, v2, v3, v4, v5, v6, v7, v8] st M = if isRf v8 = true then den cf 107 98 [v0, v1, v2, v3, v4, v5, v6, v7, v8] (v8 :: st) M else none := den_g l_107_96 rfl
theorem l_107_98 : look (tab 107) 98 = some (.getfield 160, 3, [1, 0, 374], uu) := by decide +kernel
theorem e_107_98 : den cf 107 98 L (.ref a :: st) M = oK (gfA (M.2.2 a) 1 0) (fun v => den cf 107 101 L (v :: st) M) := den_gf l_107_98
theorem l_107_101 : look (tab 107) 101 = some (.ishl, 1, [], uu) := by decide +kernel
theorem e_107_101 : den cf 107 101 L (.int y :: .int x :: st) M = den cf 107 102 L (.int (x <<< (y &&& 31)) :: st) M := den_go l_107_101 rfl
theorem l_107_102 : look (tab 107) 102 = some (.ior, 1, [], uu) := by decide +kernel
theorem e_107_102 : den cf 107 102 L (.int y :: .int x :: st) M = den cf 107 103 L (.int (x ||| y) :: st) M := den_go l_107_102 rfl
theorem l_107_103 : look (tab 107) 103 = some (.istore 4, 2, [], uu) := by decide +kernel
theorem e_107_103 : den cf 107 103 [v0, v1, v2, v3, v4, v5, v6, v7, v8] (.int x :: st) M = den cf 107 105 [v0, v1, v2, kq v3, .int x, v5, v6, v7, v8] st M := den_st (k := 4) (v := .int x) l_107_103 rfl
theorem l_107_105 : look (tab 107) 105 = some (.iinc 7 1, 3, [], .int (zI 1)) := by decide +kernel
theorem e_107_105 : den cf 107 105 [v0, v1, v2, v3, v4, v5, v6, .int x, v8] st M = den cf 107 108 [v0, v1, v2, v3, v4, v5, kq v6, .int (x + (zI 1)), v8] st M := den_st (k := 7) (v := .int (x + (zI 1))) l_107_105 rfl
theorem l_107_108 : look (tab 107) 108 = some (.goto (-59), 3, [49], uu) := by decide +kernel
theorem e_107_108 : den cf 107 108 L st M = den cf 107 49 L st M := den_go l_107_108 rfl
theorem l_107_111 : look (tab 107) 111 = some (.iload 4, 2, [], uu) := by decide +kernel
theorem e_107_111 : den cf 107 111 [v0, v1, v2, v3, .int x, v5, v6, v7, v8] st M = den cf 107 113 [v0, v1, v2, v3, .int x, v5, v6, v7, v8] (.int x :: st) M := den_go l_107_111 rfl
theorem l_107_113 : look (tab 107) 113 = some (.ireturn, 1, [0], uu) := by decide +kernel
theorem e_107_113 : den cf 107 113 L [.int x] M = some (some (.int x), M) := den_e0 l_107_113
/-! yX5_wanted -/
theorem l_108_0 : look (tab 108) 0 = some (.iload_n 1, 1, [], uu) := by decide +kernel
theorem e_108_0 : den cf 108 0 [v0, .int x, v2, v3, v4, v5, v6, v7] st M = den cf 108 1 [v0, .int x, v2, v3, v4, v5, v6, v7] (.int x :: st) M := den_go l_108_0 rfl
theorem l_108_1 : look (tab 108) 1 = some (.bipush 8, 2, [], .int (zI 8)) := by decide +kernel
theorem e_108_1 : den cf 108 1 L st M = den cf 108 3 L (.int (zI 8) :: st) M := den_go l_108_1 rfl
theorem l_108_3 : look (tab 108) 3 = some (.invokestatic 55, 3, [1, 129, 2, 110, 111, 2], uu) := by decide +kernel
theorem e_108_3 : den cf 108 3 L (w2 :: w1 :: st) M = if st.length ≤ 4 then rK (cf 129 [w1, w2] M) (fun v M' => den cf 108 6 L (pR v st) M') else none := den_ist [w1, w2] l_108_3 rfl
theorem l_108_6 : look (tab 108) 6 = some (.ifCond .ne 10, 3, [16], uu) := by decide +kernel
theorem e_108_6 : den cf 108 6 L (.int x :: st) M = if x = zI 0 then den cf 108 9 L st M else den cf 108 16 L st M := den_if_ne l_108_6
theorem l_108_9 : look (tab 108) 9 = some (.aload_n 0, 1, [], uu) := by decide +kernel
theorem e_108_9 : den cf 108 9 [.ref a, v1, v2, v3, v4, v5, v6, v7] st M = den cf 108 10 [.ref a, v1, v2, v3, v4, v5, v6, v7] (.ref a :: st) M := den_go l_108_9 rfl
theorem l_108_10 : look (tab 108) 10 = some (.bipush (-2), 2, [], .int (zI (-2))) := by decide +kernel
theorem e_108_10 : den cf 108 10 L st M = den cf 108 12 L (.int (zI (-2)) :: st) M := den_go l_108_10 rfl
theorem l_108_12 : look (tab 108) 12 = some (.invokevirtual 59, 3, [5, 128, 2, 113, 114, 115, 2], uu) := by decide +kernel
theorem e_108_12 : den cf 108 12 L (w1 :: .ref a :: st) M = if rcv M 5 [.ref a, w1] = true ∧ st.length ≤ 4 then rK (cf 128 [.ref a, w1] M) (fun v M' => den cf 108 15 L (pR v st) M') else none := den_iv [w1] l_108_12 rfl
theorem l_108_15 : look (tab 108) 15 = some (.ireturn, 1, [0], uu) := by decide +kernel
theorem e_108_15 : den cf 108 15 L [.int x] M = some (some (.int x), M) := den_e0 l_108_15
theorem l_108_16 : look (tab 108) 16 = some (.iconst 0, 1, [], .int (zI 0)) := by decide +kernel
theorem e_108_16 : den cf 108 16 L st M = den cf 108 17 L (.int (zI 0) :: st) M := den_go l_108_16 rfl
theorem l_108_17 : look (tab 108) 17 = some (.istore_n 2, 1, [], uu) := by decide +kernel
theorem e_108_17 : den cf 108 17 [v0, v1, v2, v3, v4, v5, v6, v7] (.int x :: st) M = den cf 108 18 [v0, kq v1, .int x, v3, v4, v5, v6, v7] st M := den_st (k := 2) (v := .int x) l_108_17 rfl
theorem l_108_18 : look (tab 108) 18 = some (.aload_n 0, 1, [], uu) := by decide +kernel
theorem e_108_18 : den cf 108 18 [.ref a, v1, v2, v3, v4, v5, v6, v7] st M = den cf 108 19 [.ref a, v1, v2, v3, v4, v5, v6, v7] (.ref a :: st) M := den_go l_108_18 rfl
theorem l_108_19 : look (tab 108) 19 = some (.getfield 10, 3, [5, 0, 16], uu) := by decide +kernel
theorem e_108_19 : den cf 108 19 L (.ref a :: st) M = oK (gfA (M.2.2 a) 5 0) (fun v => den cf 108 22 L (v :: st) M) := den_gf l_108_19
theorem l_108_22 : look (tab 108) 22 = some (.getfield 236, 3, [2, 0, 802], uu) := by decide +kernel
theorem e_108_22 : den cf 108 22 L (.ref a :: st) M = oK (gfA (M.2.2 a) 2 0) (fun v => den cf 108 25 L (v :: st) M) := den_gf l_108_22
theorem l_108_25 : look (tab 108) 25 = some (.astore_n 3, 1, [], uu) := by decide +kernel
theorem e_108_25 : den cf 108 25 [v0, v1, v2, v3, v4, v5, v6, v7] (v :: st) M = if isRf v = true then den cf 108 26 [v0, v1, kq v2, v, v4, v5, v6, v7] st M else none := den_as (k := 3) (v := v) l_108_25 rfl (Nat.le_of_ble_eq_true rfl)
theorem l_108_26 : look (tab 108) 26 = some (.aload_n 3, 1, [], uu) := by decide +kernel
theorem e_108_26 : den cf 108 26 [v0, v1, v2, v3, v4, v5, v6, v7] st M = if isRf v3 = true then den cf 108 27 [v0, v1, v2, v3, v4, v5, v6, v7] (v3 :: st) M else none := den_g l_108_26 rfl
theorem l_108_27 : look (tab 108) 27 = some (.arraylength, 1, [], uu) := by decide +kernel
theorem e_108_27 : den cf 108 27 L (.ref a :: st) M = oK (lenA (M.2.2 a)) (fun n => den cf 108 28 L (.int (zI n) :: st) M) := den_len l_108_27
theorem l_108_28 : look (tab 108) 28 = some (.istore 4, 2, [], uu) := by decide +kernel
theorem e_108_28 : den cf 108 28 [v0, v1, v2, v3, v4, v5, v6, v7] (.int x :: st) M = den cf 108 30 [v0, v1, v2, kq v3, .int x, v5, v6, v7] st M := den_st (k := 4) (v := .int x) l_108_28 rfl
theorem l_108_30 : look (tab 108) 30 = some (.iconst 0, 1, [], .int (zI 0)) := by decide +kernel
theorem e_108_30 : den cf 108 30 L st M = den cf 108 31 L (.int (zI 0) :: st) M := den_go l_108_30 rfl
theorem l_108_31 : look (tab 108) 31 = some (.istore 5, 2, [], uu) := by decide +kernel
theorem e_108_31 : den cf 108 31 [v0, v1, v2, v3, v4, v5, v6, v7] (.int x :: st) M = den cf 108 33 [v0, v1, v2, v3, kq v4, .int x, v6, v7] st M := den_st (k := 5) (v := .int x) l_108_31 rfl
theorem l_108_33 : look (tab 108) 33 = some (.iload 5, 2, [], uu) := by decide +kernel
theorem e_108_33 : den cf 108 33 [v0, v1, v2, v3, v4, .int x, v6, v7] st M = den cf 108 35 [v0, v1, v2, v3, v4, .int x, v6, v7] (.int x :: st) M := den_go l_108_33 rfl
theorem l_108_35 : look (tab 108) 35 = some (.iload 4, 2, [], uu) := by decide +kernel
theorem e_108_35 : den cf 108 35 [v0, v1, v2, v3, .int x, v5, v6, v7] st M = den cf 108 37 [v0, v1, v2, v3, .int x, v5, v6, v7] (.int x :: st) M := den_go l_108_35 rfl
theorem l_108_37 : look (tab 108) 37 = some (.if_icmp .ge 65, 3, [102], uu) := by decide +kernel
theorem e_108_37 : den cf 108 37 L (.int y :: .int x :: st) M = if x < y then den cf 108 40 L st M else den cf 108 102 L st M := den_ic_ge l_108_37
theorem l_108_40 : look (tab 108) 40 = some (.aload_n 3, 1, [], uu) := by decide +kernel
theorem e_108_40 : den cf 108 40 [v0, v1, v2, v3, v4, v5, v6, v7] st M = if isRf v3 = true then den cf 108 41 [v0, v1, v2, v3, v4, v5, v6, v7] (v3 :: st) M else none := den_g l_108_40 rfl
theorem l_108_41 : look (tab 108) 41 = some (.iload 5, 2, [], uu) := by decide +kernel
theorem e_108_41 : den cf 108 41 [v0, v1, v2, v3, v4, .int x, v6, v7] st M = den cf 108 43 [v0, v1, v2, v3, v4, .int x, v6, v7] (.int x :: st) M := den_go l_108_41 rfl
theorem l_108_43 : look (tab 108) 43 = some (.aaload, 1, [], uu) := by decide +kernel
theorem e_108_43 : den cf 108 43 L (.int x :: .ref a :: st) M = oK (ldQ (M.2.2 a) x) (fun v => den cf 108 44 L (v :: st) M) := den_al (g := ldQ) l_108_43 rfl
theorem l_108_44 : look (tab 108) 44 = some (.astore 6, 2, [], uu) := by decide +kernel
theorem e_108_44 : den cf 108 44 [v0, v1, v2, v3, v4, v5, v6, v7] (v :: st) M = if isRf v = true then den cf 108 46 [v0, v1, v2, v3, v4, kq v5, v, v7] st M else none := den_as (k := 6) (v := v) l_108_44 rfl (Nat.le_of_ble_eq_true rfl)
theorem l_108_46 : look (tab 108) 46 = some (.aload 6, 2, [], uu) := by decide +kernel
theorem e_108_46 : den cf 108 46 [v0, v1, v2, v3, v4, v5, v6, v7] st M = if isRf v6 = true then den cf 108 48 [v0, v1, v2, v3, v4, v5, v6, v7] (v6 :: st) M else none := den_g l_108_46 rfl
theorem l_108_48 : look (tab 108) 48 = some (.getfield 263, 3, [1, 1, 918], uu) := by decide +kernel
theorem e_108_48 : den cf 108 48 L (.ref a :: st) M = oK (gfA (M.2.2 a) 1 1) (fun v => den cf 108 51 L (v :: st) M) := den_gf l_108_48
theorem l_108_51 : look (tab 108) 51 = some (.ifCond .eq 23, 3, [74], uu) := by decide +kernel
theorem e_108_51 : den cf 108 51 L (.int x :: st) M = if x = zI 0 then den cf 108 74 L st M else den cf 108 54 L st M := den_if_eq l_108_51
theorem l_108_54 : look (tab 108) 54 = some (.aload 6, 2, [], uu) := by decide +kernel
theorem e_108_54 : den cf 108 54 [v0, v1, v2, v3, v4, v5, v6, v7] st M = if isRf v6 = true then den cf 108 56 [v0, v1, v2, v3, v4, v5, v6, v7] (v6 :: st) M else none := den_g l_108_54 rfl
theorem l_108_56 : look (tab 108) 56 = some (.getfield 188, 3, [1, 4, 629], uu) := by decide +kernel
theorem e_108_56 : den cf 108 56 L (.ref a :: st) M = oK (gfA (M.2.2 a) 1 4) (fun v => den cf 108 59 L (v :: st) M) := den_gf l_108_56
theorem l_108_59 : look (tab 108) 59 = some (.ifCond .ne 15, 3, [74], uu) := by decide +kernel
theorem e_108_59 : den cf 108 59 L (.int x :: st) M = if x = zI 0 then den cf 108 62 L st M else den cf 108 74 L st M := den_if_ne l_108_59
theorem l_108_62 : look (tab 108) 62 = some (.aload_n 0, 1, [], uu) := by decide +kernel
theorem e_108_62 : den cf 108 62 [.ref a, v1, v2, v3, v4, v5, v6, v7] st M = den cf 108 63 [.ref a, v1, v2, v3, v4, v5, v6, v7] (.ref a :: st) M := den_go l_108_62 rfl
theorem l_108_63 : look (tab 108) 63 = some (.getfield 10, 3, [5, 0, 16], uu) := by decide +kernel
theorem e_108_63 : den cf 108 63 L (.ref a :: st) M = oK (gfA (M.2.2 a) 5 0) (fun v => den cf 108 66 L (v :: st) M) := den_gf l_108_63
theorem l_108_66 : look (tab 108) 66 = some (.aload 6, 2, [], uu) := by decide +kernel
theorem e_108_66 : den cf 108 66 [v0, v1, v2, v3, v4, v5, v6, v7] st M = if isRf v6 = true then den cf 108 68 [v0, v1, v2, v3, v4, v5, v6, v7] (v6 :: st) M else none := den_g l_108_66 rfl
theorem l_108_68 : look (tab 108) 68 = some (.invokevirtual 250, 3, [2, 36, 2, 816, 817, 818, 15], uu) := by decide +kernel
theorem e_108_68 : den cf 108 68 L (w1 :: .ref a :: st) M = if rcv M 2 [.ref a, w1] = true ∧ st.length ≤ 4 then rK (cf 36 [.ref a, w1] M) (fun v M' => den cf 108 71 L (pR v st) M') else none := den_iv [w1] l_108_68 rfl
theorem l_108_71 : look (tab 108) 71 = some (.goto 4, 3, [75], uu) := by decide +kernel
theorem e_108_71 : den cf 108 71 L st M = den cf 108 75 L st M := den_go l_108_71 rfl
theorem l_108_74 : look (tab 108) 74 = some (.aconst_null, 1, [], uu) := by decide +kernel
theorem e_108_74 : den cf 108 74 L st M = den cf 108 75 L (.null :: st) M := den_go l_108_74 rfl
theorem l_108_75 : look (tab 108) 75 = some (.astore 7, 2, [], uu) := by decide +kernel
theorem e_108_75 : den cf 108 75 [v0, v1, v2, v3, v4, v5, v6, v7] (v :: st) M = if isRf v = true then den cf 108 77 [v0, v1, v2, v3, v4, v5, kq v6, v] st M else none := den_as (k := 7) (v := v) l_108_75 rfl (Nat.le_of_ble_eq_true rfl)
theorem l_108_77 : look (tab 108) 77 = some (.aload 7, 2, [], uu) := by decide +kernel
theorem e_108_77 : den cf 108 77 [v0, v1, v2, v3, v4, v5, v6, v7] st M = if isRf v7 = true then den cf 108 79 [v0, v1, v2, v3, v4, v5, v6, v7] (v7 :: st) M else none := den_g l_108_77 rfl
theorem l_108_79 : look (tab 108) 79 = some (.ifnull 17, 3, [96], uu) := by decide +kernel
theorem e_108_79 : den cf 108 79 L (va_rf o :: st) M = oN o (den cf 108 96 L st M) (den cf 108 82 L st M) := den_nu l_108_79
theorem e_108_79_n : den cf 108 79 L (.null :: st) M = den cf 108 96 L st M := den_go l_108_79 rfl
theorem e_108_79_r : den cf 108 79 L (.ref a :: st) M = den cf 108 82 L st M := den_go l_108_79 rfl
theorem l_108_82 : look (tab 108) 82 = some (.aload 6, 2, [], uu) := by decide +kernel
theorem e_108_82 : den cf 108 82 [v0, v1, v2, v3, v4, v5, v6, v7] st M = if isRf v6 = true then den cf 108 84 [v0, v1, v2, v3, v4, v5, v6, v7] (v6 :: st) M else none := den_g l_108_82 rfl
theorem l_108_84 : look (tab 108) 84 = some (.aload 7, 2, [], uu) := by decide +kernel
theorem e_108_84 : den cf 108 84 [v0, v1, v2, v3, v4, v5, v6, v7] st M = if isRf v7 = true then den cf 108 86 [v0, v1, v2, v3, v4, v5, v6, v7] (v7 :: st) M else none := den_g l_108_84 rfl
theorem l_108_86 : look (tab 108) 86 = some (.invokevirtual 153, 3, [1, 20, 2, 353, 261, 262, 41], uu) := by decide +kernel
theorem e_108_86 : den cf 108 86 L (w1 :: .ref a :: st) M = if rcv M 1 [.ref a, w1] = true ∧ st.length ≤ 4 then rK (cf 20 [.ref a, w1] M) (fun v M' => den cf 108 89 L (pR v st) M') else none := den_iv [w1] l_108_86 rfl
theorem l_108_89 : look (tab 108) 89 = some (.iload_n 1, 1, [], uu) := by decide +kernel
theorem e_108_89 : den cf 108 89 [v0, .int x, v2, v3, v4, v5, v6, v7] st M = den cf 108 90 [v0, .int x, v2, v3, v4, v5, v6, v7] (.int x :: st) M := den_go l_108_89 rfl
theorem l_108_90 : look (tab 108) 90 = some (.if_icmp .lt 6, 3, [96], uu) := by decide +kernel
theorem e_108_90 : den cf 108 90 L (.int y :: .int x :: st) M = if x < y then den cf 108 96 L st M else den cf 108 93 L st M := den_ic_lt l_108_90
theorem l_108_93 : look (tab 108) 93 = some (.iinc 2 1, 3, [], .int (zI 1)) := by decide +kernel
theorem e_108_93 : den cf 108 93 [v0, v1, .int x, v3, v4, v5, v6, v7] st M = den cf 108 96 [v0, kq v1, .int (x + (zI 1)), v3, v4, v5, v6, v7] st M := den_st (k := 2) (v := .int (x + (zI 1))) l_108_93 rfl
theorem l_108_96 : look (tab 108) 96 = some (.iinc 5 1, 3, [], .int (zI 1)) := by decide +kernel
theorem e_108_96 : den cf 108 96 [v0, v1, v2, v3, v4, .int x, v6, v7] st M = den cf 108 99 [v0, v1, v2, v3, kq v4, .int (x + (zI 1)), v6, v7] st M := den_st (k := 5) (v := .int (x + (zI 1))) l_108_96 rfl
theorem l_108_99 : look (tab 108) 99 = some (.goto (-66), 3, [33], uu) := by decide +kernel
theorem e_108_99 : den cf 108 99 L st M = den cf 108 33 L st M := den_go l_108_99 rfl
theorem l_108_102 : look (tab 108) 102 = some (.iload_n 2, 1, [], uu) := by decide +kernel
theorem e_108_102 : den cf 108 102 [v0, v1, .int x, v3, v4, v5, v6, v7] st M = den cf 108 103 [v0, v1, .int x, v3, v4, v5, v6, v7] (.int x :: st) M := den_go l_108_102 rfl
theorem l_108_103 : look (tab 108) 103 = some (.ireturn, 1, [0], uu) := by decide +kernel
theorem e_108_103 : den cf 108 103 L [.int x] M = some (some (.int x), M) := den_e0 l_108_103
/-! yX5_may -/
theorem l_109_0 : look (tab 109) 0 = some (.aload_n 0, 1, [], uu) := by decide +kernel
theorem e_109_0 : den cf 109 0 [.ref a] st M = den cf 109 1 [.ref a] (.ref a :: st) M := den_go l_109_0 rfl
theorem l_109_1 : look (tab 109) 1 = some (.getfield 10, 3, [5, 0, 16], uu) := by decide +kernel
theorem e_109_1 : den cf 109 1 L (.ref a :: st) M = oK (gfA (M.2.2 a) 5 0) (fun v => den cf 109 4 L (v :: st) M) := den_gf l_109_1
theorem l_109_4 : look (tab 109) 4 = some (.invokevirtual 266, 3, [2, 40, 1, 860, 861, 862, 15], uu) := by decide +kernel
theorem e_109_4 : den cf 109 4 L (.ref a :: st) M = if rcv M 2 [.ref a] = true ∧ st.length ≤ 4 then rK (cf 40 [.ref a] M) (fun v M' => den cf 109 7 L (pR v st) M') else none := den_iv [] l_109_4 rfl
theorem l_109_7 : look (tab 109) 7 = some (.aload_n 0, 1, [], uu) := by decide +kernel
theorem e_109_7 : den cf 109 7 [.ref a] st M = den cf 109 8 [.ref a] (.ref a :: st) M := den_go l_109_7 rfl
theorem l_109_8 : look (tab 109) 8 = some (.getfield 10, 3, [5, 0, 16], uu) := by decide +kernel
theorem e_109_8 : den cf 109 8 L (.ref a :: st) M = oK (gfA (M.2.2 a) 5 0) (fun v => den cf 109 11 L (v :: st) M) := den_gf l_109_8
theorem l_109_11 : look (tab 109) 11 = some (.invokevirtual 269, 3, [2, 41, 1, 868, 869, 870, 15], uu) := by decide +kernel
theorem e_109_11 : den cf 109 11 L (.ref a :: st) M = if rcv M 2 [.ref a] = true ∧ st.length ≤ 4 then rK (cf 41 [.ref a] M) (fun v M' => den cf 109 14 L (pR v st) M') else none := den_iv [] l_109_11 rfl
theorem l_109_14 : look (tab 109) 14 = some (.isub, 1, [], uu) := by decide +kernel
theorem e_109_14 : den cf 109 14 L (.int y :: .int x :: st) M = den cf 109 15 L (.int (x - y) :: st) M := den_go l_109_14 rfl
theorem l_109_15 : look (tab 109) 15 = some (.ireturn, 1, [0], uu) := by decide +kernel
theorem e_109_15 : den cf 109 15 L [.int x] M = some (some (.int x), M) := den_e0 l_109_15
/-! yX5_fridays -/
theorem l_110_0 : look (tab 110) 0 = some (.aload_n 0, 1, [], uu) := by decide +kernel
theorem e_110_0 : den cf 110 0 [.ref a, v1] st M = den cf 110 1 [.ref a, v1] (.ref a :: st) M := den_go l_110_0 rfl
theorem l_110_1 : look (tab 110) 1 = some (.getfield 16, 3, [5, 1, 17], uu) := by decide +kernel
theorem e_110_1 : den cf 110 1 L (.ref a :: st) M = oK (gfA (M.2.2 a) 5 1) (fun v => den cf 110 4 L (v :: st) M) := den_gf l_110_1
theorem l_110_4 : look (tab 110) 4 = some (.aload_n 0, 1, [], uu) := by decide +kernel
theorem e_110_4 : den cf 110 4 [.ref a, v1] st M = den cf 110 5 [.ref a, v1] (.ref a :: st) M := den_go l_110_4 rfl
theorem l_110_5 : look (tab 110) 5 = some (.getfield 10, 3, [5, 0, 16], uu) := by decide +kernel
theorem e_110_5 : den cf 110 5 L (.ref a :: st) M = oK (gfA (M.2.2 a) 5 0) (fun v => den cf 110 8 L (v :: st) M) := den_gf l_110_5
theorem l_110_8 : look (tab 110) 8 = some (.invokevirtual 174, 3, [2, 26, 2, 428, 429, 430, 15], uu) := by decide +kernel
theorem e_110_8 : den cf 110 8 L (w1 :: .ref a :: st) M = if rcv M 2 [.ref a, w1] = true ∧ st.length ≤ 4 then rK (cf 26 [.ref a, w1] M) (fun v M' => den cf 110 11 L (pR v st) M') else none := den_iv [w1] l_110_8 rfl
theorem l_110_11 : look (tab 110) 11 = some (.aload_n 0, 1, [], uu) := by decide +kernel
theorem e_110_11 : den cf 110 11 [.ref a, v1] st M = den cf 110 12 [.ref a, v1] (.ref a :: st) M := den_go l_110_11 rfl
theorem l_110_12 : look (tab 110) 12 = some (.getfield 16, 3, [5, 1, 17], uu) := by decide +kernel
theorem e_110_12 : den cf 110 12 L (.ref a :: st) M = oK (gfA (M.2.2 a) 5 1) (fun v => den cf 110 15 L (v :: st) M) := den_gf l_110_12
theorem l_110_15 : look (tab 110) 15 = some (.iconst 1, 1, [], .int (zI 1)) := by decide +kernel
theorem e_110_15 : den cf 110 15 L st M = den cf 110 16 L (.int (zI 1) :: st) M := den_go l_110_15 rfl
theorem l_110_16 : look (tab 110) 16 = some (.putfield 167, 3, [2, 4, 0, 393, 0], uu) := by decide +kernel
theorem e_110_16 : den cf 110 16 L (.int x :: .ref a :: st) M = oK (pfA (M.2.2 a) 2 4 (.int x)) (fun c => den cf 110 19 L st (mU M a c)) := den_pf0 l_110_16
theorem l_110_19 : look (tab 110) 19 = some (.aload_n 0, 1, [], uu) := by decide +kernel
theorem e_110_19 : den cf 110 19 [.ref a, v1] st M = den cf 110 20 [.ref a, v1] (.ref a :: st) M := den_go l_110_19 rfl
theorem l_110_20 : look (tab 110) 20 = some (.getfield 16, 3, [5, 1, 17], uu) := by decide +kernel
theorem e_110_20 : den cf 110 20 L (.ref a :: st) M = oK (gfA (M.2.2 a) 5 1) (fun v => den cf 110 23 L (v :: st) M) := den_gf l_110_20
theorem l_110_23 : look (tab 110) 23 = some (.iconst 4, 1, [], .int (zI 4)) := by decide +kernel
theorem e_110_23 : den cf 110 23 L st M = den cf 110 24 L (.int (zI 4) :: st) M := den_go l_110_23 rfl
theorem l_110_24 : look (tab 110) 24 = some (.invokevirtual 272, 3, [2, 34, 2, 893, 894, 895, 15], uu) := by decide +kernel
theorem e_110_24 : den cf 110 24 L (w1 :: .ref a :: st) M = if rcv M 2 [.ref a, w1] = true ∧ st.length ≤ 4 then rK (cf 34 [.ref a, w1] M) (fun v M' => den cf 110 27 L (pR v st) M') else none := den_iv [w1] l_110_24 rfl
theorem l_110_27 : look (tab 110) 27 = some (.istore_n 1, 1, [], uu) := by decide +kernel
theorem e_110_27 : den cf 110 27 [v0, v1] (.int x :: st) M = den cf 110 28 [kq v0, .int x] st M := den_st (k := 1) (v := .int x) l_110_27 rfl
theorem l_110_28 : look (tab 110) 28 = some (.aload_n 0, 1, [], uu) := by decide +kernel
theorem e_110_28 : den cf 110 28 [.ref a, v1] st M = den cf 110 29 [.ref a, v1] (.ref a :: st) M := den_go l_110_28 rfl
theorem l_110_29 : look (tab 110) 29 = some (.getfield 16, 3, [5, 1, 17], uu) := by decide +kernel
theorem e_110_29 : den cf 110 29 L (.ref a :: st) M = oK (gfA (M.2.2 a) 5 1) (fun v => den cf 110 32 L (v :: st) M) := den_gf l_110_29
theorem l_110_32 : look (tab 110) 32 = some (.iconst 0, 1, [], .int (zI 0)) := by decide +kernel
theorem e_110_32 : den cf 110 32 L st M = den cf 110 33 L (.int (zI 0) :: st) M := den_go l_110_32 rfl
theorem l_110_33 : look (tab 110) 33 = some (.putfield 167, 3, [2, 4, 0, 393, 0], uu) := by decide +kernel
theorem e_110_33 : den cf 110 33 L (.int x :: .ref a :: st) M = oK (pfA (M.2.2 a) 2 4 (.int x)) (fun c => den cf 110 36 L st (mU M a c)) := den_pf0 l_110_33
theorem l_110_36 : look (tab 110) 36 = some (.iload_n 1, 1, [], uu) := by decide +kernel
theorem e_110_36 : den cf 110 36 [v0, .int x] st M = den cf 110 37 [v0, .int x] (.int x :: st) M := den_go l_110_36 rfl
theorem l_110_37 : look (tab 110) 37 = some (.aload_n 0, 1, [], uu) := by decide +kernel
theorem e_110_37 : den cf 110 37 [.ref a, v1] st M = den cf 110 38 [.ref a, v1] (.ref a :: st) M := den_go l_110_37 rfl
theorem l_110_38 : look (tab 110) 38 = some (.getfield 16, 3, [5, 1, 17], uu) := by decide +kernel
theorem e_110_38 : den cf 110 38 L (.ref a :: st) M = oK (gfA (M.2.2 a) 5 1) (fun v => den cf 110 41 L (v :: st) M) := den_gf l_110_38
theorem l_110_41 : look (tab 110) 41 = some (.iconst 4, 1, [], .int (zI 4)) := by decide +kernel
theorem e_110_41 : den cf 110 41 L st M = den cf 110 42 L (.int (zI 4) :: st) M := den_go l_110_41 rfl
theorem l_110_42 : look (tab 110) 42 = some (.invokevirtual 272, 3, [2, 34, 2, 893, 894, 895, 15], uu) := by decide +kernel
theorem e_110_42 : den cf 110 42 L (w1 :: .ref a :: st) M = if rcv M 2 [.ref a, w1] = true ∧ st.length ≤ 4 then rK (cf 34 [.ref a, w1] M) (fun v M' => den cf 110 45 L (pR v st) M') else none := den_iv [w1] l_110_42 rfl
theorem l_110_45 : look (tab 110) 45 = some (.isub, 1, [], uu) := by decide +kernel
theorem e_110_45 : den cf 110 45 L (.int y :: .int x :: st) M = den cf 110 46 L (.int (x - y) :: st) M := den_go l_110_45 rfl
theorem l_110_46 : look (tab 110) 46 = some (.ireturn, 1, [0], uu) := by decide +kernel
theorem e_110_46 : den cf 110 46 L [.int x] M = some (some (.int x), M) := den_e0 l_110_46
/-! yX5_tongue -/
theorem l_111_0 : look (tab 111) 0 = some (.aload_n 0, 1, [], uu) := by decide +kernel
theorem e_111_0 : den cf 111 0 [.ref a, v1] st M = den cf 111 1 [.ref a, v1] (.ref a :: st) M := den_go l_111_0 rfl
theorem l_111_1 : look (tab 111) 1 = some (.getfield 16, 3, [5, 1, 17], uu) := by decide +kernel
theorem e_111_1 : den cf 111 1 L (.ref a :: st) M = oK (gfA (M.2.2 a) 5 1) (fun v => den cf 111 4 L (v :: st) M) := den_gf l_111_1
theorem l_111_4 : look (tab 111) 4 = some (.aload_n 0, 1, [], uu) := by decide +kernel
theorem e_111_4 : den cf 111 4 [.ref a, v1] st M = den cf 111 5 [.ref a, v1] (.ref a :: st) M := den_go l_111_4 rfl
theorem l_111_5 : look (tab 111) 5 = some (.getfield 10, 3, [5, 0, 16], uu) := by decide +kernel
theorem e_111_5 : den cf 111 5 L (.ref a :: st) M = oK (gfA (M.2.2 a) 5 0) (fun v => den cf 111 8 L (v :: st) M) := den_gf l_111_5
theorem l_111_8 : look (tab 111) 8 = some (.invokevirtual 174, 3, [2, 26, 2, 428, 429, 430, 15], uu) := by decide +kernel
theorem e_111_8 : den cf 111 8 L (w1 :: .ref a :: st) M = if rcv M 2 [.ref a, w1] = true ∧ st.length ≤ 4 then rK (cf 26 [.ref a, w1] M) (fun v M' => den cf 111 11 L (pR v st) M') else none := den_iv [w1] l_111_8 rfl
theorem l_111_11 : look (tab 111) 11 = some (.bipush 9, 2, [], .int (zI 9)) := by decide +kernel
theorem e_111_11 : den cf 111 11 L st M = den cf 111 13 L (.int (zI 9) :: st) M := den_go l_111_11 rfl
theorem l_111_13 : look (tab 111) 13 = some (.istore_n 1, 1, [], uu) := by decide +kernel
theorem e_111_13 : den cf 111 13 [v0, v1] (.int x :: st) M = den cf 111 14 [kq v0, .int x] st M := den_st (k := 1) (v := .int x) l_111_13 rfl
theorem l_111_14 : look (tab 111) 14 = some (.iload_n 1, 1, [], uu) := by decide +kernel
theorem e_111_14 : den cf 111 14 [v0, .int x] st M = den cf 111 15 [v0, .int x] (.int x :: st) M := den_go l_111_14 rfl
theorem l_111_15 : look (tab 111) 15 = some (.ifCond .lt 29, 3, [44], uu) := by decide +kernel
theorem e_111_15 : den cf 111 15 L (.int x :: st) M = if x < zI 0 then den cf 111 44 L st M else den cf 111 18 L st M := den_if_lt l_111_15
theorem l_111_18 : look (tab 111) 18 = some (.aload_n 0, 1, [], uu) := by decide +kernel
theorem e_111_18 : den cf 111 18 [.ref a, v1] st M = den cf 111 19 [.ref a, v1] (.ref a :: st) M := den_go l_111_18 rfl
theorem l_111_19 : look (tab 111) 19 = some (.getfield 16, 3, [5, 1, 17], uu) := by decide +kernel
theorem e_111_19 : den cf 111 19 L (.ref a :: st) M = oK (gfA (M.2.2 a) 5 1) (fun v => den cf 111 22 L (v :: st) M) := den_gf l_111_19
theorem l_111_22 : look (tab 111) 22 = some (.iload_n 1, 1, [], uu) := by decide +kernel
theorem e_111_22 : den cf 111 22 [v0, .int x] st M = den cf 111 23 [v0, .int x] (.int x :: st) M := den_go l_111_22 rfl
theorem l_111_23 : look (tab 111) 23 = some (.putfield 164, 3, [2, 3, 0, 392, 0], uu) := by decide +kernel
theorem e_111_23 : den cf 111 23 L (.int x :: .ref a :: st) M = oK (pfA (M.2.2 a) 2 3 (.int x)) (fun c => den cf 111 26 L st (mU M a c)) := den_pf0 l_111_23
theorem l_111_26 : look (tab 111) 26 = some (.aload_n 0, 1, [], uu) := by decide +kernel
theorem e_111_26 : den cf 111 26 [.ref a, v1] st M = den cf 111 27 [.ref a, v1] (.ref a :: st) M := den_go l_111_26 rfl
theorem l_111_27 : look (tab 111) 27 = some (.getfield 16, 3, [5, 1, 17], uu) := by decide +kernel
theorem e_111_27 : den cf 111 27 L (.ref a :: st) M = oK (gfA (M.2.2 a) 5 1) (fun v => den cf 111 30 L (v :: st) M) := den_gf l_111_27
theorem l_111_30 : look (tab 111) 30 = some (.invokevirtual 269, 3, [2, 41, 1, 868, 869, 870, 15], uu) := by decide +kernel
theorem e_111_30 : den cf 111 30 L (.ref a :: st) M = if rcv M 2 [.ref a] = true ∧ st.length ≤ 4 then rK (cf 41 [.ref a] M) (fun v M' => den cf 111 33 L (pR v st) M') else none := den_iv [] l_111_30 rfl
theorem l_111_33 : look (tab 111) 33 = some (.ifCond .ne 5, 3, [38], uu) := by decide +kernel
theorem e_111_33 : den cf 111 33 L (.int x :: st) M = if x = zI 0 then den cf 111 36 L st M else den cf 111 38 L st M := den_if_ne l_111_33
theorem l_111_36 : look (tab 111) 36 = some (.iload_n 1, 1, [], uu) := by decide +kernel
theorem e_111_36 : den cf 111 36 [v0, .int x] st M = den cf 111 37 [v0, .int x] (.int x :: st) M := den_go l_111_36 rfl
theorem l_111_37 : look (tab 111) 37 = some (.ireturn, 1, [0], uu) := by decide +kernel
theorem e_111_37 : den cf 111 37 L [.int x] M = some (some (.int x), M) := den_e0 l_111_37
theorem l_111_38 : look (tab 111) 38 = some (.iinc 1 (-1), 3, [], .int (zI (-1))) := by decide +kernel
theorem e_111_38 : den cf 111 38 [v0, .int x] st M = den cf 111 41 [kq v0, .int (x + (zI (-1)))] st M := den_st (k := 1) (v := .int (x + (zI (-1)))) l_111_38 rfl
theorem l_111_41 : look (tab 111) 41 = some (.goto (-27), 3, [14], uu) := by decide +kernel
theorem e_111_41 : den cf 111 41 L st M = den cf 111 14 L st M := den_go l_111_41 rfl
theorem l_111_44 : look (tab 111) 44 = some (.iconst (-1), 1, [], .int (zI (-1))) := by decide +kernel
theorem e_111_44 : den cf 111 44 L st M = den cf 111 45 L (.int (zI (-1)) :: st) M := den_go l_111_44 rfl
theorem l_111_45 : look (tab 111) 45 = some (.ireturn, 1, [0], uu) := by decide +kernel
theorem e_111_45 : den cf 111 45 L [.int x] M = some (some (.int x), M) := den_e0 l_111_45
/-! yX5_first -/
theorem l_112_0 : look (tab 112) 0 = some (.iload_n 1, 1, [], uu) := by decide +kernel
theorem e_112_0 : den cf 112 0 [v0, .int x, v2, v3, v4, v5, v6, v7, v8] st M = den cf 112 1 [v0, .int x, v2, v3, v4, v5, v6, v7, v8] (.int x :: st) M := den_go l_112_0 rfl
theorem l_112_1 : look (tab 112) 1 = some (.iconst 1, 1, [], .int (zI 1)) := by decide +kernel
theorem e_112_1 : den cf 112 1 L st M = den cf 112 2 L (.int (zI 1) :: st) M := den_go l_112_1 rfl
theorem l_112_2 : look (tab 112) 2 = some (.invokestatic 55, 3, [1, 129, 2, 110, 111, 2], uu) := by decide +kernel
theorem e_112_2 : den cf 112 2 L (w2 :: w1 :: st) M = if st.length ≤ 4 then rK (cf 129 [w1, w2] M) (fun v M' => den cf 112 5 L (pR v st) M') else none := den_ist [w1, w2] l_112_2 rfl
theorem l_112_5 : look (tab 112) 5 = some (.ifCond .eq 11, 3, [16], uu) := by decide +kernel
theorem e_112_5 : den cf 112 5 L (.int x :: st) M = if x = zI 0 then den cf 112 16 L st M else den cf 112 8 L st M := den_if_eq l_112_5
theorem l_112_8 : look (tab 112) 8 = some (.iload_n 2, 1, [], uu) := by decide +kernel
theorem e_112_8 : den cf 112 8 [v0, v1, .int x, v3, v4, v5, v6, v7, v8] st M = den cf 112 9 [v0, v1, .int x, v3, v4, v5, v6, v7, v8] (.int x :: st) M := den_go l_112_8 rfl
theorem l_112_9 : look (tab 112) 9 = some (.iconst 2, 1, [], .int (zI 2)) := by decide +kernel
theorem e_112_9 : den cf 112 9 L st M = den cf 112 10 L (.int (zI 2) :: st) M := den_go l_112_9 rfl
theorem l_112_10 : look (tab 112) 10 = some (.invokestatic 55, 3, [1, 129, 2, 110, 111, 2], uu) := by decide +kernel
theorem e_112_10 : den cf 112 10 L (w2 :: w1 :: st) M = if st.length ≤ 4 then rK (cf 129 [w1, w2] M) (fun v M' => den cf 112 13 L (pR v st) M') else none := den_ist [w1, w2] l_112_10 rfl
theorem l_112_13 : look (tab 112) 13 = some (.ifCond .ne 10, 3, [23], uu) := by decide +kernel
theorem e_112_13 : den cf 112 13 L (.int x :: st) M = if x = zI 0 then den cf 112 16 L st M else den cf 112 23 L st M := den_if_ne l_112_13
theorem l_112_16 : look (tab 112) 16 = some (.aload_n 0, 1, [], uu) := by decide +kernel
theorem e_112_16 : den cf 112 16 [.ref a, v1, v2, v3, v4, v5, v6, v7, v8] st M = den cf 112 17 [.ref a, v1, v2, v3, v4, v5, v6, v7, v8] (.ref a :: st) M := den_go l_112_16 rfl
theorem l_112_17 : look (tab 112) 17 = some (.bipush (-2), 2, [], .int (zI (-2))) := by decide +kernel
theorem e_112_17 : den cf 112 17 L st M = den cf 112 19 L (.int (zI (-2)) :: st) M := den_go l_112_17 rfl
theorem l_112_19 : look (tab 112) 19 = some (.invokevirtual 59, 3, [5, 128, 2, 113, 114, 115, 2], uu) := by decide +kernel
theorem e_112_19 : den cf 112 19 L (w1 :: .ref a :: st) M = if rcv M 5 [.ref a, w1] = true ∧ st.length ≤ 4 then rK (cf 128 [.ref a, w1] M) (fun v M' => den cf 112 22 L (pR v st) M') else none := den_iv [w1] l_112_19 rfl
theorem l_112_22 : look (tab 112) 22 = some (.ireturn, 1, [0], uu) := by decide +kernel
theorem e_112_22 : den cf 112 22 L [.int x] M = some (some (.int x), M) := den_e0 l_112_22
theorem l_112_23 : look (tab 112) 23 = some (.aconst_null, 1, [], uu) := by decide +kernel
theorem e_112_23 : den cf 112 23 L st M = den cf 112 24 L (.null :: st) M := den_go l_112_23 rfl
theorem l_112_24 : look (tab 112) 24 = some (.astore_n 3, 1, [], uu) := by decide +kernel
theorem e_112_24 : den cf 112 24 [v0, v1, v2, v3, v4, v5, v6, v7, v8] (v :: st) M = if isRf v = true then den cf 112 25 [v0, v1, kq v2, v, v4, v5, v6, v7, v8] st M else none := den_as (k := 3) (v := v) l_112_24 rfl (Nat.le_of_ble_eq_true rfl)
theorem l_112_25 : look (tab 112) 25 = some (.aload_n 0, 1, [], uu) := by decide +kernel
theorem e_112_25 : den cf 112 25 [.ref a, v1, v2, v3, v4, v5, v6, v7, v8] st M = den cf 112 26 [.ref a, v1, v2, v3, v4, v5, v6, v7, v8] (.ref a :: st) M := den_go l_112_25 rfl
theorem l_112_26 : look (tab 112) 26 = some (.getfield 10, 3, [5, 0, 16], uu) := by decide +kernel
theorem e_112_26 : den cf 112 26 L (.ref a :: st) M = oK (gfA (M.2.2 a) 5 0) (fun v => den cf 112 29 L (v :: st) M) := den_gf l_112_26
theorem l_112_29 : look (tab 112) 29 = some (.getfield 236, 3, [2, 0, 802], uu) := by decide +kernel
theorem e_112_29 : den cf 112 29 L (.ref a :: st) M = oK (gfA (M.2.2 a) 2 0) (fun v => den cf 112 32 L (v :: st) M) := den_gf l_112_29
theorem l_112_32 : look (tab 112) 32 = some (.astore 4, 2, [], uu) := by decide +kernel
theorem e_112_32 : den cf 112 32 [v0, v1, v2, v3, v4, v5, v6, v7, v8] (v :: st) M = if isRf v = true then den cf 112 34 [v0, v1, v2, kq v3, v, v5, v6, v7, v8] st M else none := den_as (k := 4) (v := v) l_112_32 rfl (Nat.le_of_ble_eq_true rfl)
theorem l_112_34 : look (tab 112) 34 = some (.aload 4, 2, [], uu) := by decide +kernel
theorem e_112_34 : den cf 112 34 [v0, v1, v2, v3, v4, v5, v6, v7, v8] st M = if isRf v4 = true then den cf 112 36 [v0, v1, v2, v3, v4, v5, v6, v7, v8] (v4 :: st) M else none := den_g l_112_34 rfl
theorem l_112_36 : look (tab 112) 36 = some (.arraylength, 1, [], uu) := by decide +kernel
theorem e_112_36 : den cf 112 36 L (.ref a :: st) M = oK (lenA (M.2.2 a)) (fun n => den cf 112 37 L (.int (zI n) :: st) M) := den_len l_112_36
theorem l_112_37 : look (tab 112) 37 = some (.istore 5, 2, [], uu) := by decide +kernel
theorem e_112_37 : den cf 112 37 [v0, v1, v2, v3, v4, v5, v6, v7, v8] (.int x :: st) M = den cf 112 39 [v0, v1, v2, v3, kq v4, .int x, v6, v7, v8] st M := den_st (k := 5) (v := .int x) l_112_37 rfl
theorem l_112_39 : look (tab 112) 39 = some (.iconst 0, 1, [], .int (zI 0)) := by decide +kernel
theorem e_112_39 : den cf 112 39 L st M = den cf 112 40 L (.int (zI 0) :: st) M := den_go l_112_39 rfl
theorem l_112_40 : look (tab 112) 40 = some (.istore 6, 2, [], uu) := by decide +kernel
theorem e_112_40 : den cf 112 40 [v0, v1, v2, v3, v4, v5, v6, v7, v8] (.int x :: st) M = den cf 112 42 [v0, v1, v2, v3, v4, kq v5, .int x, v7, v8] st M := den_st (k := 6) (v := .int x) l_112_40 rfl
theorem l_112_42 : look (tab 112) 42 = some (.iload 6, 2, [], uu) := by decide +kernel
theorem e_112_42 : den cf 112 42 [v0, v1, v2, v3, v4, v5, .int x, v7, v8] st M = den cf 112 44 [v0, v1, v2, v3, v4, v5, .int x, v7, v8] (.int x :: st) M := den_go l_112_42 rfl
theorem l_112_44 : look (tab 112) 44 = some (.iload 5, 2, [], uu) := by decide +kernel
theorem e_112_44 : den cf 112 44 [v0, v1, v2, v3, v4, .int x, v6, v7, v8] st M = den cf 112 46 [v0, v1, v2, v3, v4, .int x, v6, v7, v8] (.int x :: st) M := den_go l_112_44 rfl
theorem l_112_46 : look (tab 112) 46 = some (.if_icmp .ge 66, 3, [112], uu) := by decide +kernel
theorem e_112_46 : den cf 112 46 L (.int y :: .int x :: st) M = if x < y then den cf 112 49 L st M else den cf 112 112 L st M := den_ic_ge l_112_46
theorem l_112_49 : look (tab 112) 49 = some (.aload 4, 2, [], uu) := by decide +kernel
theorem e_112_49 : den cf 112 49 [v0, v1, v2, v3, v4, v5, v6, v7, v8] st M = if isRf v4 = true then den cf 112 51 [v0, v1, v2, v3, v4, v5, v6, v7, v8] (v4 :: st) M else none := den_g l_112_49 rfl
theorem l_112_51 : look (tab 112) 51 = some (.iload 6, 2, [], uu) := by decide +kernel
theorem e_112_51 : den cf 112 51 [v0, v1, v2, v3, v4, v5, .int x, v7, v8] st M = den cf 112 53 [v0, v1, v2, v3, v4, v5, .int x, v7, v8] (.int x :: st) M := den_go l_112_51 rfl
theorem l_112_53 : look (tab 112) 53 = some (.aaload, 1, [], uu) := by decide +kernel
theorem e_112_53 : den cf 112 53 L (.int x :: .ref a :: st) M = oK (ldQ (M.2.2 a) x) (fun v => den cf 112 54 L (v :: st) M) := den_al (g := ldQ) l_112_53 rfl
theorem l_112_54 : look (tab 112) 54 = some (.astore 7, 2, [], uu) := by decide +kernel
theorem e_112_54 : den cf 112 54 [v0, v1, v2, v3, v4, v5, v6, v7, v8] (v :: st) M = if isRf v = true then den cf 112 56 [v0, v1, v2, v3, v4, v5, kq v6, v, v8] st M else none := den_as (k := 7) (v := v) l_112_54 rfl (Nat.le_of_ble_eq_true rfl)
theorem l_112_56 : look (tab 112) 56 = some (.aload 7, 2, [], uu) := by decide +kernel
theorem e_112_56 : den cf 112 56 [v0, v1, v2, v3, v4, v5, v6, v7, v8] st M = if isRf v7 = true then den cf 112 58 [v0, v1, v2, v3, v4, v5, v6, v7, v8] (v7 :: st) M else none := den_g l_112_56 rfl
theorem l_112_58 : look (tab 112) 58 = some (.getfield 263, 3, [1, 1, 918], uu) := by decide +kernel
theorem e_112_58 : den cf 112 58 L (.ref a :: st) M = oK (gfA (M.2.2 a) 1 1) (fun v => den cf 112 61 L (v :: st) M) := den_gf l_112_58
theorem l_112_61 : look (tab 112) 61 = some (.ifCond .eq 16, 3, [77], uu) := by decide +kernel
theorem e_112_61 : den cf 112 61 L (.int x :: st) M = if x = zI 0 then den cf 112 77 L st M else den cf 112 64 L st M := den_if_eq l_112_61
theorem l_112_64 : look (tab 112) 64 = some (.aload 7, 2, [], uu) := by decide +kernel
theorem e_112_64 : den cf 112 64 [v0, v1, v2, v3, v4, v5, v6, v7, v8] st M = if isRf v7 = true then den cf 112 66 [v0, v1, v2, v3, v4, v5, v6, v7, v8] (v7 :: st) M else none := den_g l_112_64 rfl
theorem l_112_66 : look (tab 112) 66 = some (.getfield 188, 3, [1, 4, 629], uu) := by decide +kernel
theorem e_112_66 : den cf 112 66 L (.ref a :: st) M = oK (gfA (M.2.2 a) 1 4) (fun v => den cf 112 69 L (v :: st) M) := den_gf l_112_66
theorem l_112_69 : look (tab 112) 69 = some (.iload_n 1, 1, [], uu) := by decide +kernel
theorem e_112_69 : den cf 112 69 [v0, .int x, v2, v3, v4, v5, v6, v7, v8] st M = den cf 112 70 [v0, .int x, v2, v3, v4, v5, v6, v7, v8] (.int x :: st) M := den_go l_112_69 rfl
theorem l_112_70 : look (tab 112) 70 = some (.if_icmp .ne 7, 3, [77], uu) := by decide +kernel
theorem e_112_70 : den cf 112 70 L (.int y :: .int x :: st) M = if x = y then den cf 112 73 L st M else den cf 112 77 L st M := den_ic_ne l_112_70
theorem l_112_73 : look (tab 112) 73 = some (.iconst 1, 1, [], .int (zI 1)) := by decide +kernel
theorem e_112_73 : den cf 112 73 L st M = den cf 112 74 L (.int (zI 1) :: st) M := den_go l_112_73 rfl
theorem l_112_74 : look (tab 112) 74 = some (.goto 4, 3, [78], uu) := by decide +kernel
theorem e_112_74 : den cf 112 74 L st M = den cf 112 78 L st M := den_go l_112_74 rfl
theorem l_112_77 : look (tab 112) 77 = some (.iconst 0, 1, [], .int (zI 0)) := by decide +kernel
theorem e_112_77 : den cf 112 77 L st M = den cf 112 78 L (.int (zI 0) :: st) M := den_go l_112_77 rfl
theorem l_112_78 : look (tab 112) 78 = some (.istore 8, 2, [], uu) := by decide +kernel
theorem e_112_78 : den cf 112 78 [v0, v1, v2, v3, v4, v5, v6, v7, v8] (.int x :: st) M = den cf 112 80 [v0, v1, v2, v3, v4, v5, v6, kq v7, .int x] st M := den_st (k := 8) (v := .int x) l_112_78 rfl
theorem l_112_80 : look (tab 112) 80 = some (.iload 8, 2, [], uu) := by decide +kernel
theorem e_112_80 : den cf 112 80 [v0, v1, v2, v3, v4, v5, v6, v7, .int x] st M = den cf 112 82 [v0, v1, v2, v3, v4, v5, v6, v7, .int x] (.int x :: st) M := den_go l_112_80 rfl
theorem l_112_82 : look (tab 112) 82 = some (.ifCond .eq 24, 3, [106], uu) := by decide +kernel
theorem e_112_82 : den cf 112 82 L (.int x :: st) M = if x = zI 0 then den cf 112 106 L st M else den cf 112 85 L st M := den_if_eq l_112_82
theorem l_112_85 : look (tab 112) 85 = some (.aload_n 3, 1, [], uu) := by decide +kernel
theorem e_112_85 : den cf 112 85 [v0, v1, v2, v3, v4, v5, v6, v7, v8] st M = if isRf v3 = true then den cf 112 86 [v0, v1, v2, v3, v4, v5, v6, v7, v8] (v3 :: st) M else none := den_g l_112_85 rfl
theorem l_112_86 : look (tab 112) 86 = some (.ifnull 17, 3, [103], uu) := by decide +kernel
theorem e_112_86 : den cf 112 86 L (va_rf o :: st) M = oN o (den cf 112 103 L st M) (den cf 112 89 L st M) := den_nu l_112_86
theorem e_112_86_n : den cf 112 86 L (.null :: st) M = den cf 112 103 L st M := den_go l_112_86 rfl
theorem e_112_86_r : den cf 112 86 L (.ref a :: st) M = den cf 112 89 L st M := den_go l_112_86 rfl
theorem l_112_89 : look (tab 112) 89 = some (.aload 7, 2, [], uu) := by decide +kernel
theorem e_112_89 : den cf 112 89 [v0, v1, v2, v3, v4, v5, v6, v7, v8] st M = if isRf v7 = true then den cf 112 91 [v0, v1, v2, v3, v4, v5, v6, v7, v8] (v7 :: st) M else none := den_g l_112_89 rfl
theorem l_112_91 : look (tab 112) 91 = some (.iload_n 2, 1, [], uu) := by decide +kernel
theorem e_112_91 : den cf 112 91 [v0, v1, .int x, v3, v4, v5, v6, v7, v8] st M = den cf 112 92 [v0, v1, .int x, v3, v4, v5, v6, v7, v8] (.int x :: st) M := den_go l_112_91 rfl
theorem l_112_92 : look (tab 112) 92 = some (.invokevirtual 275, 3, [1, 21, 2, 919, 920, 921, 41], uu) := by decide +kernel
theorem e_112_92 : den cf 112 92 L (w1 :: .ref a :: st) M = if rcv M 1 [.ref a, w1] = true ∧ st.length ≤ 4 then rK (cf 21 [.ref a, w1] M) (fun v M' => den cf 112 95 L (pR v st) M') else none := den_iv [w1] l_112_92 rfl
theorem l_112_95 : look (tab 112) 95 = some (.aload_n 3, 1, [], uu) := by decide +kernel
theorem e_112_95 : den cf 112 95 [v0, v1, v2, v3, v4, v5, v6, v7, v8] st M = if isRf v3 = true then den cf 112 96 [v0, v1, v2, v3, v4, v5, v6, v7, v8] (v3 :: st) M else none := den_g l_112_95 rfl
theorem l_112_96 : look (tab 112) 96 = some (.iload_n 2, 1, [], uu) := by decide +kernel
theorem e_112_96 : den cf 112 96 [v0, v1, .int x, v3, v4, v5, v6, v7, v8] st M = den cf 112 97 [v0, v1, .int x, v3, v4, v5, v6, v7, v8] (.int x :: st) M := den_go l_112_96 rfl
theorem l_112_97 : look (tab 112) 97 = some (.invokevirtual 275, 3, [1, 21, 2, 919, 920, 921, 41], uu) := by decide +kernel
theorem e_112_97 : den cf 112 97 L (w1 :: .ref a :: st) M = if rcv M 1 [.ref a, w1] = true ∧ st.length ≤ 4 then rK (cf 21 [.ref a, w1] M) (fun v M' => den cf 112 100 L (pR v st) M') else none := den_iv [w1] l_112_97 rfl
theorem l_112_100 : look (tab 112) 100 = some (.if_icmp .le 6, 3, [106], uu) := by decide +kernel
theorem e_112_100 : den cf 112 100 L (.int y :: .int x :: st) M = if y < x then den cf 112 103 L st M else den cf 112 106 L st M := den_ic_le l_112_100
theorem l_112_103 : look (tab 112) 103 = some (.aload 7, 2, [], uu) := by decide +kernel
theorem e_112_103 : den cf 112 103 [v0, v1, v2, v3, v4, v5, v6, v7, v8] st M = if isRf v7 = true then den cf 112 105 [v0, v1, v2, v3, v4, v5, v6, v7, v8] (v7 :: st) M else none := den_g l_112_103 rfl
theorem l_112_105 : look (tab 112) 105 = some (.astore_n 3, 1, [], uu) := by decide +kernel
theorem e_112_105 : den cf 112 105 [v0, v1, v2, v3, v4, v5, v6, v7, v8] (v :: st) M = if isRf v = true then den cf 112 106 [v0, v1, kq v2, v, v4, v5, v6, v7, v8] st M else none := den_as (k := 3) (v := v) l_112_105 rfl (Nat.le_of_ble_eq_true rfl)
theorem l_112_106 : look (tab 112) 106 = some (.iinc 6 1, 3, [], .int (zI 1)) := by decide +kernel
theorem e_112_106 : den cf 112 106 [v0, v1, v2, v3, v4, v5, .int x, v7, v8] st M = den cf 112 109 [v0, v1, v2, v3, v4, kq v5, .int (x + (zI 1)), v7, v8] st M := den_st (k := 6) (v := .int (x + (zI 1))) l_112_106 rfl
theorem l_112_109 : look (tab 112) 109 = some (.goto (-67), 3, [42], uu) := by decide +kernel
theorem e_112_109 : den cf 112 109 L st M = den cf 112 42 L st M := den_go l_112_109 rfl
theorem l_112_112 : look (tab 112) 112 = some (.aload_n 3, 1, [], uu) := by decide +kernel
theorem e_112_112 : den cf 112 112 [v0, v1, v2, v3, v4, v5, v6, v7, v8] st M = if isRf v3 = true then den cf 112 113 [v0, v1, v2, v3, v4, v5, v6, v7, v8] (v3 :: st) M else none := den_g l_112_112 rfl
theorem l_112_113 : look (tab 112) 113 = some (.ifnonnull 12, 3, [125], uu) := by decide +kernel
theorem e_112_113 : den cf 112 113 L (va_rf o :: st) M = oN o (den cf 112 116 L st M) (den cf 112 125 L st M) := den_nn l_112_113
theorem e_112_113_n : den cf 112 113 L (.null :: st) M = den cf 112 116 L st M := den_go l_112_113 rfl
theorem e_112_113_r : den cf 112 113 L (.ref a :: st) M = den cf 112 125 L st M := den_go l_112_113 rfl
theorem l_112_116 : look (tab 112) 116 = some (.aload_n 0, 1, [], uu) := by decide +kernel
theorem e_112_116 : den cf 112 116 [.ref a, v1, v2, v3, v4, v5, v6, v7, v8] st M = den cf 112 117 [.ref a, v1, v2, v3, v4, v5, v6, v7, v8] (.ref a :: st) M := den_go l_112_116 rfl
theorem l_112_117 : look (tab 112) 117 = some (.bipush (-5), 2, [], .int (zI (-5))) := by decide +kernel
theorem e_112_117 : den cf 112 117 L st M = den cf 112 119 L (.int (zI (-5)) :: st) M := den_go l_112_117 rfl
theorem l_112_119 : look (tab 112) 119 = some (.invokevirtual 59, 3, [5, 128, 2, 113, 114, 115, 2], uu) := by decide +kernel
theorem e_112_119 : den cf 112 119 L (w1 :: .ref a :: st) M = if rcv M 5 [.ref a, w1] = true ∧ st.length ≤ 4 then rK (cf 128 [.ref a, w1] M) (fun v M' => den cf 112 122 L (pR v st) M') else none := den_iv [w1] l_112_119 rfl
theorem l_112_122 : look (tab 112) 122 = some (.goto 7, 3, [129], uu) := by decide +kernel
theorem e_112_122 : den cf 112 122 L st M = den cf 112 129 L st M := den_go l_112_122 rfl
theorem l_112_125 : look (tab 112) 125 = some (.aload_n 3, 1, [], uu) := by decide +kernel
theorem e_112_125 : den cf 112 125 [v0, v1, v2, v3, v4, v5, v6, v7, v8] st M = if isRf v3 = true then den cf 112 126 [v0, v1, v2, v3, v4, v5, v6, v7, v8] (v3 :: st) M else none := den_g l_112_125 rfl
theorem l_112_126 : look (tab 112) 126 = some (.getfield 160, 3, [1, 0, 374], uu) := by decide +kernel
theorem e_112_126 : den cf 112 126 L (.ref a :: st) M = oK (gfA (M.2.2 a) 1 0) (fun v => den cf 112 129 L (v :: st) M) := den_gf l_112_126
theorem l_112_129 : look (tab 112) 129 = some (.ireturn, 1, [0], uu) := by decide +kernel
theorem e_112_129 : den cf 112 129 L [.int x] M = some (some (.int x), M) := den_e0 l_112_129
/-! yX5_mean -/
theorem l_113_0 : look (tab 113) 0 = some (.aload_n 0, 1, [], uu) := by decide +kernel
theorem e_113_0 : den cf 113 0 [.ref a, v1, v2, v3, v4, v5, v6] st M = den cf 113 1 [.ref a, v1, v2, v3, v4, v5, v6] (.ref a :: st) M := den_go l_113_0 rfl
theorem l_113_1 : look (tab 113) 1 = some (.getfield 10, 3, [5, 0, 16], uu) := by decide +kernel
theorem e_113_1 : den cf 113 1 L (.ref a :: st) M = oK (gfA (M.2.2 a) 5 0) (fun v => den cf 113 4 L (v :: st) M) := den_gf l_113_1
theorem l_113_4 : look (tab 113) 4 = some (.invokevirtual 266, 3, [2, 40, 1, 860, 861, 862, 15], uu) := by decide +kernel
theorem e_113_4 : den cf 113 4 L (.ref a :: st) M = if rcv M 2 [.ref a] = true ∧ st.length ≤ 4 then rK (cf 40 [.ref a] M) (fun v M' => den cf 113 7 L (pR v st) M') else none := den_iv [] l_113_4 rfl
theorem l_113_7 : look (tab 113) 7 = some (.istore_n 1, 1, [], uu) := by decide +kernel
theorem e_113_7 : den cf 113 7 [v0, v1, v2, v3, v4, v5, v6] (.int x :: st) M = den cf 113 8 [kq v0, .int x, v2, v3, v4, v5, v6] st M := den_st (k := 1) (v := .int x) l_113_7 rfl
theorem l_113_8 : look (tab 113) 8 = some (.iload_n 1, 1, [], uu) := by decide +kernel
theorem e_113_8 : den cf 113 8 [v0, .int x, v2, v3, v4, v5, v6] st M = den cf 113 9 [v0, .int x, v2, v3, v4, v5, v6] (.int x :: st) M := den_go l_113_8 rfl
theorem l_113_9 : look (tab 113) 9 = some (.ifCond .ne 10, 3, [19], uu) := by decide +kernel
theorem e_113_9 : den cf 113 9 L (.int x :: st) M = if x = zI 0 then den cf 113 12 L st M else den cf 113 19 L st M := den_if_ne l_113_9
theorem l_113_12 : look (tab 113) 12 = some (.aload_n 0, 1, [], uu) := by decide +kernel
theorem e_113_12 : den cf 113 12 [.ref a, v1, v2, v3, v4, v5, v6] st M = den cf 113 13 [.ref a, v1, v2, v3, v4, v5, v6] (.ref a :: st) M := den_go l_113_12 rfl
theorem l_113_13 : look (tab 113) 13 = some (.bipush (-5), 2, [], .int (zI (-5))) := by decide +kernel
theorem e_113_13 : den cf 113 13 L st M = den cf 113 15 L (.int (zI (-5)) :: st) M := den_go l_113_13 rfl
theorem l_113_15 : look (tab 113) 15 = some (.invokevirtual 59, 3, [5, 128, 2, 113, 114, 115, 2], uu) := by decide +kernel
theorem e_113_15 : den cf 113 15 L (w1 :: .ref a :: st) M = if rcv M 5 [.ref a, w1] = true ∧ st.length ≤ 4 then rK (cf 128 [.ref a, w1] M) (fun v M' => den cf 113 18 L (pR v st) M') else none := den_iv [w1] l_113_15 rfl
theorem l_113_18 : look (tab 113) 18 = some (.ireturn, 1, [0], uu) := by decide +kernel
theorem e_113_18 : den cf 113 18 L [.int x] M = some (some (.int x), M) := den_e0 l_113_18
theorem l_113_19 : look (tab 113) 19 = some (.iconst 0, 1, [], .int (zI 0)) := by decide +kernel
theorem e_113_19 : den cf 113 19 L st M = den cf 113 20 L (.int (zI 0) :: st) M := den_go l_113_19 rfl
theorem l_113_20 : look (tab 113) 20 = some (.istore_n 2, 1, [], uu) := by decide +kernel
theorem e_113_20 : den cf 113 20 [v0, v1, v2, v3, v4, v5, v6] (.int x :: st) M = den cf 113 21 [v0, kq v1, .int x, v3, v4, v5, v6] st M := den_st (k := 2) (v := .int x) l_113_20 rfl
theorem l_113_21 : look (tab 113) 21 = some (.aload_n 0, 1, [], uu) := by decide +kernel
theorem e_113_21 : den cf 113 21 [.ref a, v1, v2, v3, v4, v5, v6] st M = den cf 113 22 [.ref a, v1, v2, v3, v4, v5, v6] (.ref a :: st) M := den_go l_113_21 rfl
theorem l_113_22 : look (tab 113) 22 = some (.getfield 10, 3, [5, 0, 16], uu) := by decide +kernel
theorem e_113_22 : den cf 113 22 L (.ref a :: st) M = oK (gfA (M.2.2 a) 5 0) (fun v => den cf 113 25 L (v :: st) M) := den_gf l_113_22
theorem l_113_25 : look (tab 113) 25 = some (.getfield 236, 3, [2, 0, 802], uu) := by decide +kernel
theorem e_113_25 : den cf 113 25 L (.ref a :: st) M = oK (gfA (M.2.2 a) 2 0) (fun v => den cf 113 28 L (v :: st) M) := den_gf l_113_25
theorem l_113_28 : look (tab 113) 28 = some (.astore_n 3, 1, [], uu) := by decide +kernel
theorem e_113_28 : den cf 113 28 [v0, v1, v2, v3, v4, v5, v6] (v :: st) M = if isRf v = true then den cf 113 29 [v0, v1, kq v2, v, v4, v5, v6] st M else none := den_as (k := 3) (v := v) l_113_28 rfl (Nat.le_of_ble_eq_true rfl)
theorem l_113_29 : look (tab 113) 29 = some (.aload_n 3, 1, [], uu) := by decide +kernel
theorem e_113_29 : den cf 113 29 [v0, v1, v2, v3, v4, v5, v6] st M = if isRf v3 = true then den cf 113 30 [v0, v1, v2, v3, v4, v5, v6] (v3 :: st) M else none := den_g l_113_29 rfl
theorem l_113_30 : look (tab 113) 30 = some (.arraylength, 1, [], uu) := by decide +kernel
theorem e_113_30 : den cf 113 30 L (.ref a :: st) M = oK (lenA (M.2.2 a)) (fun n => den cf 113 31 L (.int (zI n) :: st) M) := den_len l_113_30
theorem l_113_31 : look (tab 113) 31 = some (.istore 4, 2, [], uu) := by decide +kernel
theorem e_113_31 : den cf 113 31 [v0, v1, v2, v3, v4, v5, v6] (.int x :: st) M = den cf 113 33 [v0, v1, v2, kq v3, .int x, v5, v6] st M := den_st (k := 4) (v := .int x) l_113_31 rfl
theorem l_113_33 : look (tab 113) 33 = some (.iconst 0, 1, [], .int (zI 0)) := by decide +kernel
theorem e_113_33 : den cf 113 33 L st M = den cf 113 34 L (.int (zI 0) :: st) M := den_go l_113_33 rfl
theorem l_113_34 : look (tab 113) 34 = some (.istore 5, 2, [], uu) := by decide +kernel
theorem e_113_34 : den cf 113 34 [v0, v1, v2, v3, v4, v5, v6] (.int x :: st) M = den cf 113 36 [v0, v1, v2, v3, kq v4, .int x, v6] st M := den_st (k := 5) (v := .int x) l_113_34 rfl
theorem l_113_36 : look (tab 113) 36 = some (.iload 5, 2, [], uu) := by decide +kernel
theorem e_113_36 : den cf 113 36 [v0, v1, v2, v3, v4, .int x, v6] st M = den cf 113 38 [v0, v1, v2, v3, v4, .int x, v6] (.int x :: st) M := den_go l_113_36 rfl
theorem l_113_38 : look (tab 113) 38 = some (.iload 4, 2, [], uu) := by decide +kernel
theorem e_113_38 : den cf 113 38 [v0, v1, v2, v3, .int x, v5, v6] st M = den cf 113 40 [v0, v1, v2, v3, .int x, v5, v6] (.int x :: st) M := den_go l_113_38 rfl
theorem l_113_40 : look (tab 113) 40 = some (.if_icmp .ge 36, 3, [76], uu) := by decide +kernel
theorem e_113_40 : den cf 113 40 L (.int y :: .int x :: st) M = if x < y then den cf 113 43 L st M else den cf 113 76 L st M := den_ic_ge l_113_40
theorem l_113_43 : look (tab 113) 43 = some (.aload_n 3, 1, [], uu) := by decide +kernel
theorem e_113_43 : den cf 113 43 [v0, v1, v2, v3, v4, v5, v6] st M = if isRf v3 = true then den cf 113 44 [v0, v1, v2, v3, v4, v5, v6] (v3 :: st) M else none := den_g l_113_43 rfl
theorem l_113_44 : look (tab 113) 44 = some (.iload 5, 2, [], uu) := by decide +kernel
theorem e_113_44 : den cf 113 44 [v0, v1, v2, v3, v4, .int x, v6] st M = den cf 113 46 [v0, v1, v2, v3, v4, .int x, v6] (.int x :: st) M := den_go l_113_44 rfl
theorem l_113_46 : look (tab 113) 46 = some (.aaload, 1, [], uu) := by decide +kernel
theorem e_113_46 : den cf 113 46 L (.int x :: .ref a :: st) M = oK (ldQ (M.2.2 a) x) (fun v => den cf 113 47 L (v :: st) M) := den_al (g := ldQ) l_113_46 rfl
theorem l_113_47 : look (tab 113) 47 = some (.astore 6, 2, [], uu) := by decide +kernel
theorem e_113_47 : den cf 113 47 [v0, v1, v2, v3, v4, v5, v6] (v :: st) M = if isRf v = true then den cf 113 49 [v0, v1, v2, v3, v4, kq v5, v] st M else none := den_as (k := 6) (v := v) l_113_47 rfl (Nat.le_of_ble_eq_true rfl)
theorem l_113_49 : look (tab 113) 49 = some (.aload 6, 2, [], uu) := by decide +kernel
theorem e_113_49 : den cf 113 49 [v0, v1, v2, v3, v4, v5, v6] st M = if isRf v6 = true then den cf 113 51 [v0, v1, v2, v3, v4, v5, v6] (v6 :: st) M else none := den_g l_113_49 rfl
theorem l_113_51 : look (tab 113) 51 = some (.invokevirtual 243, 3, [1, 16, 1, 935, 865, 866, 41], uu) := by decide +kernel
theorem e_113_51 : den cf 113 51 L (.ref a :: st) M = if rcv M 1 [.ref a] = true ∧ st.length ≤ 4 then rK (cf 16 [.ref a] M) (fun v M' => den cf 113 54 L (pR v st) M') else none := den_iv [] l_113_51 rfl
theorem l_113_54 : look (tab 113) 54 = some (.ifCond .eq 16, 3, [70], uu) := by decide +kernel
theorem e_113_54 : den cf 113 54 L (.int x :: st) M = if x = zI 0 then den cf 113 70 L st M else den cf 113 57 L st M := den_if_eq l_113_54
theorem l_113_57 : look (tab 113) 57 = some (.iload_n 2, 1, [], uu) := by decide +kernel
theorem e_113_57 : den cf 113 57 [v0, v1, .int x, v3, v4, v5, v6] st M = den cf 113 58 [v0, v1, .int x, v3, v4, v5, v6] (.int x :: st) M := den_go l_113_57 rfl
theorem l_113_58 : look (tab 113) 58 = some (.aload 6, 2, [], uu) := by decide +kernel
theorem e_113_58 : den cf 113 58 [v0, v1, v2, v3, v4, v5, v6] st M = if isRf v6 = true then den cf 113 60 [v0, v1, v2, v3, v4, v5, v6] (v6 :: st) M else none := den_g l_113_58 rfl
theorem l_113_60 : look (tab 113) 60 = some (.aload 6, 2, [], uu) := by decide +kernel
theorem e_113_60 : den cf 113 60 [v0, v1, v2, v3, v4, v5, v6] st M = if isRf v6 = true then den cf 113 62 [v0, v1, v2, v3, v4, v5, v6] (v6 :: st) M else none := den_g l_113_60 rfl
theorem l_113_62 : look (tab 113) 62 = some (.getfield 127, 3, [1, 6, 237], uu) := by decide +kernel
theorem e_113_62 : den cf 113 62 L (.ref a :: st) M = oK (gfA (M.2.2 a) 1 6) (fun v => den cf 113 65 L (v :: st) M) := den_gf l_113_62
theorem l_113_65 : look (tab 113) 65 = some (.invokevirtual 153, 3, [1, 20, 2, 353, 261, 262, 41], uu) := by decide +kernel
theorem e_113_65 : den cf 113 65 L (w1 :: .ref a :: st) M = if rcv M 1 [.ref a, w1] = true ∧ st.length ≤ 4 then rK (cf 20 [.ref a, w1] M) (fun v M' => den cf 113 68 L (pR v st) M') else none := den_iv [w1] l_113_65 rfl
theorem l_113_68 : look (tab 113) 68 = some (.iadd, 1, [], uu) := by decide +kernel
theorem e_113_68 : den cf 113 68 L (.int y :: .int x :: st) M = den cf 113 69 L (.int (x + y) :: st) M := den_go l_113_68 rfl
theorem l_113_69 : look (tab 113) 69 = some (.istore_n 2, 1, [], uu) := by decide +kernel
theorem e_113_69 : den cf 113 69 [v0, v1, v2, v3, v4, v5, v6] (.int x :: st) M = den cf 113 70 [v0, kq v1, .int x, v3, v4, v5, v6] st M := den_st (k := 2) (v := .int x) l_113_69 rfl
theorem l_113_70 : look (tab 113) 70 = some (.iinc 5 1, 3, [], .int (zI 1)) := by decide +kernel
theorem e_113_70 : den cf 113 70 [v0, v1, v2, v3, v4, .int x, v6] st M = den cf 113 73 [v0, v1, v2, v3, kq v4, .int (x + (zI 1)), v6] st M := den_st (k := 5) (v := .int (x + (zI 1))) l_113_70 rfl
theorem l_113_73 : look (tab 113) 73 = some (.goto (-37), 3, [36], uu) := by decide +kernel
theorem e_113_73 : den cf 113 73 L st M = den cf 113 36 L st M := den_go l_113_73 rfl
theorem l_113_76 : look (tab 113) 76 = some (.sipush 1000, 3, [], .int (zI 1000)) := by decide +kernel
theorem e_113_76 : den cf 113 76 L st M = den cf 113 79 L (.int (zI 1000) :: st) M := den_go l_113_76 rfl
theorem l_113_79 : look (tab 113) 79 = some (.iload_n 2, 1, [], uu) := by decide +kernel
theorem e_113_79 : den cf 113 79 [v0, v1, .int x, v3, v4, v5, v6] st M = den cf 113 80 [v0, v1, .int x, v3, v4, v5, v6] (.int x :: st) M := den_go l_113_79 rfl
theorem l_113_80 : look (tab 113) 80 = some (.imul, 1, [], uu) := by decide +kernel
theorem e_113_80 : den cf 113 80 L (.int y :: .int x :: st) M = den cf 113 81 L (.int (x * y) :: st) M := den_go l_113_80 rfl
theorem l_113_81 : look (tab 113) 81 = some (.iload_n 1, 1, [], uu) := by decide +kernel
theorem e_113_81 : den cf 113 81 [v0, .int x, v2, v3, v4, v5, v6] st M = den cf 113 82 [v0, .int x, v2, v3, v4, v5, v6] (.int x :: st) M := den_go l_113_81 rfl
theorem l_113_82 : look (tab 113) 82 = some (.idiv, 1, [], uu) := by decide +kernel
theorem e_113_82 : den cf 113 82 L (.int y :: .int x :: st) M = if y = zI 0 then none else den cf 113 83 L (.int (x / y) :: st) M := den_dv (f := fun x y => x / y) l_113_82 rfl
theorem l_113_83 : look (tab 113) 83 = some (.ireturn, 1, [0], uu) := by decide +kernel
theorem e_113_83 : den cf 113 83 L [.int x] M = some (some (.int x), M) := den_e0 l_113_83
/-! yX5_weakest -/
theorem l_114_0 : look (tab 114) 0 = some (.iload_n 1, 1, [], uu) := by decide +kernel
theorem e_114_0 : den cf 114 0 [v0, .int x, v2, v3, v4, v5, v6, v7, v8] st M = den cf 114 1 [v0, .int x, v2, v3, v4, v5, v6, v7, v8] (.int x :: st) M := den_go l_114_0 rfl
theorem l_114_1 : look (tab 114) 1 = some (.bipush 12, 2, [], .int (zI 12)) := by decide +kernel
theorem e_114_1 : den cf 114 1 L st M = den cf 114 3 L (.int (zI 12) :: st) M := den_go l_114_1 rfl
theorem l_114_3 : look (tab 114) 3 = some (.invokestatic 55, 3, [1, 129, 2, 110, 111, 2], uu) := by decide +kernel
theorem e_114_3 : den cf 114 3 L (w2 :: w1 :: st) M = if st.length ≤ 4 then rK (cf 129 [w1, w2] M) (fun v M' => den cf 114 6 L (pR v st) M') else none := den_ist [w1, w2] l_114_3 rfl
theorem l_114_6 : look (tab 114) 6 = some (.ifCond .ne 10, 3, [16], uu) := by decide +kernel
theorem e_114_6 : den cf 114 6 L (.int x :: st) M = if x = zI 0 then den cf 114 9 L st M else den cf 114 16 L st M := den_if_ne l_114_6
theorem l_114_9 : look (tab 114) 9 = some (.aload_n 0, 1, [], uu) := by decide +kernel
theorem e_114_9 : den cf 114 9 [.ref a, v1, v2, v3, v4, v5, v6, v7, v8] st M = den cf 114 10 [.ref a, v1, v2, v3, v4, v5, v6, v7, v8] (.ref a :: st) M := den_go l_114_9 rfl
theorem l_114_10 : look (tab 114) 10 = some (.bipush (-2), 2, [], .int (zI (-2))) := by decide +kernel
theorem e_114_10 : den cf 114 10 L st M = den cf 114 12 L (.int (zI (-2)) :: st) M := den_go l_114_10 rfl
theorem l_114_12 : look (tab 114) 12 = some (.invokevirtual 59, 3, [5, 128, 2, 113, 114, 115, 2], uu) := by decide +kernel
theorem e_114_12 : den cf 114 12 L (w1 :: .ref a :: st) M = if rcv M 5 [.ref a, w1] = true ∧ st.length ≤ 4 then rK (cf 128 [.ref a, w1] M) (fun v M' => den cf 114 15 L (pR v st) M') else none := den_iv [w1] l_114_12 rfl
theorem l_114_15 : look (tab 114) 15 = some (.ireturn, 1, [0], uu) := by decide +kernel
theorem e_114_15 : den cf 114 15 L [.int x] M = some (some (.int x), M) := den_e0 l_114_15
theorem l_114_16 : look (tab 114) 16 = some (.aconst_null, 1, [], uu) := by decide +kernel
theorem e_114_16 : den cf 114 16 L st M = den cf 114 17 L (.null :: st) M := den_go l_114_16 rfl
theorem l_114_17 : look (tab 114) 17 = some (.astore_n 2, 1, [], uu) := by decide +kernel
theorem e_114_17 : den cf 114 17 [v0, v1, v2, v3, v4, v5, v6, v7, v8] (v :: st) M = if isRf v = true then den cf 114 18 [v0, kq v1, v, v3, v4, v5, v6, v7, v8] st M else none := den_as (k := 2) (v := v) l_114_17 rfl (Nat.le_of_ble_eq_true rfl)
theorem l_114_18 : look (tab 114) 18 = some (.iconst 0, 1, [], .int (zI 0)) := by decide +kernel
theorem e_114_18 : den cf 114 18 L st M = den cf 114 19 L (.int (zI 0) :: st) M := den_go l_114_18 rfl
theorem l_114_19 : look (tab 114) 19 = some (.istore_n 3, 1, [], uu) := by decide +kernel
theorem e_114_19 : den cf 114 19 [v0, v1, v2, v3, v4, v5, v6, v7, v8] (.int x :: st) M = den cf 114 20 [v0, v1, kq v2, .int x, v4, v5, v6, v7, v8] st M := den_st (k := 3) (v := .int x) l_114_19 rfl
theorem l_114_20 : look (tab 114) 20 = some (.aload_n 0, 1, [], uu) := by decide +kernel
theorem e_114_20 : den cf 114 20 [.ref a, v1, v2, v3, v4, v5, v6, v7, v8] st M = den cf 114 21 [.ref a, v1, v2, v3, v4, v5, v6, v7, v8] (.ref a :: st) M := den_go l_114_20 rfl
theorem l_114_21 : look (tab 114) 21 = some (.getfield 10, 3, [5, 0, 16], uu) := by decide +kernel
theorem e_114_21 : den cf 114 21 L (.ref a :: st) M = oK (gfA (M.2.2 a) 5 0) (fun v => den cf 114 24 L (v :: st) M) := den_gf l_114_21
theorem l_114_24 : look (tab 114) 24 = some (.getfield 236, 3, [2, 0, 802], uu) := by decide +kernel
theorem e_114_24 : den cf 114 24 L (.ref a :: st) M = oK (gfA (M.2.2 a) 2 0) (fun v => den cf 114 27 L (v :: st) M) := den_gf l_114_24
theorem l_114_27 : look (tab 114) 27 = some (.astore 4, 2, [], uu) := by decide +kernel
theorem e_114_27 : den cf 114 27 [v0, v1, v2, v3, v4, v5, v6, v7, v8] (v :: st) M = if isRf v = true then den cf 114 29 [v0, v1, v2, kq v3, v, v5, v6, v7, v8] st M else none := den_as (k := 4) (v := v) l_114_27 rfl (Nat.le_of_ble_eq_true rfl)
theorem l_114_29 : look (tab 114) 29 = some (.aload 4, 2, [], uu) := by decide +kernel
theorem e_114_29 : den cf 114 29 [v0, v1, v2, v3, v4, v5, v6, v7, v8] st M = if isRf v4 = true then den cf 114 31 [v0, v1, v2, v3, v4, v5, v6, v7, v8] (v4 :: st) M else none := den_g l_114_29 rfl
theorem l_114_31 : look (tab 114) 31 = some (.arraylength, 1, [], uu) := by decide +kernel
theorem e_114_31 : den cf 114 31 L (.ref a :: st) M = oK (lenA (M.2.2 a)) (fun n => den cf 114 32 L (.int (zI n) :: st) M) := den_len l_114_31
theorem l_114_32 : look (tab 114) 32 = some (.istore 5, 2, [], uu) := by decide +kernel
theorem e_114_32 : den cf 114 32 [v0, v1, v2, v3, v4, v5, v6, v7, v8] (.int x :: st) M = den cf 114 34 [v0, v1, v2, v3, kq v4, .int x, v6, v7, v8] st M := den_st (k := 5) (v := .int x) l_114_32 rfl
theorem l_114_34 : look (tab 114) 34 = some (.iconst 0, 1, [], .int (zI 0)) := by decide +kernel
theorem e_114_34 : den cf 114 34 L st M = den cf 114 35 L (.int (zI 0) :: st) M := den_go l_114_34 rfl
theorem l_114_35 : look (tab 114) 35 = some (.istore 6, 2, [], uu) := by decide +kernel
theorem e_114_35 : den cf 114 35 [v0, v1, v2, v3, v4, v5, v6, v7, v8] (.int x :: st) M = den cf 114 37 [v0, v1, v2, v3, v4, kq v5, .int x, v7, v8] st M := den_st (k := 6) (v := .int x) l_114_35 rfl
theorem l_114_37 : look (tab 114) 37 = some (.iload 6, 2, [], uu) := by decide +kernel
theorem e_114_37 : den cf 114 37 [v0, v1, v2, v3, v4, v5, .int x, v7, v8] st M = den cf 114 39 [v0, v1, v2, v3, v4, v5, .int x, v7, v8] (.int x :: st) M := den_go l_114_37 rfl
theorem l_114_39 : look (tab 114) 39 = some (.iload 5, 2, [], uu) := by decide +kernel
theorem e_114_39 : den cf 114 39 [v0, v1, v2, v3, v4, .int x, v6, v7, v8] st M = den cf 114 41 [v0, v1, v2, v3, v4, .int x, v6, v7, v8] (.int x :: st) M := den_go l_114_39 rfl
theorem l_114_41 : look (tab 114) 41 = some (.if_icmp .ge 52, 3, [93], uu) := by decide +kernel
theorem e_114_41 : den cf 114 41 L (.int y :: .int x :: st) M = if x < y then den cf 114 44 L st M else den cf 114 93 L st M := den_ic_ge l_114_41
theorem l_114_44 : look (tab 114) 44 = some (.aload 4, 2, [], uu) := by decide +kernel
theorem e_114_44 : den cf 114 44 [v0, v1, v2, v3, v4, v5, v6, v7, v8] st M = if isRf v4 = true then den cf 114 46 [v0, v1, v2, v3, v4, v5, v6, v7, v8] (v4 :: st) M else none := den_g l_114_44 rfl
theorem l_114_46 : look (tab 114) 46 = some (.iload 6, 2, [], uu) := by decide +kernel
theorem e_114_46 : den cf 114 46 [v0, v1, v2, v3, v4, v5, .int x, v7, v8] st M = den cf 114 48 [v0, v1, v2, v3, v4, v5, .int x, v7, v8] (.int x :: st) M := den_go l_114_46 rfl
theorem l_114_48 : look (tab 114) 48 = some (.aaload, 1, [], uu) := by decide +kernel
theorem e_114_48 : den cf 114 48 L (.int x :: .ref a :: st) M = oK (ldQ (M.2.2 a) x) (fun v => den cf 114 49 L (v :: st) M) := den_al (g := ldQ) l_114_48 rfl
theorem l_114_49 : look (tab 114) 49 = some (.astore 7, 2, [], uu) := by decide +kernel
theorem e_114_49 : den cf 114 49 [v0, v1, v2, v3, v4, v5, v6, v7, v8] (v :: st) M = if isRf v = true then den cf 114 51 [v0, v1, v2, v3, v4, v5, kq v6, v, v8] st M else none := den_as (k := 7) (v := v) l_114_49 rfl (Nat.le_of_ble_eq_true rfl)
theorem l_114_51 : look (tab 114) 51 = some (.aload 7, 2, [], uu) := by decide +kernel
theorem e_114_51 : den cf 114 51 [v0, v1, v2, v3, v4, v5, v6, v7, v8] st M = if isRf v7 = true then den cf 114 53 [v0, v1, v2, v3, v4, v5, v6, v7, v8] (v7 :: st) M else none := den_g l_114_51 rfl
theorem l_114_53 : look (tab 114) 53 = some (.invokevirtual 243, 3, [1, 16, 1, 935, 865, 866, 41], uu) := by decide +kernel
theorem e_114_53 : den cf 114 53 L (.ref a :: st) M = if rcv M 1 [.ref a] = true ∧ st.length ≤ 4 then rK (cf 16 [.ref a] M) (fun v M' => den cf 114 56 L (pR v st) M') else none := den_iv [] l_114_53 rfl
theorem l_114_56 : look (tab 114) 56 = some (.ifCond .eq 31, 3, [87], uu) := by decide +kernel
theorem e_114_56 : den cf 114 56 L (.int x :: st) M = if x = zI 0 then den cf 114 87 L st M else den cf 114 59 L st M := den_if_eq l_114_56
theorem l_114_59 : look (tab 114) 59 = some (.aload_n 0, 1, [], uu) := by decide +kernel
theorem e_114_59 : den cf 114 59 [.ref a, v1, v2, v3, v4, v5, v6, v7, v8] st M = den cf 114 60 [.ref a, v1, v2, v3, v4, v5, v6, v7, v8] (.ref a :: st) M := den_go l_114_59 rfl
theorem l_114_60 : look (tab 114) 60 = some (.getfield 10, 3, [5, 0, 16], uu) := by decide +kernel
theorem e_114_60 : den cf 114 60 L (.ref a :: st) M = oK (gfA (M.2.2 a) 5 0) (fun v => den cf 114 63 L (v :: st) M) := den_gf l_114_60
theorem l_114_63 : look (tab 114) 63 = some (.aload 7, 2, [], uu) := by decide +kernel
theorem e_114_63 : den cf 114 63 [v0, v1, v2, v3, v4, v5, v6, v7, v8] st M = if isRf v7 = true then den cf 114 65 [v0, v1, v2, v3, v4, v5, v6, v7, v8] (v7 :: st) M else none := den_g l_114_63 rfl
theorem l_114_65 : look (tab 114) 65 = some (.iload_n 1, 1, [], uu) := by decide +kernel
theorem e_114_65 : den cf 114 65 [v0, .int x, v2, v3, v4, v5, v6, v7, v8] st M = den cf 114 66 [v0, .int x, v2, v3, v4, v5, v6, v7, v8] (.int x :: st) M := den_go l_114_65 rfl
theorem l_114_66 : look (tab 114) 66 = some (.invokevirtual 204, 3, [2, 33, 3, 686, 687, 688, 15], uu) := by decide +kernel
theorem e_114_66 : den cf 114 66 L (w2 :: w1 :: .ref a :: st) M = if rcv M 2 [.ref a, w1, w2] = true ∧ st.length ≤ 4 then rK (cf 33 [.ref a, w1, w2] M) (fun v M' => den cf 114 69 L (pR v st) M') else none := den_iv [w1, w2] l_114_66 rfl
theorem l_114_69 : look (tab 114) 69 = some (.istore 8, 2, [], uu) := by decide +kernel
theorem e_114_69 : den cf 114 69 [v0, v1, v2, v3, v4, v5, v6, v7, v8] (.int x :: st) M = den cf 114 71 [v0, v1, v2, v3, v4, v5, v6, kq v7, .int x] st M := den_st (k := 8) (v := .int x) l_114_69 rfl
theorem l_114_71 : look (tab 114) 71 = some (.aload_n 2, 1, [], uu) := by decide +kernel
theorem e_114_71 : den cf 114 71 [v0, v1, v2, v3, v4, v5, v6, v7, v8] st M = if isRf v2 = true then den cf 114 72 [v0, v1, v2, v3, v4, v5, v6, v7, v8] (v2 :: st) M else none := den_g l_114_71 rfl
theorem l_114_72 : look (tab 114) 72 = some (.ifnull 9, 3, [81], uu) := by decide +kernel
theorem e_114_72 : den cf 114 72 L (va_rf o :: st) M = oN o (den cf 114 81 L st M) (den cf 114 75 L st M) := den_nu l_114_72
theorem e_114_72_n : den cf 114 72 L (.null :: st) M = den cf 114 81 L st M := den_go l_114_72 rfl
theorem e_114_72_r : den cf 114 72 L (.ref a :: st) M = den cf 114 75 L st M := den_go l_114_72 rfl
theorem l_114_75 : look (tab 114) 75 = some (.iload 8, 2, [], uu) := by decide +kernel
theorem e_114_75 : den cf 114 75 [v0, v1, v2, v3, v4, v5, v6, v7, .int x] st M = den cf 114 77 [v0, v1, v2, v3, v4, v5, v6, v7, .int x] (.int x :: st) M := den_go l_114_75 rfl
theorem l_114_77 : look (tab 114) 77 = some (.iload_n 3, 1, [], uu) := by decide +kernel
theorem e_114_77 : den cf 114 77 [v0, v1, v2, .int x, v4, v5, v6, v7, v8] st M = den cf 114 78 [v0, v1, v2, .int x, v4, v5, v6, v7, v8] (.int x :: st) M := den_go l_114_77 rfl
theorem l_114_78 : look (tab 114) 78 = some (.if_icmp .ge 9, 3, [87], uu) := by decide +kernel
theorem e_114_78 : den cf 114 78 L (.int y :: .int x :: st) M = if x < y then den cf 114 81 L st M else den cf 114 87 L st M := den_ic_ge l_114_78
theorem l_114_81 : look (tab 114) 81 = some (.aload 7, 2, [], uu) := by decide +kernel
theorem e_114_81 : den cf 114 81 [v0, v1, v2, v3, v4, v5, v6, v7, v8] st M = if isRf v7 = true then den cf 114 83 [v0, v1, v2, v3, v4, v5, v6, v7, v8] (v7 :: st) M else none := den_g l_114_81 rfl
theorem l_114_83 : look (tab 114) 83 = some (.astore_n 2, 1, [], uu) := by decide +kernel
theorem e_114_83 : den cf 114 83 [v0, v1, v2, v3, v4, v5, v6, v7, v8] (v :: st) M = if isRf v = true then den cf 114 84 [v0, kq v1, v, v3, v4, v5, v6, v7, v8] st M else none := den_as (k := 2) (v := v) l_114_83 rfl (Nat.le_of_ble_eq_true rfl)
theorem l_114_84 : look (tab 114) 84 = some (.iload 8, 2, [], uu) := by decide +kernel
theorem e_114_84 : den cf 114 84 [v0, v1, v2, v3, v4, v5, v6, v7, .int x] st M = den cf 114 86 [v0, v1, v2, v3, v4, v5, v6, v7, .int x] (.int x :: st) M := den_go l_114_84 rfl
theorem l_114_86 : look (tab 114) 86 = some (.istore_n 3, 1, [], uu) := by decide +kernel
theorem e_114_86 : den cf 114 86 [v0, v1, v2, v3, v4, v5, v6, v7, v8] (.int x :: st) M = den cf 114 87 [v0, v1, kq v2, .int x, v4, v5, v6, v7, v8] st M := den_st (k := 3) (v := .int x) l_114_86 rfl
theorem l_114_87 : look (tab 114) 87 = some (.iinc 6 1, 3, [], .int (zI 1)) := by decide +kernel
theorem e_114_87 : den cf 114 87 [v0, v1, v2, v3, v4, v5, .int x, v7, v8] st M = den cf 114 90 [v0, v1, v2, v3, v4, kq v5, .int (x + (zI 1)), v7, v8] st M := den_st (k := 6) (v := .int (x + (zI 1))) l_114_87 rfl
theorem l_114_90 : look (tab 114) 90 = some (.goto (-53), 3, [37], uu) := by decide +kernel
theorem e_114_90 : den cf 114 90 L st M = den cf 114 37 L st M := den_go l_114_90 rfl
theorem l_114_93 : look (tab 114) 93 = some (.aload_n 2, 1, [], uu) := by decide +kernel
theorem e_114_93 : den cf 114 93 [v0, v1, v2, v3, v4, v5, v6, v7, v8] st M = if isRf v2 = true then den cf 114 94 [v0, v1, v2, v3, v4, v5, v6, v7, v8] (v2 :: st) M else none := den_g l_114_93 rfl
theorem l_114_94 : look (tab 114) 94 = some (.ifnonnull 12, 3, [106], uu) := by decide +kernel
theorem e_114_94 : den cf 114 94 L (va_rf o :: st) M = oN o (den cf 114 97 L st M) (den cf 114 106 L st M) := den_nn l_114_94
theorem e_114_94_n : den cf 114 94 L (.null :: st) M = den cf 114 97 L st M := den_go l_114_94 rfl
theorem e_114_94_r : den cf 114 94 L (.ref a :: st) M = den cf 114 106 L st M := den_go l_114_94 rfl
theorem l_114_97 : look (tab 114) 97 = some (.aload_n 0, 1, [], uu) := by decide +kernel
theorem e_114_97 : den cf 114 97 [.ref a, v1, v2, v3, v4, v5, v6, v7, v8] st M = den cf 114 98 [.ref a, v1, v2, v3, v4, v5, v6, v7, v8] (.ref a :: st) M := den_go l_114_97 rfl
theorem l_114_98 : look (tab 114) 98 = some (.bipush (-5), 2, [], .int (zI (-5))) := by decide +kernel
theorem e_114_98 : den cf 114 98 L st M = den cf 114 100 L (.int (zI (-5)) :: st) M := den_go l_114_98 rfl
theorem l_114_100 : look (tab 114) 100 = some (.invokevirtual 59, 3, [5, 128, 2, 113, 114, 115, 2], uu) := by decide +kernel
theorem e_114_100 : den cf 114 100 L (w1 :: .ref a :: st) M = if rcv M 5 [.ref a, w1] = true ∧ st.length ≤ 4 then rK (cf 128 [.ref a, w1] M) (fun v M' => den cf 114 103 L (pR v st) M') else none := den_iv [w1] l_114_100 rfl
theorem l_114_103 : look (tab 114) 103 = some (.goto 7, 3, [110], uu) := by decide +kernel
theorem e_114_103 : den cf 114 103 L st M = den cf 114 110 L st M := den_go l_114_103 rfl
theorem l_114_106 : look (tab 114) 106 = some (.aload_n 2, 1, [], uu) := by decide +kernel
theorem e_114_106 : den cf 114 106 [v0, v1, v2, v3, v4, v5, v6, v7, v8] st M = if isRf v2 = true then den cf 114 107 [v0, v1, v2, v3, v4, v5, v6, v7, v8] (v2 :: st) M else none := den_g l_114_106 rfl
theorem l_114_107 : look (tab 114) 107 = some (.getfield 160, 3, [1, 0, 374], uu) := by decide +kernel
theorem e_114_107 : den cf 114 107 L (.ref a :: st) M = oK (gfA (M.2.2 a) 1 0) (fun v => den cf 114 110 L (v :: st) M) := den_gf l_114_107
theorem l_114_110 : look (tab 114) 110 = some (.ireturn, 1, [0], uu) := by decide +kernel
theorem e_114_110 : den cf 114 110 L [.int x] M = some (some (.int x), M) := den_e0 l_114_110
/-! yX5_with -/
theorem l_115_0 : look (tab 115) 0 = some (.iload_n 1, 1, [], uu) := by decide +kernel
theorem e_115_0 : den cf 115 0 [v0, .int x, v2, v3, v4, v5, v6] st M = den cf 115 1 [v0, .int x, v2, v3, v4, v5, v6] (.int x :: st) M := den_go l_115_0 rfl
theorem l_115_1 : look (tab 115) 1 = some (.bipush 8, 2, [], .int (zI 8)) := by decide +kernel
theorem e_115_1 : den cf 115 1 L st M = den cf 115 3 L (.int (zI 8) :: st) M := den_go l_115_1 rfl
theorem l_115_3 : look (tab 115) 3 = some (.invokestatic 55, 3, [1, 129, 2, 110, 111, 2], uu) := by decide +kernel
theorem e_115_3 : den cf 115 3 L (w2 :: w1 :: st) M = if st.length ≤ 4 then rK (cf 129 [w1, w2] M) (fun v M' => den cf 115 6 L (pR v st) M') else none := den_ist [w1, w2] l_115_3 rfl
theorem l_115_6 : look (tab 115) 6 = some (.ifCond .ne 10, 3, [16], uu) := by decide +kernel
theorem e_115_6 : den cf 115 6 L (.int x :: st) M = if x = zI 0 then den cf 115 9 L st M else den cf 115 16 L st M := den_if_ne l_115_6
theorem l_115_9 : look (tab 115) 9 = some (.aload_n 0, 1, [], uu) := by decide +kernel
theorem e_115_9 : den cf 115 9 [.ref a, v1, v2, v3, v4, v5, v6] st M = den cf 115 10 [.ref a, v1, v2, v3, v4, v5, v6] (.ref a :: st) M := den_go l_115_9 rfl
theorem l_115_10 : look (tab 115) 10 = some (.bipush (-2), 2, [], .int (zI (-2))) := by decide +kernel
theorem e_115_10 : den cf 115 10 L st M = den cf 115 12 L (.int (zI (-2)) :: st) M := den_go l_115_10 rfl
theorem l_115_12 : look (tab 115) 12 = some (.invokevirtual 59, 3, [5, 128, 2, 113, 114, 115, 2], uu) := by decide +kernel
theorem e_115_12 : den cf 115 12 L (w1 :: .ref a :: st) M = if rcv M 5 [.ref a, w1] = true ∧ st.length ≤ 4 then rK (cf 128 [.ref a, w1] M) (fun v M' => den cf 115 15 L (pR v st) M') else none := den_iv [w1] l_115_12 rfl
theorem l_115_15 : look (tab 115) 15 = some (.ireturn, 1, [0], uu) := by decide +kernel
theorem e_115_15 : den cf 115 15 L [.int x] M = some (some (.int x), M) := den_e0 l_115_15
theorem l_115_16 : look (tab 115) 16 = some (.iconst 0, 1, [], .int (zI 0)) := by decide +kernel
theorem e_115_16 : den cf 115 16 L st M = den cf 115 17 L (.int (zI 0) :: st) M := den_go l_115_16 rfl
theorem l_115_17 : look (tab 115) 17 = some (.istore_n 2, 1, [], uu) := by decide +kernel
theorem e_115_17 : den cf 115 17 [v0, v1, v2, v3, v4, v5, v6] (.int x :: st) M = den cf 115 18 [v0, kq v1, .int x, v3, v4, v5, v6] st M := den_st (k := 2) (v := .int x) l_115_17 rfl
theorem l_115_18 : look (tab 115) 18 = some (.aload_n 0, 1, [], uu) := by decide +kernel
theorem e_115_18 : den cf 115 18 [.ref a, v1, v2, v3, v4, v5, v6] st M = den cf 115 19 [.ref a, v1, v2, v3, v4, v5, v6] (.ref a :: st) M := den_go l_115_18 rfl
theorem l_115_19 : look (tab 115) 19 = some (.getfield 10, 3, [5, 0, 16], uu) := by decide +kernel
theorem e_115_19 : den cf 115 19 L (.ref a :: st) M = oK (gfA (M.2.2 a) 5 0) (fun v => den cf 115 22 L (v :: st) M) := den_gf l_115_19
theorem l_115_22 : look (tab 115) 22 = some (.getfield 236, 3, [2, 0, 802], uu) := by decide +kernel
theorem e_115_22 : den cf 115 22 L (.ref a :: st) M = oK (gfA (M.2.2 a) 2 0) (fun v => den cf 115 25 L (v :: st) M) := den_gf l_115_22
theorem l_115_25 : look (tab 115) 25 = some (.astore_n 3, 1, [], uu) := by decide +kernel
theorem e_115_25 : den cf 115 25 [v0, v1, v2, v3, v4, v5, v6] (v :: st) M = if isRf v = true then den cf 115 26 [v0, v1, kq v2, v, v4, v5, v6] st M else none := den_as (k := 3) (v := v) l_115_25 rfl (Nat.le_of_ble_eq_true rfl)
theorem l_115_26 : look (tab 115) 26 = some (.aload_n 3, 1, [], uu) := by decide +kernel
theorem e_115_26 : den cf 115 26 [v0, v1, v2, v3, v4, v5, v6] st M = if isRf v3 = true then den cf 115 27 [v0, v1, v2, v3, v4, v5, v6] (v3 :: st) M else none := den_g l_115_26 rfl
theorem l_115_27 : look (tab 115) 27 = some (.arraylength, 1, [], uu) := by decide +kernel
theorem e_115_27 : den cf 115 27 L (.ref a :: st) M = oK (lenA (M.2.2 a)) (fun n => den cf 115 28 L (.int (zI n) :: st) M) := den_len l_115_27
theorem l_115_28 : look (tab 115) 28 = some (.istore 4, 2, [], uu) := by decide +kernel
theorem e_115_28 : den cf 115 28 [v0, v1, v2, v3, v4, v5, v6] (.int x :: st) M = den cf 115 30 [v0, v1, v2, kq v3, .int x, v5, v6] st M := den_st (k := 4) (v := .int x) l_115_28 rfl
theorem l_115_30 : look (tab 115) 30 = some (.iconst 0, 1, [], .int (zI 0)) := by decide +kernel
theorem e_115_30 : den cf 115 30 L st M = den cf 115 31 L (.int (zI 0) :: st) M := den_go l_115_30 rfl
theorem l_115_31 : look (tab 115) 31 = some (.istore 5, 2, [], uu) := by decide +kernel
theorem e_115_31 : den cf 115 31 [v0, v1, v2, v3, v4, v5, v6] (.int x :: st) M = den cf 115 33 [v0, v1, v2, v3, kq v4, .int x, v6] st M := den_st (k := 5) (v := .int x) l_115_31 rfl
theorem l_115_33 : look (tab 115) 33 = some (.iload 5, 2, [], uu) := by decide +kernel
theorem e_115_33 : den cf 115 33 [v0, v1, v2, v3, v4, .int x, v6] st M = den cf 115 35 [v0, v1, v2, v3, v4, .int x, v6] (.int x :: st) M := den_go l_115_33 rfl
theorem l_115_35 : look (tab 115) 35 = some (.iload 4, 2, [], uu) := by decide +kernel
theorem e_115_35 : den cf 115 35 [v0, v1, v2, v3, .int x, v5, v6] st M = den cf 115 37 [v0, v1, v2, v3, .int x, v5, v6] (.int x :: st) M := den_go l_115_35 rfl
theorem l_115_37 : look (tab 115) 37 = some (.if_icmp .ge 45, 3, [82], uu) := by decide +kernel
theorem e_115_37 : den cf 115 37 L (.int y :: .int x :: st) M = if x < y then den cf 115 40 L st M else den cf 115 82 L st M := den_ic_ge l_115_37
theorem l_115_40 : look (tab 115) 40 = some (.aload_n 3, 1, [], uu) := by decide +kernel
theorem e_115_40 : den cf 115 40 [v0, v1, v2, v3, v4, v5, v6] st M = if isRf v3 = true then den cf 115 41 [v0, v1, v2, v3, v4, v5, v6] (v3 :: st) M else none := den_g l_115_40 rfl
theorem l_115_41 : look (tab 115) 41 = some (.iload 5, 2, [], uu) := by decide +kernel
theorem e_115_41 : den cf 115 41 [v0, v1, v2, v3, v4, .int x, v6] st M = den cf 115 43 [v0, v1, v2, v3, v4, .int x, v6] (.int x :: st) M := den_go l_115_41 rfl
theorem l_115_43 : look (tab 115) 43 = some (.aaload, 1, [], uu) := by decide +kernel
theorem e_115_43 : den cf 115 43 L (.int x :: .ref a :: st) M = oK (ldQ (M.2.2 a) x) (fun v => den cf 115 44 L (v :: st) M) := den_al (g := ldQ) l_115_43 rfl
theorem l_115_44 : look (tab 115) 44 = some (.astore 6, 2, [], uu) := by decide +kernel
theorem e_115_44 : den cf 115 44 [v0, v1, v2, v3, v4, v5, v6] (v :: st) M = if isRf v = true then den cf 115 46 [v0, v1, v2, v3, v4, kq v5, v] st M else none := den_as (k := 6) (v := v) l_115_44 rfl (Nat.le_of_ble_eq_true rfl)
theorem l_115_46 : look (tab 115) 46 = some (.aload 6, 2, [], uu) := by decide +kernel
theorem e_115_46 : den cf 115 46 [v0, v1, v2, v3, v4, v5, v6] st M = if isRf v6 = true then den cf 115 48 [v0, v1, v2, v3, v4, v5, v6] (v6 :: st) M else none := den_g l_115_46 rfl
theorem l_115_48 : look (tab 115) 48 = some (.getfield 263, 3, [1, 1, 918], uu) := by decide +kernel
theorem e_115_48 : den cf 115 48 L (.ref a :: st) M = oK (gfA (M.2.2 a) 1 1) (fun v => den cf 115 51 L (v :: st) M) := den_gf l_115_48
theorem l_115_51 : look (tab 115) 51 = some (.ifCond .eq 25, 3, [76], uu) := by decide +kernel
theorem e_115_51 : den cf 115 51 L (.int x :: st) M = if x = zI 0 then den cf 115 76 L st M else den cf 115 54 L st M := den_if_eq l_115_51
theorem l_115_54 : look (tab 115) 54 = some (.aload 6, 2, [], uu) := by decide +kernel
theorem e_115_54 : den cf 115 54 [v0, v1, v2, v3, v4, v5, v6] st M = if isRf v6 = true then den cf 115 56 [v0, v1, v2, v3, v4, v5, v6] (v6 :: st) M else none := den_g l_115_54 rfl
theorem l_115_56 : look (tab 115) 56 = some (.getfield 124, 3, [1, 5, 236], uu) := by decide +kernel
theorem e_115_56 : den cf 115 56 L (.ref a :: st) M = oK (gfA (M.2.2 a) 1 5) (fun v => den cf 115 59 L (v :: st) M) := den_gf l_115_56
theorem l_115_59 : look (tab 115) 59 = some (.invokestatic 278, 3, [1, 242, 1, 952, 266, 267], uu) := by decide +kernel
theorem e_115_59 : den cf 115 59 L (w1 :: st) M = if st.length ≤ 4 then rK (cf 242 [w1] M) (fun v M' => den cf 115 62 L (pR v st) M') else none := den_ist [w1] l_115_59 rfl
theorem l_115_62 : look (tab 115) 62 = some (.iload_n 1, 1, [], uu) := by decide +kernel
theorem e_115_62 : den cf 115 62 [v0, .int x, v2, v3, v4, v5, v6] st M = den cf 115 63 [v0, .int x, v2, v3, v4, v5, v6] (.int x :: st) M := den_go l_115_62 rfl
theorem l_115_63 : look (tab 115) 63 = some (.if_icmp .ne 13, 3, [76], uu) := by decide +kernel
theorem e_115_63 : den cf 115 63 L (.int y :: .int x :: st) M = if x = y then den cf 115 66 L st M else den cf 115 76 L st M := den_ic_ne l_115_63
theorem l_115_66 : look (tab 115) 66 = some (.iload_n 2, 1, [], uu) := by decide +kernel
theorem e_115_66 : den cf 115 66 [v0, v1, .int x, v3, v4, v5, v6] st M = den cf 115 67 [v0, v1, .int x, v3, v4, v5, v6] (.int x :: st) M := den_go l_115_66 rfl
theorem l_115_67 : look (tab 115) 67 = some (.iconst 1, 1, [], .int (zI 1)) := by decide +kernel
theorem e_115_67 : den cf 115 67 L st M = den cf 115 68 L (.int (zI 1) :: st) M := den_go l_115_67 rfl
theorem l_115_68 : look (tab 115) 68 = some (.aload 6, 2, [], uu) := by decide +kernel
theorem e_115_68 : den cf 115 68 [v0, v1, v2, v3, v4, v5, v6] st M = if isRf v6 = true then den cf 115 70 [v0, v1, v2, v3, v4, v5, v6] (v6 :: st) M else none := den_g l_115_68 rfl
theorem l_115_70 : look (tab 115) 70 = some (.getfield 160, 3, [1, 0, 374], uu) := by decide +kernel
theorem e_115_70 : den cf 115 70 L (.ref a :: st) M = oK (gfA (M.2.2 a) 1 0) (fun v => den cf 115 73 L (v :: st) M) := den_gf l_115_70
theorem l_115_73 : look (tab 115) 73 = some (.ishl, 1, [], uu) := by decide +kernel
theorem e_115_73 : den cf 115 73 L (.int y :: .int x :: st) M = den cf 115 74 L (.int (x <<< (y &&& 31)) :: st) M := den_go l_115_73 rfl
theorem l_115_74 : look (tab 115) 74 = some (.ior, 1, [], uu) := by decide +kernel
theorem e_115_74 : den cf 115 74 L (.int y :: .int x :: st) M = den cf 115 75 L (.int (x ||| y) :: st) M := den_go l_115_74 rfl
theorem l_115_75 : look (tab 115) 75 = some (.istore_n 2, 1, [], uu) := by decide +kernel
theorem e_115_75 : den cf 115 75 [v0, v1, v2, v3, v4, v5, v6] (.int x :: st) M = den cf 115 76 [v0, kq v1, .int x, v3, v4, v5, v6] st M := den_st (k := 2) (v := .int x) l_115_75 rfl
theorem l_115_76 : look (tab 115) 76 = some (.iinc 5 1, 3, [], .int (zI 1)) := by decide +kernel
theorem e_115_76 : den cf 115 76 [v0, v1, v2, v3, v4, .int x, v6] st M = den cf 115 79 [v0, v1, v2, v3, kq v4, .int (x + (zI 1)), v6] st M := den_st (k := 5) (v := .int (x + (zI 1))) l_115_76 rfl
theorem l_115_79 : look (tab 115) 79 = some (.goto (-46), 3, [33], uu) := by decide +kernel
theorem e_115_79 : den cf 115 79 L st M = den cf 115 33 L st M := den_go l_115_79 rfl
theorem l_115_82 : look (tab 115) 82 = some (.iload_n 2, 1, [], uu) := by decide +kernel
theorem e_115_82 : den cf 115 82 [v0, v1, .int x, v3, v4, v5, v6] st M = den cf 115 83 [v0, v1, .int x, v3, v4, v5, v6] (.int x :: st) M := den_go l_115_82 rfl
theorem l_115_83 : look (tab 115) 83 = some (.ireturn, 1, [0], uu) := by decide +kernel
theorem e_115_83 : den cf 115 83 L [.int x] M = some (some (.int x), M) := den_e0 l_115_83
/-! yX5_alike -/
theorem l_116_0 : look (tab 116) 0 = some (.iconst 0, 1, [], .int (zI 0)) := by decide +kernel
theorem e_116_0 : den cf 116 0 L st M = den cf 116 1 L (.int (zI 0) :: st) M := den_go l_116_0 rfl
theorem l_116_1 : look (tab 116) 1 = some (.istore_n 1, 1, [], uu) := by decide +kernel
theorem e_116_1 : den cf 116 1 [v0, v1, v2, v3, v4, v5] (.int x :: st) M = den cf 116 2 [kq v0, .int x, v2, v3, v4, v5] st M := den_st (k := 1) (v := .int x) l_116_1 rfl
theorem l_116_2 : look (tab 116) 2 = some (.aload_n 0, 1, [], uu) := by decide +kernel
theorem e_116_2 : den cf 116 2 [.ref a, v1, v2, v3, v4, v5] st M = den cf 116 3 [.ref a, v1, v2, v3, v4, v5] (.ref a :: st) M := den_go l_116_2 rfl
theorem l_116_3 : look (tab 116) 3 = some (.getfield 10, 3, [5, 0, 16], uu) := by decide +kernel
theorem e_116_3 : den cf 116 3 L (.ref a :: st) M = oK (gfA (M.2.2 a) 5 0) (fun v => den cf 116 6 L (v :: st) M) := den_gf l_116_3
theorem l_116_6 : look (tab 116) 6 = some (.getfield 236, 3, [2, 0, 802], uu) := by decide +kernel
theorem e_116_6 : den cf 116 6 L (.ref a :: st) M = oK (gfA (M.2.2 a) 2 0) (fun v => den cf 116 9 L (v :: st) M) := den_gf l_116_6
theorem l_116_9 : look (tab 116) 9 = some (.astore_n 2, 1, [], uu) := by decide +kernel
theorem e_116_9 : den cf 116 9 [v0, v1, v2, v3, v4, v5] (v :: st) M = if isRf v = true then den cf 116 10 [v0, kq v1, v, v3, v4, v5] st M else none := den_as (k := 2) (v := v) l_116_9 rfl (Nat.le_of_ble_eq_true rfl)
theorem l_116_10 : look (tab 116) 10 = some (.aload_n 2, 1, [], uu) := by decide +kernel
theorem e_116_10 : den cf 116 10 [v0, v1, v2, v3, v4, v5] st M = if isRf v2 = true then den cf 116 11 [v0, v1, v2, v3, v4, v5] (v2 :: st) M else none := den_g l_116_10 rfl
theorem l_116_11 : look (tab 116) 11 = some (.arraylength, 1, [], uu) := by decide +kernel
theorem e_116_11 : den cf 116 11 L (.ref a :: st) M = oK (lenA (M.2.2 a)) (fun n => den cf 116 12 L (.int (zI n) :: st) M) := den_len l_116_11
theorem l_116_12 : look (tab 116) 12 = some (.istore_n 3, 1, [], uu) := by decide +kernel
theorem e_116_12 : den cf 116 12 [v0, v1, v2, v3, v4, v5] (.int x :: st) M = den cf 116 13 [v0, v1, kq v2, .int x, v4, v5] st M := den_st (k := 3) (v := .int x) l_116_12 rfl
theorem l_116_13 : look (tab 116) 13 = some (.iconst 0, 1, [], .int (zI 0)) := by decide +kernel
theorem e_116_13 : den cf 116 13 L st M = den cf 116 14 L (.int (zI 0) :: st) M := den_go l_116_13 rfl
theorem l_116_14 : look (tab 116) 14 = some (.istore 4, 2, [], uu) := by decide +kernel
theorem e_116_14 : den cf 116 14 [v0, v1, v2, v3, v4, v5] (.int x :: st) M = den cf 116 16 [v0, v1, v2, kq v3, .int x, v5] st M := den_st (k := 4) (v := .int x) l_116_14 rfl
theorem l_116_16 : look (tab 116) 16 = some (.iload 4, 2, [], uu) := by decide +kernel
theorem e_116_16 : den cf 116 16 [v0, v1, v2, v3, .int x, v5] st M = den cf 116 18 [v0, v1, v2, v3, .int x, v5] (.int x :: st) M := den_go l_116_16 rfl
theorem l_116_18 : look (tab 116) 18 = some (.iload_n 3, 1, [], uu) := by decide +kernel
theorem e_116_18 : den cf 116 18 [v0, v1, v2, .int x, v4, v5] st M = den cf 116 19 [v0, v1, v2, .int x, v4, v5] (.int x :: st) M := den_go l_116_18 rfl
theorem l_116_19 : look (tab 116) 19 = some (.if_icmp .ge 42, 3, [61], uu) := by decide +kernel
theorem e_116_19 : den cf 116 19 L (.int y :: .int x :: st) M = if x < y then den cf 116 22 L st M else den cf 116 61 L st M := den_ic_ge l_116_19
theorem l_116_22 : look (tab 116) 22 = some (.aload_n 2, 1, [], uu) := by decide +kernel
theorem e_116_22 : den cf 116 22 [v0, v1, v2, v3, v4, v5] st M = if isRf v2 = true then den cf 116 23 [v0, v1, v2, v3, v4, v5] (v2 :: st) M else none := den_g l_116_22 rfl
theorem l_116_23 : look (tab 116) 23 = some (.iload 4, 2, [], uu) := by decide +kernel
theorem e_116_23 : den cf 116 23 [v0, v1, v2, v3, .int x, v5] st M = den cf 116 25 [v0, v1, v2, v3, .int x, v5] (.int x :: st) M := den_go l_116_23 rfl
theorem l_116_25 : look (tab 116) 25 = some (.aaload, 1, [], uu) := by decide +kernel
theorem e_116_25 : den cf 116 25 L (.int x :: .ref a :: st) M = oK (ldQ (M.2.2 a) x) (fun v => den cf 116 26 L (v :: st) M) := den_al (g := ldQ) l_116_25 rfl
theorem l_116_26 : look (tab 116) 26 = some (.astore 5, 2, [], uu) := by decide +kernel
theorem e_116_26 : den cf 116 26 [v0, v1, v2, v3, v4, v5] (v :: st) M = if isRf v = true then den cf 116 28 [v0, v1, v2, v3, kq v4, v] st M else none := den_as (k := 5) (v := v) l_116_26 rfl (Nat.le_of_ble_eq_true rfl)
theorem l_116_28 : look (tab 116) 28 = some (.aload 5, 2, [], uu) := by decide +kernel
theorem e_116_28 : den cf 116 28 [v0, v1, v2, v3, v4, v5] st M = if isRf v5 = true then den cf 116 30 [v0, v1, v2, v3, v4, v5] (v5 :: st) M else none := den_g l_116_28 rfl
theorem l_116_30 : look (tab 116) 30 = some (.invokevirtual 243, 3, [1, 16, 1, 935, 865, 866, 41], uu) := by decide +kernel
theorem e_116_30 : den cf 116 30 L (.ref a :: st) M = if rcv M 1 [.ref a] = true ∧ st.length ≤ 4 then rK (cf 16 [.ref a] M) (fun v M' => den cf 116 33 L (pR v st) M') else none := den_iv [] l_116_30 rfl
theorem l_116_33 : look (tab 116) 33 = some (.ifCond .eq 22, 3, [55], uu) := by decide +kernel
theorem e_116_33 : den cf 116 33 L (.int x :: st) M = if x = zI 0 then den cf 116 55 L st M else den cf 116 36 L st M := den_if_eq l_116_33
theorem l_116_36 : look (tab 116) 36 = some (.aload 5, 2, [], uu) := by decide +kernel
theorem e_116_36 : den cf 116 36 [v0, v1, v2, v3, v4, v5] st M = if isRf v5 = true then den cf 116 38 [v0, v1, v2, v3, v4, v5] (v5 :: st) M else none := den_g l_116_36 rfl
theorem l_116_38 : look (tab 116) 38 = some (.getfield 197, 3, [1, 9, 632], uu) := by decide +kernel
theorem e_116_38 : den cf 116 38 L (.ref a :: st) M = oK (gfA (M.2.2 a) 1 9) (fun v => den cf 116 41 L (v :: st) M) := den_gf l_116_38
theorem l_116_41 : look (tab 116) 41 = some (.aload 5, 2, [], uu) := by decide +kernel
theorem e_116_41 : den cf 116 41 [v0, v1, v2, v3, v4, v5] st M = if isRf v5 = true then den cf 116 43 [v0, v1, v2, v3, v4, v5] (v5 :: st) M else none := den_g l_116_41 rfl
theorem l_116_43 : look (tab 116) 43 = some (.getfield 127, 3, [1, 6, 237], uu) := by decide +kernel
theorem e_116_43 : den cf 116 43 L (.ref a :: st) M = oK (gfA (M.2.2 a) 1 6) (fun v => den cf 116 46 L (v :: st) M) := den_gf l_116_43
theorem l_116_46 : look (tab 116) 46 = some (.getfield 197, 3, [1, 9, 632], uu) := by decide +kernel
theorem e_116_46 : den cf 116 46 L (.ref a :: st) M = oK (gfA (M.2.2 a) 1 9) (fun v => den cf 116 49 L (v :: st) M) := den_gf l_116_46
theorem l_116_49 : look (tab 116) 49 = some (.if_icmp .ne 6, 3, [55], uu) := by decide +kernel
theorem e_116_49 : den cf 116 49 L (.int y :: .int x :: st) M = if x = y then den cf 116 52 L st M else den cf 116 55 L st M := den_ic_ne l_116_49
theorem l_116_52 : look (tab 116) 52 = some (.iinc 1 1, 3, [], .int (zI 1)) := by decide +kernel
theorem e_116_52 : den cf 116 52 [v0, .int x, v2, v3, v4, v5] st M = den cf 116 55 [kq v0, .int (x + (zI 1)), v2, v3, v4, v5] st M := den_st (k := 1) (v := .int (x + (zI 1))) l_116_52 rfl
theorem l_116_55 : look (tab 116) 55 = some (.iinc 4 1, 3, [], .int (zI 1)) := by decide +kernel
theorem e_116_55 : den cf 116 55 [v0, v1, v2, v3, .int x, v5] st M = den cf 116 58 [v0, v1, v2, kq v3, .int (x + (zI 1)), v5] st M := den_st (k := 4) (v := .int (x + (zI 1))) l_116_55 rfl
theorem l_116_58 : look (tab 116) 58 = some (.goto (-42), 3, [16], uu) := by decide +kernel
theorem e_116_58 : den cf 116 58 L st M = den cf 116 16 L st M := den_go l_116_58 rfl
theorem l_116_61 : look (tab 116) 61 = some (.iload_n 1, 1, [], uu) := by decide +kernel
theorem e_116_61 : den cf 116 61 [v0, .int x, v2, v3, v4, v5] st M = den cf 116 62 [v0, .int x, v2, v3, v4, v5] (.int x :: st) M := den_go l_116_61 rfl
theorem l_116_62 : look (tab 116) 62 = some (.ireturn, 1, [0], uu) := by decide +kernel
theorem e_116_62 : den cf 116 62 L [.int x] M = some (some (.int x), M) := den_e0 l_116_62
/-! yX5_keen -/
theorem l_117_0 : look (tab 117) 0 = some (.aconst_null, 1, [], uu) := by decide +kernel
theorem e_117_0 : den cf 117 0 L st M = den cf 117 1 L (.null :: st) M := den_go l_117_0 rfl
theorem l_117_1 : look (tab 117) 1 = some (.astore_n 1, 1, [], uu) := by decide +kernel
theorem e_117_1 : den cf 117 1 [v0, v1, v2, v3, v4, v5, v6, v7] (v :: st) M = if isRf v = true then den cf 117 2 [kq v0, v, v2, v3, v4, v5, v6, v7] st M else none := den_as (k := 1) (v := v) l_117_1 rfl (Nat.le_of_ble_eq_true rfl)
theorem l_117_2 : look (tab 117) 2 = some (.iconst 0, 1, [], .int (zI 0)) := by decide +kernel
theorem e_117_2 : den cf 117 2 L st M = den cf 117 3 L (.int (zI 0) :: st) M := den_go l_117_2 rfl
theorem l_117_3 : look (tab 117) 3 = some (.istore_n 2, 1, [], uu) := by decide +kernel
theorem e_117_3 : den cf 117 3 [v0, v1, v2, v3, v4, v5, v6, v7] (.int x :: st) M = den cf 117 4 [v0, kq v1, .int x, v3, v4, v5, v6, v7] st M := den_st (k := 2) (v := .int x) l_117_3 rfl
theorem l_117_4 : look (tab 117) 4 = some (.aload_n 0, 1, [], uu) := by decide +kernel
theorem e_117_4 : den cf 117 4 [.ref a, v1, v2, v3, v4, v5, v6, v7] st M = den cf 117 5 [.ref a, v1, v2, v3, v4, v5, v6, v7] (.ref a :: st) M := den_go l_117_4 rfl
theorem l_117_5 : look (tab 117) 5 = some (.getfield 10, 3, [5, 0, 16], uu) := by decide +kernel
theorem e_117_5 : den cf 117 5 L (.ref a :: st) M = oK (gfA (M.2.2 a) 5 0) (fun v => den cf 117 8 L (v :: st) M) := den_gf l_117_5
theorem l_117_8 : look (tab 117) 8 = some (.getfield 236, 3, [2, 0, 802], uu) := by decide +kernel
theorem e_117_8 : den cf 117 8 L (.ref a :: st) M = oK (gfA (M.2.2 a) 2 0) (fun v => den cf 117 11 L (v :: st) M) := den_gf l_117_8
theorem l_117_11 : look (tab 117) 11 = some (.astore_n 3, 1, [], uu) := by decide +kernel
theorem e_117_11 : den cf 117 11 [v0, v1, v2, v3, v4, v5, v6, v7] (v :: st) M = if isRf v = true then den cf 117 12 [v0, v1, kq v2, v, v4, v5, v6, v7] st M else none := den_as (k := 3) (v := v) l_117_11 rfl (Nat.le_of_ble_eq_true rfl)
theorem l_117_12 : look (tab 117) 12 = some (.aload_n 3, 1, [], uu) := by decide +kernel
theorem e_117_12 : den cf 117 12 [v0, v1, v2, v3, v4, v5, v6, v7] st M = if isRf v3 = true then den cf 117 13 [v0, v1, v2, v3, v4, v5, v6, v7] (v3 :: st) M else none := den_g l_117_12 rfl
theorem l_117_13 : look (tab 117) 13 = some (.arraylength, 1, [], uu) := by decide +kernel
theorem e_117_13 : den cf 117 13 L (.ref a :: st) M = oK (lenA (M.2.2 a)) (fun n => den cf 117 14 L (.int (zI n) :: st) M) := den_len l_117_13
theorem l_117_14 : look (tab 117) 14 = some (.istore 4, 2, [], uu) := by decide +kernel
theorem e_117_14 : den cf 117 14 [v0, v1, v2, v3, v4, v5, v6, v7] (.int x :: st) M = den cf 117 16 [v0, v1, v2, kq v3, .int x, v5, v6, v7] st M := den_st (k := 4) (v := .int x) l_117_14 rfl
theorem l_117_16 : look (tab 117) 16 = some (.iconst 0, 1, [], .int (zI 0)) := by decide +kernel
theorem e_117_16 : den cf 117 16 L st M = den cf 117 17 L (.int (zI 0) :: st) M := den_go l_117_16 rfl
theorem l_117_17 : look (tab 117) 17 = some (.istore 5, 2, [], uu) := by decide +kernel
theorem e_117_17 : den cf 117 17 [v0, v1, v2, v3, v4, v5, v6, v7] (.int x :: st) M = den cf 117 19 [v0, v1, v2, v3, kq v4, .int x, v6, v7] st M := den_st (k := 5) (v := .int x) l_117_17 rfl
theorem l_117_19 : look (tab 117) 19 = some (.iload 5, 2, [], uu) := by decide +kernel
theorem e_117_19 : den cf 117 19 [v0, v1, v2, v3, v4, .int x, v6, v7] st M = den cf 117 21 [v0, v1, v2, v3, v4, .int x, v6, v7] (.int x :: st) M := den_go l_117_19 rfl
theorem l_117_21 : look (tab 117) 21 = some (.iload 4, 2, [], uu) := by decide +kernel
theorem e_117_21 : den cf 117 21 [v0, v1, v2, v3, .int x, v5, v6, v7] st M = den cf 117 23 [v0, v1, v2, v3, .int x, v5, v6, v7] (.int x :: st) M := den_go l_117_21 rfl
theorem l_117_23 : look (tab 117) 23 = some (.if_icmp .ge 63, 3, [86], uu) := by decide +kernel
theorem e_117_23 : den cf 117 23 L (.int y :: .int x :: st) M = if x < y then den cf 117 26 L st M else den cf 117 86 L st M := den_ic_ge l_117_23
theorem l_117_26 : look (tab 117) 26 = some (.aload_n 3, 1, [], uu) := by decide +kernel
theorem e_117_26 : den cf 117 26 [v0, v1, v2, v3, v4, v5, v6, v7] st M = if isRf v3 = true then den cf 117 27 [v0, v1, v2, v3, v4, v5, v6, v7] (v3 :: st) M else none := den_g l_117_26 rfl
theorem l_117_27 : look (tab 117) 27 = some (.iload 5, 2, [], uu) := by decide +kernel
theorem e_117_27 : den cf 117 27 [v0, v1, v2, v3, v4, .int x, v6, v7] st M = den cf 117 29 [v0, v1, v2, v3, v4, .int x, v6, v7] (.int x :: st) M := den_go l_117_27 rfl
theorem l_117_29 : look (tab 117) 29 = some (.aaload, 1, [], uu) := by decide +kernel
theorem e_117_29 : den cf 117 29 L (.int x :: .ref a :: st) M = oK (ldQ (M.2.2 a) x) (fun v => den cf 117 30 L (v :: st) M) := den_al (g := ldQ) l_117_29 rfl
theorem l_117_30 : look (tab 117) 30 = some (.astore 6, 2, [], uu) := by decide +kernel
theorem e_117_30 : den cf 117 30 [v0, v1, v2, v3, v4, v5, v6, v7] (v :: st) M = if isRf v = true then den cf 117 32 [v0, v1, v2, v3, v4, kq v5, v, v7] st M else none := den_as (k := 6) (v := v) l_117_30 rfl (Nat.le_of_ble_eq_true rfl)
theorem l_117_32 : look (tab 117) 32 = some (.aload 6, 2, [], uu) := by decide +kernel
theorem e_117_32 : den cf 117 32 [v0, v1, v2, v3, v4, v5, v6, v7] st M = if isRf v6 = true then den cf 117 34 [v0, v1, v2, v3, v4, v5, v6, v7] (v6 :: st) M else none := den_g l_117_32 rfl
theorem l_117_34 : look (tab 117) 34 = some (.getfield 263, 3, [1, 1, 918], uu) := by decide +kernel
theorem e_117_34 : den cf 117 34 L (.ref a :: st) M = oK (gfA (M.2.2 a) 1 1) (fun v => den cf 117 37 L (v :: st) M) := den_gf l_117_34
theorem l_117_37 : look (tab 117) 37 = some (.ifCond .eq 43, 3, [80], uu) := by decide +kernel
theorem e_117_37 : den cf 117 37 L (.int x :: st) M = if x = zI 0 then den cf 117 80 L st M else den cf 117 40 L st M := den_if_eq l_117_37
theorem l_117_40 : look (tab 117) 40 = some (.aload 6, 2, [], uu) := by decide +kernel
theorem e_117_40 : den cf 117 40 [v0, v1, v2, v3, v4, v5, v6, v7] st M = if isRf v6 = true then den cf 117 42 [v0, v1, v2, v3, v4, v5, v6, v7] (v6 :: st) M else none := den_g l_117_40 rfl
theorem l_117_42 : look (tab 117) 42 = some (.getfield 191, 3, [1, 7, 630], uu) := by decide +kernel
theorem e_117_42 : den cf 117 42 L (.ref a :: st) M = oK (gfA (M.2.2 a) 1 7) (fun v => den cf 117 45 L (v :: st) M) := den_gf l_117_42
theorem l_117_45 : look (tab 117) 45 = some (.ifCond .eq 35, 3, [80], uu) := by decide +kernel
theorem e_117_45 : den cf 117 45 L (.int x :: st) M = if x = zI 0 then den cf 117 80 L st M else den cf 117 48 L st M := den_if_eq l_117_45
theorem l_117_48 : look (tab 117) 48 = some (.aload_n 0, 1, [], uu) := by decide +kernel
theorem e_117_48 : den cf 117 48 [.ref a, v1, v2, v3, v4, v5, v6, v7] st M = den cf 117 49 [.ref a, v1, v2, v3, v4, v5, v6, v7] (.ref a :: st) M := den_go l_117_48 rfl
theorem l_117_49 : look (tab 117) 49 = some (.getfield 10, 3, [5, 0, 16], uu) := by decide +kernel
theorem e_117_49 : den cf 117 49 L (.ref a :: st) M = oK (gfA (M.2.2 a) 5 0) (fun v => den cf 117 52 L (v :: st) M) := den_gf l_117_49
theorem l_117_52 : look (tab 117) 52 = some (.aload 6, 2, [], uu) := by decide +kernel
theorem e_117_52 : den cf 117 52 [v0, v1, v2, v3, v4, v5, v6, v7] st M = if isRf v6 = true then den cf 117 54 [v0, v1, v2, v3, v4, v5, v6, v7] (v6 :: st) M else none := den_g l_117_52 rfl
theorem l_117_54 : look (tab 117) 54 = some (.aload 6, 2, [], uu) := by decide +kernel
theorem e_117_54 : den cf 117 54 [v0, v1, v2, v3, v4, v5, v6, v7] st M = if isRf v6 = true then den cf 117 56 [v0, v1, v2, v3, v4, v5, v6, v7] (v6 :: st) M else none := den_g l_117_54 rfl
theorem l_117_56 : look (tab 117) 56 = some (.getfield 127, 3, [1, 6, 237], uu) := by decide +kernel
theorem e_117_56 : den cf 117 56 L (.ref a :: st) M = oK (gfA (M.2.2 a) 1 6) (fun v => den cf 117 59 L (v :: st) M) := den_gf l_117_56
theorem l_117_59 : look (tab 117) 59 = some (.invokevirtual 131, 3, [2, 27, 3, 241, 242, 243, 15], uu) := by decide +kernel
theorem e_117_59 : den cf 117 59 L (w2 :: w1 :: .ref a :: st) M = if rcv M 2 [.ref a, w1, w2] = true ∧ st.length ≤ 4 then rK (cf 27 [.ref a, w1, w2] M) (fun v M' => den cf 117 62 L (pR v st) M') else none := den_iv [w1, w2] l_117_59 rfl
theorem l_117_62 : look (tab 117) 62 = some (.istore 7, 2, [], uu) := by decide +kernel
theorem e_117_62 : den cf 117 62 [v0, v1, v2, v3, v4, v5, v6, v7] (.int x :: st) M = den cf 117 64 [v0, v1, v2, v3, v4, v5, kq v6, .int x] st M := den_st (k := 7) (v := .int x) l_117_62 rfl
theorem l_117_64 : look (tab 117) 64 = some (.aload_n 1, 1, [], uu) := by decide +kernel
theorem e_117_64 : den cf 117 64 [v0, v1, v2, v3, v4, v5, v6, v7] st M = if isRf v1 = true then den cf 117 65 [v0, v1, v2, v3, v4, v5, v6, v7] (v1 :: st) M else none := den_g l_117_64 rfl
theorem l_117_65 : look (tab 117) 65 = some (.ifnull 9, 3, [74], uu) := by decide +kernel
theorem e_117_65 : den cf 117 65 L (va_rf o :: st) M = oN o (den cf 117 74 L st M) (den cf 117 68 L st M) := den_nu l_117_65
theorem e_117_65_n : den cf 117 65 L (.null :: st) M = den cf 117 74 L st M := den_go l_117_65 rfl
theorem e_117_65_r : den cf 117 65 L (.ref a :: st) M = den cf 117 68 L st M := den_go l_117_65 rfl
theorem l_117_68 : look (tab 117) 68 = some (.iload 7, 2, [], uu) := by decide +kernel
theorem e_117_68 : den cf 117 68 [v0, v1, v2, v3, v4, v5, v6, .int x] st M = den cf 117 70 [v0, v1, v2, v3, v4, v5, v6, .int x] (.int x :: st) M := den_go l_117_68 rfl
theorem l_117_70 : look (tab 117) 70 = some (.iload_n 2, 1, [], uu) := by decide +kernel
theorem e_117_70 : den cf 117 70 [v0, v1, .int x, v3, v4, v5, v6, v7] st M = den cf 117 71 [v0, v1, .int x, v3, v4, v5, v6, v7] (.int x :: st) M := den_go l_117_70 rfl
theorem l_117_71 : look (tab 117) 71 = some (.if_icmp .le 9, 3, [80], uu) := by decide +kernel
theorem e_117_71 : den cf 117 71 L (.int y :: .int x :: st) M = if y < x then den cf 117 74 L st M else den cf 117 80 L st M := den_ic_le l_117_71
theorem l_117_74 : look (tab 117) 74 = some (.aload 6, 2, [], uu) := by decide +kernel
theorem e_117_74 : den cf 117 74 [v0, v1, v2, v3, v4, v5, v6, v7] st M = if isRf v6 = true then den cf 117 76 [v0, v1, v2, v3, v4, v5, v6, v7] (v6 :: st) M else none := den_g l_117_74 rfl
theorem l_117_76 : look (tab 117) 76 = some (.astore_n 1, 1, [], uu) := by decide +kernel
theorem e_117_76 : den cf 117 76 [v0, v1, v2, v3, v4, v5, v6, v7] (v :: st) M = if isRf v = true then den cf 117 77 [kq v0, v, v2, v3, v4, v5, v6, v7] st M else none := den_as (k := 1) (v := v) l_117_76 rfl (Nat.le_of_ble_eq_true rfl)
theorem l_117_77 : look (tab 117) 77 = some (.iload 7, 2, [], uu) := by decide +kernel
theorem e_117_77 : den cf 117 77 [v0, v1, v2, v3, v4, v5, v6, .int x] st M = den cf 117 79 [v0, v1, v2, v3, v4, v5, v6, .int x] (.int x :: st) M := den_go l_117_77 rfl
theorem l_117_79 : look (tab 117) 79 = some (.istore_n 2, 1, [], uu) := by decide +kernel
theorem e_117_79 : den cf 117 79 [v0, v1, v2, v3, v4, v5, v6, v7] (.int x :: st) M = den cf 117 80 [v0, kq v1, .int x, v3, v4, v5, v6, v7] st M := den_st (k := 2) (v := .int x) l_117_79 rfl
theorem l_117_80 : look (tab 117) 80 = some (.iinc 5 1, 3, [], .int (zI 1)) := by decide +kernel
theorem e_117_80 : den cf 117 80 [v0, v1, v2, v3, v4, .int x, v6, v7] st M = den cf 117 83 [v0, v1, v2, v3, kq v4, .int (x + (zI 1)), v6, v7] st M := den_st (k := 5) (v := .int (x + (zI 1))) l_117_80 rfl
theorem l_117_83 : look (tab 117) 83 = some (.goto (-64), 3, [19], uu) := by decide +kernel
theorem e_117_83 : den cf 117 83 L st M = den cf 117 19 L st M := den_go l_117_83 rfl
theorem l_117_86 : look (tab 117) 86 = some (.aload_n 1, 1, [], uu) := by decide +kernel
theorem e_117_86 : den cf 117 86 [v0, v1, v2, v3, v4, v5, v6, v7] st M = if isRf v1 = true then den cf 117 87 [v0, v1, v2, v3, v4, v5, v6, v7] (v1 :: st) M else none := den_g l_117_86 rfl
theorem l_117_87 : look (tab 117) 87 = some (.ifnonnull 12, 3, [99], uu) := by decide +kernel
theorem e_117_87 : den cf 117 87 L (va_rf o :: st) M = oN o (den cf 117 90 L st M) (den cf 117 99 L st M) := den_nn l_117_87
theorem e_117_87_n : den cf 117 87 L (.null :: st) M = den cf 117 90 L st M := den_go l_117_87 rfl
theorem e_117_87_r : den cf 117 87 L (.ref a :: st) M = den cf 117 99 L st M := den_go l_117_87 rfl
theorem l_117_90 : look (tab 117) 90 = some (.aload_n 0, 1, [], uu) := by decide +kernel
theorem e_117_90 : den cf 117 90 [.ref a, v1, v2, v3, v4, v5, v6, v7] st M = den cf 117 91 [.ref a, v1, v2, v3, v4, v5, v6, v7] (.ref a :: st) M := den_go l_117_90 rfl
theorem l_117_91 : look (tab 117) 91 = some (.bipush (-5), 2, [], .int (zI (-5))) := by decide +kernel
theorem e_117_91 : den cf 117 91 L st M = den cf 117 93 L (.int (zI (-5)) :: st) M := den_go l_117_91 rfl
theorem l_117_93 : look (tab 117) 93 = some (.invokevirtual 59, 3, [5, 128, 2, 113, 114, 115, 2], uu) := by decide +kernel
theorem e_117_93 : den cf 117 93 L (w1 :: .ref a :: st) M = if rcv M 5 [.ref a, w1] = true ∧ st.length ≤ 4 then rK (cf 128 [.ref a, w1] M) (fun v M' => den cf 117 96 L (pR v st) M') else none := den_iv [w1] l_117_93 rfl
theorem l_117_96 : look (tab 117) 96 = some (.goto 7, 3, [103], uu) := by decide +kernel
theorem e_117_96 : den cf 117 96 L st M = den cf 117 103 L st M := den_go l_117_96 rfl
theorem l_117_99 : look (tab 117) 99 = some (.aload_n 1, 1, [], uu) := by decide +kernel
theorem e_117_99 : den cf 117 99 [v0, v1, v2, v3, v4, v5, v6, v7] st M = if isRf v1 = true then den cf 117 100 [v0, v1, v2, v3, v4, v5, v6, v7] (v1 :: st) M else none := den_g l_117_99 rfl
theorem l_117_100 : look (tab 117) 100 = some (.getfield 160, 3, [1, 0, 374], uu) := by decide +kernel
theorem e_117_100 : den cf 117 100 L (.ref a :: st) M = oK (gfA (M.2.2 a) 1 0) (fun v => den cf 117 103 L (v :: st) M) := den_gf l_117_100
theorem l_117_103 : look (tab 117) 103 = some (.ireturn, 1, [0], uu) := by decide +kernel
theorem e_117_103 : den cf 117 103 L [.int x] M = some (some (.int x), M) := den_e0 l_117_103
/-! yX5_owing -/
theorem l_118_0 : look (tab 118) 0 = some (.iconst 0, 1, [], .int (zI 0)) := by decide +kernel
theorem e_118_0 : den cf 118 0 L st M = den cf 118 1 L (.int (zI 0) :: st) M := den_go l_118_0 rfl
theorem l_118_1 : look (tab 118) 1 = some (.istore_n 1, 1, [], uu) := by decide +kernel
theorem e_118_1 : den cf 118 1 [v0, v1, v2, v3, v4, v5] (.int x :: st) M = den cf 118 2 [kq v0, .int x, v2, v3, v4, v5] st M := den_st (k := 1) (v := .int x) l_118_1 rfl
theorem l_118_2 : look (tab 118) 2 = some (.aload_n 0, 1, [], uu) := by decide +kernel
theorem e_118_2 : den cf 118 2 [.ref a, v1, v2, v3, v4, v5] st M = den cf 118 3 [.ref a, v1, v2, v3, v4, v5] (.ref a :: st) M := den_go l_118_2 rfl
theorem l_118_3 : look (tab 118) 3 = some (.getfield 10, 3, [5, 0, 16], uu) := by decide +kernel
theorem e_118_3 : den cf 118 3 L (.ref a :: st) M = oK (gfA (M.2.2 a) 5 0) (fun v => den cf 118 6 L (v :: st) M) := den_gf l_118_3
theorem l_118_6 : look (tab 118) 6 = some (.getfield 236, 3, [2, 0, 802], uu) := by decide +kernel
theorem e_118_6 : den cf 118 6 L (.ref a :: st) M = oK (gfA (M.2.2 a) 2 0) (fun v => den cf 118 9 L (v :: st) M) := den_gf l_118_6
theorem l_118_9 : look (tab 118) 9 = some (.astore_n 2, 1, [], uu) := by decide +kernel
theorem e_118_9 : den cf 118 9 [v0, v1, v2, v3, v4, v5] (v :: st) M = if isRf v = true then den cf 118 10 [v0, kq v1, v, v3, v4, v5] st M else none := den_as (k := 2) (v := v) l_118_9 rfl (Nat.le_of_ble_eq_true rfl)
theorem l_118_10 : look (tab 118) 10 = some (.aload_n 2, 1, [], uu) := by decide +kernel
theorem e_118_10 : den cf 118 10 [v0, v1, v2, v3, v4, v5] st M = if isRf v2 = true then den cf 118 11 [v0, v1, v2, v3, v4, v5] (v2 :: st) M else none := den_g l_118_10 rfl
theorem l_118_11 : look (tab 118) 11 = some (.arraylength, 1, [], uu) := by decide +kernel
theorem e_118_11 : den cf 118 11 L (.ref a :: st) M = oK (lenA (M.2.2 a)) (fun n => den cf 118 12 L (.int (zI n) :: st) M) := den_len l_118_11
theorem l_118_12 : look (tab 118) 12 = some (.istore_n 3, 1, [], uu) := by decide +kernel
theorem e_118_12 : den cf 118 12 [v0, v1, v2, v3, v4, v5] (.int x :: st) M = den cf 118 13 [v0, v1, kq v2, .int x, v4, v5] st M := den_st (k := 3) (v := .int x) l_118_12 rfl
theorem l_118_13 : look (tab 118) 13 = some (.iconst 0, 1, [], .int (zI 0)) := by decide +kernel
theorem e_118_13 : den cf 118 13 L st M = den cf 118 14 L (.int (zI 0) :: st) M := den_go l_118_13 rfl
theorem l_118_14 : look (tab 118) 14 = some (.istore 4, 2, [], uu) := by decide +kernel
theorem e_118_14 : den cf 118 14 [v0, v1, v2, v3, v4, v5] (.int x :: st) M = den cf 118 16 [v0, v1, v2, kq v3, .int x, v5] st M := den_st (k := 4) (v := .int x) l_118_14 rfl
theorem l_118_16 : look (tab 118) 16 = some (.iload 4, 2, [], uu) := by decide +kernel
theorem e_118_16 : den cf 118 16 [v0, v1, v2, v3, .int x, v5] st M = den cf 118 18 [v0, v1, v2, v3, .int x, v5] (.int x :: st) M := den_go l_118_16 rfl
theorem l_118_18 : look (tab 118) 18 = some (.iload_n 3, 1, [], uu) := by decide +kernel
theorem e_118_18 : den cf 118 18 [v0, v1, v2, .int x, v4, v5] st M = den cf 118 19 [v0, v1, v2, .int x, v4, v5] (.int x :: st) M := den_go l_118_18 rfl
theorem l_118_19 : look (tab 118) 19 = some (.if_icmp .ge 41, 3, [60], uu) := by decide +kernel
theorem e_118_19 : den cf 118 19 L (.int y :: .int x :: st) M = if x < y then den cf 118 22 L st M else den cf 118 60 L st M := den_ic_ge l_118_19
theorem l_118_22 : look (tab 118) 22 = some (.aload_n 2, 1, [], uu) := by decide +kernel
theorem e_118_22 : den cf 118 22 [v0, v1, v2, v3, v4, v5] st M = if isRf v2 = true then den cf 118 23 [v0, v1, v2, v3, v4, v5] (v2 :: st) M else none := den_g l_118_22 rfl
theorem l_118_23 : look (tab 118) 23 = some (.iload 4, 2, [], uu) := by decide +kernel
theorem e_118_23 : den cf 118 23 [v0, v1, v2, v3, .int x, v5] st M = den cf 118 25 [v0, v1, v2, v3, .int x, v5] (.int x :: st) M := den_go l_118_23 rfl
theorem l_118_25 : look (tab 118) 25 = some (.aaload, 1, [], uu) := by decide +kernel
theorem e_118_25 : den cf 118 25 L (.int x :: .ref a :: st) M = oK (ldQ (M.2.2 a) x) (fun v => den cf 118 26 L (v :: st) M) := den_al (g := ldQ) l_118_25 rfl
theorem l_118_26 : look (tab 118) 26 = some (.astore 5, 2, [], uu) := by decide +kernel
theorem e_118_26 : den cf 118 26 [v0, v1, v2, v3, v4, v5] (v :: st) M = if isRf v = true then den cf 118 28 [v0, v1, v2, v3, kq v4, v] st M else none := den_as (k := 5) (v := v) l_118_26 rfl (Nat.le_of_ble_eq_true rfl)
theorem l_118_28 : look (tab 118) 28 = some (.aload 5, 2, [], uu) := by decide +kernel
theorem e_118_28 : den cf 118 28 [v0, v1, v2, v3, v4, v5] st M = if isRf v5 = true then den cf 118 30 [v0, v1, v2, v3, v4, v5] (v5 :: st) M else none := den_g l_118_28 rfl
theorem l_118_30 : look (tab 118) 30 = some (.getfield 263, 3, [1, 1, 918], uu) := by decide +kernel
theorem e_118_30 : den cf 118 30 L (.ref a :: st) M = oK (gfA (M.2.2 a) 1 1) (fun v => den cf 118 33 L (v :: st) M) := den_gf l_118_30
theorem l_118_33 : look (tab 118) 33 = some (.ifCond .eq 21, 3, [54], uu) := by decide +kernel
theorem e_118_33 : den cf 118 33 L (.int x :: st) M = if x = zI 0 then den cf 118 54 L st M else den cf 118 36 L st M := den_if_eq l_118_33
theorem l_118_36 : look (tab 118) 36 = some (.aload 5, 2, [], uu) := by decide +kernel
theorem e_118_36 : den cf 118 36 [v0, v1, v2, v3, v4, v5] st M = if isRf v5 = true then den cf 118 38 [v0, v1, v2, v3, v4, v5] (v5 :: st) M else none := den_g l_118_36 rfl
theorem l_118_38 : look (tab 118) 38 = some (.getfield 191, 3, [1, 7, 630], uu) := by decide +kernel
theorem e_118_38 : den cf 118 38 L (.ref a :: st) M = oK (gfA (M.2.2 a) 1 7) (fun v => den cf 118 41 L (v :: st) M) := den_gf l_118_38
theorem l_118_41 : look (tab 118) 41 = some (.ifCond .eq 13, 3, [54], uu) := by decide +kernel
theorem e_118_41 : den cf 118 41 L (.int x :: st) M = if x = zI 0 then den cf 118 54 L st M else den cf 118 44 L st M := den_if_eq l_118_41
theorem l_118_44 : look (tab 118) 44 = some (.iload_n 1, 1, [], uu) := by decide +kernel
theorem e_118_44 : den cf 118 44 [v0, .int x, v2, v3, v4, v5] st M = den cf 118 45 [v0, .int x, v2, v3, v4, v5] (.int x :: st) M := den_go l_118_44 rfl
theorem l_118_45 : look (tab 118) 45 = some (.iconst 1, 1, [], .int (zI 1)) := by decide +kernel
theorem e_118_45 : den cf 118 45 L st M = den cf 118 46 L (.int (zI 1) :: st) M := den_go l_118_45 rfl
theorem l_118_46 : look (tab 118) 46 = some (.aload 5, 2, [], uu) := by decide +kernel
theorem e_118_46 : den cf 118 46 [v0, v1, v2, v3, v4, v5] st M = if isRf v5 = true then den cf 118 48 [v0, v1, v2, v3, v4, v5] (v5 :: st) M else none := den_g l_118_46 rfl
theorem l_118_48 : look (tab 118) 48 = some (.getfield 160, 3, [1, 0, 374], uu) := by decide +kernel
theorem e_118_48 : den cf 118 48 L (.ref a :: st) M = oK (gfA (M.2.2 a) 1 0) (fun v => den cf 118 51 L (v :: st) M) := den_gf l_118_48
theorem l_118_51 : look (tab 118) 51 = some (.ishl, 1, [], uu) := by decide +kernel
theorem e_118_51 : den cf 118 51 L (.int y :: .int x :: st) M = den cf 118 52 L (.int (x <<< (y &&& 31)) :: st) M := den_go l_118_51 rfl
theorem l_118_52 : look (tab 118) 52 = some (.ior, 1, [], uu) := by decide +kernel
theorem e_118_52 : den cf 118 52 L (.int y :: .int x :: st) M = den cf 118 53 L (.int (x ||| y) :: st) M := den_go l_118_52 rfl
theorem l_118_53 : look (tab 118) 53 = some (.istore_n 1, 1, [], uu) := by decide +kernel
theorem e_118_53 : den cf 118 53 [v0, v1, v2, v3, v4, v5] (.int x :: st) M = den cf 118 54 [kq v0, .int x, v2, v3, v4, v5] st M := den_st (k := 1) (v := .int x) l_118_53 rfl
theorem l_118_54 : look (tab 118) 54 = some (.iinc 4 1, 3, [], .int (zI 1)) := by decide +kernel
theorem e_118_54 : den cf 118 54 [v0, v1, v2, v3, .int x, v5] st M = den cf 118 57 [v0, v1, v2, kq v3, .int (x + (zI 1)), v5] st M := den_st (k := 4) (v := .int (x + (zI 1))) l_118_54 rfl
theorem l_118_57 : look (tab 118) 57 = some (.goto (-41), 3, [16], uu) := by decide +kernel
theorem e_118_57 : den cf 118 57 L st M = den cf 118 16 L st M := den_go l_118_57 rfl
theorem l_118_60 : look (tab 118) 60 = some (.iload_n 1, 1, [], uu) := by decide +kernel
theorem e_118_60 : den cf 118 60 [v0, .int x, v2, v3, v4, v5] st M = den cf 118 61 [v0, .int x, v2, v3, v4, v5] (.int x :: st) M := den_go l_118_60 rfl
theorem l_118_61 : look (tab 118) 61 = some (.ireturn, 1, [0], uu) := by decide +kernel
theorem e_118_61 : den cf 118 61 L [.int x] M = some (some (.int x), M) := den_e0 l_118_61
/-! yX5_meant -/
theorem l_119_0 : look (tab 119) 0 = some (.aload_n 0, 1, [], uu) := by decide +kernel
theorem e_119_0 : den cf 119 0 [.ref a, v1, v2, v3, v4, v5, v6, v7, v8] st M = den cf 119 1 [.ref a, v1, v2, v3, v4, v5, v6, v7, v8] (.ref a :: st) M := den_go l_119_0 rfl
theorem l_119_1 : look (tab 119) 1 = some (.iload_n 1, 1, [], uu) := by decide +kernel
theorem e_119_1 : den cf 119 1 [v0, .int x, v2, v3, v4, v5, v6, v7, v8] st M = den cf 119 2 [v0, .int x, v2, v3, v4, v5, v6, v7, v8] (.int x :: st) M := den_go l_119_1 rfl
theorem l_119_2 : look (tab 119) 2 = some (.invokevirtual 51, 3, [5, 130, 2, 106, 107, 108, 2], uu) := by decide +kernel
theorem e_119_2 : den cf 119 2 L (w1 :: .ref a :: st) M = if rcv M 5 [.ref a, w1] = true ∧ st.length ≤ 4 then rK (cf 130 [.ref a, w1] M) (fun v M' => den cf 119 5 L (pR v st) M') else none := den_iv [w1] l_119_2 rfl
theorem l_119_5 : look (tab 119) 5 = some (.astore 4, 2, [], uu) := by decide +kernel
theorem e_119_5 : den cf 119 5 [v0, v1, v2, v3, v4, v5, v6, v7, v8] (v :: st) M = if isRf v = true then den cf 119 7 [v0, v1, v2, kq v3, v, v5, v6, v7, v8] st M else none := den_as (k := 4) (v := v) l_119_5 rfl (Nat.le_of_ble_eq_true rfl)
theorem l_119_7 : look (tab 119) 7 = some (.aload_n 0, 1, [], uu) := by decide +kernel
theorem e_119_7 : den cf 119 7 [.ref a, v1, v2, v3, v4, v5, v6, v7, v8] st M = den cf 119 8 [.ref a, v1, v2, v3, v4, v5, v6, v7, v8] (.ref a :: st) M := den_go l_119_7 rfl
theorem l_119_8 : look (tab 119) 8 = some (.getfield 10, 3, [5, 0, 16], uu) := by decide +kernel
theorem e_119_8 : den cf 119 8 L (.ref a :: st) M = oK (gfA (M.2.2 a) 5 0) (fun v => den cf 119 11 L (v :: st) M) := den_gf l_119_8
theorem l_119_11 : look (tab 119) 11 = some (.iload_n 3, 1, [], uu) := by decide +kernel
theorem e_119_11 : den cf 119 11 [v0, v1, v2, .int x, v4, v5, v6, v7, v8] st M = den cf 119 12 [v0, v1, v2, .int x, v4, v5, v6, v7, v8] (.int x :: st) M := den_go l_119_11 rfl
theorem l_119_12 : look (tab 119) 12 = some (.invokevirtual 105, 3, [2, 24, 2, 209, 210, 211, 15], uu) := by decide +kernel
theorem e_119_12 : den cf 119 12 L (w1 :: .ref a :: st) M = if rcv M 2 [.ref a, w1] = true ∧ st.length ≤ 4 then rK (cf 24 [.ref a, w1] M) (fun v M' => den cf 119 15 L (pR v st) M') else none := den_iv [w1] l_119_12 rfl
theorem l_119_15 : look (tab 119) 15 = some (.astore 5, 2, [], uu) := by decide +kernel
theorem e_119_15 : den cf 119 15 [v0, v1, v2, v3, v4, v5, v6, v7, v8] (v :: st) M = if isRf v = true then den cf 119 17 [v0, v1, v2, v3, kq v4, v, v6, v7, v8] st M else none := den_as (k := 5) (v := v) l_119_15 rfl (Nat.le_of_ble_eq_true rfl)
theorem l_119_17 : look (tab 119) 17 = some (.aload 4, 2, [], uu) := by decide +kernel
theorem e_119_17 : den cf 119 17 [v0, v1, v2, v3, v4, v5, v6, v7, v8] st M = if isRf v4 = true then den cf 119 19 [v0, v1, v2, v3, v4, v5, v6, v7, v8] (v4 :: st) M else none := den_g l_119_17 rfl
theorem l_119_19 : look (tab 119) 19 = some (.ifnull 17, 3, [36], uu) := by decide +kernel
theorem e_119_19 : den cf 119 19 L (va_rf o :: st) M = oN o (den cf 119 36 L st M) (den cf 119 22 L st M) := den_nu l_119_19
theorem e_119_19_n : den cf 119 19 L (.null :: st) M = den cf 119 36 L st M := den_go l_119_19 rfl
theorem e_119_19_r : den cf 119 19 L (.ref a :: st) M = den cf 119 22 L st M := den_go l_119_19 rfl
theorem l_119_22 : look (tab 119) 22 = some (.iload_n 2, 1, [], uu) := by decide +kernel
theorem e_119_22 : den cf 119 22 [v0, v1, .int x, v3, v4, v5, v6, v7, v8] st M = den cf 119 23 [v0, v1, .int x, v3, v4, v5, v6, v7, v8] (.int x :: st) M := den_go l_119_22 rfl
theorem l_119_23 : look (tab 119) 23 = some (.bipush 40, 2, [], .int (zI 40)) := by decide +kernel
theorem e_119_23 : den cf 119 23 L st M = den cf 119 25 L (.int (zI 40) :: st) M := den_go l_119_23 rfl
theorem l_119_25 : look (tab 119) 25 = some (.invokestatic 55, 3, [1, 129, 2, 110, 111, 2], uu) := by decide +kernel
theorem e_119_25 : den cf 119 25 L (w2 :: w1 :: st) M = if st.length ≤ 4 then rK (cf 129 [w1, w2] M) (fun v M' => den cf 119 28 L (pR v st) M') else none := den_ist [w1, w2] l_119_25 rfl
theorem l_119_28 : look (tab 119) 28 = some (.ifCond .eq 8, 3, [36], uu) := by decide +kernel
theorem e_119_28 : den cf 119 28 L (.int x :: st) M = if x = zI 0 then den cf 119 36 L st M else den cf 119 31 L st M := den_if_eq l_119_28
theorem l_119_31 : look (tab 119) 31 = some (.aload 5, 2, [], uu) := by decide +kernel
theorem e_119_31 : den cf 119 31 [v0, v1, v2, v3, v4, v5, v6, v7, v8] st M = if isRf v5 = true then den cf 119 33 [v0, v1, v2, v3, v4, v5, v6, v7, v8] (v5 :: st) M else none := den_g l_119_31 rfl
theorem l_119_33 : look (tab 119) 33 = some (.ifnonnull 10, 3, [43], uu) := by decide +kernel
theorem e_119_33 : den cf 119 33 L (va_rf o :: st) M = oN o (den cf 119 36 L st M) (den cf 119 43 L st M) := den_nn l_119_33
theorem e_119_33_n : den cf 119 33 L (.null :: st) M = den cf 119 36 L st M := den_go l_119_33 rfl
theorem e_119_33_r : den cf 119 33 L (.ref a :: st) M = den cf 119 43 L st M := den_go l_119_33 rfl
theorem l_119_36 : look (tab 119) 36 = some (.aload_n 0, 1, [], uu) := by decide +kernel
theorem e_119_36 : den cf 119 36 [.ref a, v1, v2, v3, v4, v5, v6, v7, v8] st M = den cf 119 37 [.ref a, v1, v2, v3, v4, v5, v6, v7, v8] (.ref a :: st) M := den_go l_119_36 rfl
theorem l_119_37 : look (tab 119) 37 = some (.bipush (-2), 2, [], .int (zI (-2))) := by decide +kernel
theorem e_119_37 : den cf 119 37 L st M = den cf 119 39 L (.int (zI (-2)) :: st) M := den_go l_119_37 rfl
theorem l_119_39 : look (tab 119) 39 = some (.invokevirtual 59, 3, [5, 128, 2, 113, 114, 115, 2], uu) := by decide +kernel
theorem e_119_39 : den cf 119 39 L (w1 :: .ref a :: st) M = if rcv M 5 [.ref a, w1] = true ∧ st.length ≤ 4 then rK (cf 128 [.ref a, w1] M) (fun v M' => den cf 119 42 L (pR v st) M') else none := den_iv [w1] l_119_39 rfl
theorem l_119_42 : look (tab 119) 42 = some (.ireturn, 1, [0], uu) := by decide +kernel
theorem e_119_42 : den cf 119 42 L [.int x] M = some (some (.int x), M) := den_e0 l_119_42
theorem l_119_43 : look (tab 119) 43 = some (.aload 4, 2, [], uu) := by decide +kernel
theorem e_119_43 : den cf 119 43 [v0, v1, v2, v3, v4, v5, v6, v7, v8] st M = if isRf v4 = true then den cf 119 45 [v0, v1, v2, v3, v4, v5, v6, v7, v8] (v4 :: st) M else none := den_g l_119_43 rfl
theorem l_119_45 : look (tab 119) 45 = some (.iload_n 2, 1, [], uu) := by decide +kernel
theorem e_119_45 : den cf 119 45 [v0, v1, .int x, v3, v4, v5, v6, v7, v8] st M = den cf 119 46 [v0, v1, .int x, v3, v4, v5, v6, v7, v8] (.int x :: st) M := den_go l_119_45 rfl
theorem l_119_46 : look (tab 119) 46 = some (.invokevirtual 283, 3, [3, 54, 2, 1054, 1055, 1056, 27], uu) := by decide +kernel
theorem e_119_46 : den cf 119 46 L (w1 :: .ref a :: st) M = if rcv M 3 [.ref a, w1] = true ∧ st.length ≤ 4 then rK (cf 54 [.ref a, w1] M) (fun v M' => den cf 119 49 L (pR v st) M') else none := den_iv [w1] l_119_46 rfl
theorem l_119_49 : look (tab 119) 49 = some (.istore 6, 2, [], uu) := by decide +kernel
theorem e_119_49 : den cf 119 49 [v0, v1, v2, v3, v4, v5, v6, v7, v8] (.int x :: st) M = den cf 119 51 [v0, v1, v2, v3, v4, kq v5, .int x, v7, v8] st M := den_st (k := 6) (v := .int x) l_119_49 rfl
theorem l_119_51 : look (tab 119) 51 = some (.iload 6, 2, [], uu) := by decide +kernel
theorem e_119_51 : den cf 119 51 [v0, v1, v2, v3, v4, v5, .int x, v7, v8] st M = den cf 119 53 [v0, v1, v2, v3, v4, v5, .int x, v7, v8] (.int x :: st) M := den_go l_119_51 rfl
theorem l_119_53 : look (tab 119) 53 = some (.ifCond .eq 10, 3, [63], uu) := by decide +kernel
theorem e_119_53 : den cf 119 53 L (.int x :: st) M = if x = zI 0 then den cf 119 63 L st M else den cf 119 56 L st M := den_if_eq l_119_53
theorem l_119_56 : look (tab 119) 56 = some (.aload_n 0, 1, [], uu) := by decide +kernel
theorem e_119_56 : den cf 119 56 [.ref a, v1, v2, v3, v4, v5, v6, v7, v8] st M = den cf 119 57 [.ref a, v1, v2, v3, v4, v5, v6, v7, v8] (.ref a :: st) M := den_go l_119_56 rfl
theorem l_119_57 : look (tab 119) 57 = some (.iload 6, 2, [], uu) := by decide +kernel
theorem e_119_57 : den cf 119 57 [v0, v1, v2, v3, v4, v5, .int x, v7, v8] st M = den cf 119 59 [v0, v1, v2, v3, v4, v5, .int x, v7, v8] (.int x :: st) M := den_go l_119_57 rfl
theorem l_119_59 : look (tab 119) 59 = some (.invokevirtual 59, 3, [5, 128, 2, 113, 114, 115, 2], uu) := by decide +kernel
theorem e_119_59 : den cf 119 59 L (w1 :: .ref a :: st) M = if rcv M 5 [.ref a, w1] = true ∧ st.length ≤ 4 then rK (cf 128 [.ref a, w1] M) (fun v M' => den cf 119 62 L (pR v st) M') else none := den_iv [w1] l_119_59 rfl
theorem l_119_62 : look (tab 119) 62 = some (.ireturn, 1, [0], uu) := by decide +kernel
theorem e_119_62 : den cf 119 62 L [.int x] M = some (some (.int x), M) := den_e0 l_119_62
theorem l_119_63 : look (tab 119) 63 = some (.aload 5, 2, [], uu) := by decide +kernel
theorem e_119_63 : den cf 119 63 [v0, v1, v2, v3, v4, v5, v6, v7, v8] st M = if isRf v5 = true then den cf 119 65 [v0, v1, v2, v3, v4, v5, v6, v7, v8] (v5 :: st) M else none := den_g l_119_63 rfl
theorem l_119_65 : look (tab 119) 65 = some (.getfield 127, 3, [1, 6, 237], uu) := by decide +kernel
theorem e_119_65 : den cf 119 65 L (.ref a :: st) M = oK (gfA (M.2.2 a) 1 6) (fun v => den cf 119 68 L (v :: st) M) := den_gf l_119_65
theorem l_119_68 : look (tab 119) 68 = some (.ifnull 20, 3, [88], uu) := by decide +kernel
theorem e_119_68 : den cf 119 68 L (va_rf o :: st) M = oN o (den cf 119 88 L st M) (den cf 119 71 L st M) := den_nu l_119_68
theorem e_119_68_n : den cf 119 68 L (.null :: st) M = den cf 119 88 L st M := den_go l_119_68 rfl
theorem e_119_68_r : den cf 119 68 L (.ref a :: st) M = den cf 119 71 L st M := den_go l_119_68 rfl
theorem l_119_71 : look (tab 119) 71 = some (.aload 5, 2, [], uu) := by decide +kernel
theorem e_119_71 : den cf 119 71 [v0, v1, v2, v3, v4, v5, v6, v7, v8] st M = if isRf v5 = true then den cf 119 73 [v0, v1, v2, v3, v4, v5, v6, v7, v8] (v5 :: st) M else none := den_g l_119_71 rfl
theorem l_119_73 : look (tab 119) 73 = some (.getfield 191, 3, [1, 7, 630], uu) := by decide +kernel
theorem e_119_73 : den cf 119 73 L (.ref a :: st) M = oK (gfA (M.2.2 a) 1 7) (fun v => den cf 119 76 L (v :: st) M) := den_gf l_119_73
theorem l_119_76 : look (tab 119) 76 = some (.ifCond .eq 12, 3, [88], uu) := by decide +kernel
theorem e_119_76 : den cf 119 76 L (.int x :: st) M = if x = zI 0 then den cf 119 88 L st M else den cf 119 79 L st M := den_if_eq l_119_76
theorem l_119_79 : look (tab 119) 79 = some (.aload 4, 2, [], uu) := by decide +kernel
theorem e_119_79 : den cf 119 79 [v0, v1, v2, v3, v4, v5, v6, v7, v8] st M = if isRf v4 = true then den cf 119 81 [v0, v1, v2, v3, v4, v5, v6, v7, v8] (v4 :: st) M else none := den_g l_119_79 rfl
theorem l_119_81 : look (tab 119) 81 = some (.iload_n 2, 1, [], uu) := by decide +kernel
theorem e_119_81 : den cf 119 81 [v0, v1, .int x, v3, v4, v5, v6, v7, v8] st M = den cf 119 82 [v0, v1, .int x, v3, v4, v5, v6, v7, v8] (.int x :: st) M := den_go l_119_81 rfl
theorem l_119_82 : look (tab 119) 82 = some (.invokevirtual 286, 3, [3, 55, 2, 1059, 1060, 1061, 27], uu) := by decide +kernel
theorem e_119_82 : den cf 119 82 L (w1 :: .ref a :: st) M = if rcv M 3 [.ref a, w1] = true ∧ st.length ≤ 4 then rK (cf 55 [.ref a, w1] M) (fun v M' => den cf 119 85 L (pR v st) M') else none := den_iv [w1] l_119_82 rfl
theorem l_119_85 : look (tab 119) 85 = some (.ifCond .ne 10, 3, [95], uu) := by decide +kernel
theorem e_119_85 : den cf 119 85 L (.int x :: st) M = if x = zI 0 then den cf 119 88 L st M else den cf 119 95 L st M := den_if_ne l_119_85
theorem l_119_88 : look (tab 119) 88 = some (.aload_n 0, 1, [], uu) := by decide +kernel
theorem e_119_88 : den cf 119 88 [.ref a, v1, v2, v3, v4, v5, v6, v7, v8] st M = den cf 119 89 [.ref a, v1, v2, v3, v4, v5, v6, v7, v8] (.ref a :: st) M := den_go l_119_88 rfl
theorem l_119_89 : look (tab 119) 89 = some (.bipush (-5), 2, [], .int (zI (-5))) := by decide +kernel
theorem e_119_89 : den cf 119 89 L st M = den cf 119 91 L (.int (zI (-5)) :: st) M := den_go l_119_89 rfl
theorem l_119_91 : look (tab 119) 91 = some (.invokevirtual 59, 3, [5, 128, 2, 113, 114, 115, 2], uu) := by decide +kernel
theorem e_119_91 : den cf 119 91 L (w1 :: .ref a :: st) M = if rcv M 5 [.ref a, w1] = true ∧ st.length ≤ 4 then rK (cf 128 [.ref a, w1] M) (fun v M' => den cf 119 94 L (pR v st) M') else none := den_iv [w1] l_119_91 rfl
theorem l_119_94 : look (tab 119) 94 = some (.ireturn, 1, [0], uu) := by decide +kernel
theorem e_119_94 : den cf 119 94 L [.int x] M = some (some (.int x), M) := den_e0 l_119_94
theorem l_119_95 : look (tab 119) 95 = some (.iconst 0, 1, [], .int (zI 0)) := by decide +kernel
theorem e_119_95 : den cf 119 95 L st M = den cf 119 96 L (.int (zI 0) :: st) M := den_go l_119_95 rfl
theorem l_119_96 : look (tab 119) 96 = some (.istore 7, 2, [], uu) := by decide +kernel
theorem e_119_96 : den cf 119 96 [v0, v1, v2, v3, v4, v5, v6, v7, v8] (.int x :: st) M = den cf 119 98 [v0, v1, v2, v3, v4, v5, kq v6, .int x, v8] st M := den_st (k := 7) (v := .int x) l_119_96 rfl
theorem l_119_98 : look (tab 119) 98 = some (.iconst 0, 1, [], .int (zI 0)) := by decide +kernel
theorem e_119_98 : den cf 119 98 L st M = den cf 119 99 L (.int (zI 0) :: st) M := den_go l_119_98 rfl
theorem l_119_99 : look (tab 119) 99 = some (.istore 8, 2, [], uu) := by decide +kernel
theorem e_119_99 : den cf 119 99 [v0, v1, v2, v3, v4, v5, v6, v7, v8] (.int x :: st) M = den cf 119 101 [v0, v1, v2, v3, v4, v5, v6, kq v7, .int x] st M := den_st (k := 8) (v := .int x) l_119_99 rfl
theorem l_119_101 : look (tab 119) 101 = some (.iload 8, 2, [], uu) := by decide +kernel
theorem e_119_101 : den cf 119 101 [v0, v1, v2, v3, v4, v5, v6, v7, .int x] st M = den cf 119 103 [v0, v1, v2, v3, v4, v5, v6, v7, .int x] (.int x :: st) M := den_go l_119_101 rfl
theorem l_119_103 : look (tab 119) 103 = some (.bipush 6, 2, [], .int (zI 6)) := by decide +kernel
theorem e_119_103 : den cf 119 103 L st M = den cf 119 105 L (.int (zI 6) :: st) M := den_go l_119_103 rfl
theorem l_119_105 : look (tab 119) 105 = some (.if_icmp .ge 45, 3, [150], uu) := by decide +kernel
theorem e_119_105 : den cf 119 105 L (.int y :: .int x :: st) M = if x < y then den cf 119 108 L st M else den cf 119 150 L st M := den_ic_ge l_119_105
theorem l_119_108 : look (tab 119) 108 = some (.aload_n 0, 1, [], uu) := by decide +kernel
theorem e_119_108 : den cf 119 108 [.ref a, v1, v2, v3, v4, v5, v6, v7, v8] st M = den cf 119 109 [.ref a, v1, v2, v3, v4, v5, v6, v7, v8] (.ref a :: st) M := den_go l_119_108 rfl
theorem l_119_109 : look (tab 119) 109 = some (.getfield 16, 3, [5, 1, 17], uu) := by decide +kernel
theorem e_119_109 : den cf 119 109 L (.ref a :: st) M = oK (gfA (M.2.2 a) 5 1) (fun v => den cf 119 112 L (v :: st) M) := den_gf l_119_109
theorem l_119_112 : look (tab 119) 112 = some (.aload_n 0, 1, [], uu) := by decide +kernel
theorem e_119_112 : den cf 119 112 [.ref a, v1, v2, v3, v4, v5, v6, v7, v8] st M = den cf 119 113 [.ref a, v1, v2, v3, v4, v5, v6, v7, v8] (.ref a :: st) M := den_go l_119_112 rfl
theorem l_119_113 : look (tab 119) 113 = some (.getfield 10, 3, [5, 0, 16], uu) := by decide +kernel
theorem e_119_113 : den cf 119 113 L (.ref a :: st) M = oK (gfA (M.2.2 a) 5 0) (fun v => den cf 119 116 L (v :: st) M) := den_gf l_119_113
theorem l_119_116 : look (tab 119) 116 = some (.invokevirtual 174, 3, [2, 26, 2, 428, 429, 430, 15], uu) := by decide +kernel
theorem e_119_116 : den cf 119 116 L (w1 :: .ref a :: st) M = if rcv M 2 [.ref a, w1] = true ∧ st.length ≤ 4 then rK (cf 26 [.ref a, w1] M) (fun v M' => den cf 119 119 L (pR v st) M') else none := den_iv [w1] l_119_116 rfl
theorem l_119_119 : look (tab 119) 119 = some (.aload_n 0, 1, [], uu) := by decide +kernel
theorem e_119_119 : den cf 119 119 [.ref a, v1, v2, v3, v4, v5, v6, v7, v8] st M = den cf 119 120 [.ref a, v1, v2, v3, v4, v5, v6, v7, v8] (.ref a :: st) M := den_go l_119_119 rfl
theorem l_119_120 : look (tab 119) 120 = some (.getfield 16, 3, [5, 1, 17], uu) := by decide +kernel
theorem e_119_120 : den cf 119 120 L (.ref a :: st) M = oK (gfA (M.2.2 a) 5 1) (fun v => den cf 119 123 L (v :: st) M) := den_gf l_119_120
theorem l_119_123 : look (tab 119) 123 = some (.iload_n 3, 1, [], uu) := by decide +kernel
theorem e_119_123 : den cf 119 123 [v0, v1, v2, .int x, v4, v5, v6, v7, v8] st M = den cf 119 124 [v0, v1, v2, .int x, v4, v5, v6, v7, v8] (.int x :: st) M := den_go l_119_123 rfl
theorem l_119_124 : look (tab 119) 124 = some (.iload 8, 2, [], uu) := by decide +kernel
theorem e_119_124 : den cf 119 124 [v0, v1, v2, v3, v4, v5, v6, v7, .int x] st M = den cf 119 126 [v0, v1, v2, v3, v4, v5, v6, v7, .int x] (.int x :: st) M := den_go l_119_124 rfl
theorem l_119_126 : look (tab 119) 126 = some (.aload 4, 2, [], uu) := by decide +kernel
theorem e_119_126 : den cf 119 126 [v0, v1, v2, v3, v4, v5, v6, v7, v8] st M = if isRf v4 = true then den cf 119 128 [v0, v1, v2, v3, v4, v5, v6, v7, v8] (v4 :: st) M else none := den_g l_119_126 rfl
theorem l_119_128 : look (tab 119) 128 = some (.iload_n 2, 1, [], uu) := by decide +kernel
theorem e_119_128 : den cf 119 128 [v0, v1, .int x, v3, v4, v5, v6, v7, v8] st M = den cf 119 129 [v0, v1, .int x, v3, v4, v5, v6, v7, v8] (.int x :: st) M := den_go l_119_128 rfl
theorem l_119_129 : look (tab 119) 129 = some (.invokevirtual 289, 3, [2, 44, 5, 1064, 1065, 1066, 15], uu) := by decide +kernel
theorem e_119_129 : den cf 119 129 L (w4 :: w3 :: w2 :: w1 :: .ref a :: st) M = if rcv M 2 [.ref a, w1, w2, w3, w4] = true ∧ st.length ≤ 4 then rK (cf 44 [.ref a, w1, w2, w3, w4] M) (fun v M' => den cf 119 132 L (pR v st) M') else none := den_iv [w1, w2, w3, w4] l_119_129 rfl
theorem l_119_132 : look (tab 119) 132 = some (.ifCond .eq 12, 3, [144], uu) := by decide +kernel
theorem e_119_132 : den cf 119 132 L (.int x :: st) M = if x = zI 0 then den cf 119 144 L st M else den cf 119 135 L st M := den_if_eq l_119_132
theorem l_119_135 : look (tab 119) 135 = some (.iload 7, 2, [], uu) := by decide +kernel
theorem e_119_135 : den cf 119 135 [v0, v1, v2, v3, v4, v5, v6, .int x, v8] st M = den cf 119 137 [v0, v1, v2, v3, v4, v5, v6, .int x, v8] (.int x :: st) M := den_go l_119_135 rfl
theorem l_119_137 : look (tab 119) 137 = some (.iconst 1, 1, [], .int (zI 1)) := by decide +kernel
theorem e_119_137 : den cf 119 137 L st M = den cf 119 138 L (.int (zI 1) :: st) M := den_go l_119_137 rfl
theorem l_119_138 : look (tab 119) 138 = some (.iload 8, 2, [], uu) := by decide +kernel
theorem e_119_138 : den cf 119 138 [v0, v1, v2, v3, v4, v5, v6, v7, .int x] st M = den cf 119 140 [v0, v1, v2, v3, v4, v5, v6, v7, .int x] (.int x :: st) M := den_go l_119_138 rfl
theorem l_119_140 : look (tab 119) 140 = some (.ishl, 1, [], uu) := by decide +kernel
theorem e_119_140 : den cf 119 140 L (.int y :: .int x :: st) M = den cf 119 141 L (.int (x <<< (y &&& 31)) :: st) M := den_go l_119_140 rfl
theorem l_119_141 : look (tab 119) 141 = some (.ior, 1, [], uu) := by decide +kernel
theorem e_119_141 : den cf 119 141 L (.int y :: .int x :: st) M = den cf 119 142 L (.int (x ||| y) :: st) M := den_go l_119_141 rfl
theorem l_119_142 : look (tab 119) 142 = some (.istore 7, 2, [], uu) := by decide +kernel
theorem e_119_142 : den cf 119 142 [v0, v1, v2, v3, v4, v5, v6, v7, v8] (.int x :: st) M = den cf 119 144 [v0, v1, v2, v3, v4, v5, kq v6, .int x, v8] st M := den_st (k := 7) (v := .int x) l_119_142 rfl
theorem l_119_144 : look (tab 119) 144 = some (.iinc 8 1, 3, [], .int (zI 1)) := by decide +kernel
theorem e_119_144 : den cf 119 144 [v0, v1, v2, v3, v4, v5, v6, v7, .int x] st M = den cf 119 147 [v0, v1, v2, v3, v4, v5, v6, kq v7, .int (x + (zI 1))] st M := den_st (k := 8) (v := .int (x + (zI 1))) l_119_144 rfl
theorem l_119_147 : look (tab 119) 147 = some (.goto (-46), 3, [101], uu) := by decide +kernel
theorem e_119_147 : den cf 119 147 L st M = den cf 119 101 L st M := den_go l_119_147 rfl
theorem l_119_150 : look (tab 119) 150 = some (.iload 7, 2, [], uu) := by decide +kernel
theorem e_119_150 : den cf 119 150 [v0, v1, v2, v3, v4, v5, v6, .int x, v8] st M = den cf 119 152 [v0, v1, v2, v3, v4, v5, v6, .int x, v8] (.int x :: st) M := den_go l_119_150 rfl
theorem l_119_152 : look (tab 119) 152 = some (.ireturn, 1, [0], uu) := by decide +kernel
theorem e_119_152 : den cf 119 152 L [.int x] M = some (some (.int x), M) := den_e0 l_119_152
/-! yX5_judge -/
theorem l_120_0 : look (tab 120) 0 = some (.aload_n 0, 1, [], uu) := by decide +kernel
theorem e_120_0 : den cf 120 0 [.ref a, v1, v2, v3] st M = den cf 120 1 [.ref a, v1, v2, v3] (.ref a :: st) M := den_go l_120_0 rfl
theorem l_120_1 : look (tab 120) 1 = some (.iload_n 1, 1, [], uu) := by decide +kernel
theorem e_120_1 : den cf 120 1 [v0, .int x, v2, v3] st M = den cf 120 2 [v0, .int x, v2, v3] (.int x :: st) M := den_go l_120_1 rfl
theorem l_120_2 : look (tab 120) 2 = some (.iload_n 2, 1, [], uu) := by decide +kernel
theorem e_120_2 : den cf 120 2 [v0, v1, .int x, v3] st M = den cf 120 3 [v0, v1, .int x, v3] (.int x :: st) M := den_go l_120_2 rfl
theorem l_120_3 : look (tab 120) 3 = some (.invokevirtual 293, 3, [5, 133, 3, 1090, 1091, 1092, 2], uu) := by decide +kernel
theorem e_120_3 : den cf 120 3 L (w2 :: w1 :: .ref a :: st) M = if rcv M 5 [.ref a, w1, w2] = true ∧ st.length ≤ 4 then rK (cf 133 [.ref a, w1, w2] M) (fun v M' => den cf 120 6 L (pR v st) M') else none := den_iv [w1, w2] l_120_3 rfl
theorem l_120_6 : look (tab 120) 6 = some (.istore_n 3, 1, [], uu) := by decide +kernel
theorem e_120_6 : den cf 120 6 [v0, v1, v2, v3] (.int x :: st) M = den cf 120 7 [v0, v1, kq v2, .int x] st M := den_st (k := 3) (v := .int x) l_120_6 rfl
theorem l_120_7 : look (tab 120) 7 = some (.iload_n 3, 1, [], uu) := by decide +kernel
theorem e_120_7 : den cf 120 7 [v0, v1, v2, .int x] st M = den cf 120 8 [v0, v1, v2, .int x] (.int x :: st) M := den_go l_120_7 rfl
theorem l_120_8 : look (tab 120) 8 = some (.ifCond .eq 11, 3, [19], uu) := by decide +kernel
theorem e_120_8 : den cf 120 8 L (.int x :: st) M = if x = zI 0 then den cf 120 19 L st M else den cf 120 11 L st M := den_if_eq l_120_8
theorem l_120_11 : look (tab 120) 11 = some (.aload_n 0, 1, [], uu) := by decide +kernel
theorem e_120_11 : den cf 120 11 [.ref a, v1, v2, v3] st M = den cf 120 12 [.ref a, v1, v2, v3] (.ref a :: st) M := den_go l_120_11 rfl
theorem l_120_12 : look (tab 120) 12 = some (.iload_n 3, 1, [], uu) := by decide +kernel
theorem e_120_12 : den cf 120 12 [v0, v1, v2, .int x] st M = den cf 120 13 [v0, v1, v2, .int x] (.int x :: st) M := den_go l_120_12 rfl
theorem l_120_13 : look (tab 120) 13 = some (.invokevirtual 59, 3, [5, 128, 2, 113, 114, 115, 2], uu) := by decide +kernel
theorem e_120_13 : den cf 120 13 L (w1 :: .ref a :: st) M = if rcv M 5 [.ref a, w1] = true ∧ st.length ≤ 4 then rK (cf 128 [.ref a, w1] M) (fun v M' => den cf 120 16 L (pR v st) M') else none := den_iv [w1] l_120_13 rfl
theorem l_120_16 : look (tab 120) 16 = some (.goto 9, 3, [25], uu) := by decide +kernel
theorem e_120_16 : den cf 120 16 L st M = den cf 120 25 L st M := den_go l_120_16 rfl
theorem l_120_19 : look (tab 120) 19 = some (.aload_n 0, 1, [], uu) := by decide +kernel
theorem e_120_19 : den cf 120 19 [.ref a, v1, v2, v3] st M = den cf 120 20 [.ref a, v1, v2, v3] (.ref a :: st) M := den_go l_120_19 rfl
theorem l_120_20 : look (tab 120) 20 = some (.iload_n 1, 1, [], uu) := by decide +kernel
theorem e_120_20 : den cf 120 20 [v0, .int x, v2, v3] st M = den cf 120 21 [v0, .int x, v2, v3] (.int x :: st) M := den_go l_120_20 rfl
theorem l_120_21 : look (tab 120) 21 = some (.iload_n 2, 1, [], uu) := by decide +kernel
theorem e_120_21 : den cf 120 21 [v0, v1, .int x, v3] st M = den cf 120 22 [v0, v1, .int x, v3] (.int x :: st) M := den_go l_120_21 rfl
theorem l_120_22 : look (tab 120) 22 = some (.invokevirtual 297, 3, [5, 134, 3, 1094, 1095, 1096, 2], uu) := by decide +kernel
theorem e_120_22 : den cf 120 22 L (w2 :: w1 :: .ref a :: st) M = if rcv M 5 [.ref a, w1, w2] = true ∧ st.length ≤ 4 then rK (cf 134 [.ref a, w1, w2] M) (fun v M' => den cf 120 25 L (pR v st) M') else none := den_iv [w1, w2] l_120_22 rfl
theorem l_120_25 : look (tab 120) 25 = some (.ireturn, 1, [0], uu) := by decide +kernel
theorem e_120_25 : den cf 120 25 L [.int x] M = some (some (.int x), M) := den_e0 l_120_25
/-! yX5_behind -/
theorem l_121_0 : look (tab 121) 0 = some (.iload_n 3, 1, [], uu) := by decide +kernel
theorem e_121_0 : den cf 121 0 [v0, v1, v2, .int x, v4] st M = den cf 121 1 [v0, v1, v2, .int x, v4] (.int x :: st) M := den_go l_121_0 rfl
theorem l_121_1 : look (tab 121) 1 = some (.iconst 2, 1, [], .int (zI 2)) := by decide +kernel
theorem e_121_1 : den cf 121 1 L st M = den cf 121 2 L (.int (zI 2) :: st) M := den_go l_121_1 rfl
theorem l_121_2 : look (tab 121) 2 = some (.invokestatic 55, 3, [1, 129, 2, 110, 111, 2], uu) := by decide +kernel
theorem e_121_2 : den cf 121 2 L (w2 :: w1 :: st) M = if st.length ≤ 4 then rK (cf 129 [w1, w2] M) (fun v M' => den cf 121 5 L (pR v st) M') else none := den_ist [w1, w2] l_121_2 rfl
theorem l_121_5 : look (tab 121) 5 = some (.ifCond .ne 10, 3, [15], uu) := by decide +kernel
theorem e_121_5 : den cf 121 5 L (.int x :: st) M = if x = zI 0 then den cf 121 8 L st M else den cf 121 15 L st M := den_if_ne l_121_5
theorem l_121_8 : look (tab 121) 8 = some (.aload_n 0, 1, [], uu) := by decide +kernel
theorem e_121_8 : den cf 121 8 [.ref a, v1, v2, v3, v4] st M = den cf 121 9 [.ref a, v1, v2, v3, v4] (.ref a :: st) M := den_go l_121_8 rfl
theorem l_121_9 : look (tab 121) 9 = some (.bipush (-2), 2, [], .int (zI (-2))) := by decide +kernel
theorem e_121_9 : den cf 121 9 L st M = den cf 121 11 L (.int (zI (-2)) :: st) M := den_go l_121_9 rfl
theorem l_121_11 : look (tab 121) 11 = some (.invokevirtual 59, 3, [5, 128, 2, 113, 114, 115, 2], uu) := by decide +kernel
theorem e_121_11 : den cf 121 11 L (w1 :: .ref a :: st) M = if rcv M 5 [.ref a, w1] = true ∧ st.length ≤ 4 then rK (cf 128 [.ref a, w1] M) (fun v M' => den cf 121 14 L (pR v st) M') else none := den_iv [w1] l_121_11 rfl
theorem l_121_14 : look (tab 121) 14 = some (.ireturn, 1, [0], uu) := by decide +kernel
theorem e_121_14 : den cf 121 14 L [.int x] M = some (some (.int x), M) := den_e0 l_121_14
theorem l_121_15 : look (tab 121) 15 = some (.aload_n 0, 1, [], uu) := by decide +kernel
theorem e_121_15 : den cf 121 15 [.ref a, v1, v2, v3, v4] st M = den cf 121 16 [.ref a, v1, v2, v3, v4] (.ref a :: st) M := den_go l_121_15 rfl
theorem l_121_16 : look (tab 121) 16 = some (.iload_n 1, 1, [], uu) := by decide +kernel
theorem e_121_16 : den cf 121 16 [v0, .int x, v2, v3, v4] st M = den cf 121 17 [v0, .int x, v2, v3, v4] (.int x :: st) M := den_go l_121_16 rfl
theorem l_121_17 : look (tab 121) 17 = some (.iload_n 2, 1, [], uu) := by decide +kernel
theorem e_121_17 : den cf 121 17 [v0, v1, .int x, v3, v4] st M = den cf 121 18 [v0, v1, .int x, v3, v4] (.int x :: st) M := den_go l_121_17 rfl
theorem l_121_18 : look (tab 121) 18 = some (.invokevirtual 293, 3, [5, 133, 3, 1090, 1091, 1092, 2], uu) := by decide +kernel
theorem e_121_18 : den cf 121 18 L (w2 :: w1 :: .ref a :: st) M = if rcv M 5 [.ref a, w1, w2] = true ∧ st.length ≤ 4 then rK (cf 133 [.ref a, w1, w2] M) (fun v M' => den cf 121 21 L (pR v st) M') else none := den_iv [w1, w2] l_121_18 rfl
theorem l_121_21 : look (tab 121) 21 = some (.istore 4, 2, [], uu) := by decide +kernel
theorem e_121_21 : den cf 121 21 [v0, v1, v2, v3, v4] (.int x :: st) M = den cf 121 23 [v0, v1, v2, kq v3, .int x] st M := den_st (k := 4) (v := .int x) l_121_21 rfl
theorem l_121_23 : look (tab 121) 23 = some (.iload 4, 2, [], uu) := by decide +kernel
theorem e_121_23 : den cf 121 23 [v0, v1, v2, v3, .int x] st M = den cf 121 25 [v0, v1, v2, v3, .int x] (.int x :: st) M := den_go l_121_23 rfl
theorem l_121_25 : look (tab 121) 25 = some (.ifCond .eq 10, 3, [35], uu) := by decide +kernel
theorem e_121_25 : den cf 121 25 L (.int x :: st) M = if x = zI 0 then den cf 121 35 L st M else den cf 121 28 L st M := den_if_eq l_121_25
theorem l_121_28 : look (tab 121) 28 = some (.aload_n 0, 1, [], uu) := by decide +kernel
theorem e_121_28 : den cf 121 28 [.ref a, v1, v2, v3, v4] st M = den cf 121 29 [.ref a, v1, v2, v3, v4] (.ref a :: st) M := den_go l_121_28 rfl
theorem l_121_29 : look (tab 121) 29 = some (.iload 4, 2, [], uu) := by decide +kernel
theorem e_121_29 : den cf 121 29 [v0, v1, v2, v3, .int x] st M = den cf 121 31 [v0, v1, v2, v3, .int x] (.int x :: st) M := den_go l_121_29 rfl
theorem l_121_31 : look (tab 121) 31 = some (.invokevirtual 59, 3, [5, 128, 2, 113, 114, 115, 2], uu) := by decide +kernel
theorem e_121_31 : den cf 121 31 L (w1 :: .ref a :: st) M = if rcv M 5 [.ref a, w1] = true ∧ st.length ≤ 4 then rK (cf 128 [.ref a, w1] M) (fun v M' => den cf 121 34 L (pR v st) M') else none := den_iv [w1] l_121_31 rfl
theorem l_121_34 : look (tab 121) 34 = some (.ireturn, 1, [0], uu) := by decide +kernel
theorem e_121_34 : den cf 121 34 L [.int x] M = some (some (.int x), M) := den_e0 l_121_34
theorem l_121_35 : look (tab 121) 35 = some (.aload_n 0, 1, [], uu) := by decide +kernel
theorem e_121_35 : den cf 121 35 [.ref a, v1, v2, v3, v4] st M = den cf 121 36 [.ref a, v1, v2, v3, v4] (.ref a :: st) M := den_go l_121_35 rfl
theorem l_121_36 : look (tab 121) 36 = some (.iload_n 1, 1, [], uu) := by decide +kernel
theorem e_121_36 : den cf 121 36 [v0, .int x, v2, v3, v4] st M = den cf 121 37 [v0, .int x, v2, v3, v4] (.int x :: st) M := den_go l_121_36 rfl
theorem l_121_37 : look (tab 121) 37 = some (.iload_n 2, 1, [], uu) := by decide +kernel
theorem e_121_37 : den cf 121 37 [v0, v1, .int x, v3, v4] st M = den cf 121 38 [v0, v1, .int x, v3, v4] (.int x :: st) M := den_go l_121_37 rfl
theorem l_121_38 : look (tab 121) 38 = some (.invokevirtual 297, 3, [5, 134, 3, 1094, 1095, 1096, 2], uu) := by decide +kernel
theorem e_121_38 : den cf 121 38 L (w2 :: w1 :: .ref a :: st) M = if rcv M 5 [.ref a, w1, w2] = true ∧ st.length ≤ 4 then rK (cf 134 [.ref a, w1, w2] M) (fun v M' => den cf 121 41 L (pR v st) M') else none := den_iv [w1, w2] l_121_38 rfl
theorem l_121_41 : look (tab 121) 41 = some (.iconst (-1), 1, [], .int (zI (-1))) := by decide +kernel
theorem e_121_41 : den cf 121 41 L st M = den cf 121 42 L (.int (zI (-1)) :: st) M := den_go l_121_41 rfl
theorem l_121_42 : look (tab 121) 42 = some (.if_icmp .eq 10, 3, [52], uu) := by decide +kernel
theorem e_121_42 : den cf 121 42 L (.int y :: .int x :: st) M = if x = y then den cf 121 52 L st M else den cf 121 45 L st M := den_ic_eq l_121_42
theorem l_121_45 : look (tab 121) 45 = some (.aload_n 0, 1, [], uu) := by decide +kernel
theorem e_121_45 : den cf 121 45 [.ref a, v1, v2, v3, v4] st M = den cf 121 46 [.ref a, v1, v2, v3, v4] (.ref a :: st) M := den_go l_121_45 rfl
theorem l_121_46 : look (tab 121) 46 = some (.bipush (-5), 2, [], .int (zI (-5))) := by decide +kernel
theorem e_121_46 : den cf 121 46 L st M = den cf 121 48 L (.int (zI (-5)) :: st) M := den_go l_121_46 rfl
theorem l_121_48 : look (tab 121) 48 = some (.invokevirtual 59, 3, [5, 128, 2, 113, 114, 115, 2], uu) := by decide +kernel
theorem e_121_48 : den cf 121 48 L (w1 :: .ref a :: st) M = if rcv M 5 [.ref a, w1] = true ∧ st.length ≤ 4 then rK (cf 128 [.ref a, w1] M) (fun v M' => den cf 121 51 L (pR v st) M') else none := den_iv [w1] l_121_48 rfl
theorem l_121_51 : look (tab 121) 51 = some (.ireturn, 1, [0], uu) := by decide +kernel
theorem e_121_51 : den cf 121 51 L [.int x] M = some (some (.int x), M) := den_e0 l_121_51
theorem l_121_52 : look (tab 121) 52 = some (.iload_n 3, 1, [], uu) := by decide +kernel
theorem e_121_52 : den cf 121 52 [v0, v1, v2, .int x, v4] st M = den cf 121 53 [v0, v1, v2, .int x, v4] (.int x :: st) M := den_go l_121_52 rfl
theorem l_121_53 : look (tab 121) 53 = some (.lookupswitch 43 #[(0, 27), (1, 35)], 27, [80, 88, 96], uu) := by decide +kernel
theorem e_121_53 : den cf 121 53 L (.int x :: st) M = oK (nx_lsw [(0, 27), (1, 35)] [80, 88, 96] x.toInt) (fun t => den cf 121 t L st M) := den_ls l_121_53
theorem l_121_80 : look (tab 121) 80 = some (.aload_n 0, 1, [], uu) := by decide +kernel
theorem e_121_80 : den cf 121 80 [.ref a, v1, v2, v3, v4] st M = den cf 121 81 [.ref a, v1, v2, v3, v4] (.ref a :: st) M := den_go l_121_80 rfl
theorem l_121_81 : look (tab 121) 81 = some (.getfield 16, 3, [5, 1, 17], uu) := by decide +kernel
theorem e_121_81 : den cf 121 81 L (.ref a :: st) M = oK (gfA (M.2.2 a) 5 1) (fun v => den cf 121 84 L (v :: st) M) := den_gf l_121_81
theorem l_121_84 : look (tab 121) 84 = some (.invokevirtual 300, 3, [2, 42, 1, 1124, 1125, 1126, 15], uu) := by decide +kernel
theorem e_121_84 : den cf 121 84 L (.ref a :: st) M = if rcv M 2 [.ref a] = true ∧ st.length ≤ 4 then rK (cf 42 [.ref a] M) (fun v M' => den cf 121 87 L (pR v st) M') else none := den_iv [] l_121_84 rfl
theorem l_121_87 : look (tab 121) 87 = some (.ireturn, 1, [0], uu) := by decide +kernel
theorem e_121_87 : den cf 121 87 L [.int x] M = some (some (.int x), M) := den_e0 l_121_87
theorem l_121_88 : look (tab 121) 88 = some (.aload_n 0, 1, [], uu) := by decide +kernel
theorem e_121_88 : den cf 121 88 [.ref a, v1, v2, v3, v4] st M = den cf 121 89 [.ref a, v1, v2, v3, v4] (.ref a :: st) M := den_go l_121_88 rfl
theorem l_121_89 : look (tab 121) 89 = some (.getfield 16, 3, [5, 1, 17], uu) := by decide +kernel
theorem e_121_89 : den cf 121 89 L (.ref a :: st) M = oK (gfA (M.2.2 a) 5 1) (fun v => den cf 121 92 L (v :: st) M) := den_gf l_121_89
theorem l_121_92 : look (tab 121) 92 = some (.invokevirtual 303, 3, [2, 43, 1, 1128, 1129, 1130, 15], uu) := by decide +kernel
theorem e_121_92 : den cf 121 92 L (.ref a :: st) M = if rcv M 2 [.ref a] = true ∧ st.length ≤ 4 then rK (cf 43 [.ref a] M) (fun v M' => den cf 121 95 L (pR v st) M') else none := den_iv [] l_121_92 rfl
theorem l_121_95 : look (tab 121) 95 = some (.ireturn, 1, [0], uu) := by decide +kernel
theorem e_121_95 : den cf 121 95 L [.int x] M = some (some (.int x), M) := den_e0 l_121_95
theorem l_121_96 : look (tab 121) 96 = some (.aload_n 0, 1, [], uu) := by decide +kernel
theorem e_121_96 : den cf 121 96 [.ref a, v1, v2, v3, v4] st M = den cf 121 97 [.ref a, v1, v2, v3, v4] (.ref a :: st) M := den_go l_121_96 rfl
theorem l_121_97 : look (tab 121) 97 = some (.getfield 16, 3, [5, 1, 17], uu) := by decide +kernel
theorem e_121_97 : den cf 121 97 L (.ref a :: st) M = oK (gfA (M.2.2 a) 5 1) (fun v => den cf 121 100 L (v :: st) M) := den_gf l_121_97
theorem l_121_100 : look (tab 121) 100 = some (.invokevirtual 269, 3, [2, 41, 1, 868, 869, 870, 15], uu) := by decide +kernel
theorem e_121_100 : den cf 121 100 L (.ref a :: st) M = if rcv M 2 [.ref a] = true ∧ st.length ≤ 4 then rK (cf 41 [.ref a] M) (fun v M' => den cf 121 103 L (pR v st) M') else none := den_iv [] l_121_100 rfl
theorem l_121_103 : look (tab 121) 103 = some (.ireturn, 1, [0], uu) := by decide +kernel
theorem e_121_103 : den cf 121 103 L [.int x] M = some (some (.int x), M) := den_e0 l_121_103
/-! yX5_done -/
theorem l_122_0 : look (tab 122) 0 = some (.aload_n 0, 1, [], uu) := by decide +kernel
theorem e_122_0 : den cf 122 0 [.ref a, v1, v2, v3] st M = den cf 122 1 [.ref a, v1, v2, v3] (.ref a :: st) M := den_go l_122_0 rfl
theorem l_122_1 : look (tab 122) 1 = some (.iload_n 1, 1, [], uu) := by decide +kernel
theorem e_122_1 : den cf 122 1 [v0, .int x, v2, v3] st M = den cf 122 2 [v0, .int x, v2, v3] (.int x :: st) M := den_go l_122_1 rfl
theorem l_122_2 : look (tab 122) 2 = some (.iload_n 2, 1, [], uu) := by decide +kernel
theorem e_122_2 : den cf 122 2 [v0, v1, .int x, v3] st M = den cf 122 3 [v0, v1, .int x, v3] (.int x :: st) M := den_go l_122_2 rfl
theorem l_122_3 : look (tab 122) 3 = some (.invokevirtual 293, 3, [5, 133, 3, 1090, 1091, 1092, 2], uu) := by decide +kernel
theorem e_122_3 : den cf 122 3 L (w2 :: w1 :: .ref a :: st) M = if rcv M 5 [.ref a, w1, w2] = true ∧ st.length ≤ 4 then rK (cf 133 [.ref a, w1, w2] M) (fun v M' => den cf 122 6 L (pR v st) M') else none := den_iv [w1, w2] l_122_3 rfl
theorem l_122_6 : look (tab 122) 6 = some (.istore_n 3, 1, [], uu) := by decide +kernel
theorem e_122_6 : den cf 122 6 [v0, v1, v2, v3] (.int x :: st) M = den cf 122 7 [v0, v1, kq v2, .int x] st M := den_st (k := 3) (v := .int x) l_122_6 rfl
theorem l_122_7 : look (tab 122) 7 = some (.iload_n 3, 1, [], uu) := by decide +kernel
theorem e_122_7 : den cf 122 7 [v0, v1, v2, .int x] st M = den cf 122 8 [v0, v1, v2, .int x] (.int x :: st) M := den_go l_122_7 rfl
theorem l_122_8 : look (tab 122) 8 = some (.ifCond .eq 9, 3, [17], uu) := by decide +kernel
theorem e_122_8 : den cf 122 8 L (.int x :: st) M = if x = zI 0 then den cf 122 17 L st M else den cf 122 11 L st M := den_if_eq l_122_8
theorem l_122_11 : look (tab 122) 11 = some (.aload_n 0, 1, [], uu) := by decide +kernel
theorem e_122_11 : den cf 122 11 [.ref a, v1, v2, v3] st M = den cf 122 12 [.ref a, v1, v2, v3] (.ref a :: st) M := den_go l_122_11 rfl
theorem l_122_12 : look (tab 122) 12 = some (.iload_n 3, 1, [], uu) := by decide +kernel
theorem e_122_12 : den cf 122 12 [v0, v1, v2, .int x] st M = den cf 122 13 [v0, v1, v2, .int x] (.int x :: st) M := den_go l_122_12 rfl
theorem l_122_13 : look (tab 122) 13 = some (.invokevirtual 59, 3, [5, 128, 2, 113, 114, 115, 2], uu) := by decide +kernel
theorem e_122_13 : den cf 122 13 L (w1 :: .ref a :: st) M = if rcv M 5 [.ref a, w1] = true ∧ st.length ≤ 4 then rK (cf 128 [.ref a, w1] M) (fun v M' => den cf 122 16 L (pR v st) M') else none := den_iv [w1] l_122_13 rfl
theorem l_122_16 : look (tab 122) 16 = some (.ireturn, 1, [0], uu) := by decide +kernel
theorem e_122_16 : den cf 122 16 L [.int x] M = some (some (.int x), M) := den_e0 l_122_16
theorem l_122_17 : look (tab 122) 17 = some (.aload_n 0, 1, [], uu) := by decide +kernel
theorem e_122_17 : den cf 122 17 [.ref a, v1, v2, v3] st M = den cf 122 18 [.ref a, v1, v2, v3] (.ref a :: st) M := den_go l_122_17 rfl
theorem l_122_18 : look (tab 122) 18 = some (.iload_n 1, 1, [], uu) := by decide +kernel
theorem e_122_18 : den cf 122 18 [v0, .int x, v2, v3] st M = den cf 122 19 [v0, .int x, v2, v3] (.int x :: st) M := den_go l_122_18 rfl
theorem l_122_19 : look (tab 122) 19 = some (.iload_n 2, 1, [], uu) := by decide +kernel
theorem e_122_19 : den cf 122 19 [v0, v1, .int x, v3] st M = den cf 122 20 [v0, v1, .int x, v3] (.int x :: st) M := den_go l_122_19 rfl
theorem l_122_20 : look (tab 122) 20 = some (.invokevirtual 297, 3, [5, 134, 3, 1094, 1095, 1096, 2], uu) := by decide +kernel
theorem e_122_20 : den cf 122 20 L (w2 :: w1 :: .ref a :: st) M = if rcv M 5 [.ref a, w1, w2] = true ∧ st.length ≤ 4 then rK (cf 134 [.ref a, w1, w2] M) (fun v M' => den cf 122 23 L (pR v st) M') else none := den_iv [w1, w2] l_122_20 rfl
theorem l_122_23 : look (tab 122) 23 = some (.iconst (-1), 1, [], .int (zI (-1))) := by decide +kernel
theorem e_122_23 : den cf 122 23 L st M = den cf 122 24 L (.int (zI (-1)) :: st) M := den_go l_122_23 rfl
theorem l_122_24 : look (tab 122) 24 = some (.if_icmp .eq 10, 3, [34], uu) := by decide +kernel
theorem e_122_24 : den cf 122 24 L (.int y :: .int x :: st) M = if x = y then den cf 122 34 L st M else den cf 122 27 L st M := den_ic_eq l_122_24
theorem l_122_27 : look (tab 122) 27 = some (.aload_n 0, 1, [], uu) := by decide +kernel
theorem e_122_27 : den cf 122 27 [.ref a, v1, v2, v3] st M = den cf 122 28 [.ref a, v1, v2, v3] (.ref a :: st) M := den_go l_122_27 rfl
theorem l_122_28 : look (tab 122) 28 = some (.bipush (-5), 2, [], .int (zI (-5))) := by decide +kernel
theorem e_122_28 : den cf 122 28 L st M = den cf 122 30 L (.int (zI (-5)) :: st) M := den_go l_122_28 rfl
theorem l_122_30 : look (tab 122) 30 = some (.invokevirtual 59, 3, [5, 128, 2, 113, 114, 115, 2], uu) := by decide +kernel
theorem e_122_30 : den cf 122 30 L (w1 :: .ref a :: st) M = if rcv M 5 [.ref a, w1] = true ∧ st.length ≤ 4 then rK (cf 128 [.ref a, w1] M) (fun v M' => den cf 122 33 L (pR v st) M') else none := den_iv [w1] l_122_30 rfl
theorem l_122_33 : look (tab 122) 33 = some (.ireturn, 1, [0], uu) := by decide +kernel
theorem e_122_33 : den cf 122 33 L [.int x] M = some (some (.int x), M) := den_e0 l_122_33
theorem l_122_34 : look (tab 122) 34 = some (.aload_n 0, 1, [], uu) := by decide +kernel
theorem e_122_34 : den cf 122 34 [.ref a, v1, v2, v3] st M = den cf 122 35 [.ref a, v1, v2, v3] (.ref a :: st) M := den_go l_122_34 rfl
theorem l_122_35 : look (tab 122) 35 = some (.getfield 10, 3, [5, 0, 16], uu) := by decide +kernel
theorem e_122_35 : den cf 122 35 L (.ref a :: st) M = oK (gfA (M.2.2 a) 5 0) (fun v => den cf 122 38 L (v :: st) M) := den_gf l_122_35
theorem l_122_38 : look (tab 122) 38 = some (.aload_n 0, 1, [], uu) := by decide +kernel
theorem e_122_38 : den cf 122 38 [.ref a, v1, v2, v3] st M = den cf 122 39 [.ref a, v1, v2, v3] (.ref a :: st) M := den_go l_122_38 rfl
theorem l_122_39 : look (tab 122) 39 = some (.getfield 16, 3, [5, 1, 17], uu) := by decide +kernel
theorem e_122_39 : den cf 122 39 L (.ref a :: st) M = oK (gfA (M.2.2 a) 5 1) (fun v => den cf 122 42 L (v :: st) M) := den_gf l_122_39
theorem l_122_42 : look (tab 122) 42 = some (.invokevirtual 174, 3, [2, 26, 2, 428, 429, 430, 15], uu) := by decide +kernel
theorem e_122_42 : den cf 122 42 L (w1 :: .ref a :: st) M = if rcv M 2 [.ref a, w1] = true ∧ st.length ≤ 4 then rK (cf 26 [.ref a, w1] M) (fun v M' => den cf 122 45 L (pR v st) M') else none := den_iv [w1] l_122_42 rfl
theorem l_122_45 : look (tab 122) 45 = some (.aload_n 0, 1, [], uu) := by decide +kernel
theorem e_122_45 : den cf 122 45 [.ref a, v1, v2, v3] st M = den cf 122 46 [.ref a, v1, v2, v3] (.ref a :: st) M := den_go l_122_45 rfl
theorem l_122_46 : look (tab 122) 46 = some (.getfield 10, 3, [5, 0, 16], uu) := by decide +kernel
theorem e_122_46 : den cf 122 46 L (.ref a :: st) M = oK (gfA (M.2.2 a) 5 0) (fun v => den cf 122 49 L (v :: st) M) := den_gf l_122_46
theorem l_122_49 : look (tab 122) 49 = some (.invokevirtual 300, 3, [2, 42, 1, 1124, 1125, 1126, 15], uu) := by decide +kernel
theorem e_122_49 : den cf 122 49 L (.ref a :: st) M = if rcv M 2 [.ref a] = true ∧ st.length ≤ 4 then rK (cf 42 [.ref a] M) (fun v M' => den cf 122 52 L (pR v st) M') else none := den_iv [] l_122_49 rfl
theorem l_122_52 : look (tab 122) 52 = some (.ireturn, 1, [0], uu) := by decide +kernel
theorem e_122_52 : den cf 122 52 L [.int x] M = some (some (.int x), M) := den_e0 l_122_52
