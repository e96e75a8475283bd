variable {cf : Nat → List Value → AM → Option AR} {L st : List Value} {M : AM} {x y : Int32} {p q : Int64} {a b : Nat} {v w : Value} {o : Option Nat} {v0 v1 v2 v3 v4 v5 v6 v7 v8 v9 v10 v11 v12 v13 v14 v15 v16 v17 v18 v19 v20 w1 w2 w3 w4 w5 w6 : Value}
/-! yX6_wish -/
theorem l_214_0 : look (tab 214) 0 = some (.aload_n 0, 1, [], uu) := by decide +kernel
theorem e_214_0 : den cf 214 0 [.ref a, v1, v2, v3, v4, v5, v6, v7, v8] st M = den cf 214 1 [.ref a, v1, v2, v3, v4, v5, v6, v7, v8] (.ref a :: st) M := den_go l_214_0 rfl
theorem l_214_1 : look (tab 214) 1 = some (.iload_n 1, 1, [], uu) := by decide +kernel
theorem e_214_1 : den cf 214 1 [v0, .int x, v2, v3, v4, v5, v6, v7, v8] st M = den cf 214 2 [v0, .int x, v2, v3, v4, v5, v6, v7, v8] (.int x :: st) M := den_go l_214_1 rfl
theorem l_214_2 : look (tab 214) 2 = some (.invokevirtual 247, 3, [6, 180, 2, 653, 654, 655, 5], uu) := by decide +kernel
theorem e_214_2 : den cf 214 2 L (w1 :: .ref a :: st) M = if rcv M 6 [.ref a, w1] = true ∧ st.length ≤ 4 then rK (cf 180 [.ref a, w1] M) (fun v M' => den cf 214 5 L (pR v st) M') else none := den_iv [w1] l_214_2 rfl
theorem l_214_5 : look (tab 214) 5 = some (.istore_n 2, 1, [], uu) := by decide +kernel
theorem e_214_5 : den cf 214 5 [v0, v1, v2, v3, v4, v5, v6, v7, v8] (.int x :: st) M = den cf 214 6 [v0, kq v1, .int x, v3, v4, v5, v6, v7, v8] st M := den_st (k := 2) (v := .int x) l_214_5 rfl
theorem l_214_6 : look (tab 214) 6 = some (.iload_n 2, 1, [], uu) := by decide +kernel
theorem e_214_6 : den cf 214 6 [v0, v1, .int x, v3, v4, v5, v6, v7, v8] st M = den cf 214 7 [v0, v1, .int x, v3, v4, v5, v6, v7, v8] (.int x :: st) M := den_go l_214_6 rfl
theorem l_214_7 : look (tab 214) 7 = some (.ifCond .eq 5, 3, [12], uu) := by decide +kernel
theorem e_214_7 : den cf 214 7 L (.int x :: st) M = if x = zI 0 then den cf 214 12 L st M else den cf 214 10 L st M := den_if_eq l_214_7
theorem l_214_10 : look (tab 214) 10 = some (.iload_n 2, 1, [], uu) := by decide +kernel
theorem e_214_10 : den cf 214 10 [v0, v1, .int x, v3, v4, v5, v6, v7, v8] st M = den cf 214 11 [v0, v1, .int x, v3, v4, v5, v6, v7, v8] (.int x :: st) M := den_go l_214_10 rfl
theorem l_214_11 : look (tab 214) 11 = some (.ireturn, 1, [0], uu) := by decide +kernel
theorem e_214_11 : den cf 214 11 L [.int x] M = some (some (.int x), M) := den_e0 l_214_11
theorem l_214_12 : look (tab 214) 12 = some (.aload_n 0, 1, [], uu) := by decide +kernel
theorem e_214_12 : den cf 214 12 [.ref a, v1, v2, v3, v4, v5, v6, v7, v8] st M = den cf 214 13 [.ref a, v1, v2, v3, v4, v5, v6, v7, v8] (.ref a :: st) M := den_go l_214_12 rfl
theorem l_214_13 : look (tab 214) 13 = some (.getfield 49, 3, [6, 14, 92], uu) := by decide +kernel
theorem e_214_13 : den cf 214 13 L (.ref a :: st) M = oK (gfA (M.2.2 a) 6 14) (fun v => den cf 214 16 L (v :: st) M) := den_gf l_214_13
theorem l_214_16 : look (tab 214) 16 = some (.iload_n 1, 1, [], uu) := by decide +kernel
theorem e_214_16 : den cf 214 16 [v0, .int x, v2, v3, v4, v5, v6, v7, v8] st M = den cf 214 17 [v0, .int x, v2, v3, v4, v5, v6, v7, v8] (.int x :: st) M := den_go l_214_16 rfl
theorem l_214_17 : look (tab 214) 17 = some (.iaload, 1, [], uu) := by decide +kernel
theorem e_214_17 : den cf 214 17 L (.int x :: .ref a :: st) M = oK (ldI (M.2.2 a) x) (fun v => den cf 214 18 L (v :: st) M) := den_al (g := ldI) l_214_17 rfl
theorem l_214_18 : look (tab 214) 18 = some (.istore_n 3, 1, [], uu) := by decide +kernel
theorem e_214_18 : den cf 214 18 [v0, v1, v2, v3, v4, v5, v6, v7, v8] (.int x :: st) M = den cf 214 19 [v0, v1, kq v2, .int x, v4, v5, v6, v7, v8] st M := den_st (k := 3) (v := .int x) l_214_18 rfl
theorem l_214_19 : look (tab 214) 19 = some (.aload_n 0, 1, [], uu) := by decide +kernel
theorem e_214_19 : den cf 214 19 [.ref a, v1, v2, v3, v4, v5, v6, v7, v8] st M = den cf 214 20 [.ref a, v1, v2, v3, v4, v5, v6, v7, v8] (.ref a :: st) M := den_go l_214_19 rfl
theorem l_214_20 : look (tab 214) 20 = some (.getfield 46, 3, [6, 13, 91], uu) := by decide +kernel
theorem e_214_20 : den cf 214 20 L (.ref a :: st) M = oK (gfA (M.2.2 a) 6 13) (fun v => den cf 214 23 L (v :: st) M) := den_gf l_214_20
theorem l_214_23 : look (tab 214) 23 = some (.iload_n 1, 1, [], uu) := by decide +kernel
theorem e_214_23 : den cf 214 23 [v0, .int x, v2, v3, v4, v5, v6, v7, v8] st M = den cf 214 24 [v0, .int x, v2, v3, v4, v5, v6, v7, v8] (.int x :: st) M := den_go l_214_23 rfl
theorem l_214_24 : look (tab 214) 24 = some (.iaload, 1, [], uu) := by decide +kernel
theorem e_214_24 : den cf 214 24 L (.int x :: .ref a :: st) M = oK (ldI (M.2.2 a) x) (fun v => den cf 214 25 L (v :: st) M) := den_al (g := ldI) l_214_24 rfl
theorem l_214_25 : look (tab 214) 25 = some (.istore 4, 2, [], uu) := by decide +kernel
theorem e_214_25 : den cf 214 25 [v0, v1, v2, v3, v4, v5, v6, v7, v8] (.int x :: st) M = den cf 214 27 [v0, v1, v2, kq v3, .int x, v5, v6, v7, v8] st M := den_st (k := 4) (v := .int x) l_214_25 rfl
theorem l_214_27 : look (tab 214) 27 = some (.aload_n 0, 1, [], uu) := by decide +kernel
theorem e_214_27 : den cf 214 27 [.ref a, v1, v2, v3, v4, v5, v6, v7, v8] st M = den cf 214 28 [.ref a, v1, v2, v3, v4, v5, v6, v7, v8] (.ref a :: st) M := den_go l_214_27 rfl
theorem l_214_28 : look (tab 214) 28 = some (.iload_n 3, 1, [], uu) := by decide +kernel
theorem e_214_28 : den cf 214 28 [v0, v1, v2, .int x, v4, v5, v6, v7, v8] st M = den cf 214 29 [v0, v1, v2, .int x, v4, v5, v6, v7, v8] (.int x :: st) M := den_go l_214_28 rfl
theorem l_214_29 : look (tab 214) 29 = some (.aload_n 0, 1, [], uu) := by decide +kernel
theorem e_214_29 : den cf 214 29 [.ref a, v1, v2, v3, v4, v5, v6, v7, v8] st M = den cf 214 30 [.ref a, v1, v2, v3, v4, v5, v6, v7, v8] (.ref a :: st) M := den_go l_214_29 rfl
theorem l_214_30 : look (tab 214) 30 = some (.getfield 37, 3, [6, 10, 88], uu) := by decide +kernel
theorem e_214_30 : den cf 214 30 L (.ref a :: st) M = oK (gfA (M.2.2 a) 6 10) (fun v => den cf 214 33 L (v :: st) M) := den_gf l_214_30
theorem l_214_33 : look (tab 214) 33 = some (.iload_n 3, 1, [], uu) := by decide +kernel
theorem e_214_33 : den cf 214 33 [v0, v1, v2, .int x, v4, v5, v6, v7, v8] st M = den cf 214 34 [v0, v1, v2, .int x, v4, v5, v6, v7, v8] (.int x :: st) M := den_go l_214_33 rfl
theorem l_214_34 : look (tab 214) 34 = some (.iaload, 1, [], uu) := by decide +kernel
theorem e_214_34 : den cf 214 34 L (.int x :: .ref a :: st) M = oK (ldI (M.2.2 a) x) (fun v => den cf 214 35 L (v :: st) M) := den_al (g := ldI) l_214_34 rfl
theorem l_214_35 : look (tab 214) 35 = some (.invokevirtual 114, 3, [6, 177, 3, 284, 285, 286, 5], uu) := by decide +kernel
theorem e_214_35 : den cf 214 35 L (w2 :: w1 :: .ref a :: st) M = if rcv M 6 [.ref a, w1, w2] = true ∧ st.length ≤ 4 then rK (cf 177 [.ref a, w1, w2] M) (fun v M' => den cf 214 38 L (pR v st) M') else none := den_iv [w1, w2] l_214_35 rfl
theorem l_214_38 : look (tab 214) 38 = some (.istore 5, 2, [], uu) := by decide +kernel
theorem e_214_38 : den cf 214 38 [v0, v1, v2, v3, v4, v5, v6, v7, v8] (.int x :: st) M = den cf 214 40 [v0, v1, v2, v3, kq v4, .int x, v6, v7, v8] st M := den_st (k := 5) (v := .int x) l_214_38 rfl
theorem l_214_40 : look (tab 214) 40 = some (.iconst (-1), 1, [], .int (zI (-1))) := by decide +kernel
theorem e_214_40 : den cf 214 40 L st M = den cf 214 41 L (.int (zI (-1)) :: st) M := den_go l_214_40 rfl
theorem l_214_41 : look (tab 214) 41 = some (.istore 6, 2, [], uu) := by decide +kernel
theorem e_214_41 : den cf 214 41 [v0, v1, v2, v3, v4, v5, v6, v7, v8] (.int x :: st) M = den cf 214 43 [v0, v1, v2, v3, v4, kq v5, .int x, v7, v8] st M := den_st (k := 6) (v := .int x) l_214_41 rfl
theorem l_214_43 : look (tab 214) 43 = some (.iconst 0, 1, [], .int (zI 0)) := by decide +kernel
theorem e_214_43 : den cf 214 43 L st M = den cf 214 44 L (.int (zI 0) :: st) M := den_go l_214_43 rfl
theorem l_214_44 : look (tab 214) 44 = some (.istore 7, 2, [], uu) := by decide +kernel
theorem e_214_44 : den cf 214 44 [v0, v1, v2, v3, v4, v5, v6, v7, v8] (.int x :: st) M = den cf 214 46 [v0, v1, v2, v3, v4, v5, kq v6, .int x, v8] st M := den_st (k := 7) (v := .int x) l_214_44 rfl
theorem l_214_46 : look (tab 214) 46 = some (.iload 7, 2, [], uu) := by decide +kernel
theorem e_214_46 : den cf 214 46 [v0, v1, v2, v3, v4, v5, v6, .int x, v8] st M = den cf 214 48 [v0, v1, v2, v3, v4, v5, v6, .int x, v8] (.int x :: st) M := den_go l_214_46 rfl
theorem l_214_48 : look (tab 214) 48 = some (.bipush 8, 2, [], .int (zI 8)) := by decide +kernel
theorem e_214_48 : den cf 214 48 L st M = den cf 214 50 L (.int (zI 8) :: st) M := den_go l_214_48 rfl
theorem l_214_50 : look (tab 214) 50 = some (.if_icmp .ge 67, 3, [117], uu) := by decide +kernel
theorem e_214_50 : den cf 214 50 L (.int y :: .int x :: st) M = if x < y then den cf 214 53 L st M else den cf 214 117 L st M := den_ic_ge l_214_50
theorem l_214_53 : look (tab 214) 53 = some (.aload_n 0, 1, [], uu) := by decide +kernel
theorem e_214_53 : den cf 214 53 [.ref a, v1, v2, v3, v4, v5, v6, v7, v8] st M = den cf 214 54 [.ref a, v1, v2, v3, v4, v5, v6, v7, v8] (.ref a :: st) M := den_go l_214_53 rfl
theorem l_214_54 : look (tab 214) 54 = some (.getfield 46, 3, [6, 13, 91], uu) := by decide +kernel
theorem e_214_54 : den cf 214 54 L (.ref a :: st) M = oK (gfA (M.2.2 a) 6 13) (fun v => den cf 214 57 L (v :: st) M) := den_gf l_214_54
theorem l_214_57 : look (tab 214) 57 = some (.iload_n 1, 1, [], uu) := by decide +kernel
theorem e_214_57 : den cf 214 57 [v0, .int x, v2, v3, v4, v5, v6, v7, v8] st M = den cf 214 58 [v0, .int x, v2, v3, v4, v5, v6, v7, v8] (.int x :: st) M := den_go l_214_57 rfl
theorem l_214_58 : look (tab 214) 58 = some (.iload 4, 2, [], uu) := by decide +kernel
theorem e_214_58 : den cf 214 58 [v0, v1, v2, v3, .int x, v5, v6, v7, v8] st M = den cf 214 60 [v0, v1, v2, v3, .int x, v5, v6, v7, v8] (.int x :: st) M := den_go l_214_58 rfl
theorem l_214_60 : look (tab 214) 60 = some (.iconst 1, 1, [], .int (zI 1)) := by decide +kernel
theorem e_214_60 : den cf 214 60 L st M = den cf 214 61 L (.int (zI 1) :: st) M := den_go l_214_60 rfl
theorem l_214_61 : look (tab 214) 61 = some (.iload 7, 2, [], uu) := by decide +kernel
theorem e_214_61 : den cf 214 61 [v0, v1, v2, v3, v4, v5, v6, .int x, v8] st M = den cf 214 63 [v0, v1, v2, v3, v4, v5, v6, .int x, v8] (.int x :: st) M := den_go l_214_61 rfl
theorem l_214_63 : look (tab 214) 63 = some (.ishl, 1, [], uu) := by decide +kernel
theorem e_214_63 : den cf 214 63 L (.int y :: .int x :: st) M = den cf 214 64 L (.int (x <<< (y &&& 31)) :: st) M := den_go l_214_63 rfl
theorem l_214_64 : look (tab 214) 64 = some (.ior, 1, [], uu) := by decide +kernel
theorem e_214_64 : den cf 214 64 L (.int y :: .int x :: st) M = den cf 214 65 L (.int (x ||| y) :: st) M := den_go l_214_64 rfl
theorem l_214_65 : look (tab 214) 65 = some (.iastore, 1, [], uu) := by decide +kernel
theorem e_214_65 : den cf 214 65 L (.int x :: .int y :: .ref a :: st) M = oK (stI (M.2.2 a) y x) (fun c => den cf 214 66 L st (mU M a c)) := den_is l_214_65
theorem l_214_66 : look (tab 214) 66 = some (.aload_n 0, 1, [], uu) := by decide +kernel
theorem e_214_66 : den cf 214 66 [.ref a, v1, v2, v3, v4, v5, v6, v7, v8] st M = den cf 214 67 [.ref a, v1, v2, v3, v4, v5, v6, v7, v8] (.ref a :: st) M := den_go l_214_66 rfl
theorem l_214_67 : look (tab 214) 67 = some (.iload_n 3, 1, [], uu) := by decide +kernel
theorem e_214_67 : den cf 214 67 [v0, v1, v2, .int x, v4, v5, v6, v7, v8] st M = den cf 214 68 [v0, v1, v2, .int x, v4, v5, v6, v7, v8] (.int x :: st) M := den_go l_214_67 rfl
theorem l_214_68 : look (tab 214) 68 = some (.aload_n 0, 1, [], uu) := by decide +kernel
theorem e_214_68 : den cf 214 68 [.ref a, v1, v2, v3, v4, v5, v6, v7, v8] st M = den cf 214 69 [.ref a, v1, v2, v3, v4, v5, v6, v7, v8] (.ref a :: st) M := den_go l_214_68 rfl
theorem l_214_69 : look (tab 214) 69 = some (.getfield 37, 3, [6, 10, 88], uu) := by decide +kernel
theorem e_214_69 : den cf 214 69 L (.ref a :: st) M = oK (gfA (M.2.2 a) 6 10) (fun v => den cf 214 72 L (v :: st) M) := den_gf l_214_69
theorem l_214_72 : look (tab 214) 72 = some (.iload_n 3, 1, [], uu) := by decide +kernel
theorem e_214_72 : den cf 214 72 [v0, v1, v2, .int x, v4, v5, v6, v7, v8] st M = den cf 214 73 [v0, v1, v2, .int x, v4, v5, v6, v7, v8] (.int x :: st) M := den_go l_214_72 rfl
theorem l_214_73 : look (tab 214) 73 = some (.iaload, 1, [], uu) := by decide +kernel
theorem e_214_73 : den cf 214 73 L (.int x :: .ref a :: st) M = oK (ldI (M.2.2 a) x) (fun v => den cf 214 74 L (v :: st) M) := den_al (g := ldI) l_214_73 rfl
theorem l_214_74 : look (tab 214) 74 = some (.invokevirtual 114, 3, [6, 177, 3, 284, 285, 286, 5], uu) := by decide +kernel
theorem e_214_74 : den cf 214 74 L (w2 :: w1 :: .ref a :: st) M = if rcv M 6 [.ref a, w1, w2] = true ∧ st.length ≤ 4 then rK (cf 177 [.ref a, w1, w2] M) (fun v M' => den cf 214 77 L (pR v st) M') else none := den_iv [w1, w2] l_214_74 rfl
theorem l_214_77 : look (tab 214) 77 = some (.istore 8, 2, [], uu) := by decide +kernel
theorem e_214_77 : den cf 214 77 [v0, v1, v2, v3, v4, v5, v6, v7, v8] (.int x :: st) M = den cf 214 79 [v0, v1, v2, v3, v4, v5, v6, kq v7, .int x] st M := den_st (k := 8) (v := .int x) l_214_77 rfl
theorem l_214_79 : look (tab 214) 79 = some (.iload 8, 2, [], uu) := by decide +kernel
theorem e_214_79 : den cf 214 79 [v0, v1, v2, v3, v4, v5, v6, v7, .int x] st M = den cf 214 81 [v0, v1, v2, v3, v4, v5, v6, v7, .int x] (.int x :: st) M := den_go l_214_79 rfl
theorem l_214_81 : look (tab 214) 81 = some (.iload 5, 2, [], uu) := by decide +kernel
theorem e_214_81 : den cf 214 81 [v0, v1, v2, v3, v4, .int x, v6, v7, v8] st M = den cf 214 83 [v0, v1, v2, v3, v4, .int x, v6, v7, v8] (.int x :: st) M := den_go l_214_81 rfl
theorem l_214_83 : look (tab 214) 83 = some (.if_icmp .le 8, 3, [91], uu) := by decide +kernel
theorem e_214_83 : den cf 214 83 L (.int y :: .int x :: st) M = if y < x then den cf 214 86 L st M else den cf 214 91 L st M := den_ic_le l_214_83
theorem l_214_86 : look (tab 214) 86 = some (.iload 7, 2, [], uu) := by decide +kernel
theorem e_214_86 : den cf 214 86 [v0, v1, v2, v3, v4, v5, v6, .int x, v8] st M = den cf 214 88 [v0, v1, v2, v3, v4, v5, v6, .int x, v8] (.int x :: st) M := den_go l_214_86 rfl
theorem l_214_88 : look (tab 214) 88 = some (.goto 5, 3, [93], uu) := by decide +kernel
theorem e_214_88 : den cf 214 88 L st M = den cf 214 93 L st M := den_go l_214_88 rfl
theorem l_214_91 : look (tab 214) 91 = some (.iload 6, 2, [], uu) := by decide +kernel
theorem e_214_91 : den cf 214 91 [v0, v1, v2, v3, v4, v5, .int x, v7, v8] st M = den cf 214 93 [v0, v1, v2, v3, v4, v5, .int x, v7, v8] (.int x :: st) M := den_go l_214_91 rfl
theorem l_214_93 : look (tab 214) 93 = some (.istore 6, 2, [], uu) := by decide +kernel
theorem e_214_93 : den cf 214 93 [v0, v1, v2, v3, v4, v5, v6, v7, v8] (.int x :: st) M = den cf 214 95 [v0, v1, v2, v3, v4, kq v5, .int x, v7, v8] st M := den_st (k := 6) (v := .int x) l_214_93 rfl
theorem l_214_95 : look (tab 214) 95 = some (.iload 8, 2, [], uu) := by decide +kernel
theorem e_214_95 : den cf 214 95 [v0, v1, v2, v3, v4, v5, v6, v7, .int x] st M = den cf 214 97 [v0, v1, v2, v3, v4, v5, v6, v7, .int x] (.int x :: st) M := den_go l_214_95 rfl
theorem l_214_97 : look (tab 214) 97 = some (.iload 5, 2, [], uu) := by decide +kernel
theorem e_214_97 : den cf 214 97 [v0, v1, v2, v3, v4, .int x, v6, v7, v8] st M = den cf 214 99 [v0, v1, v2, v3, v4, .int x, v6, v7, v8] (.int x :: st) M := den_go l_214_97 rfl
theorem l_214_99 : look (tab 214) 99 = some (.if_icmp .le 8, 3, [107], uu) := by decide +kernel
theorem e_214_99 : den cf 214 99 L (.int y :: .int x :: st) M = if y < x then den cf 214 102 L st M else den cf 214 107 L st M := den_ic_le l_214_99
theorem l_214_102 : look (tab 214) 102 = some (.iload 8, 2, [], uu) := by decide +kernel
theorem e_214_102 : den cf 214 102 [v0, v1, v2, v3, v4, v5, v6, v7, .int x] st M = den cf 214 104 [v0, v1, v2, v3, v4, v5, v6, v7, .int x] (.int x :: st) M := den_go l_214_102 rfl
theorem l_214_104 : look (tab 214) 104 = some (.goto 5, 3, [109], uu) := by decide +kernel
theorem e_214_104 : den cf 214 104 L st M = den cf 214 109 L st M := den_go l_214_104 rfl
theorem l_214_107 : look (tab 214) 107 = some (.iload 5, 2, [], uu) := by decide +kernel
theorem e_214_107 : den cf 214 107 [v0, v1, v2, v3, v4, .int x, v6, v7, v8] st M = den cf 214 109 [v0, v1, v2, v3, v4, .int x, v6, v7, v8] (.int x :: st) M := den_go l_214_107 rfl
theorem l_214_109 : look (tab 214) 109 = some (.istore 5, 2, [], uu) := by decide +kernel
theorem e_214_109 : den cf 214 109 [v0, v1, v2, v3, v4, v5, v6, v7, v8] (.int x :: st) M = den cf 214 111 [v0, v1, v2, v3, kq v4, .int x, v6, v7, v8] st M := den_st (k := 5) (v := .int x) l_214_109 rfl
theorem l_214_111 : look (tab 214) 111 = some (.iinc 7 1, 3, [], .int (zI 1)) := by decide +kernel
theorem e_214_111 : den cf 214 111 [v0, v1, v2, v3, v4, v5, v6, .int x, v8] st M = den cf 214 114 [v0, v1, v2, v3, v4, v5, kq v6, .int (x + (zI 1)), v8] st M := den_st (k := 7) (v := .int (x + (zI 1))) l_214_111 rfl
theorem l_214_114 : look (tab 214) 114 = some (.goto (-68), 3, [46], uu) := by decide +kernel
theorem e_214_114 : den cf 214 114 L st M = den cf 214 46 L st M := den_go l_214_114 rfl
theorem l_214_117 : look (tab 214) 117 = some (.aload_n 0, 1, [], uu) := by decide +kernel
theorem e_214_117 : den cf 214 117 [.ref a, v1, v2, v3, v4, v5, v6, v7, v8] st M = den cf 214 118 [.ref a, v1, v2, v3, v4, v5, v6, v7, v8] (.ref a :: st) M := den_go l_214_117 rfl
theorem l_214_118 : look (tab 214) 118 = some (.getfield 46, 3, [6, 13, 91], uu) := by decide +kernel
theorem e_214_118 : den cf 214 118 L (.ref a :: st) M = oK (gfA (M.2.2 a) 6 13) (fun v => den cf 214 121 L (v :: st) M) := den_gf l_214_118
theorem l_214_121 : look (tab 214) 121 = some (.iload_n 1, 1, [], uu) := by decide +kernel
theorem e_214_121 : den cf 214 121 [v0, .int x, v2, v3, v4, v5, v6, v7, v8] st M = den cf 214 122 [v0, .int x, v2, v3, v4, v5, v6, v7, v8] (.int x :: st) M := den_go l_214_121 rfl
theorem l_214_122 : look (tab 214) 122 = some (.iload 4, 2, [], uu) := by decide +kernel
theorem e_214_122 : den cf 214 122 [v0, v1, v2, v3, .int x, v5, v6, v7, v8] st M = den cf 214 124 [v0, v1, v2, v3, .int x, v5, v6, v7, v8] (.int x :: st) M := den_go l_214_122 rfl
theorem l_214_124 : look (tab 214) 124 = some (.iastore, 1, [], uu) := by decide +kernel
theorem e_214_124 : den cf 214 124 L (.int x :: .int y :: .ref a :: st) M = oK (stI (M.2.2 a) y x) (fun c => den cf 214 125 L st (mU M a c)) := den_is l_214_124
theorem l_214_125 : look (tab 214) 125 = some (.iload 6, 2, [], uu) := by decide +kernel
theorem e_214_125 : den cf 214 125 [v0, v1, v2, v3, v4, v5, .int x, v7, v8] st M = den cf 214 127 [v0, v1, v2, v3, v4, v5, .int x, v7, v8] (.int x :: st) M := den_go l_214_125 rfl
theorem l_214_127 : look (tab 214) 127 = some (.ireturn, 1, [0], uu) := by decide +kernel
theorem e_214_127 : den cf 214 127 L [.int x] M = some (some (.int x), M) := den_e0 l_214_127
/-! yX6_asPair -/
theorem l_215_0 : look (tab 215) 0 = some (.aload_n 0, 1, [], uu) := by decide +kernel
theorem e_215_0 : den cf 215 0 [.ref a, v1, v2, v3, v4] st M = den cf 215 1 [.ref a, v1, v2, v3, v4] (.ref a :: st) M := den_go l_215_0 rfl
theorem l_215_1 : look (tab 215) 1 = some (.iload_n 1, 1, [], uu) := by decide +kernel
theorem e_215_1 : den cf 215 1 [v0, .int x, v2, v3, v4] st M = den cf 215 2 [v0, .int x, v2, v3, v4] (.int x :: st) M := den_go l_215_1 rfl
theorem l_215_2 : look (tab 215) 2 = some (.invokevirtual 104, 3, [6, 138, 2, 226, 227, 228, 5], uu) := by decide +kernel
theorem e_215_2 : den cf 215 2 L (w1 :: .ref a :: st) M = if rcv M 6 [.ref a, w1] = true ∧ st.length ≤ 4 then rK (cf 138 [.ref a, w1] M) (fun v M' => den cf 215 5 L (pR v st) M') else none := den_iv [w1] l_215_2 rfl
theorem l_215_5 : look (tab 215) 5 = some (.ifCond .eq 36, 3, [41], uu) := by decide +kernel
theorem e_215_5 : den cf 215 5 L (.int x :: st) M = if x = zI 0 then den cf 215 41 L st M else den cf 215 8 L st M := den_if_eq l_215_5
theorem l_215_8 : look (tab 215) 8 = some (.aload_n 0, 1, [], uu) := by decide +kernel
theorem e_215_8 : den cf 215 8 [.ref a, v1, v2, v3, v4] st M = den cf 215 9 [.ref a, v1, v2, v3, v4] (.ref a :: st) M := den_go l_215_8 rfl
theorem l_215_9 : look (tab 215) 9 = some (.iload_n 2, 1, [], uu) := by decide +kernel
theorem e_215_9 : den cf 215 9 [v0, v1, .int x, v3, v4] st M = den cf 215 10 [v0, v1, .int x, v3, v4] (.int x :: st) M := den_go l_215_9 rfl
theorem l_215_10 : look (tab 215) 10 = some (.invokevirtual 104, 3, [6, 138, 2, 226, 227, 228, 5], uu) := by decide +kernel
theorem e_215_10 : den cf 215 10 L (w1 :: .ref a :: st) M = if rcv M 6 [.ref a, w1] = true ∧ st.length ≤ 4 then rK (cf 138 [.ref a, w1] M) (fun v M' => den cf 215 13 L (pR v st) M') else none := den_iv [w1] l_215_10 rfl
theorem l_215_13 : look (tab 215) 13 = some (.ifCond .eq 28, 3, [41], uu) := by decide +kernel
theorem e_215_13 : den cf 215 13 L (.int x :: st) M = if x = zI 0 then den cf 215 41 L st M else den cf 215 16 L st M := den_if_eq l_215_13
theorem l_215_16 : look (tab 215) 16 = some (.iload_n 3, 1, [], uu) := by decide +kernel
theorem e_215_16 : den cf 215 16 [v0, v1, v2, .int x, v4] st M = den cf 215 17 [v0, v1, v2, .int x, v4] (.int x :: st) M := den_go l_215_16 rfl
theorem l_215_17 : look (tab 215) 17 = some (.i2l, 1, [], uu) := by decide +kernel
theorem e_215_17 : den cf 215 17 L (.int x :: st) M = den cf 215 18 L (.long x.toInt64 :: st) M := den_go l_215_17 rfl
theorem l_215_18 : look (tab 215) 18 = some (.lconst 0, 1, [], .long (zJ 0)) := by decide +kernel
theorem e_215_18 : den cf 215 18 L st M = den cf 215 19 L (.long (zJ 0) :: st) M := den_go l_215_18 rfl
theorem l_215_19 : look (tab 215) 19 = some (.lconst 1, 1, [], .long (zJ 1)) := by decide +kernel
theorem e_215_19 : den cf 215 19 L st M = den cf 215 20 L (.long (zJ 1) :: st) M := den_go l_215_19 rfl
theorem l_215_20 : look (tab 215) 20 = some (.invokestatic 83, 3, [1, 137, 3, 130, 131, 5], uu) := by decide +kernel
theorem e_215_20 : den cf 215 20 L (w3 :: w2 :: w1 :: st) M = if st.length ≤ 4 then rK (cf 137 [w1, w2, w3] M) (fun v M' => den cf 215 23 L (pR v st) M') else none := den_ist [w1, w2, w3] l_215_20 rfl
theorem l_215_23 : look (tab 215) 23 = some (.ifCond .eq 18, 3, [41], uu) := by decide +kernel
theorem e_215_23 : den cf 215 23 L (.int x :: st) M = if x = zI 0 then den cf 215 41 L st M else den cf 215 26 L st M := den_if_eq l_215_23
theorem l_215_26 : look (tab 215) 26 = some (.aload_n 0, 1, [], uu) := by decide +kernel
theorem e_215_26 : den cf 215 26 [.ref a, v1, v2, v3, v4] st M = den cf 215 27 [.ref a, v1, v2, v3, v4] (.ref a :: st) M := den_go l_215_26 rfl
theorem l_215_27 : look (tab 215) 27 = some (.getfield 43, 3, [6, 12, 90], uu) := by decide +kernel
theorem e_215_27 : den cf 215 27 L (.ref a :: st) M = oK (gfA (M.2.2 a) 6 12) (fun v => den cf 215 30 L (v :: st) M) := den_gf l_215_27
theorem l_215_30 : look (tab 215) 30 = some (.iload_n 1, 1, [], uu) := by decide +kernel
theorem e_215_30 : den cf 215 30 [v0, .int x, v2, v3, v4] st M = den cf 215 31 [v0, .int x, v2, v3, v4] (.int x :: st) M := den_go l_215_30 rfl
theorem l_215_31 : look (tab 215) 31 = some (.iaload, 1, [], uu) := by decide +kernel
theorem e_215_31 : den cf 215 31 L (.int x :: .ref a :: st) M = oK (ldI (M.2.2 a) x) (fun v => den cf 215 32 L (v :: st) M) := den_al (g := ldI) l_215_31 rfl
theorem l_215_32 : look (tab 215) 32 = some (.aload_n 0, 1, [], uu) := by decide +kernel
theorem e_215_32 : den cf 215 32 [.ref a, v1, v2, v3, v4] st M = den cf 215 33 [.ref a, v1, v2, v3, v4] (.ref a :: st) M := den_go l_215_32 rfl
theorem l_215_33 : look (tab 215) 33 = some (.getfield 43, 3, [6, 12, 90], uu) := by decide +kernel
theorem e_215_33 : den cf 215 33 L (.ref a :: st) M = oK (gfA (M.2.2 a) 6 12) (fun v => den cf 215 36 L (v :: st) M) := den_gf l_215_33
theorem l_215_36 : look (tab 215) 36 = some (.iload_n 2, 1, [], uu) := by decide +kernel
theorem e_215_36 : den cf 215 36 [v0, v1, .int x, v3, v4] st M = den cf 215 37 [v0, v1, .int x, v3, v4] (.int x :: st) M := den_go l_215_36 rfl
theorem l_215_37 : look (tab 215) 37 = some (.iaload, 1, [], uu) := by decide +kernel
theorem e_215_37 : den cf 215 37 L (.int x :: .ref a :: st) M = oK (ldI (M.2.2 a) x) (fun v => den cf 215 38 L (v :: st) M) := den_al (g := ldI) l_215_37 rfl
theorem l_215_38 : look (tab 215) 38 = some (.if_icmp .ne 10, 3, [48], uu) := by decide +kernel
theorem e_215_38 : den cf 215 38 L (.int y :: .int x :: st) M = if x = y then den cf 215 41 L st M else den cf 215 48 L st M := den_ic_ne l_215_38
theorem l_215_41 : look (tab 215) 41 = some (.aload_n 0, 1, [], uu) := by decide +kernel
theorem e_215_41 : den cf 215 41 [.ref a, v1, v2, v3, v4] st M = den cf 215 42 [.ref a, v1, v2, v3, v4] (.ref a :: st) M := den_go l_215_41 rfl
theorem l_215_42 : look (tab 215) 42 = some (.bipush (-2), 2, [], .int (zI (-2))) := by decide +kernel
theorem e_215_42 : den cf 215 42 L st M = den cf 215 44 L (.int (zI (-2)) :: st) M := den_go l_215_42 rfl
theorem l_215_44 : look (tab 215) 44 = some (.invokevirtual 93, 3, [6, 136, 2, 133, 134, 135, 5], uu) := by decide +kernel
theorem e_215_44 : den cf 215 44 L (w1 :: .ref a :: st) M = if rcv M 6 [.ref a, w1] = true ∧ st.length ≤ 4 then rK (cf 136 [.ref a, w1] M) (fun v M' => den cf 215 47 L (pR v st) M') else none := den_iv [w1] l_215_44 rfl
theorem l_215_47 : look (tab 215) 47 = some (.ireturn, 1, [0], uu) := by decide +kernel
theorem e_215_47 : den cf 215 47 L [.int x] M = some (some (.int x), M) := den_e0 l_215_47
theorem l_215_48 : look (tab 215) 48 = some (.aload_n 0, 1, [], uu) := by decide +kernel
theorem e_215_48 : den cf 215 48 [.ref a, v1, v2, v3, v4] st M = den cf 215 49 [.ref a, v1, v2, v3, v4] (.ref a :: st) M := den_go l_215_48 rfl
theorem l_215_49 : look (tab 215) 49 = some (.invokevirtual 240, 3, [6, 174, 1, 561, 562, 563, 5], uu) := by decide +kernel
theorem e_215_49 : den cf 215 49 L (.ref a :: st) M = if rcv M 6 [.ref a] = true ∧ st.length ≤ 4 then rK (cf 174 [.ref a] M) (fun v M' => den cf 215 52 L (pR v st) M') else none := den_iv [] l_215_49 rfl
theorem l_215_52 : look (tab 215) 52 = some (.astore 4, 2, [], uu) := by decide +kernel
theorem e_215_52 : den cf 215 52 [v0, v1, v2, v3, v4] (v :: st) M = if isRf v = true then den cf 215 54 [v0, v1, v2, kq v3, v] st M else none := den_as (k := 4) (v := v) l_215_52 rfl (Nat.le_of_ble_eq_true rfl)
theorem l_215_54 : look (tab 215) 54 = some (.aload 4, 2, [], uu) := by decide +kernel
theorem e_215_54 : den cf 215 54 [v0, v1, v2, v3, v4] st M = if isRf v4 = true then den cf 215 56 [v0, v1, v2, v3, v4] (v4 :: st) M else none := den_g l_215_54 rfl
theorem l_215_56 : look (tab 215) 56 = some (.getfield 49, 3, [6, 14, 92], uu) := by decide +kernel
theorem e_215_56 : den cf 215 56 L (.ref a :: st) M = oK (gfA (M.2.2 a) 6 14) (fun v => den cf 215 59 L (v :: st) M) := den_gf l_215_56
theorem l_215_59 : look (tab 215) 59 = some (.iload_n 1, 1, [], uu) := by decide +kernel
theorem e_215_59 : den cf 215 59 [v0, .int x, v2, v3, v4] st M = den cf 215 60 [v0, .int x, v2, v3, v4] (.int x :: st) M := den_go l_215_59 rfl
theorem l_215_60 : look (tab 215) 60 = some (.iload_n 2, 1, [], uu) := by decide +kernel
theorem e_215_60 : den cf 215 60 [v0, v1, .int x, v3, v4] st M = den cf 215 61 [v0, v1, .int x, v3, v4] (.int x :: st) M := den_go l_215_60 rfl
theorem l_215_61 : look (tab 215) 61 = some (.iastore, 1, [], uu) := by decide +kernel
theorem e_215_61 : den cf 215 61 L (.int x :: .int y :: .ref a :: st) M = oK (stI (M.2.2 a) y x) (fun c => den cf 215 62 L st (mU M a c)) := den_is l_215_61
theorem l_215_62 : look (tab 215) 62 = some (.iload_n 3, 1, [], uu) := by decide +kernel
theorem e_215_62 : den cf 215 62 [v0, v1, v2, .int x, v4] st M = den cf 215 63 [v0, v1, v2, .int x, v4] (.int x :: st) M := den_go l_215_62 rfl
theorem l_215_63 : look (tab 215) 63 = some (.ifCond .ne 18, 3, [81], uu) := by decide +kernel
theorem e_215_63 : den cf 215 63 L (.int x :: st) M = if x = zI 0 then den cf 215 66 L st M else den cf 215 81 L st M := den_if_ne l_215_63
theorem l_215_66 : look (tab 215) 66 = some (.aload 4, 2, [], uu) := by decide +kernel
theorem e_215_66 : den cf 215 66 [v0, v1, v2, v3, v4] st M = if isRf v4 = true then den cf 215 68 [v0, v1, v2, v3, v4] (v4 :: st) M else none := den_g l_215_66 rfl
theorem l_215_68 : look (tab 215) 68 = some (.iload_n 1, 1, [], uu) := by decide +kernel
theorem e_215_68 : den cf 215 68 [v0, .int x, v2, v3, v4] st M = den cf 215 69 [v0, .int x, v2, v3, v4] (.int x :: st) M := den_go l_215_68 rfl
theorem l_215_69 : look (tab 215) 69 = some (.aload_n 0, 1, [], uu) := by decide +kernel
theorem e_215_69 : den cf 215 69 [.ref a, v1, v2, v3, v4] st M = den cf 215 70 [.ref a, v1, v2, v3, v4] (.ref a :: st) M := den_go l_215_69 rfl
theorem l_215_70 : look (tab 215) 70 = some (.getfield 37, 3, [6, 10, 88], uu) := by decide +kernel
theorem e_215_70 : den cf 215 70 L (.ref a :: st) M = oK (gfA (M.2.2 a) 6 10) (fun v => den cf 215 73 L (v :: st) M) := den_gf l_215_70
theorem l_215_73 : look (tab 215) 73 = some (.iload_n 1, 1, [], uu) := by decide +kernel
theorem e_215_73 : den cf 215 73 [v0, .int x, v2, v3, v4] st M = den cf 215 74 [v0, .int x, v2, v3, v4] (.int x :: st) M := den_go l_215_73 rfl
theorem l_215_74 : look (tab 215) 74 = some (.iaload, 1, [], uu) := by decide +kernel
theorem e_215_74 : den cf 215 74 L (.int x :: .ref a :: st) M = oK (ldI (M.2.2 a) x) (fun v => den cf 215 75 L (v :: st) M) := den_al (g := ldI) l_215_74 rfl
theorem l_215_75 : look (tab 215) 75 = some (.invokevirtual 114, 3, [6, 177, 3, 284, 285, 286, 5], uu) := by decide +kernel
theorem e_215_75 : den cf 215 75 L (w2 :: w1 :: .ref a :: st) M = if rcv M 6 [.ref a, w1, w2] = true ∧ st.length ≤ 4 then rK (cf 177 [.ref a, w1, w2] M) (fun v M' => den cf 215 78 L (pR v st) M') else none := den_iv [w1, w2] l_215_75 rfl
theorem l_215_78 : look (tab 215) 78 = some (.goto 15, 3, [93], uu) := by decide +kernel
theorem e_215_78 : den cf 215 78 L st M = den cf 215 93 L st M := den_go l_215_78 rfl
theorem l_215_81 : look (tab 215) 81 = some (.aload 4, 2, [], uu) := by decide +kernel
theorem e_215_81 : den cf 215 81 [v0, v1, v2, v3, v4] st M = if isRf v4 = true then den cf 215 83 [v0, v1, v2, v3, v4] (v4 :: st) M else none := den_g l_215_81 rfl
theorem l_215_83 : look (tab 215) 83 = some (.iload_n 1, 1, [], uu) := by decide +kernel
theorem e_215_83 : den cf 215 83 [v0, .int x, v2, v3, v4] st M = den cf 215 84 [v0, .int x, v2, v3, v4] (.int x :: st) M := den_go l_215_83 rfl
theorem l_215_84 : look (tab 215) 84 = some (.aload_n 0, 1, [], uu) := by decide +kernel
theorem e_215_84 : den cf 215 84 [.ref a, v1, v2, v3, v4] st M = den cf 215 85 [.ref a, v1, v2, v3, v4] (.ref a :: st) M := den_go l_215_84 rfl
theorem l_215_85 : look (tab 215) 85 = some (.getfield 37, 3, [6, 10, 88], uu) := by decide +kernel
theorem e_215_85 : den cf 215 85 L (.ref a :: st) M = oK (gfA (M.2.2 a) 6 10) (fun v => den cf 215 88 L (v :: st) M) := den_gf l_215_85
theorem l_215_88 : look (tab 215) 88 = some (.iload_n 1, 1, [], uu) := by decide +kernel
theorem e_215_88 : den cf 215 88 [v0, .int x, v2, v3, v4] st M = den cf 215 89 [v0, .int x, v2, v3, v4] (.int x :: st) M := den_go l_215_88 rfl
theorem l_215_89 : look (tab 215) 89 = some (.iaload, 1, [], uu) := by decide +kernel
theorem e_215_89 : den cf 215 89 L (.int x :: .ref a :: st) M = oK (ldI (M.2.2 a) x) (fun v => den cf 215 90 L (v :: st) M) := den_al (g := ldI) l_215_89 rfl
theorem l_215_90 : look (tab 215) 90 = some (.invokevirtual 118, 3, [6, 178, 3, 295, 296, 297, 5], uu) := by decide +kernel
theorem e_215_90 : den cf 215 90 L (w2 :: w1 :: .ref a :: st) M = if rcv M 6 [.ref a, w1, w2] = true ∧ st.length ≤ 4 then rK (cf 178 [.ref a, w1, w2] M) (fun v M' => den cf 215 93 L (pR v st) M') else none := den_iv [w1, w2] l_215_90 rfl
theorem l_215_93 : look (tab 215) 93 = some (.ireturn, 1, [0], uu) := by decide +kernel
theorem e_215_93 : den cf 215 93 L [.int x] M = some (some (.int x), M) := den_e0 l_215_93
/-! yX6_wanted -/
theorem l_216_0 : look (tab 216) 0 = some (.iload_n 1, 1, [], uu) := by decide +kernel
theorem e_216_0 : den cf 216 0 [v0, .int x, v2, v3, v4, v5] st M = den cf 216 1 [v0, .int x, v2, v3, v4, v5] (.int x :: st) M := den_go l_216_0 rfl
theorem l_216_1 : look (tab 216) 1 = some (.i2l, 1, [], uu) := by decide +kernel
theorem e_216_1 : den cf 216 1 L (.int x :: st) M = den cf 216 2 L (.long x.toInt64 :: st) M := den_go l_216_1 rfl
theorem l_216_2 : look (tab 216) 2 = some (.lconst 0, 1, [], .long (zJ 0)) := by decide +kernel
theorem e_216_2 : den cf 216 2 L st M = den cf 216 3 L (.long (zJ 0) :: st) M := den_go l_216_2 rfl
theorem l_216_3 : look (tab 216) 3 = some (.ldc2_w 314, 3, [957], .long (zJ 8)) := by decide +kernel
theorem e_216_3 : den cf 216 3 L st M = den cf 216 6 L (.long (zJ 8) :: st) M := den_go l_216_3 rfl
theorem l_216_6 : look (tab 216) 6 = some (.invokestatic 83, 3, [1, 137, 3, 130, 131, 5], uu) := by decide +kernel
theorem e_216_6 : den cf 216 6 L (w3 :: w2 :: w1 :: st) M = if st.length ≤ 4 then rK (cf 137 [w1, w2, w3] M) (fun v M' => den cf 216 9 L (pR v st) M') else none := den_ist [w1, w2, w3] l_216_6 rfl
theorem l_216_9 : look (tab 216) 9 = some (.ifCond .ne 10, 3, [19], uu) := by decide +kernel
theorem e_216_9 : den cf 216 9 L (.int x :: st) M = if x = zI 0 then den cf 216 12 L st M else den cf 216 19 L st M := den_if_ne l_216_9
theorem l_216_12 : look (tab 216) 12 = some (.aload_n 0, 1, [], uu) := by decide +kernel
theorem e_216_12 : den cf 216 12 [.ref a, v1, v2, v3, v4, v5] st M = den cf 216 13 [.ref a, v1, v2, v3, v4, v5] (.ref a :: st) M := den_go l_216_12 rfl
theorem l_216_13 : look (tab 216) 13 = some (.bipush (-2), 2, [], .int (zI (-2))) := by decide +kernel
theorem e_216_13 : den cf 216 13 L st M = den cf 216 15 L (.int (zI (-2)) :: st) M := den_go l_216_13 rfl
theorem l_216_15 : look (tab 216) 15 = some (.invokevirtual 93, 3, [6, 136, 2, 133, 134, 135, 5], uu) := by decide +kernel
theorem e_216_15 : den cf 216 15 L (w1 :: .ref a :: st) M = if rcv M 6 [.ref a, w1] = true ∧ st.length ≤ 4 then rK (cf 136 [.ref a, w1] M) (fun v M' => den cf 216 18 L (pR v st) M') else none := den_iv [w1] l_216_15 rfl
theorem l_216_18 : look (tab 216) 18 = some (.ireturn, 1, [0], uu) := by decide +kernel
theorem e_216_18 : den cf 216 18 L [.int x] M = some (some (.int x), M) := den_e0 l_216_18
theorem l_216_19 : look (tab 216) 19 = some (.iconst 0, 1, [], .int (zI 0)) := by decide +kernel
theorem e_216_19 : den cf 216 19 L st M = den cf 216 20 L (.int (zI 0) :: st) M := den_go l_216_19 rfl
theorem l_216_20 : look (tab 216) 20 = some (.istore_n 2, 1, [], uu) := by decide +kernel
theorem e_216_20 : den cf 216 20 [v0, v1, v2, v3, v4, v5] (.int x :: st) M = den cf 216 21 [v0, kq v1, .int x, v3, v4, v5] st M := den_st (k := 2) (v := .int x) l_216_20 rfl
theorem l_216_21 : look (tab 216) 21 = some (.iconst 0, 1, [], .int (zI 0)) := by decide +kernel
theorem e_216_21 : den cf 216 21 L st M = den cf 216 22 L (.int (zI 0) :: st) M := den_go l_216_21 rfl
theorem l_216_22 : look (tab 216) 22 = some (.istore_n 3, 1, [], uu) := by decide +kernel
theorem e_216_22 : den cf 216 22 [v0, v1, v2, v3, v4, v5] (.int x :: st) M = den cf 216 23 [v0, v1, kq v2, .int x, v4, v5] st M := den_st (k := 3) (v := .int x) l_216_22 rfl
theorem l_216_23 : look (tab 216) 23 = some (.iload_n 3, 1, [], uu) := by decide +kernel
theorem e_216_23 : den cf 216 23 [v0, v1, v2, .int x, v4, v5] st M = den cf 216 24 [v0, v1, v2, .int x, v4, v5] (.int x :: st) M := den_go l_216_23 rfl
theorem l_216_24 : look (tab 216) 24 = some (.aload_n 0, 1, [], uu) := by decide +kernel
theorem e_216_24 : den cf 216 24 [.ref a, v1, v2, v3, v4, v5] st M = den cf 216 25 [.ref a, v1, v2, v3, v4, v5] (.ref a :: st) M := den_go l_216_24 rfl
theorem l_216_25 : look (tab 216) 25 = some (.getfield 80, 3, [6, 9, 230], uu) := by decide +kernel
theorem e_216_25 : den cf 216 25 L (.ref a :: st) M = oK (gfA (M.2.2 a) 6 9) (fun v => den cf 216 28 L (v :: st) M) := den_gf l_216_25
theorem l_216_28 : look (tab 216) 28 = some (.if_icmp .ge 95, 3, [123], uu) := by decide +kernel
theorem e_216_28 : den cf 216 28 L (.int y :: .int x :: st) M = if x < y then den cf 216 31 L st M else den cf 216 123 L st M := den_ic_ge l_216_28
theorem l_216_31 : look (tab 216) 31 = some (.iconst (-1), 1, [], .int (zI (-1))) := by decide +kernel
theorem e_216_31 : den cf 216 31 L st M = den cf 216 32 L (.int (zI (-1)) :: st) M := den_go l_216_31 rfl
theorem l_216_32 : look (tab 216) 32 = some (.istore 4, 2, [], uu) := by decide +kernel
theorem e_216_32 : den cf 216 32 [v0, v1, v2, v3, v4, v5] (.int x :: st) M = den cf 216 34 [v0, v1, v2, kq v3, .int x, v5] st M := den_st (k := 4) (v := .int x) l_216_32 rfl
theorem l_216_34 : look (tab 216) 34 = some (.iconst 0, 1, [], .int (zI 0)) := by decide +kernel
theorem e_216_34 : den cf 216 34 L st M = den cf 216 35 L (.int (zI 0) :: st) M := den_go l_216_34 rfl
theorem l_216_35 : look (tab 216) 35 = some (.istore 5, 2, [], uu) := by decide +kernel
theorem e_216_35 : den cf 216 35 [v0, v1, v2, v3, v4, v5] (.int x :: st) M = den cf 216 37 [v0, v1, v2, v3, kq v4, .int x] st M := den_st (k := 5) (v := .int x) l_216_35 rfl
theorem l_216_37 : look (tab 216) 37 = some (.iload 5, 2, [], uu) := by decide +kernel
theorem e_216_37 : den cf 216 37 [v0, v1, v2, v3, v4, .int x] st M = den cf 216 39 [v0, v1, v2, v3, v4, .int x] (.int x :: st) M := den_go l_216_37 rfl
theorem l_216_39 : look (tab 216) 39 = some (.aload_n 0, 1, [], uu) := by decide +kernel
theorem e_216_39 : den cf 216 39 [.ref a, v1, v2, v3, v4, v5] st M = den cf 216 40 [.ref a, v1, v2, v3, v4, v5] (.ref a :: st) M := den_go l_216_39 rfl
theorem l_216_40 : look (tab 216) 40 = some (.getfield 80, 3, [6, 9, 230], uu) := by decide +kernel
theorem e_216_40 : den cf 216 40 L (.ref a :: st) M = oK (gfA (M.2.2 a) 6 9) (fun v => den cf 216 43 L (v :: st) M) := den_gf l_216_40
theorem l_216_43 : look (tab 216) 43 = some (.if_icmp .ge 51, 3, [94], uu) := by decide +kernel
theorem e_216_43 : den cf 216 43 L (.int y :: .int x :: st) M = if x < y then den cf 216 46 L st M else den cf 216 94 L st M := den_ic_ge l_216_43
theorem l_216_46 : look (tab 216) 46 = some (.aload_n 0, 1, [], uu) := by decide +kernel
theorem e_216_46 : den cf 216 46 [.ref a, v1, v2, v3, v4, v5] st M = den cf 216 47 [.ref a, v1, v2, v3, v4, v5] (.ref a :: st) M := den_go l_216_46 rfl
theorem l_216_47 : look (tab 216) 47 = some (.getfield 43, 3, [6, 12, 90], uu) := by decide +kernel
theorem e_216_47 : den cf 216 47 L (.ref a :: st) M = oK (gfA (M.2.2 a) 6 12) (fun v => den cf 216 50 L (v :: st) M) := den_gf l_216_47
theorem l_216_50 : look (tab 216) 50 = some (.iload 5, 2, [], uu) := by decide +kernel
theorem e_216_50 : den cf 216 50 [v0, v1, v2, v3, v4, .int x] st M = den cf 216 52 [v0, v1, v2, v3, v4, .int x] (.int x :: st) M := den_go l_216_50 rfl
theorem l_216_52 : look (tab 216) 52 = some (.iaload, 1, [], uu) := by decide +kernel
theorem e_216_52 : den cf 216 52 L (.int x :: .ref a :: st) M = oK (ldI (M.2.2 a) x) (fun v => den cf 216 53 L (v :: st) M) := den_al (g := ldI) l_216_52 rfl
theorem l_216_53 : look (tab 216) 53 = some (.aload_n 0, 1, [], uu) := by decide +kernel
theorem e_216_53 : den cf 216 53 [.ref a, v1, v2, v3, v4, v5] st M = den cf 216 54 [.ref a, v1, v2, v3, v4, v5] (.ref a :: st) M := den_go l_216_53 rfl
theorem l_216_54 : look (tab 216) 54 = some (.getfield 43, 3, [6, 12, 90], uu) := by decide +kernel
theorem e_216_54 : den cf 216 54 L (.ref a :: st) M = oK (gfA (M.2.2 a) 6 12) (fun v => den cf 216 57 L (v :: st) M) := den_gf l_216_54
theorem l_216_57 : look (tab 216) 57 = some (.iload_n 3, 1, [], uu) := by decide +kernel
theorem e_216_57 : den cf 216 57 [v0, v1, v2, .int x, v4, v5] st M = den cf 216 58 [v0, v1, v2, .int x, v4, v5] (.int x :: st) M := den_go l_216_57 rfl
theorem l_216_58 : look (tab 216) 58 = some (.iaload, 1, [], uu) := by decide +kernel
theorem e_216_58 : den cf 216 58 L (.int x :: .ref a :: st) M = oK (ldI (M.2.2 a) x) (fun v => den cf 216 59 L (v :: st) M) := den_al (g := ldI) l_216_58 rfl
theorem l_216_59 : look (tab 216) 59 = some (.if_icmp .eq 25, 3, [84], uu) := by decide +kernel
theorem e_216_59 : den cf 216 59 L (.int y :: .int x :: st) M = if x = y then den cf 216 84 L st M else den cf 216 62 L st M := den_ic_eq l_216_59
theorem l_216_62 : look (tab 216) 62 = some (.aload_n 0, 1, [], uu) := by decide +kernel
theorem e_216_62 : den cf 216 62 [.ref a, v1, v2, v3, v4, v5] st M = den cf 216 63 [.ref a, v1, v2, v3, v4, v5] (.ref a :: st) M := den_go l_216_62 rfl
theorem l_216_63 : look (tab 216) 63 = some (.iload_n 3, 1, [], uu) := by decide +kernel
theorem e_216_63 : den cf 216 63 [v0, v1, v2, .int x, v4, v5] st M = den cf 216 64 [v0, v1, v2, .int x, v4, v5] (.int x :: st) M := den_go l_216_63 rfl
theorem l_216_64 : look (tab 216) 64 = some (.iload 5, 2, [], uu) := by decide +kernel
theorem e_216_64 : den cf 216 64 [v0, v1, v2, v3, v4, .int x] st M = den cf 216 66 [v0, v1, v2, v3, v4, .int x] (.int x :: st) M := den_go l_216_64 rfl
theorem l_216_66 : look (tab 216) 66 = some (.invokevirtual 140, 3, [6, 153, 3, 288, 289, 290, 5], uu) := by decide +kernel
theorem e_216_66 : den cf 216 66 L (w2 :: w1 :: .ref a :: st) M = if rcv M 6 [.ref a, w1, w2] = true ∧ st.length ≤ 4 then rK (cf 153 [.ref a, w1, w2] M) (fun v M' => den cf 216 69 L (pR v st) M') else none := den_iv [w1, w2] l_216_66 rfl
theorem l_216_69 : look (tab 216) 69 = some (.iload 4, 2, [], uu) := by decide +kernel
theorem e_216_69 : den cf 216 69 [v0, v1, v2, v3, .int x, v5] st M = den cf 216 71 [v0, v1, v2, v3, .int x, v5] (.int x :: st) M := den_go l_216_69 rfl
theorem l_216_71 : look (tab 216) 71 = some (.if_icmp .le 13, 3, [84], uu) := by decide +kernel
theorem e_216_71 : den cf 216 71 L (.int y :: .int x :: st) M = if y < x then den cf 216 74 L st M else den cf 216 84 L st M := den_ic_le l_216_71
theorem l_216_74 : look (tab 216) 74 = some (.aload_n 0, 1, [], uu) := by decide +kernel
theorem e_216_74 : den cf 216 74 [.ref a, v1, v2, v3, v4, v5] st M = den cf 216 75 [.ref a, v1, v2, v3, v4, v5] (.ref a :: st) M := den_go l_216_74 rfl
theorem l_216_75 : look (tab 216) 75 = some (.iload_n 3, 1, [], uu) := by decide +kernel
theorem e_216_75 : den cf 216 75 [v0, v1, v2, .int x, v4, v5] st M = den cf 216 76 [v0, v1, v2, .int x, v4, v5] (.int x :: st) M := den_go l_216_75 rfl
theorem l_216_76 : look (tab 216) 76 = some (.iload 5, 2, [], uu) := by decide +kernel
theorem e_216_76 : den cf 216 76 [v0, v1, v2, v3, v4, .int x] st M = den cf 216 78 [v0, v1, v2, v3, v4, .int x] (.int x :: st) M := den_go l_216_76 rfl
theorem l_216_78 : look (tab 216) 78 = some (.invokevirtual 140, 3, [6, 153, 3, 288, 289, 290, 5], uu) := by decide +kernel
theorem e_216_78 : den cf 216 78 L (w2 :: w1 :: .ref a :: st) M = if rcv M 6 [.ref a, w1, w2] = true ∧ st.length ≤ 4 then rK (cf 153 [.ref a, w1, w2] M) (fun v M' => den cf 216 81 L (pR v st) M') else none := den_iv [w1, w2] l_216_78 rfl
theorem l_216_81 : look (tab 216) 81 = some (.goto 5, 3, [86], uu) := by decide +kernel
theorem e_216_81 : den cf 216 81 L st M = den cf 216 86 L st M := den_go l_216_81 rfl
theorem l_216_84 : look (tab 216) 84 = some (.iload 4, 2, [], uu) := by decide +kernel
theorem e_216_84 : den cf 216 84 [v0, v1, v2, v3, .int x, v5] st M = den cf 216 86 [v0, v1, v2, v3, .int x, v5] (.int x :: st) M := den_go l_216_84 rfl
theorem l_216_86 : look (tab 216) 86 = some (.istore 4, 2, [], uu) := by decide +kernel
theorem e_216_86 : den cf 216 86 [v0, v1, v2, v3, v4, v5] (.int x :: st) M = den cf 216 88 [v0, v1, v2, kq v3, .int x, v5] st M := den_st (k := 4) (v := .int x) l_216_86 rfl
theorem l_216_88 : look (tab 216) 88 = some (.iinc 5 1, 3, [], .int (zI 1)) := by decide +kernel
theorem e_216_88 : den cf 216 88 [v0, v1, v2, v3, v4, .int x] st M = den cf 216 91 [v0, v1, v2, v3, kq v4, .int (x + (zI 1))] st M := den_st (k := 5) (v := .int (x + (zI 1))) l_216_88 rfl
theorem l_216_91 : look (tab 216) 91 = some (.goto (-54), 3, [37], uu) := by decide +kernel
theorem e_216_91 : den cf 216 91 L st M = den cf 216 37 L st M := den_go l_216_91 rfl
theorem l_216_94 : look (tab 216) 94 = some (.iload_n 2, 1, [], uu) := by decide +kernel
theorem e_216_94 : den cf 216 94 [v0, v1, .int x, v3, v4, v5] st M = den cf 216 95 [v0, v1, .int x, v3, v4, v5] (.int x :: st) M := den_go l_216_94 rfl
theorem l_216_95 : look (tab 216) 95 = some (.aload_n 0, 1, [], uu) := by decide +kernel
theorem e_216_95 : den cf 216 95 [.ref a, v1, v2, v3, v4, v5] st M = den cf 216 96 [.ref a, v1, v2, v3, v4, v5] (.ref a :: st) M := den_go l_216_95 rfl
theorem l_216_96 : look (tab 216) 96 = some (.getfield 43, 3, [6, 12, 90], uu) := by decide +kernel
theorem e_216_96 : den cf 216 96 L (.ref a :: st) M = oK (gfA (M.2.2 a) 6 12) (fun v => den cf 216 99 L (v :: st) M) := den_gf l_216_96
theorem l_216_99 : look (tab 216) 99 = some (.iload_n 3, 1, [], uu) := by decide +kernel
theorem e_216_99 : den cf 216 99 [v0, v1, v2, .int x, v4, v5] st M = den cf 216 100 [v0, v1, v2, .int x, v4, v5] (.int x :: st) M := den_go l_216_99 rfl
theorem l_216_100 : look (tab 216) 100 = some (.iaload, 1, [], uu) := by decide +kernel
theorem e_216_100 : den cf 216 100 L (.int x :: .ref a :: st) M = oK (ldI (M.2.2 a) x) (fun v => den cf 216 101 L (v :: st) M) := den_al (g := ldI) l_216_100 rfl
theorem l_216_101 : look (tab 216) 101 = some (.ifCond .ne 13, 3, [114], uu) := by decide +kernel
theorem e_216_101 : den cf 216 101 L (.int x :: st) M = if x = zI 0 then den cf 216 104 L st M else den cf 216 114 L st M := den_if_ne l_216_101
theorem l_216_104 : look (tab 216) 104 = some (.iload 4, 2, [], uu) := by decide +kernel
theorem e_216_104 : den cf 216 104 [v0, v1, v2, v3, .int x, v5] st M = den cf 216 106 [v0, v1, v2, v3, .int x, v5] (.int x :: st) M := den_go l_216_104 rfl
theorem l_216_106 : look (tab 216) 106 = some (.iload_n 1, 1, [], uu) := by decide +kernel
theorem e_216_106 : den cf 216 106 [v0, .int x, v2, v3, v4, v5] st M = den cf 216 107 [v0, .int x, v2, v3, v4, v5] (.int x :: st) M := den_go l_216_106 rfl
theorem l_216_107 : look (tab 216) 107 = some (.if_icmp .lt 7, 3, [114], uu) := by decide +kernel
theorem e_216_107 : den cf 216 107 L (.int y :: .int x :: st) M = if x < y then den cf 216 114 L st M else den cf 216 110 L st M := den_ic_lt l_216_107
theorem l_216_110 : look (tab 216) 110 = some (.iconst 1, 1, [], .int (zI 1)) := by decide +kernel
theorem e_216_110 : den cf 216 110 L st M = den cf 216 111 L (.int (zI 1) :: st) M := den_go l_216_110 rfl
theorem l_216_111 : look (tab 216) 111 = some (.goto 4, 3, [115], uu) := by decide +kernel
theorem e_216_111 : den cf 216 111 L st M = den cf 216 115 L st M := den_go l_216_111 rfl
theorem l_216_114 : look (tab 216) 114 = some (.iconst 0, 1, [], .int (zI 0)) := by decide +kernel
theorem e_216_114 : den cf 216 114 L st M = den cf 216 115 L (.int (zI 0) :: st) M := den_go l_216_114 rfl
theorem l_216_115 : look (tab 216) 115 = some (.iadd, 1, [], uu) := by decide +kernel
theorem e_216_115 : den cf 216 115 L (.int y :: .int x :: st) M = den cf 216 116 L (.int (x + y) :: st) M := den_go l_216_115 rfl
theorem l_216_116 : look (tab 216) 116 = some (.istore_n 2, 1, [], uu) := by decide +kernel
theorem e_216_116 : den cf 216 116 [v0, v1, v2, v3, v4, v5] (.int x :: st) M = den cf 216 117 [v0, kq v1, .int x, v3, v4, v5] st M := den_st (k := 2) (v := .int x) l_216_116 rfl
theorem l_216_117 : look (tab 216) 117 = some (.iinc 3 1, 3, [], .int (zI 1)) := by decide +kernel
theorem e_216_117 : den cf 216 117 [v0, v1, v2, .int x, v4, v5] st M = den cf 216 120 [v0, v1, kq v2, .int (x + (zI 1)), v4, v5] st M := den_st (k := 3) (v := .int (x + (zI 1))) l_216_117 rfl
theorem l_216_120 : look (tab 216) 120 = some (.goto (-97), 3, [23], uu) := by decide +kernel
theorem e_216_120 : den cf 216 120 L st M = den cf 216 23 L st M := den_go l_216_120 rfl
theorem l_216_123 : look (tab 216) 123 = some (.iload_n 2, 1, [], uu) := by decide +kernel
theorem e_216_123 : den cf 216 123 [v0, v1, .int x, v3, v4, v5] st M = den cf 216 124 [v0, v1, .int x, v3, v4, v5] (.int x :: st) M := den_go l_216_123 rfl
theorem l_216_124 : look (tab 216) 124 = some (.ireturn, 1, [0], uu) := by decide +kernel
theorem e_216_124 : den cf 216 124 L [.int x] M = some (some (.int x), M) := den_e0 l_216_124
/-! yX6_bears -/
theorem l_217_0 : look (tab 217) 0 = some (.aload_n 0, 1, [], uu) := by decide +kernel
theorem e_217_0 : den cf 217 0 [.ref a, v1, v2, v3, v4, v5, v6, v7] st M = den cf 217 1 [.ref a, v1, v2, v3, v4, v5, v6, v7] (.ref a :: st) M := den_go l_217_0 rfl
theorem l_217_1 : look (tab 217) 1 = some (.iload_n 1, 1, [], uu) := by decide +kernel
theorem e_217_1 : den cf 217 1 [v0, .int x, v2, v3, v4, v5, v6, v7] st M = den cf 217 2 [v0, .int x, v2, v3, v4, v5, v6, v7] (.int x :: st) M := den_go l_217_1 rfl
theorem l_217_2 : look (tab 217) 2 = some (.invokevirtual 104, 3, [6, 138, 2, 226, 227, 228, 5], uu) := by decide +kernel
theorem e_217_2 : den cf 217 2 L (w1 :: .ref a :: st) M = if rcv M 6 [.ref a, w1] = true ∧ st.length ≤ 4 then rK (cf 138 [.ref a, w1] M) (fun v M' => den cf 217 5 L (pR v st) M') else none := den_iv [w1] l_217_2 rfl
theorem l_217_5 : look (tab 217) 5 = some (.ifCond .eq 27, 3, [32], uu) := by decide +kernel
theorem e_217_5 : den cf 217 5 L (.int x :: st) M = if x = zI 0 then den cf 217 32 L st M else den cf 217 8 L st M := den_if_eq l_217_5
theorem l_217_8 : look (tab 217) 8 = some (.iload_n 2, 1, [], uu) := by decide +kernel
theorem e_217_8 : den cf 217 8 [v0, v1, .int x, v3, v4, v5, v6, v7] st M = den cf 217 9 [v0, v1, .int x, v3, v4, v5, v6, v7] (.int x :: st) M := den_go l_217_8 rfl
theorem l_217_9 : look (tab 217) 9 = some (.i2l, 1, [], uu) := by decide +kernel
theorem e_217_9 : den cf 217 9 L (.int x :: st) M = den cf 217 10 L (.long x.toInt64 :: st) M := den_go l_217_9 rfl
theorem l_217_10 : look (tab 217) 10 = some (.lconst 0, 1, [], .long (zJ 0)) := by decide +kernel
theorem e_217_10 : den cf 217 10 L st M = den cf 217 11 L (.long (zJ 0) :: st) M := den_go l_217_10 rfl
theorem l_217_11 : look (tab 217) 11 = some (.ldc2_w 149, 3, [399], .long (zJ 12)) := by decide +kernel
theorem e_217_11 : den cf 217 11 L st M = den cf 217 14 L (.long (zJ 12) :: st) M := den_go l_217_11 rfl
theorem l_217_14 : look (tab 217) 14 = some (.invokestatic 83, 3, [1, 137, 3, 130, 131, 5], uu) := by decide +kernel
theorem e_217_14 : den cf 217 14 L (w3 :: w2 :: w1 :: st) M = if st.length ≤ 4 then rK (cf 137 [w1, w2, w3] M) (fun v M' => den cf 217 17 L (pR v st) M') else none := den_ist [w1, w2, w3] l_217_14 rfl
theorem l_217_17 : look (tab 217) 17 = some (.ifCond .eq 15, 3, [32], uu) := by decide +kernel
theorem e_217_17 : den cf 217 17 L (.int x :: st) M = if x = zI 0 then den cf 217 32 L st M else den cf 217 20 L st M := den_if_eq l_217_17
theorem l_217_20 : look (tab 217) 20 = some (.iload_n 3, 1, [], uu) := by decide +kernel
theorem e_217_20 : den cf 217 20 [v0, v1, v2, .int x, v4, v5, v6, v7] st M = den cf 217 21 [v0, v1, v2, .int x, v4, v5, v6, v7] (.int x :: st) M := den_go l_217_20 rfl
theorem l_217_21 : look (tab 217) 21 = some (.i2l, 1, [], uu) := by decide +kernel
theorem e_217_21 : den cf 217 21 L (.int x :: st) M = den cf 217 22 L (.long x.toInt64 :: st) M := den_go l_217_21 rfl
theorem l_217_22 : look (tab 217) 22 = some (.lconst 0, 1, [], .long (zJ 0)) := by decide +kernel
theorem e_217_22 : den cf 217 22 L st M = den cf 217 23 L (.long (zJ 0) :: st) M := den_go l_217_22 rfl
theorem l_217_23 : look (tab 217) 23 = some (.ldc2_w 256, 3, [699], .long (zJ 1000000)) := by decide +kernel
theorem e_217_23 : den cf 217 23 L st M = den cf 217 26 L (.long (zJ 1000000) :: st) M := den_go l_217_23 rfl
theorem l_217_26 : look (tab 217) 26 = some (.invokestatic 83, 3, [1, 137, 3, 130, 131, 5], uu) := by decide +kernel
theorem e_217_26 : den cf 217 26 L (w3 :: w2 :: w1 :: st) M = if st.length ≤ 4 then rK (cf 137 [w1, w2, w3] M) (fun v M' => den cf 217 29 L (pR v st) M') else none := den_ist [w1, w2, w3] l_217_26 rfl
theorem l_217_29 : look (tab 217) 29 = some (.ifCond .ne 10, 3, [39], uu) := by decide +kernel
theorem e_217_29 : den cf 217 29 L (.int x :: st) M = if x = zI 0 then den cf 217 32 L st M else den cf 217 39 L st M := den_if_ne l_217_29
theorem l_217_32 : look (tab 217) 32 = some (.aload_n 0, 1, [], uu) := by decide +kernel
theorem e_217_32 : den cf 217 32 [.ref a, v1, v2, v3, v4, v5, v6, v7] st M = den cf 217 33 [.ref a, v1, v2, v3, v4, v5, v6, v7] (.ref a :: st) M := den_go l_217_32 rfl
theorem l_217_33 : look (tab 217) 33 = some (.bipush (-2), 2, [], .int (zI (-2))) := by decide +kernel
theorem e_217_33 : den cf 217 33 L st M = den cf 217 35 L (.int (zI (-2)) :: st) M := den_go l_217_33 rfl
theorem l_217_35 : look (tab 217) 35 = some (.invokevirtual 93, 3, [6, 136, 2, 133, 134, 135, 5], uu) := by decide +kernel
theorem e_217_35 : den cf 217 35 L (w1 :: .ref a :: st) M = if rcv M 6 [.ref a, w1] = true ∧ st.length ≤ 4 then rK (cf 136 [.ref a, w1] M) (fun v M' => den cf 217 38 L (pR v st) M') else none := den_iv [w1] l_217_35 rfl
theorem l_217_38 : look (tab 217) 38 = some (.ireturn, 1, [0], uu) := by decide +kernel
theorem e_217_38 : den cf 217 38 L [.int x] M = some (some (.int x), M) := den_e0 l_217_38
theorem l_217_39 : look (tab 217) 39 = some (.aload_n 0, 1, [], uu) := by decide +kernel
theorem e_217_39 : den cf 217 39 [.ref a, v1, v2, v3, v4, v5, v6, v7] st M = den cf 217 40 [.ref a, v1, v2, v3, v4, v5, v6, v7] (.ref a :: st) M := den_go l_217_39 rfl
theorem l_217_40 : look (tab 217) 40 = some (.iload_n 1, 1, [], uu) := by decide +kernel
theorem e_217_40 : den cf 217 40 [v0, .int x, v2, v3, v4, v5, v6, v7] st M = den cf 217 41 [v0, .int x, v2, v3, v4, v5, v6, v7] (.int x :: st) M := den_go l_217_40 rfl
theorem l_217_41 : look (tab 217) 41 = some (.invokevirtual 247, 3, [6, 180, 2, 653, 654, 655, 5], uu) := by decide +kernel
theorem e_217_41 : den cf 217 41 L (w1 :: .ref a :: st) M = if rcv M 6 [.ref a, w1] = true ∧ st.length ≤ 4 then rK (cf 180 [.ref a, w1] M) (fun v M' => den cf 217 44 L (pR v st) M') else none := den_iv [w1] l_217_41 rfl
theorem l_217_44 : look (tab 217) 44 = some (.istore 4, 2, [], uu) := by decide +kernel
theorem e_217_44 : den cf 217 44 [v0, v1, v2, v3, v4, v5, v6, v7] (.int x :: st) M = den cf 217 46 [v0, v1, v2, kq v3, .int x, v5, v6, v7] st M := den_st (k := 4) (v := .int x) l_217_44 rfl
theorem l_217_46 : look (tab 217) 46 = some (.iload 4, 2, [], uu) := by decide +kernel
theorem e_217_46 : den cf 217 46 [v0, v1, v2, v3, .int x, v5, v6, v7] st M = den cf 217 48 [v0, v1, v2, v3, .int x, v5, v6, v7] (.int x :: st) M := den_go l_217_46 rfl
theorem l_217_48 : look (tab 217) 48 = some (.ifCond .eq 6, 3, [54], uu) := by decide +kernel
theorem e_217_48 : den cf 217 48 L (.int x :: st) M = if x = zI 0 then den cf 217 54 L st M else den cf 217 51 L st M := den_if_eq l_217_48
theorem l_217_51 : look (tab 217) 51 = some (.iload 4, 2, [], uu) := by decide +kernel
theorem e_217_51 : den cf 217 51 [v0, v1, v2, v3, .int x, v5, v6, v7] st M = den cf 217 53 [v0, v1, v2, v3, .int x, v5, v6, v7] (.int x :: st) M := den_go l_217_51 rfl
theorem l_217_53 : look (tab 217) 53 = some (.ireturn, 1, [0], uu) := by decide +kernel
theorem e_217_53 : den cf 217 53 L [.int x] M = some (some (.int x), M) := den_e0 l_217_53
theorem l_217_54 : look (tab 217) 54 = some (.aload_n 0, 1, [], uu) := by decide +kernel
theorem e_217_54 : den cf 217 54 [.ref a, v1, v2, v3, v4, v5, v6, v7] st M = den cf 217 55 [.ref a, v1, v2, v3, v4, v5, v6, v7] (.ref a :: st) M := den_go l_217_54 rfl
theorem l_217_55 : look (tab 217) 55 = some (.getfield 61, 3, [6, 18, 96], uu) := by decide +kernel
theorem e_217_55 : den cf 217 55 L (.ref a :: st) M = oK (gfA (M.2.2 a) 6 18) (fun v => den cf 217 58 L (v :: st) M) := den_gf l_217_55
theorem l_217_58 : look (tab 217) 58 = some (.iconst 0, 1, [], .int (zI 0)) := by decide +kernel
theorem e_217_58 : den cf 217 58 L st M = den cf 217 59 L (.int (zI 0) :: st) M := den_go l_217_58 rfl
theorem l_217_59 : look (tab 217) 59 = some (.iaload, 1, [], uu) := by decide +kernel
theorem e_217_59 : den cf 217 59 L (.int x :: .ref a :: st) M = oK (ldI (M.2.2 a) x) (fun v => den cf 217 60 L (v :: st) M) := den_al (g := ldI) l_217_59 rfl
theorem l_217_60 : look (tab 217) 60 = some (.istore 5, 2, [], uu) := by decide +kernel
theorem e_217_60 : den cf 217 60 [v0, v1, v2, v3, v4, v5, v6, v7] (.int x :: st) M = den cf 217 62 [v0, v1, v2, v3, kq v4, .int x, v6, v7] st M := den_st (k := 5) (v := .int x) l_217_60 rfl
theorem l_217_62 : look (tab 217) 62 = some (.iconst (-1), 1, [], .int (zI (-1))) := by decide +kernel
theorem e_217_62 : den cf 217 62 L st M = den cf 217 63 L (.int (zI (-1)) :: st) M := den_go l_217_62 rfl
theorem l_217_63 : look (tab 217) 63 = some (.istore 6, 2, [], uu) := by decide +kernel
theorem e_217_63 : den cf 217 63 [v0, v1, v2, v3, v4, v5, v6, v7] (.int x :: st) M = den cf 217 65 [v0, v1, v2, v3, v4, kq v5, .int x, v7] st M := den_st (k := 6) (v := .int x) l_217_63 rfl
theorem l_217_65 : look (tab 217) 65 = some (.iconst 0, 1, [], .int (zI 0)) := by decide +kernel
theorem e_217_65 : den cf 217 65 L st M = den cf 217 66 L (.int (zI 0) :: st) M := den_go l_217_65 rfl
theorem l_217_66 : look (tab 217) 66 = some (.istore 7, 2, [], uu) := by decide +kernel
theorem e_217_66 : den cf 217 66 [v0, v1, v2, v3, v4, v5, v6, v7] (.int x :: st) M = den cf 217 68 [v0, v1, v2, v3, v4, v5, kq v6, .int x] st M := den_st (k := 7) (v := .int x) l_217_66 rfl
theorem l_217_68 : look (tab 217) 68 = some (.iload 7, 2, [], uu) := by decide +kernel
theorem e_217_68 : den cf 217 68 [v0, v1, v2, v3, v4, v5, v6, .int x] st M = den cf 217 70 [v0, v1, v2, v3, v4, v5, v6, .int x] (.int x :: st) M := den_go l_217_68 rfl
theorem l_217_70 : look (tab 217) 70 = some (.bipush 12, 2, [], .int (zI 12)) := by decide +kernel
theorem e_217_70 : den cf 217 70 L st M = den cf 217 72 L (.int (zI 12) :: st) M := den_go l_217_70 rfl
theorem l_217_72 : look (tab 217) 72 = some (.if_icmp .gt 36, 3, [108], uu) := by decide +kernel
theorem e_217_72 : den cf 217 72 L (.int y :: .int x :: st) M = if y < x then den cf 217 108 L st M else den cf 217 75 L st M := den_ic_gt l_217_72
theorem l_217_75 : look (tab 217) 75 = some (.aload_n 0, 1, [], uu) := by decide +kernel
theorem e_217_75 : den cf 217 75 [.ref a, v1, v2, v3, v4, v5, v6, v7] st M = den cf 217 76 [.ref a, v1, v2, v3, v4, v5, v6, v7] (.ref a :: st) M := den_go l_217_75 rfl
theorem l_217_76 : look (tab 217) 76 = some (.getfield 61, 3, [6, 18, 96], uu) := by decide +kernel
theorem e_217_76 : den cf 217 76 L (.ref a :: st) M = oK (gfA (M.2.2 a) 6 18) (fun v => den cf 217 79 L (v :: st) M) := den_gf l_217_76
theorem l_217_79 : look (tab 217) 79 = some (.iconst 0, 1, [], .int (zI 0)) := by decide +kernel
theorem e_217_79 : den cf 217 79 L st M = den cf 217 80 L (.int (zI 0) :: st) M := den_go l_217_79 rfl
theorem l_217_80 : look (tab 217) 80 = some (.iload 7, 2, [], uu) := by decide +kernel
theorem e_217_80 : den cf 217 80 [v0, v1, v2, v3, v4, v5, v6, .int x] st M = den cf 217 82 [v0, v1, v2, v3, v4, v5, v6, .int x] (.int x :: st) M := den_go l_217_80 rfl
theorem l_217_82 : look (tab 217) 82 = some (.iastore, 1, [], uu) := by decide +kernel
theorem e_217_82 : den cf 217 82 L (.int x :: .int y :: .ref a :: st) M = oK (stI (M.2.2 a) y x) (fun c => den cf 217 83 L st (mU M a c)) := den_is l_217_82
theorem l_217_83 : look (tab 217) 83 = some (.aload_n 0, 1, [], uu) := by decide +kernel
theorem e_217_83 : den cf 217 83 [.ref a, v1, v2, v3, v4, v5, v6, v7] st M = den cf 217 84 [.ref a, v1, v2, v3, v4, v5, v6, v7] (.ref a :: st) M := den_go l_217_83 rfl
theorem l_217_84 : look (tab 217) 84 = some (.iload_n 1, 1, [], uu) := by decide +kernel
theorem e_217_84 : den cf 217 84 [v0, .int x, v2, v3, v4, v5, v6, v7] st M = den cf 217 85 [v0, .int x, v2, v3, v4, v5, v6, v7] (.int x :: st) M := den_go l_217_84 rfl
theorem l_217_85 : look (tab 217) 85 = some (.iload_n 2, 1, [], uu) := by decide +kernel
theorem e_217_85 : den cf 217 85 [v0, v1, .int x, v3, v4, v5, v6, v7] st M = den cf 217 86 [v0, v1, .int x, v3, v4, v5, v6, v7] (.int x :: st) M := den_go l_217_85 rfl
theorem l_217_86 : look (tab 217) 86 = some (.invokevirtual 263, 3, [6, 187, 3, 695, 696, 697, 5], uu) := by decide +kernel
theorem e_217_86 : den cf 217 86 L (w2 :: w1 :: .ref a :: st) M = if rcv M 6 [.ref a, w1, w2] = true ∧ st.length ≤ 4 then rK (cf 187 [.ref a, w1, w2] M) (fun v M' => den cf 217 89 L (pR v st) M') else none := den_iv [w1, w2] l_217_86 rfl
theorem l_217_89 : look (tab 217) 89 = some (.iload_n 3, 1, [], uu) := by decide +kernel
theorem e_217_89 : den cf 217 89 [v0, v1, v2, .int x, v4, v5, v6, v7] st M = den cf 217 90 [v0, v1, v2, .int x, v4, v5, v6, v7] (.int x :: st) M := den_go l_217_89 rfl
theorem l_217_90 : look (tab 217) 90 = some (.if_icmp .lt 8, 3, [98], uu) := by decide +kernel
theorem e_217_90 : den cf 217 90 L (.int y :: .int x :: st) M = if x < y then den cf 217 98 L st M else den cf 217 93 L st M := den_ic_lt l_217_90
theorem l_217_93 : look (tab 217) 93 = some (.iload 7, 2, [], uu) := by decide +kernel
theorem e_217_93 : den cf 217 93 [v0, v1, v2, v3, v4, v5, v6, .int x] st M = den cf 217 95 [v0, v1, v2, v3, v4, v5, v6, .int x] (.int x :: st) M := den_go l_217_93 rfl
theorem l_217_95 : look (tab 217) 95 = some (.goto 5, 3, [100], uu) := by decide +kernel
theorem e_217_95 : den cf 217 95 L st M = den cf 217 100 L st M := den_go l_217_95 rfl
theorem l_217_98 : look (tab 217) 98 = some (.iload 6, 2, [], uu) := by decide +kernel
theorem e_217_98 : den cf 217 98 [v0, v1, v2, v3, v4, v5, .int x, v7] st M = den cf 217 100 [v0, v1, v2, v3, v4, v5, .int x, v7] (.int x :: st) M := den_go l_217_98 rfl
theorem l_217_100 : look (tab 217) 100 = some (.istore 6, 2, [], uu) := by decide +kernel
theorem e_217_100 : den cf 217 100 [v0, v1, v2, v3, v4, v5, v6, v7] (.int x :: st) M = den cf 217 102 [v0, v1, v2, v3, v4, kq v5, .int x, v7] st M := den_st (k := 6) (v := .int x) l_217_100 rfl
theorem l_217_102 : look (tab 217) 102 = some (.iinc 7 1, 3, [], .int (zI 1)) := by decide +kernel
theorem e_217_102 : den cf 217 102 [v0, v1, v2, v3, v4, v5, v6, .int x] st M = den cf 217 105 [v0, v1, v2, v3, v4, v5, kq v6, .int (x + (zI 1))] st M := den_st (k := 7) (v := .int (x + (zI 1))) l_217_102 rfl
theorem l_217_105 : look (tab 217) 105 = some (.goto (-37), 3, [68], uu) := by decide +kernel
theorem e_217_105 : den cf 217 105 L st M = den cf 217 68 L st M := den_go l_217_105 rfl
theorem l_217_108 : look (tab 217) 108 = some (.aload_n 0, 1, [], uu) := by decide +kernel
theorem e_217_108 : den cf 217 108 [.ref a, v1, v2, v3, v4, v5, v6, v7] st M = den cf 217 109 [.ref a, v1, v2, v3, v4, v5, v6, v7] (.ref a :: st) M := den_go l_217_108 rfl
theorem l_217_109 : look (tab 217) 109 = some (.getfield 61, 3, [6, 18, 96], uu) := by decide +kernel
theorem e_217_109 : den cf 217 109 L (.ref a :: st) M = oK (gfA (M.2.2 a) 6 18) (fun v => den cf 217 112 L (v :: st) M) := den_gf l_217_109
theorem l_217_112 : look (tab 217) 112 = some (.iconst 0, 1, [], .int (zI 0)) := by decide +kernel
theorem e_217_112 : den cf 217 112 L st M = den cf 217 113 L (.int (zI 0) :: st) M := den_go l_217_112 rfl
theorem l_217_113 : look (tab 217) 113 = some (.iload 5, 2, [], uu) := by decide +kernel
theorem e_217_113 : den cf 217 113 [v0, v1, v2, v3, v4, .int x, v6, v7] st M = den cf 217 115 [v0, v1, v2, v3, v4, .int x, v6, v7] (.int x :: st) M := den_go l_217_113 rfl
theorem l_217_115 : look (tab 217) 115 = some (.iastore, 1, [], uu) := by decide +kernel
theorem e_217_115 : den cf 217 115 L (.int x :: .int y :: .ref a :: st) M = oK (stI (M.2.2 a) y x) (fun c => den cf 217 116 L st (mU M a c)) := den_is l_217_115
theorem l_217_116 : look (tab 217) 116 = some (.iload 6, 2, [], uu) := by decide +kernel
theorem e_217_116 : den cf 217 116 [v0, v1, v2, v3, v4, v5, .int x, v7] st M = den cf 217 118 [v0, v1, v2, v3, v4, v5, .int x, v7] (.int x :: st) M := den_go l_217_116 rfl
theorem l_217_118 : look (tab 217) 118 = some (.ireturn, 1, [0], uu) := by decide +kernel
theorem e_217_118 : den cf 217 118 L [.int x] M = some (some (.int x), M) := den_e0 l_217_118
/-! yX6_drift -/
theorem l_218_0 : look (tab 218) 0 = some (.aload_n 0, 1, [], uu) := by decide +kernel
theorem e_218_0 : den cf 218 0 [.ref a, v1, v2, v3, v4, v5] st M = den cf 218 1 [.ref a, v1, v2, v3, v4, v5] (.ref a :: st) M := den_go l_218_0 rfl
theorem l_218_1 : look (tab 218) 1 = some (.iload_n 1, 1, [], uu) := by decide +kernel
theorem e_218_1 : den cf 218 1 [v0, .int x, v2, v3, v4, v5] st M = den cf 218 2 [v0, .int x, v2, v3, v4, v5] (.int x :: st) M := den_go l_218_1 rfl
theorem l_218_2 : look (tab 218) 2 = some (.invokevirtual 104, 3, [6, 138, 2, 226, 227, 228, 5], uu) := by decide +kernel
theorem e_218_2 : den cf 218 2 L (w1 :: .ref a :: st) M = if rcv M 6 [.ref a, w1] = true ∧ st.length ≤ 4 then rK (cf 138 [.ref a, w1] M) (fun v M' => den cf 218 5 L (pR v st) M') else none := den_iv [w1] l_218_2 rfl
theorem l_218_5 : look (tab 218) 5 = some (.ifCond .eq 15, 3, [20], uu) := by decide +kernel
theorem e_218_5 : den cf 218 5 L (.int x :: st) M = if x = zI 0 then den cf 218 20 L st M else den cf 218 8 L st M := den_if_eq l_218_5
theorem l_218_8 : look (tab 218) 8 = some (.iload_n 2, 1, [], uu) := by decide +kernel
theorem e_218_8 : den cf 218 8 [v0, v1, .int x, v3, v4, v5] st M = den cf 218 9 [v0, v1, .int x, v3, v4, v5] (.int x :: st) M := den_go l_218_8 rfl
theorem l_218_9 : look (tab 218) 9 = some (.i2l, 1, [], uu) := by decide +kernel
theorem e_218_9 : den cf 218 9 L (.int x :: st) M = den cf 218 10 L (.long x.toInt64 :: st) M := den_go l_218_9 rfl
theorem l_218_10 : look (tab 218) 10 = some (.lconst 0, 1, [], .long (zJ 0)) := by decide +kernel
theorem e_218_10 : den cf 218 10 L st M = den cf 218 11 L (.long (zJ 0) :: st) M := den_go l_218_10 rfl
theorem l_218_11 : look (tab 218) 11 = some (.ldc2_w 91, 3, [129], .long (zJ 40)) := by decide +kernel
theorem e_218_11 : den cf 218 11 L st M = den cf 218 14 L (.long (zJ 40) :: st) M := den_go l_218_11 rfl
theorem l_218_14 : look (tab 218) 14 = some (.invokestatic 83, 3, [1, 137, 3, 130, 131, 5], uu) := by decide +kernel
theorem e_218_14 : den cf 218 14 L (w3 :: w2 :: w1 :: st) M = if st.length ≤ 4 then rK (cf 137 [w1, w2, w3] M) (fun v M' => den cf 218 17 L (pR v st) M') else none := den_ist [w1, w2, w3] l_218_14 rfl
theorem l_218_17 : look (tab 218) 17 = some (.ifCond .ne 10, 3, [27], uu) := by decide +kernel
theorem e_218_17 : den cf 218 17 L (.int x :: st) M = if x = zI 0 then den cf 218 20 L st M else den cf 218 27 L st M := den_if_ne l_218_17
theorem l_218_20 : look (tab 218) 20 = some (.aload_n 0, 1, [], uu) := by decide +kernel
theorem e_218_20 : den cf 218 20 [.ref a, v1, v2, v3, v4, v5] st M = den cf 218 21 [.ref a, v1, v2, v3, v4, v5] (.ref a :: st) M := den_go l_218_20 rfl
theorem l_218_21 : look (tab 218) 21 = some (.bipush (-2), 2, [], .int (zI (-2))) := by decide +kernel
theorem e_218_21 : den cf 218 21 L st M = den cf 218 23 L (.int (zI (-2)) :: st) M := den_go l_218_21 rfl
theorem l_218_23 : look (tab 218) 23 = some (.invokevirtual 93, 3, [6, 136, 2, 133, 134, 135, 5], uu) := by decide +kernel
theorem e_218_23 : den cf 218 23 L (w1 :: .ref a :: st) M = if rcv M 6 [.ref a, w1] = true ∧ st.length ≤ 4 then rK (cf 136 [.ref a, w1] M) (fun v M' => den cf 218 26 L (pR v st) M') else none := den_iv [w1] l_218_23 rfl
theorem l_218_26 : look (tab 218) 26 = some (.ireturn, 1, [0], uu) := by decide +kernel
theorem e_218_26 : den cf 218 26 L [.int x] M = some (some (.int x), M) := den_e0 l_218_26
theorem l_218_27 : look (tab 218) 27 = some (.aload_n 0, 1, [], uu) := by decide +kernel
theorem e_218_27 : den cf 218 27 [.ref a, v1, v2, v3, v4, v5] st M = den cf 218 28 [.ref a, v1, v2, v3, v4, v5] (.ref a :: st) M := den_go l_218_27 rfl
theorem l_218_28 : look (tab 218) 28 = some (.iload_n 1, 1, [], uu) := by decide +kernel
theorem e_218_28 : den cf 218 28 [v0, .int x, v2, v3, v4, v5] st M = den cf 218 29 [v0, .int x, v2, v3, v4, v5] (.int x :: st) M := den_go l_218_28 rfl
theorem l_218_29 : look (tab 218) 29 = some (.invokevirtual 247, 3, [6, 180, 2, 653, 654, 655, 5], uu) := by decide +kernel
theorem e_218_29 : den cf 218 29 L (w1 :: .ref a :: st) M = if rcv M 6 [.ref a, w1] = true ∧ st.length ≤ 4 then rK (cf 180 [.ref a, w1] M) (fun v M' => den cf 218 32 L (pR v st) M') else none := den_iv [w1] l_218_29 rfl
theorem l_218_32 : look (tab 218) 32 = some (.istore_n 3, 1, [], uu) := by decide +kernel
theorem e_218_32 : den cf 218 32 [v0, v1, v2, v3, v4, v5] (.int x :: st) M = den cf 218 33 [v0, v1, kq v2, .int x, v4, v5] st M := den_st (k := 3) (v := .int x) l_218_32 rfl
theorem l_218_33 : look (tab 218) 33 = some (.iload_n 3, 1, [], uu) := by decide +kernel
theorem e_218_33 : den cf 218 33 [v0, v1, v2, .int x, v4, v5] st M = den cf 218 34 [v0, v1, v2, .int x, v4, v5] (.int x :: st) M := den_go l_218_33 rfl
theorem l_218_34 : look (tab 218) 34 = some (.ifCond .eq 5, 3, [39], uu) := by decide +kernel
theorem e_218_34 : den cf 218 34 L (.int x :: st) M = if x = zI 0 then den cf 218 39 L st M else den cf 218 37 L st M := den_if_eq l_218_34
theorem l_218_37 : look (tab 218) 37 = some (.iload_n 3, 1, [], uu) := by decide +kernel
theorem e_218_37 : den cf 218 37 [v0, v1, v2, .int x, v4, v5] st M = den cf 218 38 [v0, v1, v2, .int x, v4, v5] (.int x :: st) M := den_go l_218_37 rfl
theorem l_218_38 : look (tab 218) 38 = some (.ireturn, 1, [0], uu) := by decide +kernel
theorem e_218_38 : den cf 218 38 L [.int x] M = some (some (.int x), M) := den_e0 l_218_38
theorem l_218_39 : look (tab 218) 39 = some (.aload_n 0, 1, [], uu) := by decide +kernel
theorem e_218_39 : den cf 218 39 [.ref a, v1, v2, v3, v4, v5] st M = den cf 218 40 [.ref a, v1, v2, v3, v4, v5] (.ref a :: st) M := den_go l_218_39 rfl
theorem l_218_40 : look (tab 218) 40 = some (.invokevirtual 240, 3, [6, 174, 1, 561, 562, 563, 5], uu) := by decide +kernel
theorem e_218_40 : den cf 218 40 L (.ref a :: st) M = if rcv M 6 [.ref a] = true ∧ st.length ≤ 4 then rK (cf 174 [.ref a] M) (fun v M' => den cf 218 43 L (pR v st) M') else none := den_iv [] l_218_40 rfl
theorem l_218_43 : look (tab 218) 43 = some (.astore 4, 2, [], uu) := by decide +kernel
theorem e_218_43 : den cf 218 43 [v0, v1, v2, v3, v4, v5] (v :: st) M = if isRf v = true then den cf 218 45 [v0, v1, v2, kq v3, v, v5] st M else none := den_as (k := 4) (v := v) l_218_43 rfl (Nat.le_of_ble_eq_true rfl)
theorem l_218_45 : look (tab 218) 45 = some (.iconst 0, 1, [], .int (zI 0)) := by decide +kernel
theorem e_218_45 : den cf 218 45 L st M = den cf 218 46 L (.int (zI 0) :: st) M := den_go l_218_45 rfl
theorem l_218_46 : look (tab 218) 46 = some (.istore 5, 2, [], uu) := by decide +kernel
theorem e_218_46 : den cf 218 46 [v0, v1, v2, v3, v4, v5] (.int x :: st) M = den cf 218 48 [v0, v1, v2, v3, kq v4, .int x] st M := den_st (k := 5) (v := .int x) l_218_46 rfl
theorem l_218_48 : look (tab 218) 48 = some (.iload 5, 2, [], uu) := by decide +kernel
theorem e_218_48 : den cf 218 48 [v0, v1, v2, v3, v4, .int x] st M = den cf 218 50 [v0, v1, v2, v3, v4, .int x] (.int x :: st) M := den_go l_218_48 rfl
theorem l_218_50 : look (tab 218) 50 = some (.iload_n 2, 1, [], uu) := by decide +kernel
theorem e_218_50 : den cf 218 50 [v0, v1, .int x, v3, v4, v5] st M = den cf 218 51 [v0, v1, .int x, v3, v4, v5] (.int x :: st) M := den_go l_218_50 rfl
theorem l_218_51 : look (tab 218) 51 = some (.if_icmp .ge 21, 3, [72], uu) := by decide +kernel
theorem e_218_51 : den cf 218 51 L (.int y :: .int x :: st) M = if x < y then den cf 218 54 L st M else den cf 218 72 L st M := den_ic_ge l_218_51
theorem l_218_54 : look (tab 218) 54 = some (.aload 4, 2, [], uu) := by decide +kernel
theorem e_218_54 : den cf 218 54 [v0, v1, v2, v3, v4, v5] st M = if isRf v4 = true then den cf 218 56 [v0, v1, v2, v3, v4, v5] (v4 :: st) M else none := den_g l_218_54 rfl
theorem l_218_56 : look (tab 218) 56 = some (.aload 4, 2, [], uu) := by decide +kernel
theorem e_218_56 : den cf 218 56 [v0, v1, v2, v3, v4, v5] st M = if isRf v4 = true then den cf 218 58 [v0, v1, v2, v3, v4, v5] (v4 :: st) M else none := den_g l_218_56 rfl
theorem l_218_58 : look (tab 218) 58 = some (.iload_n 1, 1, [], uu) := by decide +kernel
theorem e_218_58 : den cf 218 58 [v0, .int x, v2, v3, v4, v5] st M = den cf 218 59 [v0, .int x, v2, v3, v4, v5] (.int x :: st) M := den_go l_218_58 rfl
theorem l_218_59 : look (tab 218) 59 = some (.invokevirtual 250, 3, [6, 182, 2, 678, 679, 680, 5], uu) := by decide +kernel
theorem e_218_59 : den cf 218 59 L (w1 :: .ref a :: st) M = if rcv M 6 [.ref a, w1] = true ∧ st.length ≤ 4 then rK (cf 182 [.ref a, w1] M) (fun v M' => den cf 218 62 L (pR v st) M') else none := den_iv [w1] l_218_59 rfl
theorem l_218_62 : look (tab 218) 62 = some (.iconst 1, 1, [], .int (zI 1)) := by decide +kernel
theorem e_218_62 : den cf 218 62 L st M = den cf 218 63 L (.int (zI 1) :: st) M := den_go l_218_62 rfl
theorem l_218_63 : look (tab 218) 63 = some (.invokevirtual 316, 3, [6, 186, 3, 1022, 1023, 1024, 5], uu) := by decide +kernel
theorem e_218_63 : den cf 218 63 L (w2 :: w1 :: .ref a :: st) M = if rcv M 6 [.ref a, w1, w2] = true ∧ st.length ≤ 4 then rK (cf 186 [.ref a, w1, w2] M) (fun v M' => den cf 218 66 L (pR v st) M') else none := den_iv [w1, w2] l_218_63 rfl
theorem l_218_66 : look (tab 218) 66 = some (.iinc 5 1, 3, [], .int (zI 1)) := by decide +kernel
theorem e_218_66 : den cf 218 66 [v0, v1, v2, v3, v4, .int x] st M = den cf 218 69 [v0, v1, v2, v3, kq v4, .int (x + (zI 1))] st M := den_st (k := 5) (v := .int (x + (zI 1))) l_218_66 rfl
theorem l_218_69 : look (tab 218) 69 = some (.goto (-21), 3, [48], uu) := by decide +kernel
theorem e_218_69 : den cf 218 69 L st M = den cf 218 48 L st M := den_go l_218_69 rfl
theorem l_218_72 : look (tab 218) 72 = some (.aload 4, 2, [], uu) := by decide +kernel
theorem e_218_72 : den cf 218 72 [v0, v1, v2, v3, v4, v5] st M = if isRf v4 = true then den cf 218 74 [v0, v1, v2, v3, v4, v5] (v4 :: st) M else none := den_g l_218_72 rfl
theorem l_218_74 : look (tab 218) 74 = some (.getfield 58, 3, [6, 17, 95], uu) := by decide +kernel
theorem e_218_74 : den cf 218 74 L (.ref a :: st) M = oK (gfA (M.2.2 a) 6 17) (fun v => den cf 218 77 L (v :: st) M) := den_gf l_218_74
theorem l_218_77 : look (tab 218) 77 = some (.aload_n 0, 1, [], uu) := by decide +kernel
theorem e_218_77 : den cf 218 77 [.ref a, v1, v2, v3, v4, v5] st M = den cf 218 78 [.ref a, v1, v2, v3, v4, v5] (.ref a :: st) M := den_go l_218_77 rfl
theorem l_218_78 : look (tab 218) 78 = some (.getfield 49, 3, [6, 14, 92], uu) := by decide +kernel
theorem e_218_78 : den cf 218 78 L (.ref a :: st) M = oK (gfA (M.2.2 a) 6 14) (fun v => den cf 218 81 L (v :: st) M) := den_gf l_218_78
theorem l_218_81 : look (tab 218) 81 = some (.aload 4, 2, [], uu) := by decide +kernel
theorem e_218_81 : den cf 218 81 [v0, v1, v2, v3, v4, v5] st M = if isRf v4 = true then den cf 218 83 [v0, v1, v2, v3, v4, v5] (v4 :: st) M else none := den_g l_218_81 rfl
theorem l_218_83 : look (tab 218) 83 = some (.iload_n 1, 1, [], uu) := by decide +kernel
theorem e_218_83 : den cf 218 83 [v0, .int x, v2, v3, v4, v5] st M = den cf 218 84 [v0, .int x, v2, v3, v4, v5] (.int x :: st) M := den_go l_218_83 rfl
theorem l_218_84 : look (tab 218) 84 = some (.invokevirtual 250, 3, [6, 182, 2, 678, 679, 680, 5], uu) := by decide +kernel
theorem e_218_84 : den cf 218 84 L (w1 :: .ref a :: st) M = if rcv M 6 [.ref a, w1] = true ∧ st.length ≤ 4 then rK (cf 182 [.ref a, w1] M) (fun v M' => den cf 218 87 L (pR v st) M') else none := den_iv [w1] l_218_84 rfl
theorem l_218_87 : look (tab 218) 87 = some (.iaload, 1, [], uu) := by decide +kernel
theorem e_218_87 : den cf 218 87 L (.int x :: .ref a :: st) M = oK (ldI (M.2.2 a) x) (fun v => den cf 218 88 L (v :: st) M) := den_al (g := ldI) l_218_87 rfl
theorem l_218_88 : look (tab 218) 88 = some (.iaload, 1, [], uu) := by decide +kernel
theorem e_218_88 : den cf 218 88 L (.int x :: .ref a :: st) M = oK (ldI (M.2.2 a) x) (fun v => den cf 218 89 L (v :: st) M) := den_al (g := ldI) l_218_88 rfl
theorem l_218_89 : look (tab 218) 89 = some (.ireturn, 1, [0], uu) := by decide +kernel
theorem e_218_89 : den cf 218 89 L [.int x] M = some (some (.int x), M) := den_e0 l_218_89
/-! yX6_alike -/
theorem l_219_0 : look (tab 219) 0 = some (.iconst 0, 1, [], .int (zI 0)) := by decide +kernel
theorem e_219_0 : den cf 219 0 L st M = den cf 219 1 L (.int (zI 0) :: st) M := den_go l_219_0 rfl
theorem l_219_1 : look (tab 219) 1 = some (.istore_n 1, 1, [], uu) := by decide +kernel
theorem e_219_1 : den cf 219 1 [v0, v1, v2] (.int x :: st) M = den cf 219 2 [kq v0, .int x, v2] st M := den_st (k := 1) (v := .int x) l_219_1 rfl
theorem l_219_2 : look (tab 219) 2 = some (.iconst 0, 1, [], .int (zI 0)) := by decide +kernel
theorem e_219_2 : den cf 219 2 L st M = den cf 219 3 L (.int (zI 0) :: st) M := den_go l_219_2 rfl
theorem l_219_3 : look (tab 219) 3 = some (.istore_n 2, 1, [], uu) := by decide +kernel
theorem e_219_3 : den cf 219 3 [v0, v1, v2] (.int x :: st) M = den cf 219 4 [v0, kq v1, .int x] st M := den_st (k := 2) (v := .int x) l_219_3 rfl
theorem l_219_4 : look (tab 219) 4 = some (.iload_n 2, 1, [], uu) := by decide +kernel
theorem e_219_4 : den cf 219 4 [v0, v1, .int x] st M = den cf 219 5 [v0, v1, .int x] (.int x :: st) M := den_go l_219_4 rfl
theorem l_219_5 : look (tab 219) 5 = some (.aload_n 0, 1, [], uu) := by decide +kernel
theorem e_219_5 : den cf 219 5 [.ref a, v1, v2] st M = den cf 219 6 [.ref a, v1, v2] (.ref a :: st) M := den_go l_219_5 rfl
theorem l_219_6 : look (tab 219) 6 = some (.getfield 80, 3, [6, 9, 230], uu) := by decide +kernel
theorem e_219_6 : den cf 219 6 L (.ref a :: st) M = oK (gfA (M.2.2 a) 6 9) (fun v => den cf 219 9 L (v :: st) M) := den_gf l_219_6
theorem l_219_9 : look (tab 219) 9 = some (.if_icmp .ge 45, 3, [54], uu) := by decide +kernel
theorem e_219_9 : den cf 219 9 L (.int y :: .int x :: st) M = if x < y then den cf 219 12 L st M else den cf 219 54 L st M := den_ic_ge l_219_9
theorem l_219_12 : look (tab 219) 12 = some (.iload_n 1, 1, [], uu) := by decide +kernel
theorem e_219_12 : den cf 219 12 [v0, .int x, v2] st M = den cf 219 13 [v0, .int x, v2] (.int x :: st) M := den_go l_219_12 rfl
theorem l_219_13 : look (tab 219) 13 = some (.aload_n 0, 1, [], uu) := by decide +kernel
theorem e_219_13 : den cf 219 13 [.ref a, v1, v2] st M = den cf 219 14 [.ref a, v1, v2] (.ref a :: st) M := den_go l_219_13 rfl
theorem l_219_14 : look (tab 219) 14 = some (.iload_n 2, 1, [], uu) := by decide +kernel
theorem e_219_14 : den cf 219 14 [v0, v1, .int x] st M = den cf 219 15 [v0, v1, .int x] (.int x :: st) M := den_go l_219_14 rfl
theorem l_219_15 : look (tab 219) 15 = some (.invokevirtual 299, 3, [6, 200, 2, 881, 882, 883, 5], uu) := by decide +kernel
theorem e_219_15 : den cf 219 15 L (w1 :: .ref a :: st) M = if rcv M 6 [.ref a, w1] = true ∧ st.length ≤ 4 then rK (cf 200 [.ref a, w1] M) (fun v M' => den cf 219 18 L (pR v st) M') else none := den_iv [w1] l_219_15 rfl
theorem l_219_18 : look (tab 219) 18 = some (.ifCond .eq 27, 3, [45], uu) := by decide +kernel
theorem e_219_18 : den cf 219 18 L (.int x :: st) M = if x = zI 0 then den cf 219 45 L st M else den cf 219 21 L st M := den_if_eq l_219_18
theorem l_219_21 : look (tab 219) 21 = some (.aload_n 0, 1, [], uu) := by decide +kernel
theorem e_219_21 : den cf 219 21 [.ref a, v1, v2] st M = den cf 219 22 [.ref a, v1, v2] (.ref a :: st) M := den_go l_219_21 rfl
theorem l_219_22 : look (tab 219) 22 = some (.getfield 58, 3, [6, 17, 95], uu) := by decide +kernel
theorem e_219_22 : den cf 219 22 L (.ref a :: st) M = oK (gfA (M.2.2 a) 6 17) (fun v => den cf 219 25 L (v :: st) M) := den_gf l_219_22
theorem l_219_25 : look (tab 219) 25 = some (.iload_n 2, 1, [], uu) := by decide +kernel
theorem e_219_25 : den cf 219 25 [v0, v1, .int x] st M = den cf 219 26 [v0, v1, .int x] (.int x :: st) M := den_go l_219_25 rfl
theorem l_219_26 : look (tab 219) 26 = some (.iaload, 1, [], uu) := by decide +kernel
theorem e_219_26 : den cf 219 26 L (.int x :: .ref a :: st) M = oK (ldI (M.2.2 a) x) (fun v => den cf 219 27 L (v :: st) M) := den_al (g := ldI) l_219_26 rfl
theorem l_219_27 : look (tab 219) 27 = some (.aload_n 0, 1, [], uu) := by decide +kernel
theorem e_219_27 : den cf 219 27 [.ref a, v1, v2] st M = den cf 219 28 [.ref a, v1, v2] (.ref a :: st) M := den_go l_219_27 rfl
theorem l_219_28 : look (tab 219) 28 = some (.getfield 58, 3, [6, 17, 95], uu) := by decide +kernel
theorem e_219_28 : den cf 219 28 L (.ref a :: st) M = oK (gfA (M.2.2 a) 6 17) (fun v => den cf 219 31 L (v :: st) M) := den_gf l_219_28
theorem l_219_31 : look (tab 219) 31 = some (.aload_n 0, 1, [], uu) := by decide +kernel
theorem e_219_31 : den cf 219 31 [.ref a, v1, v2] st M = den cf 219 32 [.ref a, v1, v2] (.ref a :: st) M := den_go l_219_31 rfl
theorem l_219_32 : look (tab 219) 32 = some (.getfield 49, 3, [6, 14, 92], uu) := by decide +kernel
theorem e_219_32 : den cf 219 32 L (.ref a :: st) M = oK (gfA (M.2.2 a) 6 14) (fun v => den cf 219 35 L (v :: st) M) := den_gf l_219_32
theorem l_219_35 : look (tab 219) 35 = some (.iload_n 2, 1, [], uu) := by decide +kernel
theorem e_219_35 : den cf 219 35 [v0, v1, .int x] st M = den cf 219 36 [v0, v1, .int x] (.int x :: st) M := den_go l_219_35 rfl
theorem l_219_36 : look (tab 219) 36 = some (.iaload, 1, [], uu) := by decide +kernel
theorem e_219_36 : den cf 219 36 L (.int x :: .ref a :: st) M = oK (ldI (M.2.2 a) x) (fun v => den cf 219 37 L (v :: st) M) := den_al (g := ldI) l_219_36 rfl
theorem l_219_37 : look (tab 219) 37 = some (.iaload, 1, [], uu) := by decide +kernel
theorem e_219_37 : den cf 219 37 L (.int x :: .ref a :: st) M = oK (ldI (M.2.2 a) x) (fun v => den cf 219 38 L (v :: st) M) := den_al (g := ldI) l_219_37 rfl
theorem l_219_38 : look (tab 219) 38 = some (.if_icmp .ne 7, 3, [45], uu) := by decide +kernel
theorem e_219_38 : den cf 219 38 L (.int y :: .int x :: st) M = if x = y then den cf 219 41 L st M else den cf 219 45 L st M := den_ic_ne l_219_38
theorem l_219_41 : look (tab 219) 41 = some (.iconst 1, 1, [], .int (zI 1)) := by decide +kernel
theorem e_219_41 : den cf 219 41 L st M = den cf 219 42 L (.int (zI 1) :: st) M := den_go l_219_41 rfl
theorem l_219_42 : look (tab 219) 42 = some (.goto 4, 3, [46], uu) := by decide +kernel
theorem e_219_42 : den cf 219 42 L st M = den cf 219 46 L st M := den_go l_219_42 rfl
theorem l_219_45 : look (tab 219) 45 = some (.iconst 0, 1, [], .int (zI 0)) := by decide +kernel
theorem e_219_45 : den cf 219 45 L st M = den cf 219 46 L (.int (zI 0) :: st) M := den_go l_219_45 rfl
theorem l_219_46 : look (tab 219) 46 = some (.iadd, 1, [], uu) := by decide +kernel
theorem e_219_46 : den cf 219 46 L (.int y :: .int x :: st) M = den cf 219 47 L (.int (x + y) :: st) M := den_go l_219_46 rfl
theorem l_219_47 : look (tab 219) 47 = some (.istore_n 1, 1, [], uu) := by decide +kernel
theorem e_219_47 : den cf 219 47 [v0, v1, v2] (.int x :: st) M = den cf 219 48 [kq v0, .int x, v2] st M := den_st (k := 1) (v := .int x) l_219_47 rfl
theorem l_219_48 : look (tab 219) 48 = some (.iinc 2 1, 3, [], .int (zI 1)) := by decide +kernel
theorem e_219_48 : den cf 219 48 [v0, v1, .int x] st M = den cf 219 51 [v0, kq v1, .int (x + (zI 1))] st M := den_st (k := 2) (v := .int (x + (zI 1))) l_219_48 rfl
theorem l_219_51 : look (tab 219) 51 = some (.goto (-47), 3, [4], uu) := by decide +kernel
theorem e_219_51 : den cf 219 51 L st M = den cf 219 4 L st M := den_go l_219_51 rfl
theorem l_219_54 : look (tab 219) 54 = some (.iload_n 1, 1, [], uu) := by decide +kernel
theorem e_219_54 : den cf 219 54 [v0, .int x, v2] st M = den cf 219 55 [v0, .int x, v2] (.int x :: st) M := den_go l_219_54 rfl
theorem l_219_55 : look (tab 219) 55 = some (.ireturn, 1, [0], uu) := by decide +kernel
theorem e_219_55 : den cf 219 55 L [.int x] M = some (some (.int x), M) := den_e0 l_219_55
/-! yX6_keen -/
theorem l_220_0 : look (tab 220) 0 = some (.iconst (-1), 1, [], .int (zI (-1))) := by decide +kernel
theorem e_220_0 : den cf 220 0 L st M = den cf 220 1 L (.int (zI (-1)) :: st) M := den_go l_220_0 rfl
theorem l_220_1 : look (tab 220) 1 = some (.istore_n 1, 1, [], uu) := by decide +kernel
theorem e_220_1 : den cf 220 1 [v0, v1, v2] (.int x :: st) M = den cf 220 2 [kq v0, .int x, v2] st M := den_st (k := 1) (v := .int x) l_220_1 rfl
theorem l_220_2 : look (tab 220) 2 = some (.iconst 0, 1, [], .int (zI 0)) := by decide +kernel
theorem e_220_2 : den cf 220 2 L st M = den cf 220 3 L (.int (zI 0) :: st) M := den_go l_220_2 rfl
theorem l_220_3 : look (tab 220) 3 = some (.istore_n 2, 1, [], uu) := by decide +kernel
theorem e_220_3 : den cf 220 3 [v0, v1, v2] (.int x :: st) M = den cf 220 4 [v0, kq v1, .int x] st M := den_st (k := 2) (v := .int x) l_220_3 rfl
theorem l_220_4 : look (tab 220) 4 = some (.iload_n 2, 1, [], uu) := by decide +kernel
theorem e_220_4 : den cf 220 4 [v0, v1, .int x] st M = den cf 220 5 [v0, v1, .int x] (.int x :: st) M := den_go l_220_4 rfl
theorem l_220_5 : look (tab 220) 5 = some (.aload_n 0, 1, [], uu) := by decide +kernel
theorem e_220_5 : den cf 220 5 [.ref a, v1, v2] st M = den cf 220 6 [.ref a, v1, v2] (.ref a :: st) M := den_go l_220_5 rfl
theorem l_220_6 : look (tab 220) 6 = some (.getfield 80, 3, [6, 9, 230], uu) := by decide +kernel
theorem e_220_6 : den cf 220 6 L (.ref a :: st) M = oK (gfA (M.2.2 a) 6 9) (fun v => den cf 220 9 L (v :: st) M) := den_gf l_220_6
theorem l_220_9 : look (tab 220) 9 = some (.if_icmp .ge 51, 3, [60], uu) := by decide +kernel
theorem e_220_9 : den cf 220 9 L (.int y :: .int x :: st) M = if x < y then den cf 220 12 L st M else den cf 220 60 L st M := den_ic_ge l_220_9
theorem l_220_12 : look (tab 220) 12 = some (.aload_n 0, 1, [], uu) := by decide +kernel
theorem e_220_12 : den cf 220 12 [.ref a, v1, v2] st M = den cf 220 13 [.ref a, v1, v2] (.ref a :: st) M := den_go l_220_12 rfl
theorem l_220_13 : look (tab 220) 13 = some (.getfield 52, 3, [6, 15, 93], uu) := by decide +kernel
theorem e_220_13 : den cf 220 13 L (.ref a :: st) M = oK (gfA (M.2.2 a) 6 15) (fun v => den cf 220 16 L (v :: st) M) := den_gf l_220_13
theorem l_220_16 : look (tab 220) 16 = some (.iload_n 2, 1, [], uu) := by decide +kernel
theorem e_220_16 : den cf 220 16 [v0, v1, .int x] st M = den cf 220 17 [v0, v1, .int x] (.int x :: st) M := den_go l_220_16 rfl
theorem l_220_17 : look (tab 220) 17 = some (.iaload, 1, [], uu) := by decide +kernel
theorem e_220_17 : den cf 220 17 L (.int x :: .ref a :: st) M = oK (ldI (M.2.2 a) x) (fun v => den cf 220 18 L (v :: st) M) := den_al (g := ldI) l_220_17 rfl
theorem l_220_18 : look (tab 220) 18 = some (.iconst 1, 1, [], .int (zI 1)) := by decide +kernel
theorem e_220_18 : den cf 220 18 L st M = den cf 220 19 L (.int (zI 1) :: st) M := den_go l_220_18 rfl
theorem l_220_19 : look (tab 220) 19 = some (.if_icmp .ne 35, 3, [54], uu) := by decide +kernel
theorem e_220_19 : den cf 220 19 L (.int y :: .int x :: st) M = if x = y then den cf 220 22 L st M else den cf 220 54 L st M := den_ic_ne l_220_19
theorem l_220_22 : look (tab 220) 22 = some (.iload_n 1, 1, [], uu) := by decide +kernel
theorem e_220_22 : den cf 220 22 [v0, .int x, v2] st M = den cf 220 23 [v0, .int x, v2] (.int x :: st) M := den_go l_220_22 rfl
theorem l_220_23 : look (tab 220) 23 = some (.iconst (-1), 1, [], .int (zI (-1))) := by decide +kernel
theorem e_220_23 : den cf 220 23 L st M = den cf 220 24 L (.int (zI (-1)) :: st) M := den_go l_220_23 rfl
theorem l_220_24 : look (tab 220) 24 = some (.if_icmp .eq 28, 3, [52], uu) := by decide +kernel
theorem e_220_24 : den cf 220 24 L (.int y :: .int x :: st) M = if x = y then den cf 220 52 L st M else den cf 220 27 L st M := den_ic_eq l_220_24
theorem l_220_27 : look (tab 220) 27 = some (.aload_n 0, 1, [], uu) := by decide +kernel
theorem e_220_27 : den cf 220 27 [.ref a, v1, v2] st M = den cf 220 28 [.ref a, v1, v2] (.ref a :: st) M := den_go l_220_27 rfl
theorem l_220_28 : look (tab 220) 28 = some (.iload_n 2, 1, [], uu) := by decide +kernel
theorem e_220_28 : den cf 220 28 [v0, v1, .int x] st M = den cf 220 29 [v0, v1, .int x] (.int x :: st) M := den_go l_220_28 rfl
theorem l_220_29 : look (tab 220) 29 = some (.aload_n 0, 1, [], uu) := by decide +kernel
theorem e_220_29 : den cf 220 29 [.ref a, v1, v2] st M = den cf 220 30 [.ref a, v1, v2] (.ref a :: st) M := den_go l_220_29 rfl
theorem l_220_30 : look (tab 220) 30 = some (.getfield 37, 3, [6, 10, 88], uu) := by decide +kernel
theorem e_220_30 : den cf 220 30 L (.ref a :: st) M = oK (gfA (M.2.2 a) 6 10) (fun v => den cf 220 33 L (v :: st) M) := den_gf l_220_30
theorem l_220_33 : look (tab 220) 33 = some (.iload_n 2, 1, [], uu) := by decide +kernel
theorem e_220_33 : den cf 220 33 [v0, v1, .int x] st M = den cf 220 34 [v0, v1, .int x] (.int x :: st) M := den_go l_220_33 rfl
theorem l_220_34 : look (tab 220) 34 = some (.iaload, 1, [], uu) := by decide +kernel
theorem e_220_34 : den cf 220 34 L (.int x :: .ref a :: st) M = oK (ldI (M.2.2 a) x) (fun v => den cf 220 35 L (v :: st) M) := den_al (g := ldI) l_220_34 rfl
theorem l_220_35 : look (tab 220) 35 = some (.invokevirtual 114, 3, [6, 177, 3, 284, 285, 286, 5], uu) := by decide +kernel
theorem e_220_35 : den cf 220 35 L (w2 :: w1 :: .ref a :: st) M = if rcv M 6 [.ref a, w1, w2] = true ∧ st.length ≤ 4 then rK (cf 177 [.ref a, w1, w2] M) (fun v M' => den cf 220 38 L (pR v st) M') else none := den_iv [w1, w2] l_220_35 rfl
theorem l_220_38 : look (tab 220) 38 = some (.aload_n 0, 1, [], uu) := by decide +kernel
theorem e_220_38 : den cf 220 38 [.ref a, v1, v2] st M = den cf 220 39 [.ref a, v1, v2] (.ref a :: st) M := den_go l_220_38 rfl
theorem l_220_39 : look (tab 220) 39 = some (.iload_n 1, 1, [], uu) := by decide +kernel
theorem e_220_39 : den cf 220 39 [v0, .int x, v2] st M = den cf 220 40 [v0, .int x, v2] (.int x :: st) M := den_go l_220_39 rfl
theorem l_220_40 : look (tab 220) 40 = some (.aload_n 0, 1, [], uu) := by decide +kernel
theorem e_220_40 : den cf 220 40 [.ref a, v1, v2] st M = den cf 220 41 [.ref a, v1, v2] (.ref a :: st) M := den_go l_220_40 rfl
theorem l_220_41 : look (tab 220) 41 = some (.getfield 37, 3, [6, 10, 88], uu) := by decide +kernel
theorem e_220_41 : den cf 220 41 L (.ref a :: st) M = oK (gfA (M.2.2 a) 6 10) (fun v => den cf 220 44 L (v :: st) M) := den_gf l_220_41
theorem l_220_44 : look (tab 220) 44 = some (.iload_n 1, 1, [], uu) := by decide +kernel
theorem e_220_44 : den cf 220 44 [v0, .int x, v2] st M = den cf 220 45 [v0, .int x, v2] (.int x :: st) M := den_go l_220_44 rfl
theorem l_220_45 : look (tab 220) 45 = some (.iaload, 1, [], uu) := by decide +kernel
theorem e_220_45 : den cf 220 45 L (.int x :: .ref a :: st) M = oK (ldI (M.2.2 a) x) (fun v => den cf 220 46 L (v :: st) M) := den_al (g := ldI) l_220_45 rfl
theorem l_220_46 : look (tab 220) 46 = some (.invokevirtual 114, 3, [6, 177, 3, 284, 285, 286, 5], uu) := by decide +kernel
theorem e_220_46 : den cf 220 46 L (w2 :: w1 :: .ref a :: st) M = if rcv M 6 [.ref a, w1, w2] = true ∧ st.length ≤ 4 then rK (cf 177 [.ref a, w1, w2] M) (fun v M' => den cf 220 49 L (pR v st) M') else none := den_iv [w1, w2] l_220_46 rfl
theorem l_220_49 : look (tab 220) 49 = some (.if_icmp .le 5, 3, [54], uu) := by decide +kernel
theorem e_220_49 : den cf 220 49 L (.int y :: .int x :: st) M = if y < x then den cf 220 52 L st M else den cf 220 54 L st M := den_ic_le l_220_49
theorem l_220_52 : look (tab 220) 52 = some (.iload_n 2, 1, [], uu) := by decide +kernel
theorem e_220_52 : den cf 220 52 [v0, v1, .int x] st M = den cf 220 53 [v0, v1, .int x] (.int x :: st) M := den_go l_220_52 rfl
theorem l_220_53 : look (tab 220) 53 = some (.istore_n 1, 1, [], uu) := by decide +kernel
theorem e_220_53 : den cf 220 53 [v0, v1, v2] (.int x :: st) M = den cf 220 54 [kq v0, .int x, v2] st M := den_st (k := 1) (v := .int x) l_220_53 rfl
theorem l_220_54 : look (tab 220) 54 = some (.iinc 2 1, 3, [], .int (zI 1)) := by decide +kernel
theorem e_220_54 : den cf 220 54 [v0, v1, .int x] st M = den cf 220 57 [v0, kq v1, .int (x + (zI 1))] st M := den_st (k := 2) (v := .int (x + (zI 1))) l_220_54 rfl
theorem l_220_57 : look (tab 220) 57 = some (.goto (-53), 3, [4], uu) := by decide +kernel
theorem e_220_57 : den cf 220 57 L st M = den cf 220 4 L st M := den_go l_220_57 rfl
theorem l_220_60 : look (tab 220) 60 = some (.iload_n 1, 1, [], uu) := by decide +kernel
theorem e_220_60 : den cf 220 60 [v0, .int x, v2] st M = den cf 220 61 [v0, .int x, v2] (.int x :: st) M := den_go l_220_60 rfl
theorem l_220_61 : look (tab 220) 61 = some (.iconst (-1), 1, [], .int (zI (-1))) := by decide +kernel
theorem e_220_61 : den cf 220 61 L st M = den cf 220 62 L (.int (zI (-1)) :: st) M := den_go l_220_61 rfl
theorem l_220_62 : look (tab 220) 62 = some (.if_icmp .ne 12, 3, [74], uu) := by decide +kernel
theorem e_220_62 : den cf 220 62 L (.int y :: .int x :: st) M = if x = y then den cf 220 65 L st M else den cf 220 74 L st M := den_ic_ne l_220_62
theorem l_220_65 : look (tab 220) 65 = some (.aload_n 0, 1, [], uu) := by decide +kernel
theorem e_220_65 : den cf 220 65 [.ref a, v1, v2] st M = den cf 220 66 [.ref a, v1, v2] (.ref a :: st) M := den_go l_220_65 rfl
theorem l_220_66 : look (tab 220) 66 = some (.bipush (-5), 2, [], .int (zI (-5))) := by decide +kernel
theorem e_220_66 : den cf 220 66 L st M = den cf 220 68 L (.int (zI (-5)) :: st) M := den_go l_220_66 rfl
theorem l_220_68 : look (tab 220) 68 = some (.invokevirtual 93, 3, [6, 136, 2, 133, 134, 135, 5], uu) := by decide +kernel
theorem e_220_68 : den cf 220 68 L (w1 :: .ref a :: st) M = if rcv M 6 [.ref a, w1] = true ∧ st.length ≤ 4 then rK (cf 136 [.ref a, w1] M) (fun v M' => den cf 220 71 L (pR v st) M') else none := den_iv [w1] l_220_68 rfl
theorem l_220_71 : look (tab 220) 71 = some (.goto 4, 3, [75], uu) := by decide +kernel
theorem e_220_71 : den cf 220 71 L st M = den cf 220 75 L st M := den_go l_220_71 rfl
theorem l_220_74 : look (tab 220) 74 = some (.iload_n 1, 1, [], uu) := by decide +kernel
theorem e_220_74 : den cf 220 74 [v0, .int x, v2] st M = den cf 220 75 [v0, .int x, v2] (.int x :: st) M := den_go l_220_74 rfl
theorem l_220_75 : look (tab 220) 75 = some (.ireturn, 1, [0], uu) := by decide +kernel
theorem e_220_75 : den cf 220 75 L [.int x] M = some (some (.int x), M) := den_e0 l_220_75
/-! yX6_owing -/
theorem l_221_0 : look (tab 221) 0 = some (.iconst 0, 1, [], .int (zI 0)) := by decide +kernel
theorem e_221_0 : den cf 221 0 L st M = den cf 221 1 L (.int (zI 0) :: st) M := den_go l_221_0 rfl
theorem l_221_1 : look (tab 221) 1 = some (.istore_n 1, 1, [], uu) := by decide +kernel
theorem e_221_1 : den cf 221 1 [v0, v1, v2] (.int x :: st) M = den cf 221 2 [kq v0, .int x, v2] st M := den_st (k := 1) (v := .int x) l_221_1 rfl
theorem l_221_2 : look (tab 221) 2 = some (.iconst 0, 1, [], .int (zI 0)) := by decide +kernel
theorem e_221_2 : den cf 221 2 L st M = den cf 221 3 L (.int (zI 0) :: st) M := den_go l_221_2 rfl
theorem l_221_3 : look (tab 221) 3 = some (.istore_n 2, 1, [], uu) := by decide +kernel
theorem e_221_3 : den cf 221 3 [v0, v1, v2] (.int x :: st) M = den cf 221 4 [v0, kq v1, .int x] st M := den_st (k := 2) (v := .int x) l_221_3 rfl
theorem l_221_4 : look (tab 221) 4 = some (.iload_n 2, 1, [], uu) := by decide +kernel
theorem e_221_4 : den cf 221 4 [v0, v1, .int x] st M = den cf 221 5 [v0, v1, .int x] (.int x :: st) M := den_go l_221_4 rfl
theorem l_221_5 : look (tab 221) 5 = some (.aload_n 0, 1, [], uu) := by decide +kernel
theorem e_221_5 : den cf 221 5 [.ref a, v1, v2] st M = den cf 221 6 [.ref a, v1, v2] (.ref a :: st) M := den_go l_221_5 rfl
theorem l_221_6 : look (tab 221) 6 = some (.getfield 80, 3, [6, 9, 230], uu) := by decide +kernel
theorem e_221_6 : den cf 221 6 L (.ref a :: st) M = oK (gfA (M.2.2 a) 6 9) (fun v => den cf 221 9 L (v :: st) M) := den_gf l_221_6
theorem l_221_9 : look (tab 221) 9 = some (.if_icmp .ge 20, 3, [29], uu) := by decide +kernel
theorem e_221_9 : den cf 221 9 L (.int y :: .int x :: st) M = if x < y then den cf 221 12 L st M else den cf 221 29 L st M := den_ic_ge l_221_9
theorem l_221_12 : look (tab 221) 12 = some (.iload_n 1, 1, [], uu) := by decide +kernel
theorem e_221_12 : den cf 221 12 [v0, .int x, v2] st M = den cf 221 13 [v0, .int x, v2] (.int x :: st) M := den_go l_221_12 rfl
theorem l_221_13 : look (tab 221) 13 = some (.aload_n 0, 1, [], uu) := by decide +kernel
theorem e_221_13 : den cf 221 13 [.ref a, v1, v2] st M = den cf 221 14 [.ref a, v1, v2] (.ref a :: st) M := den_go l_221_13 rfl
theorem l_221_14 : look (tab 221) 14 = some (.getfield 52, 3, [6, 15, 93], uu) := by decide +kernel
theorem e_221_14 : den cf 221 14 L (.ref a :: st) M = oK (gfA (M.2.2 a) 6 15) (fun v => den cf 221 17 L (v :: st) M) := den_gf l_221_14
theorem l_221_17 : look (tab 221) 17 = some (.iload_n 2, 1, [], uu) := by decide +kernel
theorem e_221_17 : den cf 221 17 [v0, v1, .int x] st M = den cf 221 18 [v0, v1, .int x] (.int x :: st) M := den_go l_221_17 rfl
theorem l_221_18 : look (tab 221) 18 = some (.iaload, 1, [], uu) := by decide +kernel
theorem e_221_18 : den cf 221 18 L (.int x :: .ref a :: st) M = oK (ldI (M.2.2 a) x) (fun v => den cf 221 19 L (v :: st) M) := den_al (g := ldI) l_221_18 rfl
theorem l_221_19 : look (tab 221) 19 = some (.iload_n 2, 1, [], uu) := by decide +kernel
theorem e_221_19 : den cf 221 19 [v0, v1, .int x] st M = den cf 221 20 [v0, v1, .int x] (.int x :: st) M := den_go l_221_19 rfl
theorem l_221_20 : look (tab 221) 20 = some (.ishl, 1, [], uu) := by decide +kernel
theorem e_221_20 : den cf 221 20 L (.int y :: .int x :: st) M = den cf 221 21 L (.int (x <<< (y &&& 31)) :: st) M := den_go l_221_20 rfl
theorem l_221_21 : look (tab 221) 21 = some (.ior, 1, [], uu) := by decide +kernel
theorem e_221_21 : den cf 221 21 L (.int y :: .int x :: st) M = den cf 221 22 L (.int (x ||| y) :: st) M := den_go l_221_21 rfl
theorem l_221_22 : look (tab 221) 22 = some (.istore_n 1, 1, [], uu) := by decide +kernel
theorem e_221_22 : den cf 221 22 [v0, v1, v2] (.int x :: st) M = den cf 221 23 [kq v0, .int x, v2] st M := den_st (k := 1) (v := .int x) l_221_22 rfl
theorem l_221_23 : look (tab 221) 23 = some (.iinc 2 1, 3, [], .int (zI 1)) := by decide +kernel
theorem e_221_23 : den cf 221 23 [v0, v1, .int x] st M = den cf 221 26 [v0, kq v1, .int (x + (zI 1))] st M := den_st (k := 2) (v := .int (x + (zI 1))) l_221_23 rfl
theorem l_221_26 : look (tab 221) 26 = some (.goto (-22), 3, [4], uu) := by decide +kernel
theorem e_221_26 : den cf 221 26 L st M = den cf 221 4 L st M := den_go l_221_26 rfl
theorem l_221_29 : look (tab 221) 29 = some (.iload_n 1, 1, [], uu) := by decide +kernel
theorem e_221_29 : den cf 221 29 [v0, .int x, v2] st M = den cf 221 30 [v0, .int x, v2] (.int x :: st) M := den_go l_221_29 rfl
theorem l_221_30 : look (tab 221) 30 = some (.ireturn, 1, [0], uu) := by decide +kernel
theorem e_221_30 : den cf 221 30 L [.int x] M = some (some (.int x), M) := den_e0 l_221_30
/-! yX6_noBook -/
theorem l_222_0 : look (tab 222) 0 = some (.iload_n 1, 1, [], uu) := by decide +kernel
theorem e_222_0 : den cf 222 0 [v0, .int x, v2, v3] st M = den cf 222 1 [v0, .int x, v2, v3] (.int x :: st) M := den_go l_222_0 rfl
theorem l_222_1 : look (tab 222) 1 = some (.i2l, 1, [], uu) := by decide +kernel
theorem e_222_1 : den cf 222 1 L (.int x :: st) M = den cf 222 2 L (.long x.toInt64 :: st) M := den_go l_222_1 rfl
theorem l_222_2 : look (tab 222) 2 = some (.lconst 0, 1, [], .long (zJ 0)) := by decide +kernel
theorem e_222_2 : den cf 222 2 L st M = den cf 222 3 L (.long (zJ 0) :: st) M := den_go l_222_2 rfl
theorem l_222_3 : look (tab 222) 3 = some (.ldc2_w 87, 3, [127], .long (zJ 7)) := by decide +kernel
theorem e_222_3 : den cf 222 3 L st M = den cf 222 6 L (.long (zJ 7) :: st) M := den_go l_222_3 rfl
theorem l_222_6 : look (tab 222) 6 = some (.invokestatic 83, 3, [1, 137, 3, 130, 131, 5], uu) := by decide +kernel
theorem e_222_6 : den cf 222 6 L (w3 :: w2 :: w1 :: st) M = if st.length ≤ 4 then rK (cf 137 [w1, w2, w3] M) (fun v M' => den cf 222 9 L (pR v st) M') else none := den_ist [w1, w2, w3] l_222_6 rfl
theorem l_222_9 : look (tab 222) 9 = some (.ifCond .eq 15, 3, [24], uu) := by decide +kernel
theorem e_222_9 : den cf 222 9 L (.int x :: st) M = if x = zI 0 then den cf 222 24 L st M else den cf 222 12 L st M := den_if_eq l_222_9
theorem l_222_12 : look (tab 222) 12 = some (.iload_n 2, 1, [], uu) := by decide +kernel
theorem e_222_12 : den cf 222 12 [v0, v1, .int x, v3] st M = den cf 222 13 [v0, v1, .int x, v3] (.int x :: st) M := den_go l_222_12 rfl
theorem l_222_13 : look (tab 222) 13 = some (.i2l, 1, [], uu) := by decide +kernel
theorem e_222_13 : den cf 222 13 L (.int x :: st) M = den cf 222 14 L (.long x.toInt64 :: st) M := den_go l_222_13 rfl
theorem l_222_14 : look (tab 222) 14 = some (.lconst 0, 1, [], .long (zJ 0)) := by decide +kernel
theorem e_222_14 : den cf 222 14 L st M = den cf 222 15 L (.long (zJ 0) :: st) M := den_go l_222_14 rfl
theorem l_222_15 : look (tab 222) 15 = some (.ldc2_w 91, 3, [129], .long (zJ 40)) := by decide +kernel
theorem e_222_15 : den cf 222 15 L st M = den cf 222 18 L (.long (zJ 40) :: st) M := den_go l_222_15 rfl
theorem l_222_18 : look (tab 222) 18 = some (.invokestatic 83, 3, [1, 137, 3, 130, 131, 5], uu) := by decide +kernel
theorem e_222_18 : den cf 222 18 L (w3 :: w2 :: w1 :: st) M = if st.length ≤ 4 then rK (cf 137 [w1, w2, w3] M) (fun v M' => den cf 222 21 L (pR v st) M') else none := den_ist [w1, w2, w3] l_222_18 rfl
theorem l_222_21 : look (tab 222) 21 = some (.ifCond .ne 10, 3, [31], uu) := by decide +kernel
theorem e_222_21 : den cf 222 21 L (.int x :: st) M = if x = zI 0 then den cf 222 24 L st M else den cf 222 31 L st M := den_if_ne l_222_21
theorem l_222_24 : look (tab 222) 24 = some (.aload_n 0, 1, [], uu) := by decide +kernel
theorem e_222_24 : den cf 222 24 [.ref a, v1, v2, v3] st M = den cf 222 25 [.ref a, v1, v2, v3] (.ref a :: st) M := den_go l_222_24 rfl
theorem l_222_25 : look (tab 222) 25 = some (.bipush (-2), 2, [], .int (zI (-2))) := by decide +kernel
theorem e_222_25 : den cf 222 25 L st M = den cf 222 27 L (.int (zI (-2)) :: st) M := den_go l_222_25 rfl
theorem l_222_27 : look (tab 222) 27 = some (.invokevirtual 93, 3, [6, 136, 2, 133, 134, 135, 5], uu) := by decide +kernel
theorem e_222_27 : den cf 222 27 L (w1 :: .ref a :: st) M = if rcv M 6 [.ref a, w1] = true ∧ st.length ≤ 4 then rK (cf 136 [.ref a, w1] M) (fun v M' => den cf 222 30 L (pR v st) M') else none := den_iv [w1] l_222_27 rfl
theorem l_222_30 : look (tab 222) 30 = some (.ireturn, 1, [0], uu) := by decide +kernel
theorem e_222_30 : den cf 222 30 L [.int x] M = some (some (.int x), M) := den_e0 l_222_30
theorem l_222_31 : look (tab 222) 31 = some (.aload_n 0, 1, [], uu) := by decide +kernel
theorem e_222_31 : den cf 222 31 [.ref a, v1, v2, v3] st M = den cf 222 32 [.ref a, v1, v2, v3] (.ref a :: st) M := den_go l_222_31 rfl
theorem l_222_32 : look (tab 222) 32 = some (.iload_n 1, 1, [], uu) := by decide +kernel
theorem e_222_32 : den cf 222 32 [v0, .int x, v2, v3] st M = den cf 222 33 [v0, .int x, v2, v3] (.int x :: st) M := den_go l_222_32 rfl
theorem l_222_33 : look (tab 222) 33 = some (.invokevirtual 97, 3, [6, 142, 2, 159, 160, 161, 5], uu) := by decide +kernel
theorem e_222_33 : den cf 222 33 L (w1 :: .ref a :: st) M = if rcv M 6 [.ref a, w1] = true ∧ st.length ≤ 4 then rK (cf 142 [.ref a, w1] M) (fun v M' => den cf 222 36 L (pR v st) M') else none := den_iv [w1] l_222_33 rfl
theorem l_222_36 : look (tab 222) 36 = some (.istore_n 3, 1, [], uu) := by decide +kernel
theorem e_222_36 : den cf 222 36 [v0, v1, v2, v3] (.int x :: st) M = den cf 222 37 [v0, v1, kq v2, .int x] st M := den_st (k := 3) (v := .int x) l_222_36 rfl
theorem l_222_37 : look (tab 222) 37 = some (.iload_n 3, 1, [], uu) := by decide +kernel
theorem e_222_37 : den cf 222 37 [v0, v1, v2, .int x] st M = den cf 222 38 [v0, v1, v2, .int x] (.int x :: st) M := den_go l_222_37 rfl
theorem l_222_38 : look (tab 222) 38 = some (.ifCond .eq 5, 3, [43], uu) := by decide +kernel
theorem e_222_38 : den cf 222 38 L (.int x :: st) M = if x = zI 0 then den cf 222 43 L st M else den cf 222 41 L st M := den_if_eq l_222_38
theorem l_222_41 : look (tab 222) 41 = some (.iload_n 3, 1, [], uu) := by decide +kernel
theorem e_222_41 : den cf 222 41 [v0, v1, v2, .int x] st M = den cf 222 42 [v0, v1, v2, .int x] (.int x :: st) M := den_go l_222_41 rfl
theorem l_222_42 : look (tab 222) 42 = some (.ireturn, 1, [0], uu) := by decide +kernel
theorem e_222_42 : den cf 222 42 L [.int x] M = some (some (.int x), M) := den_e0 l_222_42
theorem l_222_43 : look (tab 222) 43 = some (.aload_n 0, 1, [], uu) := by decide +kernel
theorem e_222_43 : den cf 222 43 [.ref a, v1, v2, v3] st M = den cf 222 44 [.ref a, v1, v2, v3] (.ref a :: st) M := den_go l_222_43 rfl
theorem l_222_44 : look (tab 222) 44 = some (.getfield 16, 3, [6, 2, 81], uu) := by decide +kernel
theorem e_222_44 : den cf 222 44 L (.ref a :: st) M = oK (gfA (M.2.2 a) 6 2) (fun v => den cf 222 47 L (v :: st) M) := den_gf l_222_44
theorem l_222_47 : look (tab 222) 47 = some (.iload_n 1, 1, [], uu) := by decide +kernel
theorem e_222_47 : den cf 222 47 [v0, .int x, v2, v3] st M = den cf 222 48 [v0, .int x, v2, v3] (.int x :: st) M := den_go l_222_47 rfl
theorem l_222_48 : look (tab 222) 48 = some (.iaload, 1, [], uu) := by decide +kernel
theorem e_222_48 : den cf 222 48 L (.int x :: .ref a :: st) M = oK (ldI (M.2.2 a) x) (fun v => den cf 222 49 L (v :: st) M) := den_al (g := ldI) l_222_48 rfl
theorem l_222_49 : look (tab 222) 49 = some (.iload_n 2, 1, [], uu) := by decide +kernel
theorem e_222_49 : den cf 222 49 [v0, v1, .int x, v3] st M = den cf 222 50 [v0, v1, .int x, v3] (.int x :: st) M := den_go l_222_49 rfl
theorem l_222_50 : look (tab 222) 50 = some (.if_icmp .ge 12, 3, [62], uu) := by decide +kernel
theorem e_222_50 : den cf 222 50 L (.int y :: .int x :: st) M = if x < y then den cf 222 53 L st M else den cf 222 62 L st M := den_ic_ge l_222_50
theorem l_222_53 : look (tab 222) 53 = some (.aload_n 0, 1, [], uu) := by decide +kernel
theorem e_222_53 : den cf 222 53 [.ref a, v1, v2, v3] st M = den cf 222 54 [.ref a, v1, v2, v3] (.ref a :: st) M := den_go l_222_53 rfl
theorem l_222_54 : look (tab 222) 54 = some (.bipush (-2), 2, [], .int (zI (-2))) := by decide +kernel
theorem e_222_54 : den cf 222 54 L st M = den cf 222 56 L (.int (zI (-2)) :: st) M := den_go l_222_54 rfl
theorem l_222_56 : look (tab 222) 56 = some (.invokevirtual 93, 3, [6, 136, 2, 133, 134, 135, 5], uu) := by decide +kernel
theorem e_222_56 : den cf 222 56 L (w1 :: .ref a :: st) M = if rcv M 6 [.ref a, w1] = true ∧ st.length ≤ 4 then rK (cf 136 [.ref a, w1] M) (fun v M' => den cf 222 59 L (pR v st) M') else none := den_iv [w1] l_222_56 rfl
theorem l_222_59 : look (tab 222) 59 = some (.goto 4, 3, [63], uu) := by decide +kernel
theorem e_222_59 : den cf 222 59 L st M = den cf 222 63 L st M := den_go l_222_59 rfl
theorem l_222_62 : look (tab 222) 62 = some (.iconst 0, 1, [], .int (zI 0)) := by decide +kernel
theorem e_222_62 : den cf 222 62 L st M = den cf 222 63 L (.int (zI 0) :: st) M := den_go l_222_62 rfl
theorem l_222_63 : look (tab 222) 63 = some (.ireturn, 1, [0], uu) := by decide +kernel
theorem e_222_63 : den cf 222 63 L [.int x] M = some (some (.int x), M) := den_e0 l_222_63
/-! yX6_mayHave -/
theorem l_223_0 : look (tab 223) 0 = some (.aload_n 0, 1, [], uu) := by decide +kernel
theorem e_223_0 : den cf 223 0 [.ref a, v1, v2, v3, v4, v5, v6, v7] st M = den cf 223 1 [.ref a, v1, v2, v3, v4, v5, v6, v7] (.ref a :: st) M := den_go l_223_0 rfl
theorem l_223_1 : look (tab 223) 1 = some (.invokevirtual 240, 3, [6, 174, 1, 561, 562, 563, 5], uu) := by decide +kernel
theorem e_223_1 : den cf 223 1 L (.ref a :: st) M = if rcv M 6 [.ref a] = true ∧ st.length ≤ 4 then rK (cf 174 [.ref a] M) (fun v M' => den cf 223 4 L (pR v st) M') else none := den_iv [] l_223_1 rfl
theorem l_223_4 : look (tab 223) 4 = some (.astore 5, 2, [], uu) := by decide +kernel
theorem e_223_4 : den cf 223 4 [v0, v1, v2, v3, v4, v5, v6, v7] (v :: st) M = if isRf v = true then den cf 223 6 [v0, v1, v2, v3, kq v4, v, v6, v7] st M else none := den_as (k := 5) (v := v) l_223_4 rfl (Nat.le_of_ble_eq_true rfl)
theorem l_223_6 : look (tab 223) 6 = some (.aload 5, 2, [], uu) := by decide +kernel
theorem e_223_6 : den cf 223 6 [v0, v1, v2, v3, v4, v5, v6, v7] st M = if isRf v5 = true then den cf 223 8 [v0, v1, v2, v3, v4, v5, v6, v7] (v5 :: st) M else none := den_g l_223_6 rfl
theorem l_223_8 : look (tab 223) 8 = some (.getfield 37, 3, [6, 10, 88], uu) := by decide +kernel
theorem e_223_8 : den cf 223 8 L (.ref a :: st) M = oK (gfA (M.2.2 a) 6 10) (fun v => den cf 223 11 L (v :: st) M) := den_gf l_223_8
theorem l_223_11 : look (tab 223) 11 = some (.iload_n 3, 1, [], uu) := by decide +kernel
theorem e_223_11 : den cf 223 11 [v0, v1, v2, .int x, v4, v5, v6, v7] st M = den cf 223 12 [v0, v1, v2, .int x, v4, v5, v6, v7] (.int x :: st) M := den_go l_223_11 rfl
theorem l_223_12 : look (tab 223) 12 = some (.iload 4, 2, [], uu) := by decide +kernel
theorem e_223_12 : den cf 223 12 [v0, v1, v2, v3, .int x, v5, v6, v7] st M = den cf 223 14 [v0, v1, v2, v3, .int x, v5, v6, v7] (.int x :: st) M := den_go l_223_12 rfl
theorem l_223_14 : look (tab 223) 14 = some (.iastore, 1, [], uu) := by decide +kernel
theorem e_223_14 : den cf 223 14 L (.int x :: .int y :: .ref a :: st) M = oK (stI (M.2.2 a) y x) (fun c => den cf 223 15 L st (mU M a c)) := den_is l_223_14
theorem l_223_15 : look (tab 223) 15 = some (.iconst 0, 1, [], .int (zI 0)) := by decide +kernel
theorem e_223_15 : den cf 223 15 L st M = den cf 223 16 L (.int (zI 0) :: st) M := den_go l_223_15 rfl
theorem l_223_16 : look (tab 223) 16 = some (.istore 6, 2, [], uu) := by decide +kernel
theorem e_223_16 : den cf 223 16 [v0, v1, v2, v3, v4, v5, v6, v7] (.int x :: st) M = den cf 223 18 [v0, v1, v2, v3, v4, kq v5, .int x, v7] st M := den_st (k := 6) (v := .int x) l_223_16 rfl
theorem l_223_18 : look (tab 223) 18 = some (.iload 6, 2, [], uu) := by decide +kernel
theorem e_223_18 : den cf 223 18 [v0, v1, v2, v3, v4, v5, .int x, v7] st M = den cf 223 20 [v0, v1, v2, v3, v4, v5, .int x, v7] (.int x :: st) M := den_go l_223_18 rfl
theorem l_223_20 : look (tab 223) 20 = some (.iload_n 2, 1, [], uu) := by decide +kernel
theorem e_223_20 : den cf 223 20 [v0, v1, .int x, v3, v4, v5, v6, v7] st M = den cf 223 21 [v0, v1, .int x, v3, v4, v5, v6, v7] (.int x :: st) M := den_go l_223_20 rfl
theorem l_223_21 : look (tab 223) 21 = some (.if_icmp .ge 66, 3, [87], uu) := by decide +kernel
theorem e_223_21 : den cf 223 21 L (.int y :: .int x :: st) M = if x < y then den cf 223 24 L st M else den cf 223 87 L st M := den_ic_ge l_223_21
theorem l_223_24 : look (tab 223) 24 = some (.aload 5, 2, [], uu) := by decide +kernel
theorem e_223_24 : den cf 223 24 [v0, v1, v2, v3, v4, v5, v6, v7] st M = if isRf v5 = true then den cf 223 26 [v0, v1, v2, v3, v4, v5, v6, v7] (v5 :: st) M else none := den_g l_223_24 rfl
theorem l_223_26 : look (tab 223) 26 = some (.iload_n 3, 1, [], uu) := by decide +kernel
theorem e_223_26 : den cf 223 26 [v0, v1, v2, .int x, v4, v5, v6, v7] st M = den cf 223 27 [v0, v1, v2, .int x, v4, v5, v6, v7] (.int x :: st) M := den_go l_223_26 rfl
theorem l_223_27 : look (tab 223) 27 = some (.iload 4, 2, [], uu) := by decide +kernel
theorem e_223_27 : den cf 223 27 [v0, v1, v2, v3, .int x, v5, v6, v7] st M = den cf 223 29 [v0, v1, v2, v3, .int x, v5, v6, v7] (.int x :: st) M := den_go l_223_27 rfl
theorem l_223_29 : look (tab 223) 29 = some (.invokevirtual 114, 3, [6, 177, 3, 284, 285, 286, 5], uu) := by decide +kernel
theorem e_223_29 : den cf 223 29 L (w2 :: w1 :: .ref a :: st) M = if rcv M 6 [.ref a, w1, w2] = true ∧ st.length ≤ 4 then rK (cf 177 [.ref a, w1, w2] M) (fun v M' => den cf 223 32 L (pR v st) M') else none := den_iv [w1, w2] l_223_29 rfl
theorem l_223_32 : look (tab 223) 32 = some (.istore 7, 2, [], uu) := by decide +kernel
theorem e_223_32 : den cf 223 32 [v0, v1, v2, v3, v4, v5, v6, v7] (.int x :: st) M = den cf 223 34 [v0, v1, v2, v3, v4, v5, kq v6, .int x] st M := den_st (k := 7) (v := .int x) l_223_32 rfl
theorem l_223_34 : look (tab 223) 34 = some (.iload 7, 2, [], uu) := by decide +kernel
theorem e_223_34 : den cf 223 34 [v0, v1, v2, v3, v4, v5, v6, .int x] st M = den cf 223 36 [v0, v1, v2, v3, v4, v5, v6, .int x] (.int x :: st) M := den_go l_223_34 rfl
theorem l_223_36 : look (tab 223) 36 = some (.aload_n 1, 1, [], uu) := by decide +kernel
theorem e_223_36 : den cf 223 36 [v0, v1, v2, v3, v4, v5, v6, v7] st M = if isRf v1 = true then den cf 223 37 [v0, v1, v2, v3, v4, v5, v6, v7] (v1 :: st) M else none := den_g l_223_36 rfl
theorem l_223_37 : look (tab 223) 37 = some (.iload 6, 2, [], uu) := by decide +kernel
theorem e_223_37 : den cf 223 37 [v0, v1, v2, v3, v4, v5, .int x, v7] st M = den cf 223 39 [v0, v1, v2, v3, v4, v5, .int x, v7] (.int x :: st) M := den_go l_223_37 rfl
theorem l_223_39 : look (tab 223) 39 = some (.laload, 1, [], uu) := by decide +kernel
theorem e_223_39 : den cf 223 39 L (.int x :: .ref a :: st) M = oK (ldJ (M.2.2 a) x) (fun v => den cf 223 40 L (v :: st) M) := den_al (g := ldJ) l_223_39 rfl
theorem l_223_40 : look (tab 223) 40 = some (.lconst 1, 1, [], .long (zJ 1)) := by decide +kernel
theorem e_223_40 : den cf 223 40 L st M = den cf 223 41 L (.long (zJ 1) :: st) M := den_go l_223_40 rfl
theorem l_223_41 : look (tab 223) 41 = some (.lcmp, 1, [], uu) := by decide +kernel
theorem e_223_41 : den cf 223 41 L (.long q :: .long p :: st) M = den cf 223 42 L (.int (lg_cmp p q) :: st) M := den_go l_223_41 rfl
theorem l_223_42 : look (tab 223) 42 = some (.ifCond .ne 7, 3, [49], uu) := by decide +kernel
theorem e_223_42 : den cf 223 42 L (.int x :: st) M = if x = zI 0 then den cf 223 45 L st M else den cf 223 49 L st M := den_if_ne l_223_42
theorem l_223_45 : look (tab 223) 45 = some (.iconst 0, 1, [], .int (zI 0)) := by decide +kernel
theorem e_223_45 : den cf 223 45 L st M = den cf 223 46 L (.int (zI 0) :: st) M := den_go l_223_45 rfl
theorem l_223_46 : look (tab 223) 46 = some (.goto 5, 3, [51], uu) := by decide +kernel
theorem e_223_46 : den cf 223 46 L st M = den cf 223 51 L st M := den_go l_223_46 rfl
theorem l_223_49 : look (tab 223) 49 = some (.bipush 12, 2, [], .int (zI 12)) := by decide +kernel
theorem e_223_49 : den cf 223 49 L st M = den cf 223 51 L (.int (zI 12) :: st) M := den_go l_223_49 rfl
theorem l_223_51 : look (tab 223) 51 = some (.if_icmp .ne 5, 3, [56], uu) := by decide +kernel
theorem e_223_51 : den cf 223 51 L (.int y :: .int x :: st) M = if x = y then den cf 223 54 L st M else den cf 223 56 L st M := den_ic_ne l_223_51
theorem l_223_54 : look (tab 223) 54 = some (.iconst 0, 1, [], .int (zI 0)) := by decide +kernel
theorem e_223_54 : den cf 223 54 L st M = den cf 223 55 L (.int (zI 0) :: st) M := den_go l_223_54 rfl
theorem l_223_55 : look (tab 223) 55 = some (.ireturn, 1, [1], uu) := by decide +kernel
theorem e_223_55 : den cf 223 55 L [.int x] M = if x = zI 0 ∨ x = zI 1 then some (some (.int x), M) else none := den_e1 l_223_55
theorem l_223_56 : look (tab 223) 56 = some (.aload_n 1, 1, [], uu) := by decide +kernel
theorem e_223_56 : den cf 223 56 [v0, v1, v2, v3, v4, v5, v6, v7] st M = if isRf v1 = true then den cf 223 57 [v0, v1, v2, v3, v4, v5, v6, v7] (v1 :: st) M else none := den_g l_223_56 rfl
theorem l_223_57 : look (tab 223) 57 = some (.iload 6, 2, [], uu) := by decide +kernel
theorem e_223_57 : den cf 223 57 [v0, v1, v2, v3, v4, v5, .int x, v7] st M = den cf 223 59 [v0, v1, v2, v3, v4, v5, .int x, v7] (.int x :: st) M := den_go l_223_57 rfl
theorem l_223_59 : look (tab 223) 59 = some (.laload, 1, [], uu) := by decide +kernel
theorem e_223_59 : den cf 223 59 L (.int x :: .ref a :: st) M = oK (ldJ (M.2.2 a) x) (fun v => den cf 223 60 L (v :: st) M) := den_al (g := ldJ) l_223_59 rfl
theorem l_223_60 : look (tab 223) 60 = some (.lconst 1, 1, [], .long (zJ 1)) := by decide +kernel
theorem e_223_60 : den cf 223 60 L st M = den cf 223 61 L (.long (zJ 1) :: st) M := den_go l_223_60 rfl
theorem l_223_61 : look (tab 223) 61 = some (.lcmp, 1, [], uu) := by decide +kernel
theorem e_223_61 : den cf 223 61 L (.long q :: .long p :: st) M = den cf 223 62 L (.int (lg_cmp p q) :: st) M := den_go l_223_61 rfl
theorem l_223_62 : look (tab 223) 62 = some (.ifCond .ne 13, 3, [75], uu) := by decide +kernel
theorem e_223_62 : den cf 223 62 L (.int x :: st) M = if x = zI 0 then den cf 223 65 L st M else den cf 223 75 L st M := den_if_ne l_223_62
theorem l_223_65 : look (tab 223) 65 = some (.aload 5, 2, [], uu) := by decide +kernel
theorem e_223_65 : den cf 223 65 [v0, v1, v2, v3, v4, v5, v6, v7] st M = if isRf v5 = true then den cf 223 67 [v0, v1, v2, v3, v4, v5, v6, v7] (v5 :: st) M else none := den_g l_223_65 rfl
theorem l_223_67 : look (tab 223) 67 = some (.iload_n 3, 1, [], uu) := by decide +kernel
theorem e_223_67 : den cf 223 67 [v0, v1, v2, .int x, v4, v5, v6, v7] st M = den cf 223 68 [v0, v1, v2, .int x, v4, v5, v6, v7] (.int x :: st) M := den_go l_223_67 rfl
theorem l_223_68 : look (tab 223) 68 = some (.iconst 0, 1, [], .int (zI 0)) := by decide +kernel
theorem e_223_68 : den cf 223 68 L st M = den cf 223 69 L (.int (zI 0) :: st) M := den_go l_223_68 rfl
theorem l_223_69 : look (tab 223) 69 = some (.invokevirtual 316, 3, [6, 186, 3, 1022, 1023, 1024, 5], uu) := by decide +kernel
theorem e_223_69 : den cf 223 69 L (w2 :: w1 :: .ref a :: st) M = if rcv M 6 [.ref a, w1, w2] = true ∧ st.length ≤ 4 then rK (cf 186 [.ref a, w1, w2] M) (fun v M' => den cf 223 72 L (pR v st) M') else none := den_iv [w1, w2] l_223_69 rfl
theorem l_223_72 : look (tab 223) 72 = some (.goto 9, 3, [81], uu) := by decide +kernel
theorem e_223_72 : den cf 223 72 L st M = den cf 223 81 L st M := den_go l_223_72 rfl
theorem l_223_75 : look (tab 223) 75 = some (.aload 5, 2, [], uu) := by decide +kernel
theorem e_223_75 : den cf 223 75 [v0, v1, v2, v3, v4, v5, v6, v7] st M = if isRf v5 = true then den cf 223 77 [v0, v1, v2, v3, v4, v5, v6, v7] (v5 :: st) M else none := den_g l_223_75 rfl
theorem l_223_77 : look (tab 223) 77 = some (.iload_n 3, 1, [], uu) := by decide +kernel
theorem e_223_77 : den cf 223 77 [v0, v1, v2, .int x, v4, v5, v6, v7] st M = den cf 223 78 [v0, v1, v2, .int x, v4, v5, v6, v7] (.int x :: st) M := den_go l_223_77 rfl
theorem l_223_78 : look (tab 223) 78 = some (.invokevirtual 260, 3, [6, 185, 2, 701, 702, 703, 5], uu) := by decide +kernel
theorem e_223_78 : den cf 223 78 L (w1 :: .ref a :: st) M = if rcv M 6 [.ref a, w1] = true ∧ st.length ≤ 4 then rK (cf 185 [.ref a, w1] M) (fun v M' => den cf 223 81 L (pR v st) M') else none := den_iv [w1] l_223_78 rfl
theorem l_223_81 : look (tab 223) 81 = some (.iinc 6 1, 3, [], .int (zI 1)) := by decide +kernel
theorem e_223_81 : den cf 223 81 [v0, v1, v2, v3, v4, v5, .int x, v7] st M = den cf 223 84 [v0, v1, v2, v3, v4, kq v5, .int (x + (zI 1)), v7] st M := den_st (k := 6) (v := .int (x + (zI 1))) l_223_81 rfl
theorem l_223_84 : look (tab 223) 84 = some (.goto (-66), 3, [18], uu) := by decide +kernel
theorem e_223_84 : den cf 223 84 L st M = den cf 223 18 L st M := den_go l_223_84 rfl
theorem l_223_87 : look (tab 223) 87 = some (.iconst 1, 1, [], .int (zI 1)) := by decide +kernel
theorem e_223_87 : den cf 223 87 L st M = den cf 223 88 L (.int (zI 1) :: st) M := den_go l_223_87 rfl
theorem l_223_88 : look (tab 223) 88 = some (.ireturn, 1, [1], uu) := by decide +kernel
theorem e_223_88 : den cf 223 88 L [.int x] M = if x = zI 0 ∨ x = zI 1 then some (some (.int x), M) else none := den_e1 l_223_88
/-! yX6_meant -/
theorem l_224_0 : look (tab 224) 0 = some (.iload_n 1, 1, [], uu) := by decide +kernel
theorem e_224_0 : den cf 224 0 [v0, .int x, v2, v3, v4, v5, v6, v7] st M = den cf 224 1 [v0, .int x, v2, v3, v4, v5, v6, v7] (.int x :: st) M := den_go l_224_0 rfl
theorem l_224_1 : look (tab 224) 1 = some (.i2l, 1, [], uu) := by decide +kernel
theorem e_224_1 : den cf 224 1 L (.int x :: st) M = den cf 224 2 L (.long x.toInt64 :: st) M := den_go l_224_1 rfl
theorem l_224_2 : look (tab 224) 2 = some (.lconst 0, 1, [], .long (zJ 0)) := by decide +kernel
theorem e_224_2 : den cf 224 2 L st M = den cf 224 3 L (.long (zJ 0) :: st) M := den_go l_224_2 rfl
theorem l_224_3 : look (tab 224) 3 = some (.ldc2_w 87, 3, [127], .long (zJ 7)) := by decide +kernel
theorem e_224_3 : den cf 224 3 L st M = den cf 224 6 L (.long (zJ 7) :: st) M := den_go l_224_3 rfl
theorem l_224_6 : look (tab 224) 6 = some (.invokestatic 83, 3, [1, 137, 3, 130, 131, 5], uu) := by decide +kernel
theorem e_224_6 : den cf 224 6 L (w3 :: w2 :: w1 :: st) M = if st.length ≤ 4 then rK (cf 137 [w1, w2, w3] M) (fun v M' => den cf 224 9 L (pR v st) M') else none := den_ist [w1, w2, w3] l_224_6 rfl
theorem l_224_9 : look (tab 224) 9 = some (.ifCond .eq 23, 3, [32], uu) := by decide +kernel
theorem e_224_9 : den cf 224 9 L (.int x :: st) M = if x = zI 0 then den cf 224 32 L st M else den cf 224 12 L st M := den_if_eq l_224_9
theorem l_224_12 : look (tab 224) 12 = some (.iload_n 2, 1, [], uu) := by decide +kernel
theorem e_224_12 : den cf 224 12 [v0, v1, .int x, v3, v4, v5, v6, v7] st M = den cf 224 13 [v0, v1, .int x, v3, v4, v5, v6, v7] (.int x :: st) M := den_go l_224_12 rfl
theorem l_224_13 : look (tab 224) 13 = some (.i2l, 1, [], uu) := by decide +kernel
theorem e_224_13 : den cf 224 13 L (.int x :: st) M = den cf 224 14 L (.long x.toInt64 :: st) M := den_go l_224_13 rfl
theorem l_224_14 : look (tab 224) 14 = some (.lconst 0, 1, [], .long (zJ 0)) := by decide +kernel
theorem e_224_14 : den cf 224 14 L st M = den cf 224 15 L (.long (zJ 0) :: st) M := den_go l_224_14 rfl
theorem l_224_15 : look (tab 224) 15 = some (.ldc2_w 91, 3, [129], .long (zJ 40)) := by decide +kernel
theorem e_224_15 : den cf 224 15 L st M = den cf 224 18 L (.long (zJ 40) :: st) M := den_go l_224_15 rfl
theorem l_224_18 : look (tab 224) 18 = some (.invokestatic 83, 3, [1, 137, 3, 130, 131, 5], uu) := by decide +kernel
theorem e_224_18 : den cf 224 18 L (w3 :: w2 :: w1 :: st) M = if st.length ≤ 4 then rK (cf 137 [w1, w2, w3] M) (fun v M' => den cf 224 21 L (pR v st) M') else none := den_ist [w1, w2, w3] l_224_18 rfl
theorem l_224_21 : look (tab 224) 21 = some (.ifCond .eq 11, 3, [32], uu) := by decide +kernel
theorem e_224_21 : den cf 224 21 L (.int x :: st) M = if x = zI 0 then den cf 224 32 L st M else den cf 224 24 L st M := den_if_eq l_224_21
theorem l_224_24 : look (tab 224) 24 = some (.aload_n 0, 1, [], uu) := by decide +kernel
theorem e_224_24 : den cf 224 24 [.ref a, v1, v2, v3, v4, v5, v6, v7] st M = den cf 224 25 [.ref a, v1, v2, v3, v4, v5, v6, v7] (.ref a :: st) M := den_go l_224_24 rfl
theorem l_224_25 : look (tab 224) 25 = some (.iload_n 3, 1, [], uu) := by decide +kernel
theorem e_224_25 : den cf 224 25 [v0, v1, v2, .int x, v4, v5, v6, v7] st M = den cf 224 26 [v0, v1, v2, .int x, v4, v5, v6, v7] (.int x :: st) M := den_go l_224_25 rfl
theorem l_224_26 : look (tab 224) 26 = some (.invokevirtual 104, 3, [6, 138, 2, 226, 227, 228, 5], uu) := by decide +kernel
theorem e_224_26 : den cf 224 26 L (w1 :: .ref a :: st) M = if rcv M 6 [.ref a, w1] = true ∧ st.length ≤ 4 then rK (cf 138 [.ref a, w1] M) (fun v M' => den cf 224 29 L (pR v st) M') else none := den_iv [w1] l_224_26 rfl
theorem l_224_29 : look (tab 224) 29 = some (.ifCond .ne 10, 3, [39], uu) := by decide +kernel
theorem e_224_29 : den cf 224 29 L (.int x :: st) M = if x = zI 0 then den cf 224 32 L st M else den cf 224 39 L st M := den_if_ne l_224_29
theorem l_224_32 : look (tab 224) 32 = some (.aload_n 0, 1, [], uu) := by decide +kernel
theorem e_224_32 : den cf 224 32 [.ref a, v1, v2, v3, v4, v5, v6, v7] st M = den cf 224 33 [.ref a, v1, v2, v3, v4, v5, v6, v7] (.ref a :: st) M := den_go l_224_32 rfl
theorem l_224_33 : look (tab 224) 33 = some (.bipush (-2), 2, [], .int (zI (-2))) := by decide +kernel
theorem e_224_33 : den cf 224 33 L st M = den cf 224 35 L (.int (zI (-2)) :: st) M := den_go l_224_33 rfl
theorem l_224_35 : look (tab 224) 35 = some (.invokevirtual 93, 3, [6, 136, 2, 133, 134, 135, 5], uu) := by decide +kernel
theorem e_224_35 : den cf 224 35 L (w1 :: .ref a :: st) M = if rcv M 6 [.ref a, w1] = true ∧ st.length ≤ 4 then rK (cf 136 [.ref a, w1] M) (fun v M' => den cf 224 38 L (pR v st) M') else none := den_iv [w1] l_224_35 rfl
theorem l_224_38 : look (tab 224) 38 = some (.ireturn, 1, [0], uu) := by decide +kernel
theorem e_224_38 : den cf 224 38 L [.int x] M = some (some (.int x), M) := den_e0 l_224_38
theorem l_224_39 : look (tab 224) 39 = some (.aload_n 0, 1, [], uu) := by decide +kernel
theorem e_224_39 : den cf 224 39 [.ref a, v1, v2, v3, v4, v5, v6, v7] st M = den cf 224 40 [.ref a, v1, v2, v3, v4, v5, v6, v7] (.ref a :: st) M := den_go l_224_39 rfl
theorem l_224_40 : look (tab 224) 40 = some (.iload_n 1, 1, [], uu) := by decide +kernel
theorem e_224_40 : den cf 224 40 [v0, .int x, v2, v3, v4, v5, v6, v7] st M = den cf 224 41 [v0, .int x, v2, v3, v4, v5, v6, v7] (.int x :: st) M := den_go l_224_40 rfl
theorem l_224_41 : look (tab 224) 41 = some (.iload_n 2, 1, [], uu) := by decide +kernel
theorem e_224_41 : den cf 224 41 [v0, v1, .int x, v3, v4, v5, v6, v7] st M = den cf 224 42 [v0, v1, .int x, v3, v4, v5, v6, v7] (.int x :: st) M := den_go l_224_41 rfl
theorem l_224_42 : look (tab 224) 42 = some (.invokevirtual 320, 3, [6, 222, 3, 1078, 1079, 1080, 5], uu) := by decide +kernel
theorem e_224_42 : den cf 224 42 L (w2 :: w1 :: .ref a :: st) M = if rcv M 6 [.ref a, w1, w2] = true ∧ st.length ≤ 4 then rK (cf 222 [.ref a, w1, w2] M) (fun v M' => den cf 224 45 L (pR v st) M') else none := den_iv [w1, w2] l_224_42 rfl
theorem l_224_45 : look (tab 224) 45 = some (.istore 4, 2, [], uu) := by decide +kernel
theorem e_224_45 : den cf 224 45 [v0, v1, v2, v3, v4, v5, v6, v7] (.int x :: st) M = den cf 224 47 [v0, v1, v2, kq v3, .int x, v5, v6, v7] st M := den_st (k := 4) (v := .int x) l_224_45 rfl
theorem l_224_47 : look (tab 224) 47 = some (.iload 4, 2, [], uu) := by decide +kernel
theorem e_224_47 : den cf 224 47 [v0, v1, v2, v3, .int x, v5, v6, v7] st M = den cf 224 49 [v0, v1, v2, v3, .int x, v5, v6, v7] (.int x :: st) M := den_go l_224_47 rfl
theorem l_224_49 : look (tab 224) 49 = some (.ifCond .eq 6, 3, [55], uu) := by decide +kernel
theorem e_224_49 : den cf 224 49 L (.int x :: st) M = if x = zI 0 then den cf 224 55 L st M else den cf 224 52 L st M := den_if_eq l_224_49
theorem l_224_52 : look (tab 224) 52 = some (.iload 4, 2, [], uu) := by decide +kernel
theorem e_224_52 : den cf 224 52 [v0, v1, v2, v3, .int x, v5, v6, v7] st M = den cf 224 54 [v0, v1, v2, v3, .int x, v5, v6, v7] (.int x :: st) M := den_go l_224_52 rfl
theorem l_224_54 : look (tab 224) 54 = some (.ireturn, 1, [0], uu) := by decide +kernel
theorem e_224_54 : den cf 224 54 L [.int x] M = some (some (.int x), M) := den_e0 l_224_54
theorem l_224_55 : look (tab 224) 55 = some (.aload_n 0, 1, [], uu) := by decide +kernel
theorem e_224_55 : den cf 224 55 [.ref a, v1, v2, v3, v4, v5, v6, v7] st M = den cf 224 56 [.ref a, v1, v2, v3, v4, v5, v6, v7] (.ref a :: st) M := den_go l_224_55 rfl
theorem l_224_56 : look (tab 224) 56 = some (.getfield 49, 3, [6, 14, 92], uu) := by decide +kernel
theorem e_224_56 : den cf 224 56 L (.ref a :: st) M = oK (gfA (M.2.2 a) 6 14) (fun v => den cf 224 59 L (v :: st) M) := den_gf l_224_56
theorem l_224_59 : look (tab 224) 59 = some (.iload_n 3, 1, [], uu) := by decide +kernel
theorem e_224_59 : den cf 224 59 [v0, v1, v2, .int x, v4, v5, v6, v7] st M = den cf 224 60 [v0, v1, v2, .int x, v4, v5, v6, v7] (.int x :: st) M := den_go l_224_59 rfl
theorem l_224_60 : look (tab 224) 60 = some (.iaload, 1, [], uu) := by decide +kernel
theorem e_224_60 : den cf 224 60 L (.int x :: .ref a :: st) M = oK (ldI (M.2.2 a) x) (fun v => den cf 224 61 L (v :: st) M) := den_al (g := ldI) l_224_60 rfl
theorem l_224_61 : look (tab 224) 61 = some (.iconst (-1), 1, [], .int (zI (-1))) := by decide +kernel
theorem e_224_61 : den cf 224 61 L st M = den cf 224 62 L (.int (zI (-1)) :: st) M := den_go l_224_61 rfl
theorem l_224_62 : look (tab 224) 62 = some (.if_icmp .eq 17, 3, [79], uu) := by decide +kernel
theorem e_224_62 : den cf 224 62 L (.int y :: .int x :: st) M = if x = y then den cf 224 79 L st M else den cf 224 65 L st M := den_ic_eq l_224_62
theorem l_224_65 : look (tab 224) 65 = some (.aload_n 0, 1, [], uu) := by decide +kernel
theorem e_224_65 : den cf 224 65 [.ref a, v1, v2, v3, v4, v5, v6, v7] st M = den cf 224 66 [.ref a, v1, v2, v3, v4, v5, v6, v7] (.ref a :: st) M := den_go l_224_65 rfl
theorem l_224_66 : look (tab 224) 66 = some (.getfield 52, 3, [6, 15, 93], uu) := by decide +kernel
theorem e_224_66 : den cf 224 66 L (.ref a :: st) M = oK (gfA (M.2.2 a) 6 15) (fun v => den cf 224 69 L (v :: st) M) := den_gf l_224_66
theorem l_224_69 : look (tab 224) 69 = some (.iload_n 3, 1, [], uu) := by decide +kernel
theorem e_224_69 : den cf 224 69 [v0, v1, v2, .int x, v4, v5, v6, v7] st M = den cf 224 70 [v0, v1, v2, .int x, v4, v5, v6, v7] (.int x :: st) M := den_go l_224_69 rfl
theorem l_224_70 : look (tab 224) 70 = some (.iaload, 1, [], uu) := by decide +kernel
theorem e_224_70 : den cf 224 70 L (.int x :: .ref a :: st) M = oK (ldI (M.2.2 a) x) (fun v => den cf 224 71 L (v :: st) M) := den_al (g := ldI) l_224_70 rfl
theorem l_224_71 : look (tab 224) 71 = some (.iconst 1, 1, [], .int (zI 1)) := by decide +kernel
theorem e_224_71 : den cf 224 71 L st M = den cf 224 72 L (.int (zI 1) :: st) M := den_go l_224_71 rfl
theorem l_224_72 : look (tab 224) 72 = some (.if_icmp .ne 7, 3, [79], uu) := by decide +kernel
theorem e_224_72 : den cf 224 72 L (.int y :: .int x :: st) M = if x = y then den cf 224 75 L st M else den cf 224 79 L st M := den_ic_ne l_224_72
theorem l_224_75 : look (tab 224) 75 = some (.iconst 1, 1, [], .int (zI 1)) := by decide +kernel
theorem e_224_75 : den cf 224 75 L st M = den cf 224 76 L (.int (zI 1) :: st) M := den_go l_224_75 rfl
theorem l_224_76 : look (tab 224) 76 = some (.goto 4, 3, [80], uu) := by decide +kernel
theorem e_224_76 : den cf 224 76 L st M = den cf 224 80 L st M := den_go l_224_76 rfl
theorem l_224_79 : look (tab 224) 79 = some (.iconst 0, 1, [], .int (zI 0)) := by decide +kernel
theorem e_224_79 : den cf 224 79 L st M = den cf 224 80 L (.int (zI 0) :: st) M := den_go l_224_79 rfl
theorem l_224_80 : look (tab 224) 80 = some (.istore 5, 2, [], uu) := by decide +kernel
theorem e_224_80 : den cf 224 80 [v0, v1, v2, v3, v4, v5, v6, v7] (.int x :: st) M = den cf 224 82 [v0, v1, v2, v3, kq v4, .int x, v6, v7] st M := den_st (k := 5) (v := .int x) l_224_80 rfl
theorem l_224_82 : look (tab 224) 82 = some (.iconst 0, 1, [], .int (zI 0)) := by decide +kernel
theorem e_224_82 : den cf 224 82 L st M = den cf 224 83 L (.int (zI 0) :: st) M := den_go l_224_82 rfl
theorem l_224_83 : look (tab 224) 83 = some (.istore 6, 2, [], uu) := by decide +kernel
theorem e_224_83 : den cf 224 83 [v0, v1, v2, v3, v4, v5, v6, v7] (.int x :: st) M = den cf 224 85 [v0, v1, v2, v3, v4, kq v5, .int x, v7] st M := den_st (k := 6) (v := .int x) l_224_83 rfl
theorem l_224_85 : look (tab 224) 85 = some (.iload 6, 2, [], uu) := by decide +kernel
theorem e_224_85 : den cf 224 85 [v0, v1, v2, v3, v4, v5, .int x, v7] st M = den cf 224 87 [v0, v1, v2, v3, v4, v5, .int x, v7] (.int x :: st) M := den_go l_224_85 rfl
theorem l_224_87 : look (tab 224) 87 = some (.iload_n 2, 1, [], uu) := by decide +kernel
theorem e_224_87 : den cf 224 87 [v0, v1, .int x, v3, v4, v5, v6, v7] st M = den cf 224 88 [v0, v1, .int x, v3, v4, v5, v6, v7] (.int x :: st) M := den_go l_224_87 rfl
theorem l_224_88 : look (tab 224) 88 = some (.if_icmp .ge 28, 3, [116], uu) := by decide +kernel
theorem e_224_88 : den cf 224 88 L (.int y :: .int x :: st) M = if x < y then den cf 224 91 L st M else den cf 224 116 L st M := den_ic_ge l_224_88
theorem l_224_91 : look (tab 224) 91 = some (.iload 5, 2, [], uu) := by decide +kernel
theorem e_224_91 : den cf 224 91 [v0, v1, v2, v3, v4, .int x, v6, v7] st M = den cf 224 93 [v0, v1, v2, v3, v4, .int x, v6, v7] (.int x :: st) M := den_go l_224_91 rfl
theorem l_224_93 : look (tab 224) 93 = some (.aload_n 0, 1, [], uu) := by decide +kernel
theorem e_224_93 : den cf 224 93 [.ref a, v1, v2, v3, v4, v5, v6, v7] st M = den cf 224 94 [.ref a, v1, v2, v3, v4, v5, v6, v7] (.ref a :: st) M := den_go l_224_93 rfl
theorem l_224_94 : look (tab 224) 94 = some (.getfield 21, 3, [6, 3, 83], uu) := by decide +kernel
theorem e_224_94 : den cf 224 94 L (.ref a :: st) M = oK (gfA (M.2.2 a) 6 3) (fun v => den cf 224 97 L (v :: st) M) := den_gf l_224_94
theorem l_224_97 : look (tab 224) 97 = some (.iload_n 1, 1, [], uu) := by decide +kernel
theorem e_224_97 : den cf 224 97 [v0, .int x, v2, v3, v4, v5, v6, v7] st M = den cf 224 98 [v0, .int x, v2, v3, v4, v5, v6, v7] (.int x :: st) M := den_go l_224_97 rfl
theorem l_224_98 : look (tab 224) 98 = some (.aaload, 1, [], uu) := by decide +kernel
theorem e_224_98 : den cf 224 98 L (.int x :: .ref a :: st) M = oK (ldQ (M.2.2 a) x) (fun v => den cf 224 99 L (v :: st) M) := den_al (g := ldQ) l_224_98 rfl
theorem l_224_99 : look (tab 224) 99 = some (.iload 6, 2, [], uu) := by decide +kernel
theorem e_224_99 : den cf 224 99 [v0, v1, v2, v3, v4, v5, .int x, v7] st M = den cf 224 101 [v0, v1, v2, v3, v4, v5, .int x, v7] (.int x :: st) M := den_go l_224_99 rfl
theorem l_224_101 : look (tab 224) 101 = some (.laload, 1, [], uu) := by decide +kernel
theorem e_224_101 : den cf 224 101 L (.int x :: .ref a :: st) M = oK (ldJ (M.2.2 a) x) (fun v => den cf 224 102 L (v :: st) M) := den_al (g := ldJ) l_224_101 rfl
theorem l_224_102 : look (tab 224) 102 = some (.lconst 0, 1, [], .long (zJ 0)) := by decide +kernel
theorem e_224_102 : den cf 224 102 L st M = den cf 224 103 L (.long (zJ 0) :: st) M := den_go l_224_102 rfl
theorem l_224_103 : look (tab 224) 103 = some (.lconst 1, 1, [], .long (zJ 1)) := by decide +kernel
theorem e_224_103 : den cf 224 103 L st M = den cf 224 104 L (.long (zJ 1) :: st) M := den_go l_224_103 rfl
theorem l_224_104 : look (tab 224) 104 = some (.invokestatic 83, 3, [1, 137, 3, 130, 131, 5], uu) := by decide +kernel
theorem e_224_104 : den cf 224 104 L (w3 :: w2 :: w1 :: st) M = if st.length ≤ 4 then rK (cf 137 [w1, w2, w3] M) (fun v M' => den cf 224 107 L (pR v st) M') else none := den_ist [w1, w2, w3] l_224_104 rfl
theorem l_224_107 : look (tab 224) 107 = some (.iand, 1, [], uu) := by decide +kernel
theorem e_224_107 : den cf 224 107 L (.int y :: .int x :: st) M = den cf 224 108 L (.int (x &&& y) :: st) M := den_go l_224_107 rfl
theorem l_224_108 : look (tab 224) 108 = some (.istore 5, 2, [], uu) := by decide +kernel
theorem e_224_108 : den cf 224 108 [v0, v1, v2, v3, v4, v5, v6, v7] (.int x :: st) M = den cf 224 110 [v0, v1, v2, v3, kq v4, .int x, v6, v7] st M := den_st (k := 5) (v := .int x) l_224_108 rfl
theorem l_224_110 : look (tab 224) 110 = some (.iinc 6 1, 3, [], .int (zI 1)) := by decide +kernel
theorem e_224_110 : den cf 224 110 [v0, v1, v2, v3, v4, v5, .int x, v7] st M = den cf 224 113 [v0, v1, v2, v3, v4, kq v5, .int (x + (zI 1)), v7] st M := den_st (k := 6) (v := .int (x + (zI 1))) l_224_110 rfl
theorem l_224_113 : look (tab 224) 113 = some (.goto (-28), 3, [85], uu) := by decide +kernel
theorem e_224_113 : den cf 224 113 L st M = den cf 224 85 L st M := den_go l_224_113 rfl
theorem l_224_116 : look (tab 224) 116 = some (.iload 5, 2, [], uu) := by decide +kernel
theorem e_224_116 : den cf 224 116 [v0, v1, v2, v3, v4, .int x, v6, v7] st M = den cf 224 118 [v0, v1, v2, v3, v4, .int x, v6, v7] (.int x :: st) M := den_go l_224_116 rfl
theorem l_224_118 : look (tab 224) 118 = some (.ifCond .ne 10, 3, [128], uu) := by decide +kernel
theorem e_224_118 : den cf 224 118 L (.int x :: st) M = if x = zI 0 then den cf 224 121 L st M else den cf 224 128 L st M := den_if_ne l_224_118
theorem l_224_121 : look (tab 224) 121 = some (.aload_n 0, 1, [], uu) := by decide +kernel
theorem e_224_121 : den cf 224 121 [.ref a, v1, v2, v3, v4, v5, v6, v7] st M = den cf 224 122 [.ref a, v1, v2, v3, v4, v5, v6, v7] (.ref a :: st) M := den_go l_224_121 rfl
theorem l_224_122 : look (tab 224) 122 = some (.bipush (-5), 2, [], .int (zI (-5))) := by decide +kernel
theorem e_224_122 : den cf 224 122 L st M = den cf 224 124 L (.int (zI (-5)) :: st) M := den_go l_224_122 rfl
theorem l_224_124 : look (tab 224) 124 = some (.invokevirtual 93, 3, [6, 136, 2, 133, 134, 135, 5], uu) := by decide +kernel
theorem e_224_124 : den cf 224 124 L (w1 :: .ref a :: st) M = if rcv M 6 [.ref a, w1] = true ∧ st.length ≤ 4 then rK (cf 136 [.ref a, w1] M) (fun v M' => den cf 224 127 L (pR v st) M') else none := den_iv [w1] l_224_124 rfl
theorem l_224_127 : look (tab 224) 127 = some (.ireturn, 1, [0], uu) := by decide +kernel
theorem e_224_127 : den cf 224 127 L [.int x] M = some (some (.int x), M) := den_e0 l_224_127
theorem l_224_128 : look (tab 224) 128 = some (.iconst 0, 1, [], .int (zI 0)) := by decide +kernel
theorem e_224_128 : den cf 224 128 L st M = den cf 224 129 L (.int (zI 0) :: st) M := den_go l_224_128 rfl
theorem l_224_129 : look (tab 224) 129 = some (.istore 6, 2, [], uu) := by decide +kernel
theorem e_224_129 : den cf 224 129 [v0, v1, v2, v3, v4, v5, v6, v7] (.int x :: st) M = den cf 224 131 [v0, v1, v2, v3, v4, kq v5, .int x, v7] st M := den_st (k := 6) (v := .int x) l_224_129 rfl
theorem l_224_131 : look (tab 224) 131 = some (.iconst 0, 1, [], .int (zI 0)) := by decide +kernel
theorem e_224_131 : den cf 224 131 L st M = den cf 224 132 L (.int (zI 0) :: st) M := den_go l_224_131 rfl
theorem l_224_132 : look (tab 224) 132 = some (.istore 7, 2, [], uu) := by decide +kernel
theorem e_224_132 : den cf 224 132 [v0, v1, v2, v3, v4, v5, v6, v7] (.int x :: st) M = den cf 224 134 [v0, v1, v2, v3, v4, v5, kq v6, .int x] st M := den_st (k := 7) (v := .int x) l_224_132 rfl
theorem l_224_134 : look (tab 224) 134 = some (.iload 7, 2, [], uu) := by decide +kernel
theorem e_224_134 : den cf 224 134 [v0, v1, v2, v3, v4, v5, v6, .int x] st M = den cf 224 136 [v0, v1, v2, v3, v4, v5, v6, .int x] (.int x :: st) M := den_go l_224_134 rfl
theorem l_224_136 : look (tab 224) 136 = some (.iconst 5, 1, [], .int (zI 5)) := by decide +kernel
theorem e_224_136 : den cf 224 136 L st M = den cf 224 137 L (.int (zI 5) :: st) M := den_go l_224_136 rfl
theorem l_224_137 : look (tab 224) 137 = some (.if_icmp .gt 39, 3, [176], uu) := by decide +kernel
theorem e_224_137 : den cf 224 137 L (.int y :: .int x :: st) M = if y < x then den cf 224 176 L st M else den cf 224 140 L st M := den_ic_gt l_224_137
theorem l_224_140 : look (tab 224) 140 = some (.iload 6, 2, [], uu) := by decide +kernel
theorem e_224_140 : den cf 224 140 [v0, v1, v2, v3, v4, v5, .int x, v7] st M = den cf 224 142 [v0, v1, v2, v3, v4, v5, .int x, v7] (.int x :: st) M := den_go l_224_140 rfl
theorem l_224_142 : look (tab 224) 142 = some (.aload_n 0, 1, [], uu) := by decide +kernel
theorem e_224_142 : den cf 224 142 [.ref a, v1, v2, v3, v4, v5, v6, v7] st M = den cf 224 143 [.ref a, v1, v2, v3, v4, v5, v6, v7] (.ref a :: st) M := den_go l_224_142 rfl
theorem l_224_143 : look (tab 224) 143 = some (.aload_n 0, 1, [], uu) := by decide +kernel
theorem e_224_143 : den cf 224 143 [.ref a, v1, v2, v3, v4, v5, v6, v7] st M = den cf 224 144 [.ref a, v1, v2, v3, v4, v5, v6, v7] (.ref a :: st) M := den_go l_224_143 rfl
theorem l_224_144 : look (tab 224) 144 = some (.getfield 21, 3, [6, 3, 83], uu) := by decide +kernel
theorem e_224_144 : den cf 224 144 L (.ref a :: st) M = oK (gfA (M.2.2 a) 6 3) (fun v => den cf 224 147 L (v :: st) M) := den_gf l_224_144
theorem l_224_147 : look (tab 224) 147 = some (.iload_n 1, 1, [], uu) := by decide +kernel
theorem e_224_147 : den cf 224 147 [v0, .int x, v2, v3, v4, v5, v6, v7] st M = den cf 224 148 [v0, .int x, v2, v3, v4, v5, v6, v7] (.int x :: st) M := den_go l_224_147 rfl
theorem l_224_148 : look (tab 224) 148 = some (.aaload, 1, [], uu) := by decide +kernel
theorem e_224_148 : den cf 224 148 L (.int x :: .ref a :: st) M = oK (ldQ (M.2.2 a) x) (fun v => den cf 224 149 L (v :: st) M) := den_al (g := ldQ) l_224_148 rfl
theorem l_224_149 : look (tab 224) 149 = some (.iload_n 2, 1, [], uu) := by decide +kernel
theorem e_224_149 : den cf 224 149 [v0, v1, .int x, v3, v4, v5, v6, v7] st M = den cf 224 150 [v0, v1, .int x, v3, v4, v5, v6, v7] (.int x :: st) M := den_go l_224_149 rfl
theorem l_224_150 : look (tab 224) 150 = some (.iload_n 3, 1, [], uu) := by decide +kernel
theorem e_224_150 : den cf 224 150 [v0, v1, v2, .int x, v4, v5, v6, v7] st M = den cf 224 151 [v0, v1, v2, .int x, v4, v5, v6, v7] (.int x :: st) M := den_go l_224_150 rfl
theorem l_224_151 : look (tab 224) 151 = some (.iload 7, 2, [], uu) := by decide +kernel
theorem e_224_151 : den cf 224 151 [v0, v1, v2, v3, v4, v5, v6, .int x] st M = den cf 224 153 [v0, v1, v2, v3, v4, v5, v6, .int x] (.int x :: st) M := den_go l_224_151 rfl
theorem l_224_153 : look (tab 224) 153 = some (.invokevirtual 323, 3, [6, 223, 5, 1082, 1083, 1084, 5], uu) := by decide +kernel
theorem e_224_153 : den cf 224 153 L (w4 :: w3 :: w2 :: w1 :: .ref a :: st) M = if rcv M 6 [.ref a, w1, w2, w3, w4] = true ∧ st.length ≤ 4 then rK (cf 223 [.ref a, w1, w2, w3, w4] M) (fun v M' => den cf 224 156 L (pR v st) M') else none := den_iv [w1, w2, w3, w4] l_224_153 rfl
theorem l_224_156 : look (tab 224) 156 = some (.ifCond .eq 10, 3, [166], uu) := by decide +kernel
theorem e_224_156 : den cf 224 156 L (.int x :: st) M = if x = zI 0 then den cf 224 166 L st M else den cf 224 159 L st M := den_if_eq l_224_156
theorem l_224_159 : look (tab 224) 159 = some (.iconst 1, 1, [], .int (zI 1)) := by decide +kernel
theorem e_224_159 : den cf 224 159 L st M = den cf 224 160 L (.int (zI 1) :: st) M := den_go l_224_159 rfl
theorem l_224_160 : look (tab 224) 160 = some (.iload 7, 2, [], uu) := by decide +kernel
theorem e_224_160 : den cf 224 160 [v0, v1, v2, v3, v4, v5, v6, .int x] st M = den cf 224 162 [v0, v1, v2, v3, v4, v5, v6, .int x] (.int x :: st) M := den_go l_224_160 rfl
theorem l_224_162 : look (tab 224) 162 = some (.ishl, 1, [], uu) := by decide +kernel
theorem e_224_162 : den cf 224 162 L (.int y :: .int x :: st) M = den cf 224 163 L (.int (x <<< (y &&& 31)) :: st) M := den_go l_224_162 rfl
theorem l_224_163 : look (tab 224) 163 = some (.goto 4, 3, [167], uu) := by decide +kernel
theorem e_224_163 : den cf 224 163 L st M = den cf 224 167 L st M := den_go l_224_163 rfl
theorem l_224_166 : look (tab 224) 166 = some (.iconst 0, 1, [], .int (zI 0)) := by decide +kernel
theorem e_224_166 : den cf 224 166 L st M = den cf 224 167 L (.int (zI 0) :: st) M := den_go l_224_166 rfl
theorem l_224_167 : look (tab 224) 167 = some (.ior, 1, [], uu) := by decide +kernel
theorem e_224_167 : den cf 224 167 L (.int y :: .int x :: st) M = den cf 224 168 L (.int (x ||| y) :: st) M := den_go l_224_167 rfl
theorem l_224_168 : look (tab 224) 168 = some (.istore 6, 2, [], uu) := by decide +kernel
theorem e_224_168 : den cf 224 168 [v0, v1, v2, v3, v4, v5, v6, v7] (.int x :: st) M = den cf 224 170 [v0, v1, v2, v3, v4, kq v5, .int x, v7] st M := den_st (k := 6) (v := .int x) l_224_168 rfl
theorem l_224_170 : look (tab 224) 170 = some (.iinc 7 1, 3, [], .int (zI 1)) := by decide +kernel
theorem e_224_170 : den cf 224 170 [v0, v1, v2, v3, v4, v5, v6, .int x] st M = den cf 224 173 [v0, v1, v2, v3, v4, v5, kq v6, .int (x + (zI 1))] st M := den_st (k := 7) (v := .int (x + (zI 1))) l_224_170 rfl
theorem l_224_173 : look (tab 224) 173 = some (.goto (-39), 3, [134], uu) := by decide +kernel
theorem e_224_173 : den cf 224 173 L st M = den cf 224 134 L st M := den_go l_224_173 rfl
theorem l_224_176 : look (tab 224) 176 = some (.iload 6, 2, [], uu) := by decide +kernel
theorem e_224_176 : den cf 224 176 [v0, v1, v2, v3, v4, v5, .int x, v7] st M = den cf 224 178 [v0, v1, v2, v3, v4, v5, .int x, v7] (.int x :: st) M := den_go l_224_176 rfl
theorem l_224_178 : look (tab 224) 178 = some (.ireturn, 1, [0], uu) := by decide +kernel
theorem e_224_178 : den cf 224 178 L [.int x] M = some (some (.int x), M) := den_e0 l_224_178
/-! yX6_goesTold -/
theorem l_225_0 : look (tab 225) 0 = some (.lload_n 1, 1, [], uu) := by decide +kernel
theorem e_225_0 : den cf 225 0 [v0, .long p, v2, v3, v4] st M = den cf 225 1 [v0, .long p, v2, v3, v4] (.long p :: st) M := den_go l_225_0 rfl
theorem l_225_1 : look (tab 225) 1 = some (.ldc2_w 327, 3, [1116], .long (zJ 100)) := by decide +kernel
theorem e_225_1 : den cf 225 1 L st M = den cf 225 4 L (.long (zJ 100) :: st) M := den_go l_225_1 rfl
theorem l_225_4 : look (tab 225) 4 = some (.ldc2_w 329, 3, [1117], .long (zJ 399)) := by decide +kernel
theorem e_225_4 : den cf 225 4 L st M = den cf 225 7 L (.long (zJ 399) :: st) M := den_go l_225_4 rfl
theorem l_225_7 : look (tab 225) 7 = some (.invokestatic 83, 3, [1, 137, 3, 130, 131, 5], uu) := by decide +kernel
theorem e_225_7 : den cf 225 7 L (w3 :: w2 :: w1 :: st) M = if st.length ≤ 4 then rK (cf 137 [w1, w2, w3] M) (fun v M' => den cf 225 10 L (pR v st) M') else none := den_ist [w1, w2, w3] l_225_7 rfl
theorem l_225_10 : look (tab 225) 10 = some (.ifCond .ne 5, 3, [15], uu) := by decide +kernel
theorem e_225_10 : den cf 225 10 L (.int x :: st) M = if x = zI 0 then den cf 225 13 L st M else den cf 225 15 L st M := den_if_ne l_225_10
theorem l_225_13 : look (tab 225) 13 = some (.iconst 0, 1, [], .int (zI 0)) := by decide +kernel
theorem e_225_13 : den cf 225 13 L st M = den cf 225 14 L (.int (zI 0) :: st) M := den_go l_225_13 rfl
theorem l_225_14 : look (tab 225) 14 = some (.ireturn, 1, [1], uu) := by decide +kernel
theorem e_225_14 : den cf 225 14 L [.int x] M = if x = zI 0 ∨ x = zI 1 then some (some (.int x), M) else none := den_e1 l_225_14
theorem l_225_15 : look (tab 225) 15 = some (.lload_n 1, 1, [], uu) := by decide +kernel
theorem e_225_15 : den cf 225 15 [v0, .long p, v2, v3, v4] st M = den cf 225 16 [v0, .long p, v2, v3, v4] (.long p :: st) M := den_go l_225_15 rfl
theorem l_225_16 : look (tab 225) 16 = some (.ldc2_w 327, 3, [1116], .long (zJ 100)) := by decide +kernel
theorem e_225_16 : den cf 225 16 L st M = den cf 225 19 L (.long (zJ 100) :: st) M := den_go l_225_16 rfl
theorem l_225_19 : look (tab 225) 19 = some (.lrem, 1, [], uu) := by decide +kernel
theorem e_225_19 : den cf 225 19 L (.long q :: .long p :: st) M = if q = zJ 0 then none else den cf 225 20 L (.long (p - p / q * q) :: st) M := den_dl (f := fun p q => p - p / q * q) l_225_19 rfl
theorem l_225_20 : look (tab 225) 20 = some (.l2i, 1, [], uu) := by decide +kernel
theorem e_225_20 : den cf 225 20 L (.long p :: st) M = den cf 225 21 L (.int p.toInt32 :: st) M := den_go l_225_20 rfl
theorem l_225_21 : look (tab 225) 21 = some (.istore_n 3, 1, [], uu) := by decide +kernel
theorem e_225_21 : den cf 225 21 [v0, v1, v2, v3, v4] (.int x :: st) M = den cf 225 22 [v0, v1, kq v2, .int x, v4] st M := den_st (k := 3) (v := .int x) l_225_21 rfl
theorem l_225_22 : look (tab 225) 22 = some (.aload_n 0, 1, [], uu) := by decide +kernel
theorem e_225_22 : den cf 225 22 [.ref a, v1, v2, v3, v4] st M = den cf 225 23 [.ref a, v1, v2, v3, v4] (.ref a :: st) M := den_go l_225_22 rfl
theorem l_225_23 : look (tab 225) 23 = some (.iload_n 3, 1, [], uu) := by decide +kernel
theorem e_225_23 : den cf 225 23 [v0, v1, v2, .int x, v4] st M = den cf 225 24 [v0, v1, v2, .int x, v4] (.int x :: st) M := den_go l_225_23 rfl
theorem l_225_24 : look (tab 225) 24 = some (.invokevirtual 104, 3, [6, 138, 2, 226, 227, 228, 5], uu) := by decide +kernel
theorem e_225_24 : den cf 225 24 L (w1 :: .ref a :: st) M = if rcv M 6 [.ref a, w1] = true ∧ st.length ≤ 4 then rK (cf 138 [.ref a, w1] M) (fun v M' => den cf 225 27 L (pR v st) M') else none := den_iv [w1] l_225_24 rfl
theorem l_225_27 : look (tab 225) 27 = some (.ifCond .eq 22, 3, [49], uu) := by decide +kernel
theorem e_225_27 : den cf 225 27 L (.int x :: st) M = if x = zI 0 then den cf 225 49 L st M else den cf 225 30 L st M := den_if_eq l_225_27
theorem l_225_30 : look (tab 225) 30 = some (.aload_n 0, 1, [], uu) := by decide +kernel
theorem e_225_30 : den cf 225 30 [.ref a, v1, v2, v3, v4] st M = den cf 225 31 [.ref a, v1, v2, v3, v4] (.ref a :: st) M := den_go l_225_30 rfl
theorem l_225_31 : look (tab 225) 31 = some (.getfield 49, 3, [6, 14, 92], uu) := by decide +kernel
theorem e_225_31 : den cf 225 31 L (.ref a :: st) M = oK (gfA (M.2.2 a) 6 14) (fun v => den cf 225 34 L (v :: st) M) := den_gf l_225_31
theorem l_225_34 : look (tab 225) 34 = some (.iload_n 3, 1, [], uu) := by decide +kernel
theorem e_225_34 : den cf 225 34 [v0, v1, v2, .int x, v4] st M = den cf 225 35 [v0, v1, v2, .int x, v4] (.int x :: st) M := den_go l_225_34 rfl
theorem l_225_35 : look (tab 225) 35 = some (.iaload, 1, [], uu) := by decide +kernel
theorem e_225_35 : den cf 225 35 L (.int x :: .ref a :: st) M = oK (ldI (M.2.2 a) x) (fun v => den cf 225 36 L (v :: st) M) := den_al (g := ldI) l_225_35 rfl
theorem l_225_36 : look (tab 225) 36 = some (.iconst (-1), 1, [], .int (zI (-1))) := by decide +kernel
theorem e_225_36 : den cf 225 36 L st M = den cf 225 37 L (.int (zI (-1)) :: st) M := den_go l_225_36 rfl
theorem l_225_37 : look (tab 225) 37 = some (.if_icmp .eq 12, 3, [49], uu) := by decide +kernel
theorem e_225_37 : den cf 225 37 L (.int y :: .int x :: st) M = if x = y then den cf 225 49 L st M else den cf 225 40 L st M := den_ic_eq l_225_37
theorem l_225_40 : look (tab 225) 40 = some (.aload_n 0, 1, [], uu) := by decide +kernel
theorem e_225_40 : den cf 225 40 [.ref a, v1, v2, v3, v4] st M = den cf 225 41 [.ref a, v1, v2, v3, v4] (.ref a :: st) M := den_go l_225_40 rfl
theorem l_225_41 : look (tab 225) 41 = some (.getfield 52, 3, [6, 15, 93], uu) := by decide +kernel
theorem e_225_41 : den cf 225 41 L (.ref a :: st) M = oK (gfA (M.2.2 a) 6 15) (fun v => den cf 225 44 L (v :: st) M) := den_gf l_225_41
theorem l_225_44 : look (tab 225) 44 = some (.iload_n 3, 1, [], uu) := by decide +kernel
theorem e_225_44 : den cf 225 44 [v0, v1, v2, .int x, v4] st M = den cf 225 45 [v0, v1, v2, .int x, v4] (.int x :: st) M := den_go l_225_44 rfl
theorem l_225_45 : look (tab 225) 45 = some (.iaload, 1, [], uu) := by decide +kernel
theorem e_225_45 : den cf 225 45 L (.int x :: .ref a :: st) M = oK (ldI (M.2.2 a) x) (fun v => den cf 225 46 L (v :: st) M) := den_al (g := ldI) l_225_45 rfl
theorem l_225_46 : look (tab 225) 46 = some (.ifCond .ne 5, 3, [51], uu) := by decide +kernel
theorem e_225_46 : den cf 225 46 L (.int x :: st) M = if x = zI 0 then den cf 225 49 L st M else den cf 225 51 L st M := den_if_ne l_225_46
theorem l_225_49 : look (tab 225) 49 = some (.iconst 0, 1, [], .int (zI 0)) := by decide +kernel
theorem e_225_49 : den cf 225 49 L st M = den cf 225 50 L (.int (zI 0) :: st) M := den_go l_225_49 rfl
theorem l_225_50 : look (tab 225) 50 = some (.ireturn, 1, [1], uu) := by decide +kernel
theorem e_225_50 : den cf 225 50 L [.int x] M = if x = zI 0 ∨ x = zI 1 then some (some (.int x), M) else none := den_e1 l_225_50
theorem l_225_51 : look (tab 225) 51 = some (.aload_n 0, 1, [], uu) := by decide +kernel
theorem e_225_51 : den cf 225 51 [.ref a, v1, v2, v3, v4] st M = den cf 225 52 [.ref a, v1, v2, v3, v4] (.ref a :: st) M := den_go l_225_51 rfl
theorem l_225_52 : look (tab 225) 52 = some (.iload_n 3, 1, [], uu) := by decide +kernel
theorem e_225_52 : den cf 225 52 [v0, v1, v2, .int x, v4] st M = den cf 225 53 [v0, v1, v2, .int x, v4] (.int x :: st) M := den_go l_225_52 rfl
theorem l_225_53 : look (tab 225) 53 = some (.aload_n 0, 1, [], uu) := by decide +kernel
theorem e_225_53 : den cf 225 53 [.ref a, v1, v2, v3, v4] st M = den cf 225 54 [.ref a, v1, v2, v3, v4] (.ref a :: st) M := den_go l_225_53 rfl
theorem l_225_54 : look (tab 225) 54 = some (.getfield 37, 3, [6, 10, 88], uu) := by decide +kernel
theorem e_225_54 : den cf 225 54 L (.ref a :: st) M = oK (gfA (M.2.2 a) 6 10) (fun v => den cf 225 57 L (v :: st) M) := den_gf l_225_54
theorem l_225_57 : look (tab 225) 57 = some (.iload_n 3, 1, [], uu) := by decide +kernel
theorem e_225_57 : den cf 225 57 [v0, v1, v2, .int x, v4] st M = den cf 225 58 [v0, v1, v2, .int x, v4] (.int x :: st) M := den_go l_225_57 rfl
theorem l_225_58 : look (tab 225) 58 = some (.iaload, 1, [], uu) := by decide +kernel
theorem e_225_58 : den cf 225 58 L (.int x :: .ref a :: st) M = oK (ldI (M.2.2 a) x) (fun v => den cf 225 59 L (v :: st) M) := den_al (g := ldI) l_225_58 rfl
theorem l_225_59 : look (tab 225) 59 = some (.invokevirtual 114, 3, [6, 177, 3, 284, 285, 286, 5], uu) := by decide +kernel
theorem e_225_59 : den cf 225 59 L (w2 :: w1 :: .ref a :: st) M = if rcv M 6 [.ref a, w1, w2] = true ∧ st.length ≤ 4 then rK (cf 177 [.ref a, w1, w2] M) (fun v M' => den cf 225 62 L (pR v st) M') else none := den_iv [w1, w2] l_225_59 rfl
theorem l_225_62 : look (tab 225) 62 = some (.istore 4, 2, [], uu) := by decide +kernel
theorem e_225_62 : den cf 225 62 [v0, v1, v2, v3, v4] (.int x :: st) M = den cf 225 64 [v0, v1, v2, kq v3, .int x] st M := den_st (k := 4) (v := .int x) l_225_62 rfl
theorem l_225_64 : look (tab 225) 64 = some (.lload_n 1, 1, [], uu) := by decide +kernel
theorem e_225_64 : den cf 225 64 [v0, .long p, v2, v3, v4] st M = den cf 225 65 [v0, .long p, v2, v3, v4] (.long p :: st) M := den_go l_225_64 rfl
theorem l_225_65 : look (tab 225) 65 = some (.ldc2_w 331, 3, [1118], .long (zJ 300)) := by decide +kernel
theorem e_225_65 : den cf 225 65 L st M = den cf 225 68 L (.long (zJ 300) :: st) M := den_go l_225_65 rfl
theorem l_225_68 : look (tab 225) 68 = some (.lcmp, 1, [], uu) := by decide +kernel
theorem e_225_68 : den cf 225 68 L (.long q :: .long p :: st) M = den cf 225 69 L (.int (lg_cmp p q) :: st) M := den_go l_225_68 rfl
theorem l_225_69 : look (tab 225) 69 = some (.ifCond .lt 21, 3, [90], uu) := by decide +kernel
theorem e_225_69 : den cf 225 69 L (.int x :: st) M = if x < zI 0 then den cf 225 90 L st M else den cf 225 72 L st M := den_if_lt l_225_69
theorem l_225_72 : look (tab 225) 72 = some (.aload_n 0, 1, [], uu) := by decide +kernel
theorem e_225_72 : den cf 225 72 [.ref a, v1, v2, v3, v4] st M = den cf 225 73 [.ref a, v1, v2, v3, v4] (.ref a :: st) M := den_go l_225_72 rfl
theorem l_225_73 : look (tab 225) 73 = some (.iload_n 3, 1, [], uu) := by decide +kernel
theorem e_225_73 : den cf 225 73 [v0, v1, v2, .int x, v4] st M = den cf 225 74 [v0, v1, v2, .int x, v4] (.int x :: st) M := den_go l_225_73 rfl
theorem l_225_74 : look (tab 225) 74 = some (.invokevirtual 260, 3, [6, 185, 2, 701, 702, 703, 5], uu) := by decide +kernel
theorem e_225_74 : den cf 225 74 L (w1 :: .ref a :: st) M = if rcv M 6 [.ref a, w1] = true ∧ st.length ≤ 4 then rK (cf 185 [.ref a, w1] M) (fun v M' => den cf 225 77 L (pR v st) M') else none := den_iv [w1] l_225_74 rfl
theorem l_225_77 : look (tab 225) 77 = some (.iload 4, 2, [], uu) := by decide +kernel
theorem e_225_77 : den cf 225 77 [v0, v1, v2, v3, .int x] st M = den cf 225 79 [v0, v1, v2, v3, .int x] (.int x :: st) M := den_go l_225_77 rfl
theorem l_225_79 : look (tab 225) 79 = some (.bipush 12, 2, [], .int (zI 12)) := by decide +kernel
theorem e_225_79 : den cf 225 79 L st M = den cf 225 81 L (.int (zI 12) :: st) M := den_go l_225_79 rfl
theorem l_225_81 : look (tab 225) 81 = some (.if_icmp .ge 7, 3, [88], uu) := by decide +kernel
theorem e_225_81 : den cf 225 81 L (.int y :: .int x :: st) M = if x < y then den cf 225 84 L st M else den cf 225 88 L st M := den_ic_ge l_225_81
theorem l_225_84 : look (tab 225) 84 = some (.iconst 1, 1, [], .int (zI 1)) := by decide +kernel
theorem e_225_84 : den cf 225 84 L st M = den cf 225 85 L (.int (zI 1) :: st) M := den_go l_225_84 rfl
theorem l_225_85 : look (tab 225) 85 = some (.goto 4, 3, [89], uu) := by decide +kernel
theorem e_225_85 : den cf 225 85 L st M = den cf 225 89 L st M := den_go l_225_85 rfl
theorem l_225_88 : look (tab 225) 88 = some (.iconst 0, 1, [], .int (zI 0)) := by decide +kernel
theorem e_225_88 : den cf 225 88 L st M = den cf 225 89 L (.int (zI 0) :: st) M := den_go l_225_88 rfl
theorem l_225_89 : look (tab 225) 89 = some (.ireturn, 1, [1], uu) := by decide +kernel
theorem e_225_89 : den cf 225 89 L [.int x] M = if x = zI 0 ∨ x = zI 1 then some (some (.int x), M) else none := den_e1 l_225_89
theorem l_225_90 : look (tab 225) 90 = some (.aload_n 0, 1, [], uu) := by decide +kernel
theorem e_225_90 : den cf 225 90 [.ref a, v1, v2, v3, v4] st M = den cf 225 91 [.ref a, v1, v2, v3, v4] (.ref a :: st) M := den_go l_225_90 rfl
theorem l_225_91 : look (tab 225) 91 = some (.iload_n 3, 1, [], uu) := by decide +kernel
theorem e_225_91 : den cf 225 91 [v0, v1, v2, .int x, v4] st M = den cf 225 92 [v0, v1, v2, .int x, v4] (.int x :: st) M := den_go l_225_91 rfl
theorem l_225_92 : look (tab 225) 92 = some (.lload_n 1, 1, [], uu) := by decide +kernel
theorem e_225_92 : den cf 225 92 [v0, .long p, v2, v3, v4] st M = den cf 225 93 [v0, .long p, v2, v3, v4] (.long p :: st) M := den_go l_225_92 rfl
theorem l_225_93 : look (tab 225) 93 = some (.ldc2_w 333, 3, [1119], .long (zJ 200)) := by decide +kernel
theorem e_225_93 : den cf 225 93 L st M = den cf 225 96 L (.long (zJ 200) :: st) M := den_go l_225_93 rfl
theorem l_225_96 : look (tab 225) 96 = some (.lcmp, 1, [], uu) := by decide +kernel
theorem e_225_96 : den cf 225 96 L (.long q :: .long p :: st) M = den cf 225 97 L (.int (lg_cmp p q) :: st) M := den_go l_225_96 rfl
theorem l_225_97 : look (tab 225) 97 = some (.ifCond .ge 7, 3, [104], uu) := by decide +kernel
theorem e_225_97 : den cf 225 97 L (.int x :: st) M = if x < zI 0 then den cf 225 100 L st M else den cf 225 104 L st M := den_if_ge l_225_97
theorem l_225_100 : look (tab 225) 100 = some (.iconst 1, 1, [], .int (zI 1)) := by decide +kernel
theorem e_225_100 : den cf 225 100 L st M = den cf 225 101 L (.int (zI 1) :: st) M := den_go l_225_100 rfl
theorem l_225_101 : look (tab 225) 101 = some (.goto 4, 3, [105], uu) := by decide +kernel
theorem e_225_101 : den cf 225 101 L st M = den cf 225 105 L st M := den_go l_225_101 rfl
theorem l_225_104 : look (tab 225) 104 = some (.iconst 0, 1, [], .int (zI 0)) := by decide +kernel
theorem e_225_104 : den cf 225 104 L st M = den cf 225 105 L (.int (zI 0) :: st) M := den_go l_225_104 rfl
theorem l_225_105 : look (tab 225) 105 = some (.invokevirtual 316, 3, [6, 186, 3, 1022, 1023, 1024, 5], uu) := by decide +kernel
theorem e_225_105 : den cf 225 105 L (w2 :: w1 :: .ref a :: st) M = if rcv M 6 [.ref a, w1, w2] = true ∧ st.length ≤ 4 then rK (cf 186 [.ref a, w1, w2] M) (fun v M' => den cf 225 108 L (pR v st) M') else none := den_iv [w1, w2] l_225_105 rfl
theorem l_225_108 : look (tab 225) 108 = some (.iload 4, 2, [], uu) := by decide +kernel
theorem e_225_108 : den cf 225 108 [v0, v1, v2, v3, .int x] st M = den cf 225 110 [v0, v1, v2, v3, .int x] (.int x :: st) M := den_go l_225_108 rfl
theorem l_225_110 : look (tab 225) 110 = some (.ifCond .le 7, 3, [117], uu) := by decide +kernel
theorem e_225_110 : den cf 225 110 L (.int x :: st) M = if zI 0 < x then den cf 225 113 L st M else den cf 225 117 L st M := den_if_le l_225_110
theorem l_225_113 : look (tab 225) 113 = some (.iconst 1, 1, [], .int (zI 1)) := by decide +kernel
theorem e_225_113 : den cf 225 113 L st M = den cf 225 114 L (.int (zI 1) :: st) M := den_go l_225_113 rfl
theorem l_225_114 : look (tab 225) 114 = some (.goto 4, 3, [118], uu) := by decide +kernel
theorem e_225_114 : den cf 225 114 L st M = den cf 225 118 L st M := den_go l_225_114 rfl
theorem l_225_117 : look (tab 225) 117 = some (.iconst 0, 1, [], .int (zI 0)) := by decide +kernel
theorem e_225_117 : den cf 225 117 L st M = den cf 225 118 L (.int (zI 0) :: st) M := den_go l_225_117 rfl
theorem l_225_118 : look (tab 225) 118 = some (.ireturn, 1, [1], uu) := by decide +kernel
theorem e_225_118 : den cf 225 118 L [.int x] M = if x = zI 0 ∨ x = zI 1 then some (some (.int x), M) else none := den_e1 l_225_118
/-! yX6_wrongIn -/
theorem l_226_0 : look (tab 226) 0 = some (.aload_n 0, 1, [], uu) := by decide +kernel
theorem e_226_0 : den cf 226 0 [.ref a, v1, v2, v3, v4] st M = den cf 226 1 [.ref a, v1, v2, v3, v4] (.ref a :: st) M := den_go l_226_0 rfl
theorem l_226_1 : look (tab 226) 1 = some (.invokevirtual 240, 3, [6, 174, 1, 561, 562, 563, 5], uu) := by decide +kernel
theorem e_226_1 : den cf 226 1 L (.ref a :: st) M = if rcv M 6 [.ref a] = true ∧ st.length ≤ 4 then rK (cf 174 [.ref a] M) (fun v M' => den cf 226 4 L (pR v st) M') else none := den_iv [] l_226_1 rfl
theorem l_226_4 : look (tab 226) 4 = some (.astore_n 3, 1, [], uu) := by decide +kernel
theorem e_226_4 : den cf 226 4 [v0, v1, v2, v3, v4] (v :: st) M = if isRf v = true then den cf 226 5 [v0, v1, kq v2, v, v4] st M else none := den_as (k := 3) (v := v) l_226_4 rfl (Nat.le_of_ble_eq_true rfl)
theorem l_226_5 : look (tab 226) 5 = some (.iconst 0, 1, [], .int (zI 0)) := by decide +kernel
theorem e_226_5 : den cf 226 5 L st M = den cf 226 6 L (.int (zI 0) :: st) M := den_go l_226_5 rfl
theorem l_226_6 : look (tab 226) 6 = some (.istore 4, 2, [], uu) := by decide +kernel
theorem e_226_6 : den cf 226 6 [v0, v1, v2, v3, v4] (.int x :: st) M = den cf 226 8 [v0, v1, v2, kq v3, .int x] st M := den_st (k := 4) (v := .int x) l_226_6 rfl
theorem l_226_8 : look (tab 226) 8 = some (.iload 4, 2, [], uu) := by decide +kernel
theorem e_226_8 : den cf 226 8 [v0, v1, v2, v3, .int x] st M = den cf 226 10 [v0, v1, v2, v3, .int x] (.int x :: st) M := den_go l_226_8 rfl
theorem l_226_10 : look (tab 226) 10 = some (.iload_n 2, 1, [], uu) := by decide +kernel
theorem e_226_10 : den cf 226 10 [v0, v1, .int x, v3, v4] st M = den cf 226 11 [v0, v1, .int x, v3, v4] (.int x :: st) M := den_go l_226_10 rfl
theorem l_226_11 : look (tab 226) 11 = some (.if_icmp .ge 23, 3, [34], uu) := by decide +kernel
theorem e_226_11 : den cf 226 11 L (.int y :: .int x :: st) M = if x < y then den cf 226 14 L st M else den cf 226 34 L st M := den_ic_ge l_226_11
theorem l_226_14 : look (tab 226) 14 = some (.aload_n 3, 1, [], uu) := by decide +kernel
theorem e_226_14 : den cf 226 14 [v0, v1, v2, v3, v4] st M = if isRf v3 = true then den cf 226 15 [v0, v1, v2, v3, v4] (v3 :: st) M else none := den_g l_226_14 rfl
theorem l_226_15 : look (tab 226) 15 = some (.aload_n 1, 1, [], uu) := by decide +kernel
theorem e_226_15 : den cf 226 15 [v0, v1, v2, v3, v4] st M = if isRf v1 = true then den cf 226 16 [v0, v1, v2, v3, v4] (v1 :: st) M else none := den_g l_226_15 rfl
theorem l_226_16 : look (tab 226) 16 = some (.iload 4, 2, [], uu) := by decide +kernel
theorem e_226_16 : den cf 226 16 [v0, v1, v2, v3, .int x] st M = den cf 226 18 [v0, v1, v2, v3, .int x] (.int x :: st) M := den_go l_226_16 rfl
theorem l_226_18 : look (tab 226) 18 = some (.laload, 1, [], uu) := by decide +kernel
theorem e_226_18 : den cf 226 18 L (.int x :: .ref a :: st) M = oK (ldJ (M.2.2 a) x) (fun v => den cf 226 19 L (v :: st) M) := den_al (g := ldJ) l_226_18 rfl
theorem l_226_19 : look (tab 226) 19 = some (.invokevirtual 335, 3, [6, 225, 2, 1112, 1113, 1114, 5], uu) := by decide +kernel
theorem e_226_19 : den cf 226 19 L (w1 :: .ref a :: st) M = if rcv M 6 [.ref a, w1] = true ∧ st.length ≤ 4 then rK (cf 225 [.ref a, w1] M) (fun v M' => den cf 226 22 L (pR v st) M') else none := den_iv [w1] l_226_19 rfl
theorem l_226_22 : look (tab 226) 22 = some (.ifCond .ne 6, 3, [28], uu) := by decide +kernel
theorem e_226_22 : den cf 226 22 L (.int x :: st) M = if x = zI 0 then den cf 226 25 L st M else den cf 226 28 L st M := den_if_ne l_226_22
theorem l_226_25 : look (tab 226) 25 = some (.iload 4, 2, [], uu) := by decide +kernel
theorem e_226_25 : den cf 226 25 [v0, v1, v2, v3, .int x] st M = den cf 226 27 [v0, v1, v2, v3, .int x] (.int x :: st) M := den_go l_226_25 rfl
theorem l_226_27 : look (tab 226) 27 = some (.ireturn, 1, [0], uu) := by decide +kernel
theorem e_226_27 : den cf 226 27 L [.int x] M = some (some (.int x), M) := den_e0 l_226_27
theorem l_226_28 : look (tab 226) 28 = some (.iinc 4 1, 3, [], .int (zI 1)) := by decide +kernel
theorem e_226_28 : den cf 226 28 [v0, v1, v2, v3, .int x] st M = den cf 226 31 [v0, v1, v2, kq v3, .int (x + (zI 1))] st M := den_st (k := 4) (v := .int (x + (zI 1))) l_226_28 rfl
theorem l_226_31 : look (tab 226) 31 = some (.goto (-23), 3, [8], uu) := by decide +kernel
theorem e_226_31 : den cf 226 31 L st M = den cf 226 8 L st M := den_go l_226_31 rfl
theorem l_226_34 : look (tab 226) 34 = some (.iconst (-1), 1, [], .int (zI (-1))) := by decide +kernel
theorem e_226_34 : den cf 226 34 L st M = den cf 226 35 L (.int (zI (-1)) :: st) M := den_go l_226_34 rfl
theorem l_226_35 : look (tab 226) 35 = some (.ireturn, 1, [0], uu) := by decide +kernel
theorem e_226_35 : den cf 226 35 L [.int x] M = some (some (.int x), M) := den_e0 l_226_35
/-! yX6_judge -/
theorem l_227_0 : look (tab 227) 0 = some (.aload_n 0, 1, [], uu) := by decide +kernel
theorem e_227_0 : den cf 227 0 [.ref a, v1, v2, v3] st M = den cf 227 1 [.ref a, v1, v2, v3] (.ref a :: st) M := den_go l_227_0 rfl
theorem l_227_1 : look (tab 227) 1 = some (.iload_n 1, 1, [], uu) := by decide +kernel
theorem e_227_1 : den cf 227 1 [v0, .int x, v2, v3] st M = den cf 227 2 [v0, .int x, v2, v3] (.int x :: st) M := den_go l_227_1 rfl
theorem l_227_2 : look (tab 227) 2 = some (.iload_n 2, 1, [], uu) := by decide +kernel
theorem e_227_2 : den cf 227 2 [v0, v1, .int x, v3] st M = den cf 227 3 [v0, v1, .int x, v3] (.int x :: st) M := den_go l_227_2 rfl
theorem l_227_3 : look (tab 227) 3 = some (.invokevirtual 320, 3, [6, 222, 3, 1078, 1079, 1080, 5], uu) := by decide +kernel
theorem e_227_3 : den cf 227 3 L (w2 :: w1 :: .ref a :: st) M = if rcv M 6 [.ref a, w1, w2] = true ∧ st.length ≤ 4 then rK (cf 222 [.ref a, w1, w2] M) (fun v M' => den cf 227 6 L (pR v st) M') else none := den_iv [w1, w2] l_227_3 rfl
theorem l_227_6 : look (tab 227) 6 = some (.istore_n 3, 1, [], uu) := by decide +kernel
theorem e_227_6 : den cf 227 6 [v0, v1, v2, v3] (.int x :: st) M = den cf 227 7 [v0, v1, kq v2, .int x] st M := den_st (k := 3) (v := .int x) l_227_6 rfl
theorem l_227_7 : look (tab 227) 7 = some (.iload_n 3, 1, [], uu) := by decide +kernel
theorem e_227_7 : den cf 227 7 [v0, v1, v2, .int x] st M = den cf 227 8 [v0, v1, v2, .int x] (.int x :: st) M := den_go l_227_7 rfl
theorem l_227_8 : look (tab 227) 8 = some (.ifCond .eq 7, 3, [15], uu) := by decide +kernel
theorem e_227_8 : den cf 227 8 L (.int x :: st) M = if x = zI 0 then den cf 227 15 L st M else den cf 227 11 L st M := den_if_eq l_227_8
theorem l_227_11 : look (tab 227) 11 = some (.iload_n 3, 1, [], uu) := by decide +kernel
theorem e_227_11 : den cf 227 11 [v0, v1, v2, .int x] st M = den cf 227 12 [v0, v1, v2, .int x] (.int x :: st) M := den_go l_227_11 rfl
theorem l_227_12 : look (tab 227) 12 = some (.goto 14, 3, [26], uu) := by decide +kernel
theorem e_227_12 : den cf 227 12 L st M = den cf 227 26 L st M := den_go l_227_12 rfl
theorem l_227_15 : look (tab 227) 15 = some (.aload_n 0, 1, [], uu) := by decide +kernel
theorem e_227_15 : den cf 227 15 [.ref a, v1, v2, v3] st M = den cf 227 16 [.ref a, v1, v2, v3] (.ref a :: st) M := den_go l_227_15 rfl
theorem l_227_16 : look (tab 227) 16 = some (.aload_n 0, 1, [], uu) := by decide +kernel
theorem e_227_16 : den cf 227 16 [.ref a, v1, v2, v3] st M = den cf 227 17 [.ref a, v1, v2, v3] (.ref a :: st) M := den_go l_227_16 rfl
theorem l_227_17 : look (tab 227) 17 = some (.getfield 21, 3, [6, 3, 83], uu) := by decide +kernel
theorem e_227_17 : den cf 227 17 L (.ref a :: st) M = oK (gfA (M.2.2 a) 6 3) (fun v => den cf 227 20 L (v :: st) M) := den_gf l_227_17
theorem l_227_20 : look (tab 227) 20 = some (.iload_n 1, 1, [], uu) := by decide +kernel
theorem e_227_20 : den cf 227 20 [v0, .int x, v2, v3] st M = den cf 227 21 [v0, .int x, v2, v3] (.int x :: st) M := den_go l_227_20 rfl
theorem l_227_21 : look (tab 227) 21 = some (.aaload, 1, [], uu) := by decide +kernel
theorem e_227_21 : den cf 227 21 L (.int x :: .ref a :: st) M = oK (ldQ (M.2.2 a) x) (fun v => den cf 227 22 L (v :: st) M) := den_al (g := ldQ) l_227_21 rfl
theorem l_227_22 : look (tab 227) 22 = some (.iload_n 2, 1, [], uu) := by decide +kernel
theorem e_227_22 : den cf 227 22 [v0, v1, .int x, v3] st M = den cf 227 23 [v0, v1, .int x, v3] (.int x :: st) M := den_go l_227_22 rfl
theorem l_227_23 : look (tab 227) 23 = some (.invokevirtual 339, 3, [6, 226, 3, 1108, 1109, 1110, 5], uu) := by decide +kernel
theorem e_227_23 : den cf 227 23 L (w2 :: w1 :: .ref a :: st) M = if rcv M 6 [.ref a, w1, w2] = true ∧ st.length ≤ 4 then rK (cf 226 [.ref a, w1, w2] M) (fun v M' => den cf 227 26 L (pR v st) M') else none := den_iv [w1, w2] l_227_23 rfl
theorem l_227_26 : look (tab 227) 26 = some (.ireturn, 1, [0], uu) := by decide +kernel
theorem e_227_26 : den cf 227 26 L [.int x] M = some (some (.int x), M) := den_e0 l_227_26
