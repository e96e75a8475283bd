variable {cf : Nat → List Value → AM → Option AR} {L st : List Value} {M : AM} {x y : Int32} {p q : Int64} {a b : Nat} {v w : Value} {o : Option Nat} {v0 v1 v2 v3 v4 v5 v6 v7 v8 v9 v10 v11 v12 v13 v14 v15 v16 v17 v18 v19 v20 w1 w2 w3 w4 w5 w6 : Value}
/-! yX2_willIfSilent -/
theorem l_28_0 : look (tab 28) 0 = some (.aload_n 2, 1, [], uu) := by decide +kernel
theorem e_28_0 : den cf 28 0 [v0, v1, v2, v3, v4] st M = if isRf v2 = true then den cf 28 1 [v0, v1, v2, v3, v4] (v2 :: st) M else none := den_g l_28_0 rfl
theorem l_28_1 : look (tab 28) 1 = some (.ifnonnull 5, 3, [6], uu) := by decide +kernel
theorem e_28_1 : den cf 28 1 L (va_rf o :: st) M = oN o (den cf 28 4 L st M) (den cf 28 6 L st M) := den_nn l_28_1
theorem e_28_1_n : den cf 28 1 L (.null :: st) M = den cf 28 4 L st M := den_go l_28_1 rfl
theorem e_28_1_r : den cf 28 1 L (.ref a :: st) M = den cf 28 6 L st M := den_go l_28_1 rfl
theorem l_28_4 : look (tab 28) 4 = some (.iconst 0, 1, [], .int (zI 0)) := by decide +kernel
theorem e_28_4 : den cf 28 4 L st M = den cf 28 5 L (.int (zI 0) :: st) M := den_go l_28_4 rfl
theorem l_28_5 : look (tab 28) 5 = some (.ireturn, 1, [0], uu) := by decide +kernel
theorem e_28_5 : den cf 28 5 L [.int x] M = some (some (.int x), M) := den_e0 l_28_5
theorem l_28_6 : look (tab 28) 6 = some (.iconst 4, 1, [], .int (zI 4)) := by decide +kernel
theorem e_28_6 : den cf 28 6 L st M = den cf 28 7 L (.int (zI 4) :: st) M := den_go l_28_6 rfl
theorem l_28_7 : look (tab 28) 7 = some (.iconst 2, 1, [], .int (zI 2)) := by decide +kernel
theorem e_28_7 : den cf 28 7 L st M = den cf 28 8 L (.int (zI 2) :: st) M := den_go l_28_7 rfl
theorem l_28_8 : look (tab 28) 8 = some (.aload_n 1, 1, [], uu) := by decide +kernel
theorem e_28_8 : den cf 28 8 [v0, v1, v2, v3, v4] st M = if isRf v1 = true then den cf 28 9 [v0, v1, v2, v3, v4] (v1 :: st) M else none := den_g l_28_8 rfl
theorem l_28_9 : look (tab 28) 9 = some (.aload_n 2, 1, [], uu) := by decide +kernel
theorem e_28_9 : den cf 28 9 [v0, v1, v2, v3, v4] st M = if isRf v2 = true then den cf 28 10 [v0, v1, v2, v3, v4] (v2 :: st) M else none := den_g l_28_9 rfl
theorem l_28_10 : look (tab 28) 10 = some (.invokevirtual 65, 3, [1, 20, 2, 260, 261, 262, 41], uu) := by decide +kernel
theorem e_28_10 : den cf 28 10 L (w1 :: .ref a :: st) M = if rcv M 1 [.ref a, w1] = true ∧ st.length ≤ 4 then rK (cf 20 [.ref a, w1] M) (fun v M' => den cf 28 13 L (pR v st) M') else none := den_iv [w1] l_28_10 rfl
theorem l_28_13 : look (tab 28) 13 = some (.imul, 1, [], uu) := by decide +kernel
theorem e_28_13 : den cf 28 13 L (.int y :: .int x :: st) M = den cf 28 14 L (.int (x * y) :: st) M := den_go l_28_13 rfl
theorem l_28_14 : look (tab 28) 14 = some (.iadd, 1, [], uu) := by decide +kernel
theorem e_28_14 : den cf 28 14 L (.int y :: .int x :: st) M = den cf 28 15 L (.int (x + y) :: st) M := den_go l_28_14 rfl
theorem l_28_15 : look (tab 28) 15 = some (.aload_n 0, 1, [], uu) := by decide +kernel
theorem e_28_15 : den cf 28 15 [.ref a, v1, v2, v3, v4] st M = den cf 28 16 [.ref a, v1, v2, v3, v4] (.ref a :: st) M := den_go l_28_15 rfl
theorem l_28_16 : look (tab 28) 16 = some (.getfield 27, 3, [2, 3, 44], uu) := by decide +kernel
theorem e_28_16 : den cf 28 16 L (.ref a :: st) M = oK (gfA (M.2.2 a) 2 3) (fun v => den cf 28 19 L (v :: st) M) := den_gf l_28_16
theorem l_28_19 : look (tab 28) 19 = some (.isub, 1, [], uu) := by decide +kernel
theorem e_28_19 : den cf 28 19 L (.int y :: .int x :: st) M = den cf 28 20 L (.int (x - y) :: st) M := den_go l_28_19 rfl
theorem l_28_20 : look (tab 28) 20 = some (.iload_n 3, 1, [], uu) := by decide +kernel
theorem e_28_20 : den cf 28 20 [v0, v1, v2, .int x, v4] st M = den cf 28 21 [v0, v1, v2, .int x, v4] (.int x :: st) M := den_go l_28_20 rfl
theorem l_28_21 : look (tab 28) 21 = some (.iconst 3, 1, [], .int (zI 3)) := by decide +kernel
theorem e_28_21 : den cf 28 21 L st M = den cf 28 22 L (.int (zI 3) :: st) M := den_go l_28_21 rfl
theorem l_28_22 : look (tab 28) 22 = some (.idiv, 1, [], uu) := by decide +kernel
theorem e_28_22 : den cf 28 22 L (.int y :: .int x :: st) M = if y = zI 0 then none else den cf 28 23 L (.int (x / y) :: st) M := den_dv (f := fun x y => x / y) l_28_22 rfl
theorem l_28_23 : look (tab 28) 23 = some (.isub, 1, [], uu) := by decide +kernel
theorem e_28_23 : den cf 28 23 L (.int y :: .int x :: st) M = den cf 28 24 L (.int (x - y) :: st) M := den_go l_28_23 rfl
theorem l_28_24 : look (tab 28) 24 = some (.istore 4, 2, [], uu) := by decide +kernel
theorem e_28_24 : den cf 28 24 [v0, v1, v2, v3, v4] (.int x :: st) M = den cf 28 26 [v0, v1, v2, kq v3, .int x] st M := den_st (k := 4) (v := .int x) l_28_24 rfl
theorem l_28_26 : look (tab 28) 26 = some (.aload_n 1, 1, [], uu) := by decide +kernel
theorem e_28_26 : den cf 28 26 [v0, v1, v2, v3, v4] st M = if isRf v1 = true then den cf 28 27 [v0, v1, v2, v3, v4] (v1 :: st) M else none := den_g l_28_26 rfl
theorem l_28_27 : look (tab 28) 27 = some (.getfield 69, 3, [1, 2, 250], uu) := by decide +kernel
theorem e_28_27 : den cf 28 27 L (.ref a :: st) M = oK (gfA (M.2.2 a) 1 2) (fun v => den cf 28 30 L (v :: st) M) := den_gf l_28_27
theorem l_28_30 : look (tab 28) 30 = some (.tableswitch 100 1 5 #[34, 56, 40, 65, 86], 34, [130, 64, 86, 70, 95, 116], uu) := by decide +kernel
theorem e_28_30 : den cf 28 30 L (.int x :: st) M = if x.toInt < 1 ∨ 5 < x.toInt then den cf 28 130 L st M else oK ([64, 86, 70, 95, 116] : List Nat)[(x.toInt - 1).toNat]? (fun t => den cf 28 t L st M) := den_ts l_28_30
theorem l_28_64 : look (tab 28) 64 = some (.iinc 4 1, 3, [], .int (zI 1)) := by decide +kernel
theorem e_28_64 : den cf 28 64 [v0, v1, v2, v3, .int x] st M = den cf 28 67 [v0, v1, v2, kq v3, .int (x + (zI 1))] st M := den_st (k := 4) (v := .int (x + (zI 1))) l_28_64 rfl
theorem l_28_67 : look (tab 28) 67 = some (.goto 63, 3, [130], uu) := by decide +kernel
theorem e_28_67 : den cf 28 67 L st M = den cf 28 130 L st M := den_go l_28_67 rfl
theorem l_28_70 : look (tab 28) 70 = some (.iload 4, 2, [], uu) := by decide +kernel
theorem e_28_70 : den cf 28 70 [v0, v1, v2, v3, .int x] st M = den cf 28 72 [v0, v1, v2, v3, .int x] (.int x :: st) M := den_go l_28_70 rfl
theorem l_28_72 : look (tab 28) 72 = some (.iconst 1, 1, [], .int (zI 1)) := by decide +kernel
theorem e_28_72 : den cf 28 72 L st M = den cf 28 73 L (.int (zI 1) :: st) M := den_go l_28_72 rfl
theorem l_28_73 : look (tab 28) 73 = some (.aload_n 1, 1, [], uu) := by decide +kernel
theorem e_28_73 : den cf 28 73 [v0, v1, v2, v3, v4] st M = if isRf v1 = true then den cf 28 74 [v0, v1, v2, v3, v4] (v1 :: st) M else none := den_g l_28_73 rfl
theorem l_28_74 : look (tab 28) 74 = some (.getfield 72, 3, [1, 9, 251], uu) := by decide +kernel
theorem e_28_74 : den cf 28 74 L (.ref a :: st) M = oK (gfA (M.2.2 a) 1 9) (fun v => den cf 28 77 L (v :: st) M) := den_gf l_28_74
theorem l_28_77 : look (tab 28) 77 = some (.iconst 4, 1, [], .int (zI 4)) := by decide +kernel
theorem e_28_77 : den cf 28 77 L st M = den cf 28 78 L (.int (zI 4) :: st) M := den_go l_28_77 rfl
theorem l_28_78 : look (tab 28) 78 = some (.idiv, 1, [], uu) := by decide +kernel
theorem e_28_78 : den cf 28 78 L (.int y :: .int x :: st) M = if y = zI 0 then none else den cf 28 79 L (.int (x / y) :: st) M := den_dv (f := fun x y => x / y) l_28_78 rfl
theorem l_28_79 : look (tab 28) 79 = some (.isub, 1, [], uu) := by decide +kernel
theorem e_28_79 : den cf 28 79 L (.int y :: .int x :: st) M = den cf 28 80 L (.int (x - y) :: st) M := den_go l_28_79 rfl
theorem l_28_80 : look (tab 28) 80 = some (.iadd, 1, [], uu) := by decide +kernel
theorem e_28_80 : den cf 28 80 L (.int y :: .int x :: st) M = den cf 28 81 L (.int (x + y) :: st) M := den_go l_28_80 rfl
theorem l_28_81 : look (tab 28) 81 = some (.istore 4, 2, [], uu) := by decide +kernel
theorem e_28_81 : den cf 28 81 [v0, v1, v2, v3, v4] (.int x :: st) M = den cf 28 83 [v0, v1, v2, kq v3, .int x] st M := den_st (k := 4) (v := .int x) l_28_81 rfl
theorem l_28_83 : look (tab 28) 83 = some (.goto 47, 3, [130], uu) := by decide +kernel
theorem e_28_83 : den cf 28 83 L st M = den cf 28 130 L st M := den_go l_28_83 rfl
theorem l_28_86 : look (tab 28) 86 = some (.iload 4, 2, [], uu) := by decide +kernel
theorem e_28_86 : den cf 28 86 [v0, v1, v2, v3, .int x] st M = den cf 28 88 [v0, v1, v2, v3, .int x] (.int x :: st) M := den_go l_28_86 rfl
theorem l_28_88 : look (tab 28) 88 = some (.iload_n 3, 1, [], uu) := by decide +kernel
theorem e_28_88 : den cf 28 88 [v0, v1, v2, .int x, v4] st M = den cf 28 89 [v0, v1, v2, .int x, v4] (.int x :: st) M := den_go l_28_88 rfl
theorem l_28_89 : look (tab 28) 89 = some (.isub, 1, [], uu) := by decide +kernel
theorem e_28_89 : den cf 28 89 L (.int y :: .int x :: st) M = den cf 28 90 L (.int (x - y) :: st) M := den_go l_28_89 rfl
theorem l_28_90 : look (tab 28) 90 = some (.istore 4, 2, [], uu) := by decide +kernel
theorem e_28_90 : den cf 28 90 [v0, v1, v2, v3, v4] (.int x :: st) M = den cf 28 92 [v0, v1, v2, kq v3, .int x] st M := den_st (k := 4) (v := .int x) l_28_90 rfl
theorem l_28_92 : look (tab 28) 92 = some (.goto 38, 3, [130], uu) := by decide +kernel
theorem e_28_92 : den cf 28 92 L st M = den cf 28 130 L st M := den_go l_28_92 rfl
theorem l_28_95 : look (tab 28) 95 = some (.iload_n 3, 1, [], uu) := by decide +kernel
theorem e_28_95 : den cf 28 95 [v0, v1, v2, .int x, v4] st M = den cf 28 96 [v0, v1, v2, .int x, v4] (.int x :: st) M := den_go l_28_95 rfl
theorem l_28_96 : look (tab 28) 96 = some (.aload_n 1, 1, [], uu) := by decide +kernel
theorem e_28_96 : den cf 28 96 [v0, v1, v2, v3, v4] st M = if isRf v1 = true then den cf 28 97 [v0, v1, v2, v3, v4] (v1 :: st) M else none := den_g l_28_96 rfl
theorem l_28_97 : look (tab 28) 97 = some (.getfield 75, 3, [1, 3, 252], uu) := by decide +kernel
theorem e_28_97 : den cf 28 97 L (.ref a :: st) M = oK (gfA (M.2.2 a) 1 3) (fun v => den cf 28 100 L (v :: st) M) := den_gf l_28_97
theorem l_28_100 : look (tab 28) 100 = some (.if_icmp .lt 7, 3, [107], uu) := by decide +kernel
theorem e_28_100 : den cf 28 100 L (.int y :: .int x :: st) M = if x < y then den cf 28 107 L st M else den cf 28 103 L st M := den_ic_lt l_28_100
theorem l_28_103 : look (tab 28) 103 = some (.iconst 0, 1, [], .int (zI 0)) := by decide +kernel
theorem e_28_103 : den cf 28 103 L st M = den cf 28 104 L (.int (zI 0) :: st) M := den_go l_28_103 rfl
theorem l_28_104 : look (tab 28) 104 = some (.goto 7, 3, [111], uu) := by decide +kernel
theorem e_28_104 : den cf 28 104 L st M = den cf 28 111 L st M := den_go l_28_104 rfl
theorem l_28_107 : look (tab 28) 107 = some (.iload 4, 2, [], uu) := by decide +kernel
theorem e_28_107 : den cf 28 107 [v0, v1, v2, v3, .int x] st M = den cf 28 109 [v0, v1, v2, v3, .int x] (.int x :: st) M := den_go l_28_107 rfl
theorem l_28_109 : look (tab 28) 109 = some (.iload_n 3, 1, [], uu) := by decide +kernel
theorem e_28_109 : den cf 28 109 [v0, v1, v2, .int x, v4] st M = den cf 28 110 [v0, v1, v2, .int x, v4] (.int x :: st) M := den_go l_28_109 rfl
theorem l_28_110 : look (tab 28) 110 = some (.isub, 1, [], uu) := by decide +kernel
theorem e_28_110 : den cf 28 110 L (.int y :: .int x :: st) M = den cf 28 111 L (.int (x - y) :: st) M := den_go l_28_110 rfl
theorem l_28_111 : look (tab 28) 111 = some (.istore 4, 2, [], uu) := by decide +kernel
theorem e_28_111 : den cf 28 111 [v0, v1, v2, v3, v4] (.int x :: st) M = den cf 28 113 [v0, v1, v2, kq v3, .int x] st M := den_st (k := 4) (v := .int x) l_28_111 rfl
theorem l_28_113 : look (tab 28) 113 = some (.goto 17, 3, [130], uu) := by decide +kernel
theorem e_28_113 : den cf 28 113 L st M = den cf 28 130 L st M := den_go l_28_113 rfl
theorem l_28_116 : look (tab 28) 116 = some (.iload 4, 2, [], uu) := by decide +kernel
theorem e_28_116 : den cf 28 116 [v0, v1, v2, v3, .int x] st M = den cf 28 118 [v0, v1, v2, v3, .int x] (.int x :: st) M := den_go l_28_116 rfl
theorem l_28_118 : look (tab 28) 118 = some (.aload_n 1, 1, [], uu) := by decide +kernel
theorem e_28_118 : den cf 28 118 [v0, v1, v2, v3, v4] st M = if isRf v1 = true then den cf 28 119 [v0, v1, v2, v3, v4] (v1 :: st) M else none := den_g l_28_118 rfl
theorem l_28_119 : look (tab 28) 119 = some (.getfield 75, 3, [1, 3, 252], uu) := by decide +kernel
theorem e_28_119 : den cf 28 119 L (.ref a :: st) M = oK (gfA (M.2.2 a) 1 3) (fun v => den cf 28 122 L (v :: st) M) := den_gf l_28_119
theorem l_28_122 : look (tab 28) 122 = some (.iconst 3, 1, [], .int (zI 3)) := by decide +kernel
theorem e_28_122 : den cf 28 122 L st M = den cf 28 123 L (.int (zI 3) :: st) M := den_go l_28_122 rfl
theorem l_28_123 : look (tab 28) 123 = some (.idiv, 1, [], uu) := by decide +kernel
theorem e_28_123 : den cf 28 123 L (.int y :: .int x :: st) M = if y = zI 0 then none else den cf 28 124 L (.int (x / y) :: st) M := den_dv (f := fun x y => x / y) l_28_123 rfl
theorem l_28_124 : look (tab 28) 124 = some (.iadd, 1, [], uu) := by decide +kernel
theorem e_28_124 : den cf 28 124 L (.int y :: .int x :: st) M = den cf 28 125 L (.int (x + y) :: st) M := den_go l_28_124 rfl
theorem l_28_125 : look (tab 28) 125 = some (.istore 4, 2, [], uu) := by decide +kernel
theorem e_28_125 : den cf 28 125 [v0, v1, v2, v3, v4] (.int x :: st) M = den cf 28 127 [v0, v1, v2, kq v3, .int x] st M := den_st (k := 4) (v := .int x) l_28_125 rfl
theorem l_28_127 : look (tab 28) 127 = some (.goto 3, 3, [130], uu) := by decide +kernel
theorem e_28_127 : den cf 28 127 L st M = den cf 28 130 L st M := den_go l_28_127 rfl
theorem l_28_130 : look (tab 28) 130 = some (.aload_n 0, 1, [], uu) := by decide +kernel
theorem e_28_130 : den cf 28 130 [.ref a, v1, v2, v3, v4] st M = den cf 28 131 [.ref a, v1, v2, v3, v4] (.ref a :: st) M := den_go l_28_130 rfl
theorem l_28_131 : look (tab 28) 131 = some (.getfield 30, 3, [2, 4, 45], uu) := by decide +kernel
theorem e_28_131 : den cf 28 131 L (.ref a :: st) M = oK (gfA (M.2.2 a) 2 4) (fun v => den cf 28 134 L (v :: st) M) := den_gf l_28_131
theorem l_28_134 : look (tab 28) 134 = some (.iconst 1, 1, [], .int (zI 1)) := by decide +kernel
theorem e_28_134 : den cf 28 134 L st M = den cf 28 135 L (.int (zI 1) :: st) M := den_go l_28_134 rfl
theorem l_28_135 : look (tab 28) 135 = some (.if_icmp .ne 6, 3, [141], uu) := by decide +kernel
theorem e_28_135 : den cf 28 135 L (.int y :: .int x :: st) M = if x = y then den cf 28 138 L st M else den cf 28 141 L st M := den_ic_ne l_28_135
theorem l_28_138 : look (tab 28) 138 = some (.iinc 4 2, 3, [], .int (zI 2)) := by decide +kernel
theorem e_28_138 : den cf 28 138 [v0, v1, v2, v3, .int x] st M = den cf 28 141 [v0, v1, v2, kq v3, .int (x + (zI 2))] st M := den_st (k := 4) (v := .int (x + (zI 2))) l_28_138 rfl
theorem l_28_141 : look (tab 28) 141 = some (.iconst 0, 1, [], .int (zI 0)) := by decide +kernel
theorem e_28_141 : den cf 28 141 L st M = den cf 28 142 L (.int (zI 0) :: st) M := den_go l_28_141 rfl
theorem l_28_142 : look (tab 28) 142 = some (.bipush 12, 2, [], .int (zI 12)) := by decide +kernel
theorem e_28_142 : den cf 28 142 L st M = den cf 28 144 L (.int (zI 12) :: st) M := den_go l_28_142 rfl
theorem l_28_144 : look (tab 28) 144 = some (.iload 4, 2, [], uu) := by decide +kernel
theorem e_28_144 : den cf 28 144 [v0, v1, v2, v3, .int x] st M = den cf 28 146 [v0, v1, v2, v3, .int x] (.int x :: st) M := den_go l_28_144 rfl
theorem l_28_146 : look (tab 28) 146 = some (.invokestatic 78, 3, [1, 244, 2, 253, 254, 255], uu) := by decide +kernel
theorem e_28_146 : den cf 28 146 L (w2 :: w1 :: st) M = if st.length ≤ 4 then rK (cf 244 [w1, w2] M) (fun v M' => den cf 28 149 L (pR v st) M') else none := den_ist [w1, w2] l_28_146 rfl
theorem l_28_149 : look (tab 28) 149 = some (.invokestatic 84, 3, [1, 243, 2, 257, 258, 255], uu) := by decide +kernel
theorem e_28_149 : den cf 28 149 L (w2 :: w1 :: st) M = if st.length ≤ 4 then rK (cf 243 [w1, w2] M) (fun v M' => den cf 28 152 L (pR v st) M') else none := den_ist [w1, w2] l_28_149 rfl
theorem l_28_152 : look (tab 28) 152 = some (.ireturn, 1, [0], uu) := by decide +kernel
theorem e_28_152 : den cf 28 152 L [.int x] M = some (some (.int x), M) := den_e0 l_28_152
/-! yX2_linesTo -/
theorem l_29_0 : look (tab 29) 0 = some (.aload_n 2, 1, [], uu) := by decide +kernel
theorem e_29_0 : den cf 29 0 [v0, v1, v2, v3, v4] st M = if isRf v2 = true then den cf 29 1 [v0, v1, v2, v3, v4] (v2 :: st) M else none := den_g l_29_0 rfl
theorem l_29_1 : look (tab 29) 1 = some (.ifnonnull 7, 3, [8], uu) := by decide +kernel
theorem e_29_1 : den cf 29 1 L (va_rf o :: st) M = oN o (den cf 29 4 L st M) (den cf 29 8 L st M) := den_nn l_29_1
theorem e_29_1_n : den cf 29 1 L (.null :: st) M = den cf 29 4 L st M := den_go l_29_1 rfl
theorem e_29_1_r : den cf 29 1 L (.ref a :: st) M = den cf 29 8 L st M := den_go l_29_1 rfl
theorem l_29_4 : look (tab 29) 4 = some (.iconst 0, 1, [], .int (zI 0)) := by decide +kernel
theorem e_29_4 : den cf 29 4 L st M = den cf 29 5 L (.int (zI 0) :: st) M := den_go l_29_4 rfl
theorem l_29_5 : look (tab 29) 5 = some (.goto 7, 3, [12], uu) := by decide +kernel
theorem e_29_5 : den cf 29 5 L st M = den cf 29 12 L st M := den_go l_29_5 rfl
theorem l_29_8 : look (tab 29) 8 = some (.aload_n 2, 1, [], uu) := by decide +kernel
theorem e_29_8 : den cf 29 8 [v0, v1, v2, v3, v4] st M = if isRf v2 = true then den cf 29 9 [v0, v1, v2, v3, v4] (v2 :: st) M else none := den_g l_29_8 rfl
theorem l_29_9 : look (tab 29) 9 = some (.getfield 72, 3, [1, 9, 251], uu) := by decide +kernel
theorem e_29_9 : den cf 29 9 L (.ref a :: st) M = oK (gfA (M.2.2 a) 1 9) (fun v => den cf 29 12 L (v :: st) M) := den_gf l_29_9
theorem l_29_12 : look (tab 29) 12 = some (.istore_n 3, 1, [], uu) := by decide +kernel
theorem e_29_12 : den cf 29 12 [v0, v1, v2, v3, v4] (.int x :: st) M = den cf 29 13 [v0, v1, kq v2, .int x, v4] st M := den_st (k := 3) (v := .int x) l_29_12 rfl
theorem l_29_13 : look (tab 29) 13 = some (.iconst 5, 1, [], .int (zI 5)) := by decide +kernel
theorem e_29_13 : den cf 29 13 L st M = den cf 29 14 L (.int (zI 5) :: st) M := den_go l_29_13 rfl
theorem l_29_14 : look (tab 29) 14 = some (.aload_n 1, 1, [], uu) := by decide +kernel
theorem e_29_14 : den cf 29 14 [v0, v1, v2, v3, v4] st M = if isRf v1 = true then den cf 29 15 [v0, v1, v2, v3, v4] (v1 :: st) M else none := den_g l_29_14 rfl
theorem l_29_15 : look (tab 29) 15 = some (.getfield 75, 3, [1, 3, 252], uu) := by decide +kernel
theorem e_29_15 : den cf 29 15 L (.ref a :: st) M = oK (gfA (M.2.2 a) 1 3) (fun v => den cf 29 18 L (v :: st) M) := den_gf l_29_15
theorem l_29_18 : look (tab 29) 18 = some (.iadd, 1, [], uu) := by decide +kernel
theorem e_29_18 : den cf 29 18 L (.int y :: .int x :: st) M = den cf 29 19 L (.int (x + y) :: st) M := den_go l_29_18 rfl
theorem l_29_19 : look (tab 29) 19 = some (.iload_n 3, 1, [], uu) := by decide +kernel
theorem e_29_19 : den cf 29 19 [v0, v1, v2, .int x, v4] st M = den cf 29 20 [v0, v1, v2, .int x, v4] (.int x :: st) M := den_go l_29_19 rfl
theorem l_29_20 : look (tab 29) 20 = some (.iconst 2, 1, [], .int (zI 2)) := by decide +kernel
theorem e_29_20 : den cf 29 20 L st M = den cf 29 21 L (.int (zI 2) :: st) M := den_go l_29_20 rfl
theorem l_29_21 : look (tab 29) 21 = some (.idiv, 1, [], uu) := by decide +kernel
theorem e_29_21 : den cf 29 21 L (.int y :: .int x :: st) M = if y = zI 0 then none else den cf 29 22 L (.int (x / y) :: st) M := den_dv (f := fun x y => x / y) l_29_21 rfl
theorem l_29_22 : look (tab 29) 22 = some (.iadd, 1, [], uu) := by decide +kernel
theorem e_29_22 : den cf 29 22 L (.int y :: .int x :: st) M = den cf 29 23 L (.int (x + y) :: st) M := den_go l_29_22 rfl
theorem l_29_23 : look (tab 29) 23 = some (.istore 4, 2, [], uu) := by decide +kernel
theorem e_29_23 : den cf 29 23 [v0, v1, v2, v3, v4] (.int x :: st) M = den cf 29 25 [v0, v1, v2, kq v3, .int x] st M := den_st (k := 4) (v := .int x) l_29_23 rfl
theorem l_29_25 : look (tab 29) 25 = some (.aload_n 1, 1, [], uu) := by decide +kernel
theorem e_29_25 : den cf 29 25 [v0, v1, v2, v3, v4] st M = if isRf v1 = true then den cf 29 26 [v0, v1, v2, v3, v4] (v1 :: st) M else none := den_g l_29_25 rfl
theorem l_29_26 : look (tab 29) 26 = some (.getfield 69, 3, [1, 2, 250], uu) := by decide +kernel
theorem e_29_26 : den cf 29 26 L (.ref a :: st) M = oK (gfA (M.2.2 a) 1 2) (fun v => den cf 29 29 L (v :: st) M) := den_gf l_29_26
theorem l_29_29 : look (tab 29) 29 = some (.tableswitch 81 1 5 #[35, 55, 44, 55, 71], 35, [110, 64, 84, 73, 84, 100], uu) := by decide +kernel
theorem e_29_29 : den cf 29 29 L (.int x :: st) M = if x.toInt < 1 ∨ 5 < x.toInt then den cf 29 110 L st M else oK ([64, 84, 73, 84, 100] : List Nat)[(x.toInt - 1).toNat]? (fun t => den cf 29 t L st M) := den_ts l_29_29
theorem l_29_64 : look (tab 29) 64 = some (.iconst 2, 1, [], .int (zI 2)) := by decide +kernel
theorem e_29_64 : den cf 29 64 L st M = den cf 29 65 L (.int (zI 2) :: st) M := den_go l_29_64 rfl
theorem l_29_65 : look (tab 29) 65 = some (.iload 4, 2, [], uu) := by decide +kernel
theorem e_29_65 : den cf 29 65 [v0, v1, v2, v3, .int x] st M = den cf 29 67 [v0, v1, v2, v3, .int x] (.int x :: st) M := den_go l_29_65 rfl
theorem l_29_67 : look (tab 29) 67 = some (.imul, 1, [], uu) := by decide +kernel
theorem e_29_67 : den cf 29 67 L (.int y :: .int x :: st) M = den cf 29 68 L (.int (x * y) :: st) M := den_go l_29_67 rfl
theorem l_29_68 : look (tab 29) 68 = some (.istore 4, 2, [], uu) := by decide +kernel
theorem e_29_68 : den cf 29 68 [v0, v1, v2, v3, v4] (.int x :: st) M = den cf 29 70 [v0, v1, v2, kq v3, .int x] st M := den_st (k := 4) (v := .int x) l_29_68 rfl
theorem l_29_70 : look (tab 29) 70 = some (.goto 40, 3, [110], uu) := by decide +kernel
theorem e_29_70 : den cf 29 70 L st M = den cf 29 110 L st M := den_go l_29_70 rfl
theorem l_29_73 : look (tab 29) 73 = some (.iconst 2, 1, [], .int (zI 2)) := by decide +kernel
theorem e_29_73 : den cf 29 73 L st M = den cf 29 74 L (.int (zI 2) :: st) M := den_go l_29_73 rfl
theorem l_29_74 : look (tab 29) 74 = some (.iload 4, 2, [], uu) := by decide +kernel
theorem e_29_74 : den cf 29 74 [v0, v1, v2, v3, .int x] st M = den cf 29 76 [v0, v1, v2, v3, .int x] (.int x :: st) M := den_go l_29_74 rfl
theorem l_29_76 : look (tab 29) 76 = some (.imul, 1, [], uu) := by decide +kernel
theorem e_29_76 : den cf 29 76 L (.int y :: .int x :: st) M = den cf 29 77 L (.int (x * y) :: st) M := den_go l_29_76 rfl
theorem l_29_77 : look (tab 29) 77 = some (.iconst 5, 1, [], .int (zI 5)) := by decide +kernel
theorem e_29_77 : den cf 29 77 L st M = den cf 29 78 L (.int (zI 5) :: st) M := den_go l_29_77 rfl
theorem l_29_78 : look (tab 29) 78 = some (.iadd, 1, [], uu) := by decide +kernel
theorem e_29_78 : den cf 29 78 L (.int y :: .int x :: st) M = den cf 29 79 L (.int (x + y) :: st) M := den_go l_29_78 rfl
theorem l_29_79 : look (tab 29) 79 = some (.istore 4, 2, [], uu) := by decide +kernel
theorem e_29_79 : den cf 29 79 [v0, v1, v2, v3, v4] (.int x :: st) M = den cf 29 81 [v0, v1, v2, kq v3, .int x] st M := den_st (k := 4) (v := .int x) l_29_79 rfl
theorem l_29_81 : look (tab 29) 81 = some (.goto 29, 3, [110], uu) := by decide +kernel
theorem e_29_81 : den cf 29 81 L st M = den cf 29 110 L st M := den_go l_29_81 rfl
theorem l_29_84 : look (tab 29) 84 = some (.iconst 1, 1, [], .int (zI 1)) := by decide +kernel
theorem e_29_84 : den cf 29 84 L st M = den cf 29 85 L (.int (zI 1) :: st) M := den_go l_29_84 rfl
theorem l_29_85 : look (tab 29) 85 = some (.iload 4, 2, [], uu) := by decide +kernel
theorem e_29_85 : den cf 29 85 [v0, v1, v2, v3, .int x] st M = den cf 29 87 [v0, v1, v2, v3, .int x] (.int x :: st) M := den_go l_29_85 rfl
theorem l_29_87 : look (tab 29) 87 = some (.aload_n 1, 1, [], uu) := by decide +kernel
theorem e_29_87 : den cf 29 87 [v0, v1, v2, v3, v4] st M = if isRf v1 = true then den cf 29 88 [v0, v1, v2, v3, v4] (v1 :: st) M else none := den_g l_29_87 rfl
theorem l_29_88 : look (tab 29) 88 = some (.getfield 58, 3, [1, 8, 245], uu) := by decide +kernel
theorem e_29_88 : den cf 29 88 L (.ref a :: st) M = oK (gfA (M.2.2 a) 1 8) (fun v => den cf 29 91 L (v :: st) M) := den_gf l_29_88
theorem l_29_91 : look (tab 29) 91 = some (.isub, 1, [], uu) := by decide +kernel
theorem e_29_91 : den cf 29 91 L (.int y :: .int x :: st) M = den cf 29 92 L (.int (x - y) :: st) M := den_go l_29_91 rfl
theorem l_29_92 : look (tab 29) 92 = some (.invokestatic 84, 3, [1, 243, 2, 257, 258, 255], uu) := by decide +kernel
theorem e_29_92 : den cf 29 92 L (w2 :: w1 :: st) M = if st.length ≤ 4 then rK (cf 243 [w1, w2] M) (fun v M' => den cf 29 95 L (pR v st) M') else none := den_ist [w1, w2] l_29_92 rfl
theorem l_29_95 : look (tab 29) 95 = some (.istore 4, 2, [], uu) := by decide +kernel
theorem e_29_95 : den cf 29 95 [v0, v1, v2, v3, v4] (.int x :: st) M = den cf 29 97 [v0, v1, v2, kq v3, .int x] st M := den_st (k := 4) (v := .int x) l_29_95 rfl
theorem l_29_97 : look (tab 29) 97 = some (.goto 13, 3, [110], uu) := by decide +kernel
theorem e_29_97 : den cf 29 97 L st M = den cf 29 110 L st M := den_go l_29_97 rfl
theorem l_29_100 : look (tab 29) 100 = some (.iconst 1, 1, [], .int (zI 1)) := by decide +kernel
theorem e_29_100 : den cf 29 100 L st M = den cf 29 101 L (.int (zI 1) :: st) M := den_go l_29_100 rfl
theorem l_29_101 : look (tab 29) 101 = some (.iload_n 3, 1, [], uu) := by decide +kernel
theorem e_29_101 : den cf 29 101 [v0, v1, v2, .int x, v4] st M = den cf 29 102 [v0, v1, v2, .int x, v4] (.int x :: st) M := den_go l_29_101 rfl
theorem l_29_102 : look (tab 29) 102 = some (.invokestatic 84, 3, [1, 243, 2, 257, 258, 255], uu) := by decide +kernel
theorem e_29_102 : den cf 29 102 L (w2 :: w1 :: st) M = if st.length ≤ 4 then rK (cf 243 [w1, w2] M) (fun v M' => den cf 29 105 L (pR v st) M') else none := den_ist [w1, w2] l_29_102 rfl
theorem l_29_105 : look (tab 29) 105 = some (.istore 4, 2, [], uu) := by decide +kernel
theorem e_29_105 : den cf 29 105 [v0, v1, v2, v3, v4] (.int x :: st) M = den cf 29 107 [v0, v1, v2, kq v3, .int x] st M := den_st (k := 4) (v := .int x) l_29_105 rfl
theorem l_29_107 : look (tab 29) 107 = some (.goto 3, 3, [110], uu) := by decide +kernel
theorem e_29_107 : den cf 29 107 L st M = den cf 29 110 L st M := den_go l_29_107 rfl
theorem l_29_110 : look (tab 29) 110 = some (.aload_n 0, 1, [], uu) := by decide +kernel
theorem e_29_110 : den cf 29 110 [.ref a, v1, v2, v3, v4] st M = den cf 29 111 [.ref a, v1, v2, v3, v4] (.ref a :: st) M := den_go l_29_110 rfl
theorem l_29_111 : look (tab 29) 111 = some (.getfield 30, 3, [2, 4, 45], uu) := by decide +kernel
theorem e_29_111 : den cf 29 111 L (.ref a :: st) M = oK (gfA (M.2.2 a) 2 4) (fun v => den cf 29 114 L (v :: st) M) := den_gf l_29_111
theorem l_29_114 : look (tab 29) 114 = some (.iconst 1, 1, [], .int (zI 1)) := by decide +kernel
theorem e_29_114 : den cf 29 114 L st M = den cf 29 115 L (.int (zI 1) :: st) M := den_go l_29_114 rfl
theorem l_29_115 : look (tab 29) 115 = some (.if_icmp .ne 8, 3, [123], uu) := by decide +kernel
theorem e_29_115 : den cf 29 115 L (.int y :: .int x :: st) M = if x = y then den cf 29 118 L st M else den cf 29 123 L st M := den_ic_ne l_29_115
theorem l_29_118 : look (tab 29) 118 = some (.bipush 10, 2, [], .int (zI 10)) := by decide +kernel
theorem e_29_118 : den cf 29 118 L st M = den cf 29 120 L (.int (zI 10) :: st) M := den_go l_29_118 rfl
theorem l_29_120 : look (tab 29) 120 = some (.goto 5, 3, [125], uu) := by decide +kernel
theorem e_29_120 : den cf 29 120 L st M = den cf 29 125 L st M := den_go l_29_120 rfl
theorem l_29_123 : look (tab 29) 123 = some (.bipush 99, 2, [], .int (zI 99)) := by decide +kernel
theorem e_29_123 : den cf 29 123 L st M = den cf 29 125 L (.int (zI 99) :: st) M := den_go l_29_123 rfl
theorem l_29_125 : look (tab 29) 125 = some (.iload 4, 2, [], uu) := by decide +kernel
theorem e_29_125 : den cf 29 125 [v0, v1, v2, v3, .int x] st M = den cf 29 127 [v0, v1, v2, v3, .int x] (.int x :: st) M := den_go l_29_125 rfl
theorem l_29_127 : look (tab 29) 127 = some (.invokestatic 78, 3, [1, 244, 2, 253, 254, 255], uu) := by decide +kernel
theorem e_29_127 : den cf 29 127 L (w2 :: w1 :: st) M = if st.length ≤ 4 then rK (cf 244 [w1, w2] M) (fun v M' => den cf 29 130 L (pR v st) M') else none := den_ist [w1, w2] l_29_127 rfl
theorem l_29_130 : look (tab 29) 130 = some (.ireturn, 1, [0], uu) := by decide +kernel
theorem e_29_130 : den cf 29 130 L [.int x] M = some (some (.int x), M) := den_e0 l_29_130
/-! yX2_write -/
theorem l_30_0 : look (tab 30) 0 = some (.aload_n 1, 1, [], uu) := by decide +kernel
theorem e_30_0 : den cf 30 0 [v0, v1, v2] st M = if isRf v1 = true then den cf 30 1 [v0, v1, v2] (v1 :: st) M else none := den_g l_30_0 rfl
theorem l_30_1 : look (tab 30) 1 = some (.aload_n 0, 1, [], uu) := by decide +kernel
theorem e_30_1 : den cf 30 1 [.ref a, v1, v2] st M = den cf 30 2 [.ref a, v1, v2] (.ref a :: st) M := den_go l_30_1 rfl
theorem l_30_2 : look (tab 30) 2 = some (.aload_n 1, 1, [], uu) := by decide +kernel
theorem e_30_2 : den cf 30 2 [v0, v1, v2] st M = if isRf v1 = true then den cf 30 3 [v0, v1, v2] (v1 :: st) M else none := den_g l_30_2 rfl
theorem l_30_3 : look (tab 30) 3 = some (.aload_n 1, 1, [], uu) := by decide +kernel
theorem e_30_3 : den cf 30 3 [v0, v1, v2] st M = if isRf v1 = true then den cf 30 4 [v0, v1, v2] (v1 :: st) M else none := den_g l_30_3 rfl
theorem l_30_4 : look (tab 30) 4 = some (.getfield 47, 3, [1, 6, 432], uu) := by decide +kernel
theorem e_30_4 : den cf 30 4 L (.ref a :: st) M = oK (gfA (M.2.2 a) 1 6) (fun v => den cf 30 7 L (v :: st) M) := den_gf l_30_4
theorem l_30_7 : look (tab 30) 7 = some (.invokevirtual 87, 3, [2, 29, 3, 1017, 273, 274, 15], uu) := by decide +kernel
theorem e_30_7 : den cf 30 7 L (w2 :: w1 :: .ref a :: st) M = if rcv M 2 [.ref a, w1, w2] = true ∧ st.length ≤ 4 then rK (cf 29 [.ref a, w1, w2] M) (fun v M' => den cf 30 10 L (pR v st) M') else none := den_iv [w1, w2] l_30_7 rfl
theorem l_30_10 : look (tab 30) 10 = some (.putfield 72, 3, [1, 9, 0, 251, 0], uu) := by decide +kernel
theorem e_30_10 : den cf 30 10 L (.int x :: .ref a :: st) M = oK (pfA (M.2.2 a) 1 9 (.int x)) (fun c => den cf 30 13 L st (mU M a c)) := den_pf0 l_30_10
theorem l_30_13 : look (tab 30) 13 = some (.aload_n 1, 1, [], uu) := by decide +kernel
theorem e_30_13 : den cf 30 13 [v0, v1, v2] st M = if isRf v1 = true then den cf 30 14 [v0, v1, v2] (v1 :: st) M else none := den_g l_30_13 rfl
theorem l_30_14 : look (tab 30) 14 = some (.iconst 0, 1, [], .int (zI 0)) := by decide +kernel
theorem e_30_14 : den cf 30 14 L st M = den cf 30 15 L (.int (zI 0) :: st) M := den_go l_30_14 rfl
theorem l_30_15 : look (tab 30) 15 = some (.putfield 58, 3, [1, 8, 0, 245, 0], uu) := by decide +kernel
theorem e_30_15 : den cf 30 15 L (.int x :: .ref a :: st) M = oK (pfA (M.2.2 a) 1 8 (.int x)) (fun c => den cf 30 18 L st (mU M a c)) := den_pf0 l_30_15
theorem l_30_18 : look (tab 30) 18 = some (.iload_n 2, 1, [], uu) := by decide +kernel
theorem e_30_18 : den cf 30 18 [v0, v1, .int x] st M = den cf 30 19 [v0, v1, .int x] (.int x :: st) M := den_go l_30_18 rfl
theorem l_30_19 : look (tab 30) 19 = some (.ifCond .eq 23, 3, [42], uu) := by decide +kernel
theorem e_30_19 : den cf 30 19 L (.int x :: st) M = if x = zI 0 then den cf 30 42 L st M else den cf 30 22 L st M := den_if_eq l_30_19
theorem l_30_22 : look (tab 30) 22 = some (.aload_n 1, 1, [], uu) := by decide +kernel
theorem e_30_22 : den cf 30 22 [v0, v1, v2] st M = if isRf v1 = true then den cf 30 23 [v0, v1, v2] (v1 :: st) M else none := den_g l_30_22 rfl
theorem l_30_23 : look (tab 30) 23 = some (.getfield 47, 3, [1, 6, 432], uu) := by decide +kernel
theorem e_30_23 : den cf 30 23 L (.ref a :: st) M = oK (gfA (M.2.2 a) 1 6) (fun v => den cf 30 26 L (v :: st) M) := den_gf l_30_23
theorem l_30_26 : look (tab 30) 26 = some (.ifnull 16, 3, [42], uu) := by decide +kernel
theorem e_30_26 : den cf 30 26 L (va_rf o :: st) M = oN o (den cf 30 42 L st M) (den cf 30 29 L st M) := den_nu l_30_26
theorem e_30_26_n : den cf 30 26 L (.null :: st) M = den cf 30 42 L st M := den_go l_30_26 rfl
theorem e_30_26_r : den cf 30 26 L (.ref a :: st) M = den cf 30 29 L st M := den_go l_30_26 rfl
theorem l_30_29 : look (tab 30) 29 = some (.aload_n 1, 1, [], uu) := by decide +kernel
theorem e_30_29 : den cf 30 29 [v0, v1, v2] st M = if isRf v1 = true then den cf 30 30 [v0, v1, v2] (v1 :: st) M else none := den_g l_30_29 rfl
theorem l_30_30 : look (tab 30) 30 = some (.iconst 0, 1, [], .int (zI 0)) := by decide +kernel
theorem e_30_30 : den cf 30 30 L st M = den cf 30 31 L (.int (zI 0) :: st) M := den_go l_30_30 rfl
theorem l_30_31 : look (tab 30) 31 = some (.putfield 91, 3, [1, 7, 1, 1016, 0], uu) := by decide +kernel
theorem e_30_31 : den cf 30 31 L (v :: .ref a :: st) M = if okv 1 v = true then oK (pfA (M.2.2 a) 1 7 v) (fun c => den cf 30 34 L st (mU M a c)) else none := den_pf l_30_31
theorem l_30_34 : look (tab 30) 34 = some (.aload_n 1, 1, [], uu) := by decide +kernel
theorem e_30_34 : den cf 30 34 [v0, v1, v2] st M = if isRf v1 = true then den cf 30 35 [v0, v1, v2] (v1 :: st) M else none := den_g l_30_34 rfl
theorem l_30_35 : look (tab 30) 35 = some (.getfield 47, 3, [1, 6, 432], uu) := by decide +kernel
theorem e_30_35 : den cf 30 35 L (.ref a :: st) M = oK (gfA (M.2.2 a) 1 6) (fun v => den cf 30 38 L (v :: st) M) := den_gf l_30_35
theorem l_30_38 : look (tab 30) 38 = some (.iconst 1, 1, [], .int (zI 1)) := by decide +kernel
theorem e_30_38 : den cf 30 38 L st M = den cf 30 39 L (.int (zI 1) :: st) M := den_go l_30_38 rfl
theorem l_30_39 : look (tab 30) 39 = some (.putfield 91, 3, [1, 7, 1, 1016, 0], uu) := by decide +kernel
theorem e_30_39 : den cf 30 39 L (v :: .ref a :: st) M = if okv 1 v = true then oK (pfA (M.2.2 a) 1 7 v) (fun c => den cf 30 42 L st (mU M a c)) else none := den_pf l_30_39
theorem l_30_42 : look (tab 30) 42 = some (.return_, 1, [], uu) := by decide +kernel
theorem e_30_42 : den cf 30 42 L [] M = some (none, M) := den_e4 l_30_42
/-! yX2_keepSilent -/
theorem l_31_0 : look (tab 31) 0 = some (.aload_n 1, 1, [], uu) := by decide +kernel
theorem e_31_0 : den cf 31 0 [v0, v1] st M = if isRf v1 = true then den cf 31 1 [v0, v1] (v1 :: st) M else none := den_g l_31_0 rfl
theorem l_31_1 : look (tab 31) 1 = some (.bipush 99, 2, [], .int (zI 99)) := by decide +kernel
theorem e_31_1 : den cf 31 1 L st M = den cf 31 3 L (.int (zI 99) :: st) M := den_go l_31_1 rfl
theorem l_31_3 : look (tab 31) 3 = some (.aload_n 1, 1, [], uu) := by decide +kernel
theorem e_31_3 : den cf 31 3 [v0, v1] st M = if isRf v1 = true then den cf 31 4 [v0, v1] (v1 :: st) M else none := den_g l_31_3 rfl
theorem l_31_4 : look (tab 31) 4 = some (.getfield 58, 3, [1, 8, 245], uu) := by decide +kernel
theorem e_31_4 : den cf 31 4 L (.ref a :: st) M = oK (gfA (M.2.2 a) 1 8) (fun v => den cf 31 7 L (v :: st) M) := den_gf l_31_4
theorem l_31_7 : look (tab 31) 7 = some (.iconst 1, 1, [], .int (zI 1)) := by decide +kernel
theorem e_31_7 : den cf 31 7 L st M = den cf 31 8 L (.int (zI 1) :: st) M := den_go l_31_7 rfl
theorem l_31_8 : look (tab 31) 8 = some (.iadd, 1, [], uu) := by decide +kernel
theorem e_31_8 : den cf 31 8 L (.int y :: .int x :: st) M = den cf 31 9 L (.int (x + y) :: st) M := den_go l_31_8 rfl
theorem l_31_9 : look (tab 31) 9 = some (.invokestatic 78, 3, [1, 244, 2, 253, 254, 255], uu) := by decide +kernel
theorem e_31_9 : den cf 31 9 L (w2 :: w1 :: st) M = if st.length ≤ 4 then rK (cf 244 [w1, w2] M) (fun v M' => den cf 31 12 L (pR v st) M') else none := den_ist [w1, w2] l_31_9 rfl
theorem l_31_12 : look (tab 31) 12 = some (.putfield 58, 3, [1, 8, 0, 245, 0], uu) := by decide +kernel
theorem e_31_12 : den cf 31 12 L (.int x :: .ref a :: st) M = oK (pfA (M.2.2 a) 1 8 (.int x)) (fun c => den cf 31 15 L st (mU M a c)) := den_pf0 l_31_12
theorem l_31_15 : look (tab 31) 15 = some (.return_, 1, [], uu) := by decide +kernel
theorem e_31_15 : den cf 31 15 L [] M = some (none, M) := den_e4 l_31_15
/-! yX2_isOver -/
theorem l_32_0 : look (tab 32) 0 = some (.aload_n 1, 1, [], uu) := by decide +kernel
theorem e_32_0 : den cf 32 0 [v0, v1, v2] st M = if isRf v1 = true then den cf 32 1 [v0, v1, v2] (v1 :: st) M else none := den_g l_32_0 rfl
theorem l_32_1 : look (tab 32) 1 = some (.invokevirtual 95, 3, [1, 19, 1, 665, 666, 667, 41], uu) := by decide +kernel
theorem e_32_1 : den cf 32 1 L (.ref a :: st) M = if rcv M 1 [.ref a] = true ∧ st.length ≤ 4 then rK (cf 19 [.ref a] M) (fun v M' => den cf 32 4 L (pR v st) M') else none := den_iv [] l_32_1 rfl
theorem l_32_4 : look (tab 32) 4 = some (.astore_n 2, 1, [], uu) := by decide +kernel
theorem e_32_4 : den cf 32 4 [v0, v1, v2] (v :: st) M = if isRf v = true then den cf 32 5 [v0, kq v1, v] st M else none := den_as (k := 2) (v := v) l_32_4 rfl (Nat.le_of_ble_eq_true rfl)
theorem l_32_5 : look (tab 32) 5 = some (.aload_n 2, 1, [], uu) := by decide +kernel
theorem e_32_5 : den cf 32 5 [v0, v1, v2] st M = if isRf v2 = true then den cf 32 6 [v0, v1, v2] (v2 :: st) M else none := den_g l_32_5 rfl
theorem l_32_6 : look (tab 32) 6 = some (.ifnull 19, 3, [25], uu) := by decide +kernel
theorem e_32_6 : den cf 32 6 L (va_rf o :: st) M = oN o (den cf 32 25 L st M) (den cf 32 9 L st M) := den_nu l_32_6
theorem e_32_6_n : den cf 32 6 L (.null :: st) M = den cf 32 25 L st M := den_go l_32_6 rfl
theorem e_32_6_r : den cf 32 6 L (.ref a :: st) M = den cf 32 9 L st M := den_go l_32_6 rfl
theorem l_32_9 : look (tab 32) 9 = some (.aload_n 0, 1, [], uu) := by decide +kernel
theorem e_32_9 : den cf 32 9 [.ref a, v1, v2] st M = den cf 32 10 [.ref a, v1, v2] (.ref a :: st) M := den_go l_32_9 rfl
theorem l_32_10 : look (tab 32) 10 = some (.aload_n 2, 1, [], uu) := by decide +kernel
theorem e_32_10 : den cf 32 10 [v0, v1, v2] st M = if isRf v2 = true then den cf 32 11 [v0, v1, v2] (v2 :: st) M else none := den_g l_32_10 rfl
theorem l_32_11 : look (tab 32) 11 = some (.aload_n 2, 1, [], uu) := by decide +kernel
theorem e_32_11 : den cf 32 11 [v0, v1, v2] st M = if isRf v2 = true then den cf 32 12 [v0, v1, v2] (v2 :: st) M else none := den_g l_32_11 rfl
theorem l_32_12 : look (tab 32) 12 = some (.getfield 47, 3, [1, 6, 432], uu) := by decide +kernel
theorem e_32_12 : den cf 32 12 L (.ref a :: st) M = oK (gfA (M.2.2 a) 1 6) (fun v => den cf 32 15 L (v :: st) M) := den_gf l_32_12
theorem l_32_15 : look (tab 32) 15 = some (.invokevirtual 99, 3, [2, 27, 3, 669, 242, 243, 15], uu) := by decide +kernel
theorem e_32_15 : den cf 32 15 L (w2 :: w1 :: .ref a :: st) M = if rcv M 2 [.ref a, w1, w2] = true ∧ st.length ≤ 4 then rK (cf 27 [.ref a, w1, w2] M) (fun v M' => den cf 32 18 L (pR v st) M') else none := den_iv [w1, w2] l_32_15 rfl
theorem l_32_18 : look (tab 32) 18 = some (.ifCond .ne 7, 3, [25], uu) := by decide +kernel
theorem e_32_18 : den cf 32 18 L (.int x :: st) M = if x = zI 0 then den cf 32 21 L st M else den cf 32 25 L st M := den_if_ne l_32_18
theorem l_32_21 : look (tab 32) 21 = some (.iconst 1, 1, [], .int (zI 1)) := by decide +kernel
theorem e_32_21 : den cf 32 21 L st M = den cf 32 22 L (.int (zI 1) :: st) M := den_go l_32_21 rfl
theorem l_32_22 : look (tab 32) 22 = some (.goto 4, 3, [26], uu) := by decide +kernel
theorem e_32_22 : den cf 32 22 L st M = den cf 32 26 L st M := den_go l_32_22 rfl
theorem l_32_25 : look (tab 32) 25 = some (.iconst 0, 1, [], .int (zI 0)) := by decide +kernel
theorem e_32_25 : den cf 32 25 L st M = den cf 32 26 L (.int (zI 0) :: st) M := den_go l_32_25 rfl
theorem l_32_26 : look (tab 32) 26 = some (.ireturn, 1, [1], uu) := by decide +kernel
theorem e_32_26 : den cf 32 26 L [.int x] M = if x = zI 0 ∨ x = zI 1 then some (some (.int x), M) else none := den_e1 l_32_26
/-! yX2_stillAfter -/
theorem l_33_0 : look (tab 33) 0 = some (.aload_n 1, 1, [], uu) := by decide +kernel
theorem e_33_0 : den cf 33 0 [v0, v1, v2, v3, v4, v5, v6] st M = if isRf v1 = true then den cf 33 1 [v0, v1, v2, v3, v4, v5, v6] (v1 :: st) M else none := den_g l_33_0 rfl
theorem l_33_1 : look (tab 33) 1 = some (.invokevirtual 95, 3, [1, 19, 1, 665, 666, 667, 41], uu) := by decide +kernel
theorem e_33_1 : den cf 33 1 L (.ref a :: st) M = if rcv M 1 [.ref a] = true ∧ st.length ≤ 4 then rK (cf 19 [.ref a] M) (fun v M' => den cf 33 4 L (pR v st) M') else none := den_iv [] l_33_1 rfl
theorem l_33_4 : look (tab 33) 4 = some (.astore_n 3, 1, [], uu) := by decide +kernel
theorem e_33_4 : den cf 33 4 [v0, v1, v2, v3, v4, v5, v6] (v :: st) M = if isRf v = true then den cf 33 5 [v0, v1, kq v2, v, v4, v5, v6] st M else none := den_as (k := 3) (v := v) l_33_4 rfl (Nat.le_of_ble_eq_true rfl)
theorem l_33_5 : look (tab 33) 5 = some (.aload_n 3, 1, [], uu) := by decide +kernel
theorem e_33_5 : den cf 33 5 [v0, v1, v2, v3, v4, v5, v6] st M = if isRf v3 = true then den cf 33 6 [v0, v1, v2, v3, v4, v5, v6] (v3 :: st) M else none := den_g l_33_5 rfl
theorem l_33_6 : look (tab 33) 6 = some (.ifnonnull 5, 3, [11], uu) := by decide +kernel
theorem e_33_6 : den cf 33 6 L (va_rf o :: st) M = oN o (den cf 33 9 L st M) (den cf 33 11 L st M) := den_nn l_33_6
theorem e_33_6_n : den cf 33 6 L (.null :: st) M = den cf 33 9 L st M := den_go l_33_6 rfl
theorem e_33_6_r : den cf 33 6 L (.ref a :: st) M = den cf 33 11 L st M := den_go l_33_6 rfl
theorem l_33_9 : look (tab 33) 9 = some (.iconst 0, 1, [], .int (zI 0)) := by decide +kernel
theorem e_33_9 : den cf 33 9 L st M = den cf 33 10 L (.int (zI 0) :: st) M := den_go l_33_9 rfl
theorem l_33_10 : look (tab 33) 10 = some (.ireturn, 1, [0], uu) := by decide +kernel
theorem e_33_10 : den cf 33 10 L [.int x] M = some (some (.int x), M) := den_e0 l_33_10
theorem l_33_11 : look (tab 33) 11 = some (.ldc 102, 2, [690], .int (zI 1000000)) := by decide +kernel
theorem e_33_11 : den cf 33 11 L st M = den cf 33 13 L (.int (zI 1000000) :: st) M := den_go l_33_11 rfl
theorem l_33_13 : look (tab 33) 13 = some (.istore 4, 2, [], uu) := by decide +kernel
theorem e_33_13 : den cf 33 13 [v0, v1, v2, v3, v4, v5, v6] (.int x :: st) M = den cf 33 15 [v0, v1, v2, kq v3, .int x, v5, v6] st M := den_st (k := 4) (v := .int x) l_33_13 rfl
theorem l_33_15 : look (tab 33) 15 = some (.iconst 0, 1, [], .int (zI 0)) := by decide +kernel
theorem e_33_15 : den cf 33 15 L st M = den cf 33 16 L (.int (zI 0) :: st) M := den_go l_33_15 rfl
theorem l_33_16 : look (tab 33) 16 = some (.istore 5, 2, [], uu) := by decide +kernel
theorem e_33_16 : den cf 33 16 [v0, v1, v2, v3, v4, v5, v6] (.int x :: st) M = den cf 33 18 [v0, v1, v2, v3, kq v4, .int x, v6] st M := den_st (k := 5) (v := .int x) l_33_16 rfl
theorem l_33_18 : look (tab 33) 18 = some (.iload 5, 2, [], uu) := by decide +kernel
theorem e_33_18 : den cf 33 18 [v0, v1, v2, v3, v4, .int x, v6] st M = den cf 33 20 [v0, v1, v2, v3, v4, .int x, v6] (.int x :: st) M := den_go l_33_18 rfl
theorem l_33_20 : look (tab 33) 20 = some (.iload_n 2, 1, [], uu) := by decide +kernel
theorem e_33_20 : den cf 33 20 [v0, v1, .int x, v3, v4, v5, v6] st M = den cf 33 21 [v0, v1, .int x, v3, v4, v5, v6] (.int x :: st) M := den_go l_33_20 rfl
theorem l_33_21 : look (tab 33) 21 = some (.if_icmp .ge 50, 3, [71], uu) := by decide +kernel
theorem e_33_21 : den cf 33 21 L (.int y :: .int x :: st) M = if x < y then den cf 33 24 L st M else den cf 33 71 L st M := den_ic_ge l_33_21
theorem l_33_24 : look (tab 33) 24 = some (.aload_n 0, 1, [], uu) := by decide +kernel
theorem e_33_24 : den cf 33 24 [.ref a, v1, v2, v3, v4, v5, v6] st M = den cf 33 25 [.ref a, v1, v2, v3, v4, v5, v6] (.ref a :: st) M := den_go l_33_24 rfl
theorem l_33_25 : look (tab 33) 25 = some (.aload_n 3, 1, [], uu) := by decide +kernel
theorem e_33_25 : den cf 33 25 [v0, v1, v2, v3, v4, v5, v6] st M = if isRf v3 = true then den cf 33 26 [v0, v1, v2, v3, v4, v5, v6] (v3 :: st) M else none := den_g l_33_25 rfl
theorem l_33_26 : look (tab 33) 26 = some (.aload_n 3, 1, [], uu) := by decide +kernel
theorem e_33_26 : den cf 33 26 [v0, v1, v2, v3, v4, v5, v6] st M = if isRf v3 = true then den cf 33 27 [v0, v1, v2, v3, v4, v5, v6] (v3 :: st) M else none := den_g l_33_26 rfl
theorem l_33_27 : look (tab 33) 27 = some (.getfield 47, 3, [1, 6, 432], uu) := by decide +kernel
theorem e_33_27 : den cf 33 27 L (.ref a :: st) M = oK (gfA (M.2.2 a) 1 6) (fun v => den cf 33 30 L (v :: st) M) := den_gf l_33_27
theorem l_33_30 : look (tab 33) 30 = some (.aload_n 3, 1, [], uu) := by decide +kernel
theorem e_33_30 : den cf 33 30 [v0, v1, v2, v3, v4, v5, v6] st M = if isRf v3 = true then den cf 33 31 [v0, v1, v2, v3, v4, v5, v6] (v3 :: st) M else none := den_g l_33_30 rfl
theorem l_33_31 : look (tab 33) 31 = some (.getfield 58, 3, [1, 8, 245], uu) := by decide +kernel
theorem e_33_31 : den cf 33 31 L (.ref a :: st) M = oK (gfA (M.2.2 a) 1 8) (fun v => den cf 33 34 L (v :: st) M) := den_gf l_33_31
theorem l_33_34 : look (tab 33) 34 = some (.iload 5, 2, [], uu) := by decide +kernel
theorem e_33_34 : den cf 33 34 [v0, v1, v2, v3, v4, .int x, v6] st M = den cf 33 36 [v0, v1, v2, v3, v4, .int x, v6] (.int x :: st) M := den_go l_33_34 rfl
theorem l_33_36 : look (tab 33) 36 = some (.iadd, 1, [], uu) := by decide +kernel
theorem e_33_36 : den cf 33 36 L (.int y :: .int x :: st) M = den cf 33 37 L (.int (x + y) :: st) M := den_go l_33_36 rfl
theorem l_33_37 : look (tab 33) 37 = some (.invokevirtual 61, 3, [2, 28, 4, 246, 247, 248, 15], uu) := by decide +kernel
theorem e_33_37 : den cf 33 37 L (w3 :: w2 :: w1 :: .ref a :: st) M = if rcv M 2 [.ref a, w1, w2, w3] = true ∧ st.length ≤ 4 then rK (cf 28 [.ref a, w1, w2, w3] M) (fun v M' => den cf 33 40 L (pR v st) M') else none := den_iv [w1, w2, w3] l_33_37 rfl
theorem l_33_40 : look (tab 33) 40 = some (.istore 6, 2, [], uu) := by decide +kernel
theorem e_33_40 : den cf 33 40 [v0, v1, v2, v3, v4, v5, v6] (.int x :: st) M = den cf 33 42 [v0, v1, v2, v3, v4, kq v5, .int x] st M := den_st (k := 6) (v := .int x) l_33_40 rfl
theorem l_33_42 : look (tab 33) 42 = some (.iload 4, 2, [], uu) := by decide +kernel
theorem e_33_42 : den cf 33 42 [v0, v1, v2, v3, .int x, v5, v6] st M = den cf 33 44 [v0, v1, v2, v3, .int x, v5, v6] (.int x :: st) M := den_go l_33_42 rfl
theorem l_33_44 : look (tab 33) 44 = some (.sipush 144, 3, [], .int (zI 144)) := by decide +kernel
theorem e_33_44 : den cf 33 44 L st M = den cf 33 47 L (.int (zI 144) :: st) M := den_go l_33_44 rfl
theorem l_33_47 : look (tab 33) 47 = some (.iload 6, 2, [], uu) := by decide +kernel
theorem e_33_47 : den cf 33 47 [v0, v1, v2, v3, v4, v5, .int x] st M = den cf 33 49 [v0, v1, v2, v3, v4, v5, .int x] (.int x :: st) M := den_go l_33_47 rfl
theorem l_33_49 : look (tab 33) 49 = some (.bipush 12, 2, [], .int (zI 12)) := by decide +kernel
theorem e_33_49 : den cf 33 49 L st M = den cf 33 51 L (.int (zI 12) :: st) M := den_go l_33_49 rfl
theorem l_33_51 : look (tab 33) 51 = some (.aload_n 0, 1, [], uu) := by decide +kernel
theorem e_33_51 : den cf 33 51 [.ref a, v1, v2, v3, v4, v5, v6] st M = den cf 33 52 [.ref a, v1, v2, v3, v4, v5, v6] (.ref a :: st) M := den_go l_33_51 rfl
theorem l_33_52 : look (tab 33) 52 = some (.getfield 24, 3, [2, 2, 43], uu) := by decide +kernel
theorem e_33_52 : den cf 33 52 L (.ref a :: st) M = oK (gfA (M.2.2 a) 2 2) (fun v => den cf 33 55 L (v :: st) M) := den_gf l_33_52
theorem l_33_55 : look (tab 33) 55 = some (.isub, 1, [], uu) := by decide +kernel
theorem e_33_55 : den cf 33 55 L (.int y :: .int x :: st) M = den cf 33 56 L (.int (x - y) :: st) M := den_go l_33_55 rfl
theorem l_33_56 : look (tab 33) 56 = some (.imul, 1, [], uu) := by decide +kernel
theorem e_33_56 : den cf 33 56 L (.int y :: .int x :: st) M = den cf 33 57 L (.int (x * y) :: st) M := den_go l_33_56 rfl
theorem l_33_57 : look (tab 33) 57 = some (.isub, 1, [], uu) := by decide +kernel
theorem e_33_57 : den cf 33 57 L (.int y :: .int x :: st) M = den cf 33 58 L (.int (x - y) :: st) M := den_go l_33_57 rfl
theorem l_33_58 : look (tab 33) 58 = some (.imul, 1, [], uu) := by decide +kernel
theorem e_33_58 : den cf 33 58 L (.int y :: .int x :: st) M = den cf 33 59 L (.int (x * y) :: st) M := den_go l_33_58 rfl
theorem l_33_59 : look (tab 33) 59 = some (.sipush 144, 3, [], .int (zI 144)) := by decide +kernel
theorem e_33_59 : den cf 33 59 L st M = den cf 33 62 L (.int (zI 144) :: st) M := den_go l_33_59 rfl
theorem l_33_62 : look (tab 33) 62 = some (.idiv, 1, [], uu) := by decide +kernel
theorem e_33_62 : den cf 33 62 L (.int y :: .int x :: st) M = if y = zI 0 then none else den cf 33 63 L (.int (x / y) :: st) M := den_dv (f := fun x y => x / y) l_33_62 rfl
theorem l_33_63 : look (tab 33) 63 = some (.istore 4, 2, [], uu) := by decide +kernel
theorem e_33_63 : den cf 33 63 [v0, v1, v2, v3, v4, v5, v6] (.int x :: st) M = den cf 33 65 [v0, v1, v2, kq v3, .int x, v5, v6] st M := den_st (k := 4) (v := .int x) l_33_63 rfl
theorem l_33_65 : look (tab 33) 65 = some (.iinc 5 1, 3, [], .int (zI 1)) := by decide +kernel
theorem e_33_65 : den cf 33 65 [v0, v1, v2, v3, v4, .int x, v6] st M = den cf 33 68 [v0, v1, v2, v3, kq v4, .int (x + (zI 1)), v6] st M := den_st (k := 5) (v := .int (x + (zI 1))) l_33_65 rfl
theorem l_33_68 : look (tab 33) 68 = some (.goto (-50), 3, [18], uu) := by decide +kernel
theorem e_33_68 : den cf 33 68 L st M = den cf 33 18 L st M := den_go l_33_68 rfl
theorem l_33_71 : look (tab 33) 71 = some (.ldc 102, 2, [690], .int (zI 1000000)) := by decide +kernel
theorem e_33_71 : den cf 33 71 L st M = den cf 33 73 L (.int (zI 1000000) :: st) M := den_go l_33_71 rfl
theorem l_33_73 : look (tab 33) 73 = some (.iload 4, 2, [], uu) := by decide +kernel
theorem e_33_73 : den cf 33 73 [v0, v1, v2, v3, .int x, v5, v6] st M = den cf 33 75 [v0, v1, v2, v3, .int x, v5, v6] (.int x :: st) M := den_go l_33_73 rfl
theorem l_33_75 : look (tab 33) 75 = some (.isub, 1, [], uu) := by decide +kernel
theorem e_33_75 : den cf 33 75 L (.int y :: .int x :: st) M = den cf 33 76 L (.int (x - y) :: st) M := den_go l_33_75 rfl
theorem l_33_76 : look (tab 33) 76 = some (.ireturn, 1, [0], uu) := by decide +kernel
theorem e_33_76 : den cf 33 76 L [.int x] M = some (some (.int x), M) := den_e0 l_33_76
/-! yX2_stillTogether -/
theorem l_34_0 : look (tab 34) 0 = some (.iconst 0, 1, [], .int (zI 0)) := by decide +kernel
theorem e_34_0 : den cf 34 0 L st M = den cf 34 1 L (.int (zI 0) :: st) M := den_go l_34_0 rfl
theorem l_34_1 : look (tab 34) 1 = some (.istore_n 2, 1, [], uu) := by decide +kernel
theorem e_34_1 : den cf 34 1 [v0, v1, v2, v3, v4, v5, v6] (.int x :: st) M = den cf 34 2 [v0, kq v1, .int x, v3, v4, v5, v6] st M := den_st (k := 2) (v := .int x) l_34_1 rfl
theorem l_34_2 : look (tab 34) 2 = some (.aload_n 0, 1, [], uu) := by decide +kernel
theorem e_34_2 : den cf 34 2 [.ref a, v1, v2, v3, v4, v5, v6] st M = den cf 34 3 [.ref a, v1, v2, v3, v4, v5, v6] (.ref a :: st) M := den_go l_34_2 rfl
theorem l_34_3 : look (tab 34) 3 = some (.getfield 11, 3, [2, 0, 39], uu) := by decide +kernel
theorem e_34_3 : den cf 34 3 L (.ref a :: st) M = oK (gfA (M.2.2 a) 2 0) (fun v => den cf 34 6 L (v :: st) M) := den_gf l_34_3
theorem l_34_6 : look (tab 34) 6 = some (.astore_n 3, 1, [], uu) := by decide +kernel
theorem e_34_6 : den cf 34 6 [v0, v1, v2, v3, v4, v5, v6] (v :: st) M = if isRf v = true then den cf 34 7 [v0, v1, kq v2, v, v4, v5, v6] st M else none := den_as (k := 3) (v := v) l_34_6 rfl (Nat.le_of_ble_eq_true rfl)
theorem l_34_7 : look (tab 34) 7 = some (.aload_n 3, 1, [], uu) := by decide +kernel
theorem e_34_7 : den cf 34 7 [v0, v1, v2, v3, v4, v5, v6] st M = if isRf v3 = true then den cf 34 8 [v0, v1, v2, v3, v4, v5, v6] (v3 :: st) M else none := den_g l_34_7 rfl
theorem l_34_8 : look (tab 34) 8 = some (.arraylength, 1, [], uu) := by decide +kernel
theorem e_34_8 : den cf 34 8 L (.ref a :: st) M = oK (lenA (M.2.2 a)) (fun n => den cf 34 9 L (.int (zI n) :: st) M) := den_len l_34_8
theorem l_34_9 : look (tab 34) 9 = some (.istore 4, 2, [], uu) := by decide +kernel
theorem e_34_9 : den cf 34 9 [v0, v1, v2, v3, v4, v5, v6] (.int x :: st) M = den cf 34 11 [v0, v1, v2, kq v3, .int x, v5, v6] st M := den_st (k := 4) (v := .int x) l_34_9 rfl
theorem l_34_11 : look (tab 34) 11 = some (.iconst 0, 1, [], .int (zI 0)) := by decide +kernel
theorem e_34_11 : den cf 34 11 L st M = den cf 34 12 L (.int (zI 0) :: st) M := den_go l_34_11 rfl
theorem l_34_12 : look (tab 34) 12 = some (.istore 5, 2, [], uu) := by decide +kernel
theorem e_34_12 : den cf 34 12 [v0, v1, v2, v3, v4, v5, v6] (.int x :: st) M = den cf 34 14 [v0, v1, v2, v3, kq v4, .int x, v6] st M := den_st (k := 5) (v := .int x) l_34_12 rfl
theorem l_34_14 : look (tab 34) 14 = some (.iload 5, 2, [], uu) := by decide +kernel
theorem e_34_14 : den cf 34 14 [v0, v1, v2, v3, v4, .int x, v6] st M = den cf 34 16 [v0, v1, v2, v3, v4, .int x, v6] (.int x :: st) M := den_go l_34_14 rfl
theorem l_34_16 : look (tab 34) 16 = some (.iload 4, 2, [], uu) := by decide +kernel
theorem e_34_16 : den cf 34 16 [v0, v1, v2, v3, .int x, v5, v6] st M = den cf 34 18 [v0, v1, v2, v3, .int x, v5, v6] (.int x :: st) M := den_go l_34_16 rfl
theorem l_34_18 : look (tab 34) 18 = some (.if_icmp .ge 33, 3, [51], uu) := by decide +kernel
theorem e_34_18 : den cf 34 18 L (.int y :: .int x :: st) M = if x < y then den cf 34 21 L st M else den cf 34 51 L st M := den_ic_ge l_34_18
theorem l_34_21 : look (tab 34) 21 = some (.aload_n 3, 1, [], uu) := by decide +kernel
theorem e_34_21 : den cf 34 21 [v0, v1, v2, v3, v4, v5, v6] st M = if isRf v3 = true then den cf 34 22 [v0, v1, v2, v3, v4, v5, v6] (v3 :: st) M else none := den_g l_34_21 rfl
theorem l_34_22 : look (tab 34) 22 = some (.iload 5, 2, [], uu) := by decide +kernel
theorem e_34_22 : den cf 34 22 [v0, v1, v2, v3, v4, .int x, v6] st M = den cf 34 24 [v0, v1, v2, v3, v4, .int x, v6] (.int x :: st) M := den_go l_34_22 rfl
theorem l_34_24 : look (tab 34) 24 = some (.aaload, 1, [], uu) := by decide +kernel
theorem e_34_24 : den cf 34 24 L (.int x :: .ref a :: st) M = oK (ldQ (M.2.2 a) x) (fun v => den cf 34 25 L (v :: st) M) := den_al (g := ldQ) l_34_24 rfl
theorem l_34_25 : look (tab 34) 25 = some (.astore 6, 2, [], uu) := by decide +kernel
theorem e_34_25 : den cf 34 25 [v0, v1, v2, v3, v4, v5, v6] (v :: st) M = if isRf v = true then den cf 34 27 [v0, v1, v2, v3, v4, kq v5, v] st M else none := den_as (k := 6) (v := v) l_34_25 rfl (Nat.le_of_ble_eq_true rfl)
theorem l_34_27 : look (tab 34) 27 = some (.aload 6, 2, [], uu) := by decide +kernel
theorem e_34_27 : den cf 34 27 [v0, v1, v2, v3, v4, v5, v6] st M = if isRf v6 = true then den cf 34 29 [v0, v1, v2, v3, v4, v5, v6] (v6 :: st) M else none := den_g l_34_27 rfl
theorem l_34_29 : look (tab 34) 29 = some (.invokevirtual 103, 3, [1, 16, 1, 864, 865, 866, 41], uu) := by decide +kernel
theorem e_34_29 : den cf 34 29 L (.ref a :: st) M = if rcv M 1 [.ref a] = true ∧ st.length ≤ 4 then rK (cf 16 [.ref a] M) (fun v M' => den cf 34 32 L (pR v st) M') else none := den_iv [] l_34_29 rfl
theorem l_34_32 : look (tab 34) 32 = some (.ifCond .eq 13, 3, [45], uu) := by decide +kernel
theorem e_34_32 : den cf 34 32 L (.int x :: st) M = if x = zI 0 then den cf 34 45 L st M else den cf 34 35 L st M := den_if_eq l_34_32
theorem l_34_35 : look (tab 34) 35 = some (.iload_n 2, 1, [], uu) := by decide +kernel
theorem e_34_35 : den cf 34 35 [v0, v1, .int x, v3, v4, v5, v6] st M = den cf 34 36 [v0, v1, .int x, v3, v4, v5, v6] (.int x :: st) M := den_go l_34_35 rfl
theorem l_34_36 : look (tab 34) 36 = some (.aload_n 0, 1, [], uu) := by decide +kernel
theorem e_34_36 : den cf 34 36 [.ref a, v1, v2, v3, v4, v5, v6] st M = den cf 34 37 [.ref a, v1, v2, v3, v4, v5, v6] (.ref a :: st) M := den_go l_34_36 rfl
theorem l_34_37 : look (tab 34) 37 = some (.aload 6, 2, [], uu) := by decide +kernel
theorem e_34_37 : den cf 34 37 [v0, v1, v2, v3, v4, v5, v6] st M = if isRf v6 = true then den cf 34 39 [v0, v1, v2, v3, v4, v5, v6] (v6 :: st) M else none := den_g l_34_37 rfl
theorem l_34_39 : look (tab 34) 39 = some (.iload_n 1, 1, [], uu) := by decide +kernel
theorem e_34_39 : den cf 34 39 [v0, .int x, v2, v3, v4, v5, v6] st M = den cf 34 40 [v0, .int x, v2, v3, v4, v5, v6] (.int x :: st) M := den_go l_34_39 rfl
theorem l_34_40 : look (tab 34) 40 = some (.invokevirtual 107, 3, [2, 33, 3, 897, 687, 688, 15], uu) := by decide +kernel
theorem e_34_40 : den cf 34 40 L (w2 :: w1 :: .ref a :: st) M = if rcv M 2 [.ref a, w1, w2] = true ∧ st.length ≤ 4 then rK (cf 33 [.ref a, w1, w2] M) (fun v M' => den cf 34 43 L (pR v st) M') else none := den_iv [w1, w2] l_34_40 rfl
theorem l_34_43 : look (tab 34) 43 = some (.iadd, 1, [], uu) := by decide +kernel
theorem e_34_43 : den cf 34 43 L (.int y :: .int x :: st) M = den cf 34 44 L (.int (x + y) :: st) M := den_go l_34_43 rfl
theorem l_34_44 : look (tab 34) 44 = some (.istore_n 2, 1, [], uu) := by decide +kernel
theorem e_34_44 : den cf 34 44 [v0, v1, v2, v3, v4, v5, v6] (.int x :: st) M = den cf 34 45 [v0, kq v1, .int x, v3, v4, v5, v6] st M := den_st (k := 2) (v := .int x) l_34_44 rfl
theorem l_34_45 : look (tab 34) 45 = some (.iinc 5 1, 3, [], .int (zI 1)) := by decide +kernel
theorem e_34_45 : den cf 34 45 [v0, v1, v2, v3, v4, .int x, v6] st M = den cf 34 48 [v0, v1, v2, v3, kq v4, .int (x + (zI 1)), v6] st M := den_st (k := 5) (v := .int (x + (zI 1))) l_34_45 rfl
theorem l_34_48 : look (tab 34) 48 = some (.goto (-34), 3, [14], uu) := by decide +kernel
theorem e_34_48 : den cf 34 48 L st M = den cf 34 14 L st M := den_go l_34_48 rfl
theorem l_34_51 : look (tab 34) 51 = some (.iload_n 2, 1, [], uu) := by decide +kernel
theorem e_34_51 : den cf 34 51 [v0, v1, .int x, v3, v4, v5, v6] st M = den cf 34 52 [v0, v1, .int x, v3, v4, v5, v6] (.int x :: st) M := den_go l_34_51 rfl
theorem l_34_52 : look (tab 34) 52 = some (.ireturn, 1, [0], uu) := by decide +kernel
theorem e_34_52 : den cf 34 52 L [.int x] M = some (some (.int x), M) := den_e0 l_34_52
/-! yX2_lostOrOver -/
theorem l_35_0 : look (tab 35) 0 = some (.aload_n 1, 1, [], uu) := by decide +kernel
theorem e_35_0 : den cf 35 0 [v0, v1, v2, v3, v4, v5, v6, v7] st M = if isRf v1 = true then den cf 35 1 [v0, v1, v2, v3, v4, v5, v6, v7] (v1 :: st) M else none := den_g l_35_0 rfl
theorem l_35_1 : look (tab 35) 1 = some (.invokevirtual 95, 3, [1, 19, 1, 665, 666, 667, 41], uu) := by decide +kernel
theorem e_35_1 : den cf 35 1 L (.ref a :: st) M = if rcv M 1 [.ref a] = true ∧ st.length ≤ 4 then rK (cf 19 [.ref a] M) (fun v M' => den cf 35 4 L (pR v st) M') else none := den_iv [] l_35_1 rfl
theorem l_35_4 : look (tab 35) 4 = some (.astore_n 3, 1, [], uu) := by decide +kernel
theorem e_35_4 : den cf 35 4 [v0, v1, v2, v3, v4, v5, v6, v7] (v :: st) M = if isRf v = true then den cf 35 5 [v0, v1, kq v2, v, v4, v5, v6, v7] st M else none := den_as (k := 3) (v := v) l_35_4 rfl (Nat.le_of_ble_eq_true rfl)
theorem l_35_5 : look (tab 35) 5 = some (.aload_n 3, 1, [], uu) := by decide +kernel
theorem e_35_5 : den cf 35 5 [v0, v1, v2, v3, v4, v5, v6, v7] st M = if isRf v3 = true then den cf 35 6 [v0, v1, v2, v3, v4, v5, v6, v7] (v3 :: st) M else none := den_g l_35_5 rfl
theorem l_35_6 : look (tab 35) 6 = some (.ifnonnull 5, 3, [11], uu) := by decide +kernel
theorem e_35_6 : den cf 35 6 L (va_rf o :: st) M = oN o (den cf 35 9 L st M) (den cf 35 11 L st M) := den_nn l_35_6
theorem e_35_6_n : den cf 35 6 L (.null :: st) M = den cf 35 9 L st M := den_go l_35_6 rfl
theorem e_35_6_r : den cf 35 6 L (.ref a :: st) M = den cf 35 11 L st M := den_go l_35_6 rfl
theorem l_35_9 : look (tab 35) 9 = some (.iconst 0, 1, [], .int (zI 0)) := by decide +kernel
theorem e_35_9 : den cf 35 9 L st M = den cf 35 10 L (.int (zI 0) :: st) M := den_go l_35_9 rfl
theorem l_35_10 : look (tab 35) 10 = some (.ireturn, 1, [0], uu) := by decide +kernel
theorem e_35_10 : den cf 35 10 L [.int x] M = some (some (.int x), M) := den_e0 l_35_10
theorem l_35_11 : look (tab 35) 11 = some (.aload_n 0, 1, [], uu) := by decide +kernel
theorem e_35_11 : den cf 35 11 [.ref a, v1, v2, v3, v4, v5, v6, v7] st M = den cf 35 12 [.ref a, v1, v2, v3, v4, v5, v6, v7] (.ref a :: st) M := den_go l_35_11 rfl
theorem l_35_12 : look (tab 35) 12 = some (.aload_n 3, 1, [], uu) := by decide +kernel
theorem e_35_12 : den cf 35 12 [v0, v1, v2, v3, v4, v5, v6, v7] st M = if isRf v3 = true then den cf 35 13 [v0, v1, v2, v3, v4, v5, v6, v7] (v3 :: st) M else none := den_g l_35_12 rfl
theorem l_35_13 : look (tab 35) 13 = some (.aload_n 3, 1, [], uu) := by decide +kernel
theorem e_35_13 : den cf 35 13 [v0, v1, v2, v3, v4, v5, v6, v7] st M = if isRf v3 = true then den cf 35 14 [v0, v1, v2, v3, v4, v5, v6, v7] (v3 :: st) M else none := den_g l_35_13 rfl
theorem l_35_14 : look (tab 35) 14 = some (.getfield 47, 3, [1, 6, 432], uu) := by decide +kernel
theorem e_35_14 : den cf 35 14 L (.ref a :: st) M = oK (gfA (M.2.2 a) 1 6) (fun v => den cf 35 17 L (v :: st) M) := den_gf l_35_14
theorem l_35_17 : look (tab 35) 17 = some (.iconst 0, 1, [], .int (zI 0)) := by decide +kernel
theorem e_35_17 : den cf 35 17 L st M = den cf 35 18 L (.int (zI 0) :: st) M := den_go l_35_17 rfl
theorem l_35_18 : look (tab 35) 18 = some (.invokevirtual 61, 3, [2, 28, 4, 246, 247, 248, 15], uu) := by decide +kernel
theorem e_35_18 : den cf 35 18 L (w3 :: w2 :: w1 :: .ref a :: st) M = if rcv M 2 [.ref a, w1, w2, w3] = true ∧ st.length ≤ 4 then rK (cf 28 [.ref a, w1, w2, w3] M) (fun v M' => den cf 35 21 L (pR v st) M') else none := den_iv [w1, w2, w3] l_35_18 rfl
theorem l_35_21 : look (tab 35) 21 = some (.istore 4, 2, [], uu) := by decide +kernel
theorem e_35_21 : den cf 35 21 [v0, v1, v2, v3, v4, v5, v6, v7] (.int x :: st) M = den cf 35 23 [v0, v1, v2, kq v3, .int x, v5, v6, v7] st M := den_st (k := 4) (v := .int x) l_35_21 rfl
theorem l_35_23 : look (tab 35) 23 = some (.ldc 102, 2, [690], .int (zI 1000000)) := by decide +kernel
theorem e_35_23 : den cf 35 23 L st M = den cf 35 25 L (.int (zI 1000000) :: st) M := den_go l_35_23 rfl
theorem l_35_25 : look (tab 35) 25 = some (.istore 5, 2, [], uu) := by decide +kernel
theorem e_35_25 : den cf 35 25 [v0, v1, v2, v3, v4, v5, v6, v7] (.int x :: st) M = den cf 35 27 [v0, v1, v2, v3, kq v4, .int x, v6, v7] st M := den_st (k := 5) (v := .int x) l_35_25 rfl
theorem l_35_27 : look (tab 35) 27 = some (.ldc 102, 2, [690], .int (zI 1000000)) := by decide +kernel
theorem e_35_27 : den cf 35 27 L st M = den cf 35 29 L (.int (zI 1000000) :: st) M := den_go l_35_27 rfl
theorem l_35_29 : look (tab 35) 29 = some (.istore 6, 2, [], uu) := by decide +kernel
theorem e_35_29 : den cf 35 29 [v0, v1, v2, v3, v4, v5, v6, v7] (.int x :: st) M = den cf 35 31 [v0, v1, v2, v3, v4, kq v5, .int x, v7] st M := den_st (k := 6) (v := .int x) l_35_29 rfl
theorem l_35_31 : look (tab 35) 31 = some (.iconst 0, 1, [], .int (zI 0)) := by decide +kernel
theorem e_35_31 : den cf 35 31 L st M = den cf 35 32 L (.int (zI 0) :: st) M := den_go l_35_31 rfl
theorem l_35_32 : look (tab 35) 32 = some (.istore 7, 2, [], uu) := by decide +kernel
theorem e_35_32 : den cf 35 32 [v0, v1, v2, v3, v4, v5, v6, v7] (.int x :: st) M = den cf 35 34 [v0, v1, v2, v3, v4, v5, kq v6, .int x] st M := den_st (k := 7) (v := .int x) l_35_32 rfl
theorem l_35_34 : look (tab 35) 34 = some (.iload 7, 2, [], uu) := by decide +kernel
theorem e_35_34 : den cf 35 34 [v0, v1, v2, v3, v4, v5, v6, .int x] st M = den cf 35 36 [v0, v1, v2, v3, v4, v5, v6, .int x] (.int x :: st) M := den_go l_35_34 rfl
theorem l_35_36 : look (tab 35) 36 = some (.iload_n 2, 1, [], uu) := by decide +kernel
theorem e_35_36 : den cf 35 36 [v0, v1, .int x, v3, v4, v5, v6, v7] st M = den cf 35 37 [v0, v1, .int x, v3, v4, v5, v6, v7] (.int x :: st) M := den_go l_35_36 rfl
theorem l_35_37 : look (tab 35) 37 = some (.if_icmp .ge 34, 3, [71], uu) := by decide +kernel
theorem e_35_37 : den cf 35 37 L (.int y :: .int x :: st) M = if x < y then den cf 35 40 L st M else den cf 35 71 L st M := den_ic_ge l_35_37
theorem l_35_40 : look (tab 35) 40 = some (.iload 5, 2, [], uu) := by decide +kernel
theorem e_35_40 : den cf 35 40 [v0, v1, v2, v3, v4, .int x, v6, v7] st M = den cf 35 42 [v0, v1, v2, v3, v4, .int x, v6, v7] (.int x :: st) M := den_go l_35_40 rfl
theorem l_35_42 : look (tab 35) 42 = some (.aload_n 0, 1, [], uu) := by decide +kernel
theorem e_35_42 : den cf 35 42 [.ref a, v1, v2, v3, v4, v5, v6, v7] st M = den cf 35 43 [.ref a, v1, v2, v3, v4, v5, v6, v7] (.ref a :: st) M := den_go l_35_42 rfl
theorem l_35_43 : look (tab 35) 43 = some (.getfield 24, 3, [2, 2, 43], uu) := by decide +kernel
theorem e_35_43 : den cf 35 43 L (.ref a :: st) M = oK (gfA (M.2.2 a) 2 2) (fun v => den cf 35 46 L (v :: st) M) := den_gf l_35_43
theorem l_35_46 : look (tab 35) 46 = some (.imul, 1, [], uu) := by decide +kernel
theorem e_35_46 : den cf 35 46 L (.int y :: .int x :: st) M = den cf 35 47 L (.int (x * y) :: st) M := den_go l_35_46 rfl
theorem l_35_47 : look (tab 35) 47 = some (.bipush 12, 2, [], .int (zI 12)) := by decide +kernel
theorem e_35_47 : den cf 35 47 L st M = den cf 35 49 L (.int (zI 12) :: st) M := den_go l_35_47 rfl
theorem l_35_49 : look (tab 35) 49 = some (.idiv, 1, [], uu) := by decide +kernel
theorem e_35_49 : den cf 35 49 L (.int y :: .int x :: st) M = if y = zI 0 then none else den cf 35 50 L (.int (x / y) :: st) M := den_dv (f := fun x y => x / y) l_35_49 rfl
theorem l_35_50 : look (tab 35) 50 = some (.istore 5, 2, [], uu) := by decide +kernel
theorem e_35_50 : den cf 35 50 [v0, v1, v2, v3, v4, v5, v6, v7] (.int x :: st) M = den cf 35 52 [v0, v1, v2, v3, kq v4, .int x, v6, v7] st M := den_st (k := 5) (v := .int x) l_35_50 rfl
theorem l_35_52 : look (tab 35) 52 = some (.iload 6, 2, [], uu) := by decide +kernel
theorem e_35_52 : den cf 35 52 [v0, v1, v2, v3, v4, v5, .int x, v7] st M = den cf 35 54 [v0, v1, v2, v3, v4, v5, .int x, v7] (.int x :: st) M := den_go l_35_52 rfl
theorem l_35_54 : look (tab 35) 54 = some (.bipush 12, 2, [], .int (zI 12)) := by decide +kernel
theorem e_35_54 : den cf 35 54 L st M = den cf 35 56 L (.int (zI 12) :: st) M := den_go l_35_54 rfl
theorem l_35_56 : look (tab 35) 56 = some (.iload 4, 2, [], uu) := by decide +kernel
theorem e_35_56 : den cf 35 56 [v0, v1, v2, v3, .int x, v5, v6, v7] st M = den cf 35 58 [v0, v1, v2, v3, .int x, v5, v6, v7] (.int x :: st) M := den_go l_35_56 rfl
theorem l_35_58 : look (tab 35) 58 = some (.isub, 1, [], uu) := by decide +kernel
theorem e_35_58 : den cf 35 58 L (.int y :: .int x :: st) M = den cf 35 59 L (.int (x - y) :: st) M := den_go l_35_58 rfl
theorem l_35_59 : look (tab 35) 59 = some (.imul, 1, [], uu) := by decide +kernel
theorem e_35_59 : den cf 35 59 L (.int y :: .int x :: st) M = den cf 35 60 L (.int (x * y) :: st) M := den_go l_35_59 rfl
theorem l_35_60 : look (tab 35) 60 = some (.bipush 12, 2, [], .int (zI 12)) := by decide +kernel
theorem e_35_60 : den cf 35 60 L st M = den cf 35 62 L (.int (zI 12) :: st) M := den_go l_35_60 rfl
theorem l_35_62 : look (tab 35) 62 = some (.idiv, 1, [], uu) := by decide +kernel
theorem e_35_62 : den cf 35 62 L (.int y :: .int x :: st) M = if y = zI 0 then none else den cf 35 63 L (.int (x / y) :: st) M := den_dv (f := fun x y => x / y) l_35_62 rfl
theorem l_35_63 : look (tab 35) 63 = some (.istore 6, 2, [], uu) := by decide +kernel
theorem e_35_63 : den cf 35 63 [v0, v1, v2, v3, v4, v5, v6, v7] (.int x :: st) M = den cf 35 65 [v0, v1, v2, v3, v4, kq v5, .int x, v7] st M := den_st (k := 6) (v := .int x) l_35_63 rfl
theorem l_35_65 : look (tab 35) 65 = some (.iinc 7 1, 3, [], .int (zI 1)) := by decide +kernel
theorem e_35_65 : den cf 35 65 [v0, v1, v2, v3, v4, v5, v6, .int x] st M = den cf 35 68 [v0, v1, v2, v3, v4, v5, kq v6, .int (x + (zI 1))] st M := den_st (k := 7) (v := .int (x + (zI 1))) l_35_65 rfl
theorem l_35_68 : look (tab 35) 68 = some (.goto (-34), 3, [34], uu) := by decide +kernel
theorem e_35_68 : den cf 35 68 L st M = den cf 35 34 L st M := den_go l_35_68 rfl
theorem l_35_71 : look (tab 35) 71 = some (.iload 5, 2, [], uu) := by decide +kernel
theorem e_35_71 : den cf 35 71 [v0, v1, v2, v3, v4, .int x, v6, v7] st M = den cf 35 73 [v0, v1, v2, v3, v4, .int x, v6, v7] (.int x :: st) M := den_go l_35_71 rfl
theorem l_35_73 : look (tab 35) 73 = some (.iload 6, 2, [], uu) := by decide +kernel
theorem e_35_73 : den cf 35 73 [v0, v1, v2, v3, v4, v5, .int x, v7] st M = den cf 35 75 [v0, v1, v2, v3, v4, v5, .int x, v7] (.int x :: st) M := den_go l_35_73 rfl
theorem l_35_75 : look (tab 35) 75 = some (.iadd, 1, [], uu) := by decide +kernel
theorem e_35_75 : den cf 35 75 L (.int y :: .int x :: st) M = den cf 35 76 L (.int (x + y) :: st) M := den_go l_35_75 rfl
theorem l_35_76 : look (tab 35) 76 = some (.istore 7, 2, [], uu) := by decide +kernel
theorem e_35_76 : den cf 35 76 [v0, v1, v2, v3, v4, v5, v6, v7] (.int x :: st) M = den cf 35 78 [v0, v1, v2, v3, v4, v5, kq v6, .int x] st M := den_st (k := 7) (v := .int x) l_35_76 rfl
theorem l_35_78 : look (tab 35) 78 = some (.iload 7, 2, [], uu) := by decide +kernel
theorem e_35_78 : den cf 35 78 [v0, v1, v2, v3, v4, v5, v6, .int x] st M = den cf 35 80 [v0, v1, v2, v3, v4, v5, v6, .int x] (.int x :: st) M := den_go l_35_78 rfl
theorem l_35_80 : look (tab 35) 80 = some (.ifCond .ne 7, 3, [87], uu) := by decide +kernel
theorem e_35_80 : den cf 35 80 L (.int x :: st) M = if x = zI 0 then den cf 35 83 L st M else den cf 35 87 L st M := den_if_ne l_35_80
theorem l_35_83 : look (tab 35) 83 = some (.iconst 0, 1, [], .int (zI 0)) := by decide +kernel
theorem e_35_83 : den cf 35 83 L st M = den cf 35 84 L (.int (zI 0) :: st) M := den_go l_35_83 rfl
theorem l_35_84 : look (tab 35) 84 = some (.goto 12, 3, [96], uu) := by decide +kernel
theorem e_35_84 : den cf 35 84 L st M = den cf 35 96 L st M := den_go l_35_84 rfl
theorem l_35_87 : look (tab 35) 87 = some (.sipush 1000, 3, [], .int (zI 1000)) := by decide +kernel
theorem e_35_87 : den cf 35 87 L st M = den cf 35 90 L (.int (zI 1000) :: st) M := den_go l_35_87 rfl
theorem l_35_90 : look (tab 35) 90 = some (.iload 5, 2, [], uu) := by decide +kernel
theorem e_35_90 : den cf 35 90 [v0, v1, v2, v3, v4, .int x, v6, v7] st M = den cf 35 92 [v0, v1, v2, v3, v4, .int x, v6, v7] (.int x :: st) M := den_go l_35_90 rfl
theorem l_35_92 : look (tab 35) 92 = some (.imul, 1, [], uu) := by decide +kernel
theorem e_35_92 : den cf 35 92 L (.int y :: .int x :: st) M = den cf 35 93 L (.int (x * y) :: st) M := den_go l_35_92 rfl
theorem l_35_93 : look (tab 35) 93 = some (.iload 7, 2, [], uu) := by decide +kernel
theorem e_35_93 : den cf 35 93 [v0, v1, v2, v3, v4, v5, v6, .int x] st M = den cf 35 95 [v0, v1, v2, v3, v4, v5, v6, .int x] (.int x :: st) M := den_go l_35_93 rfl
theorem l_35_95 : look (tab 35) 95 = some (.idiv, 1, [], uu) := by decide +kernel
theorem e_35_95 : den cf 35 95 L (.int y :: .int x :: st) M = if y = zI 0 then none else den cf 35 96 L (.int (x / y) :: st) M := den_dv (f := fun x y => x / y) l_35_95 rfl
theorem l_35_96 : look (tab 35) 96 = some (.ireturn, 1, [0], uu) := by decide +kernel
theorem e_35_96 : den cf 35 96 L [.int x] M = some (some (.int x), M) := den_e0 l_35_96
/-! yX2_bestFor -/
theorem l_36_0 : look (tab 36) 0 = some (.aconst_null, 1, [], uu) := by decide +kernel
theorem e_36_0 : den cf 36 0 L st M = den cf 36 1 L (.null :: st) M := den_go l_36_0 rfl
theorem l_36_1 : look (tab 36) 1 = some (.astore_n 2, 1, [], uu) := by decide +kernel
theorem e_36_1 : den cf 36 1 [v0, v1, v2, v3, v4, v5, v6, v7] (v :: st) M = if isRf v = true then den cf 36 2 [v0, kq v1, v, v3, v4, v5, v6, v7] st M else none := den_as (k := 2) (v := v) l_36_1 rfl (Nat.le_of_ble_eq_true rfl)
theorem l_36_2 : look (tab 36) 2 = some (.aload_n 0, 1, [], uu) := by decide +kernel
theorem e_36_2 : den cf 36 2 [.ref a, v1, v2, v3, v4, v5, v6, v7] st M = den cf 36 3 [.ref a, v1, v2, v3, v4, v5, v6, v7] (.ref a :: st) M := den_go l_36_2 rfl
theorem l_36_3 : look (tab 36) 3 = some (.getfield 11, 3, [2, 0, 39], uu) := by decide +kernel
theorem e_36_3 : den cf 36 3 L (.ref a :: st) M = oK (gfA (M.2.2 a) 2 0) (fun v => den cf 36 6 L (v :: st) M) := den_gf l_36_3
theorem l_36_6 : look (tab 36) 6 = some (.astore_n 3, 1, [], uu) := by decide +kernel
theorem e_36_6 : den cf 36 6 [v0, v1, v2, v3, v4, v5, v6, v7] (v :: st) M = if isRf v = true then den cf 36 7 [v0, v1, kq v2, v, v4, v5, v6, v7] st M else none := den_as (k := 3) (v := v) l_36_6 rfl (Nat.le_of_ble_eq_true rfl)
theorem l_36_7 : look (tab 36) 7 = some (.aload_n 3, 1, [], uu) := by decide +kernel
theorem e_36_7 : den cf 36 7 [v0, v1, v2, v3, v4, v5, v6, v7] st M = if isRf v3 = true then den cf 36 8 [v0, v1, v2, v3, v4, v5, v6, v7] (v3 :: st) M else none := den_g l_36_7 rfl
theorem l_36_8 : look (tab 36) 8 = some (.arraylength, 1, [], uu) := by decide +kernel
theorem e_36_8 : den cf 36 8 L (.ref a :: st) M = oK (lenA (M.2.2 a)) (fun n => den cf 36 9 L (.int (zI n) :: st) M) := den_len l_36_8
theorem l_36_9 : look (tab 36) 9 = some (.istore 4, 2, [], uu) := by decide +kernel
theorem e_36_9 : den cf 36 9 [v0, v1, v2, v3, v4, v5, v6, v7] (.int x :: st) M = den cf 36 11 [v0, v1, v2, kq v3, .int x, v5, v6, v7] st M := den_st (k := 4) (v := .int x) l_36_9 rfl
theorem l_36_11 : look (tab 36) 11 = some (.iconst 0, 1, [], .int (zI 0)) := by decide +kernel
theorem e_36_11 : den cf 36 11 L st M = den cf 36 12 L (.int (zI 0) :: st) M := den_go l_36_11 rfl
theorem l_36_12 : look (tab 36) 12 = some (.istore 5, 2, [], uu) := by decide +kernel
theorem e_36_12 : den cf 36 12 [v0, v1, v2, v3, v4, v5, v6, v7] (.int x :: st) M = den cf 36 14 [v0, v1, v2, v3, kq v4, .int x, v6, v7] st M := den_st (k := 5) (v := .int x) l_36_12 rfl
theorem l_36_14 : look (tab 36) 14 = some (.iload 5, 2, [], uu) := by decide +kernel
theorem e_36_14 : den cf 36 14 [v0, v1, v2, v3, v4, .int x, v6, v7] st M = den cf 36 16 [v0, v1, v2, v3, v4, .int x, v6, v7] (.int x :: st) M := den_go l_36_14 rfl
theorem l_36_16 : look (tab 36) 16 = some (.iload 4, 2, [], uu) := by decide +kernel
theorem e_36_16 : den cf 36 16 [v0, v1, v2, v3, .int x, v5, v6, v7] st M = den cf 36 18 [v0, v1, v2, v3, .int x, v5, v6, v7] (.int x :: st) M := den_go l_36_16 rfl
theorem l_36_18 : look (tab 36) 18 = some (.if_icmp .ge 68, 3, [86], uu) := by decide +kernel
theorem e_36_18 : den cf 36 18 L (.int y :: .int x :: st) M = if x < y then den cf 36 21 L st M else den cf 36 86 L st M := den_ic_ge l_36_18
theorem l_36_21 : look (tab 36) 21 = some (.aload_n 3, 1, [], uu) := by decide +kernel
theorem e_36_21 : den cf 36 21 [v0, v1, v2, v3, v4, v5, v6, v7] st M = if isRf v3 = true then den cf 36 22 [v0, v1, v2, v3, v4, v5, v6, v7] (v3 :: st) M else none := den_g l_36_21 rfl
theorem l_36_22 : look (tab 36) 22 = some (.iload 5, 2, [], uu) := by decide +kernel
theorem e_36_22 : den cf 36 22 [v0, v1, v2, v3, v4, .int x, v6, v7] st M = den cf 36 24 [v0, v1, v2, v3, v4, .int x, v6, v7] (.int x :: st) M := den_go l_36_22 rfl
theorem l_36_24 : look (tab 36) 24 = some (.aaload, 1, [], uu) := by decide +kernel
theorem e_36_24 : den cf 36 24 L (.int x :: .ref a :: st) M = oK (ldQ (M.2.2 a) x) (fun v => den cf 36 25 L (v :: st) M) := den_al (g := ldQ) l_36_24 rfl
theorem l_36_25 : look (tab 36) 25 = some (.astore 6, 2, [], uu) := by decide +kernel
theorem e_36_25 : den cf 36 25 [v0, v1, v2, v3, v4, v5, v6, v7] (v :: st) M = if isRf v = true then den cf 36 27 [v0, v1, v2, v3, v4, kq v5, v, v7] st M else none := den_as (k := 6) (v := v) l_36_25 rfl (Nat.le_of_ble_eq_true rfl)
theorem l_36_27 : look (tab 36) 27 = some (.aload 6, 2, [], uu) := by decide +kernel
theorem e_36_27 : den cf 36 27 [v0, v1, v2, v3, v4, v5, v6, v7] st M = if isRf v6 = true then den cf 36 29 [v0, v1, v2, v3, v4, v5, v6, v7] (v6 :: st) M else none := den_g l_36_27 rfl
theorem l_36_29 : look (tab 36) 29 = some (.getfield 111, 3, [1, 1, 820], uu) := by decide +kernel
theorem e_36_29 : den cf 36 29 L (.ref a :: st) M = oK (gfA (M.2.2 a) 1 1) (fun v => den cf 36 32 L (v :: st) M) := den_gf l_36_29
theorem l_36_32 : look (tab 36) 32 = some (.ifCond .eq 19, 3, [51], uu) := by decide +kernel
theorem e_36_32 : den cf 36 32 L (.int x :: st) M = if x = zI 0 then den cf 36 51 L st M else den cf 36 35 L st M := den_if_eq l_36_32
theorem l_36_35 : look (tab 36) 35 = some (.aload 6, 2, [], uu) := by decide +kernel
theorem e_36_35 : den cf 36 35 [v0, v1, v2, v3, v4, v5, v6, v7] st M = if isRf v6 = true then den cf 36 37 [v0, v1, v2, v3, v4, v5, v6, v7] (v6 :: st) M else none := den_g l_36_35 rfl
theorem l_36_37 : look (tab 36) 37 = some (.getfield 114, 3, [1, 4, 821], uu) := by decide +kernel
theorem e_36_37 : den cf 36 37 L (.ref a :: st) M = oK (gfA (M.2.2 a) 1 4) (fun v => den cf 36 40 L (v :: st) M) := den_gf l_36_37
theorem l_36_40 : look (tab 36) 40 = some (.aload_n 1, 1, [], uu) := by decide +kernel
theorem e_36_40 : den cf 36 40 [v0, v1, v2, v3, v4, v5, v6, v7] st M = if isRf v1 = true then den cf 36 41 [v0, v1, v2, v3, v4, v5, v6, v7] (v1 :: st) M else none := den_g l_36_40 rfl
theorem l_36_41 : look (tab 36) 41 = some (.getfield 114, 3, [1, 4, 821], uu) := by decide +kernel
theorem e_36_41 : den cf 36 41 L (.ref a :: st) M = oK (gfA (M.2.2 a) 1 4) (fun v => den cf 36 44 L (v :: st) M) := den_gf l_36_41
theorem l_36_44 : look (tab 36) 44 = some (.if_icmp .eq 7, 3, [51], uu) := by decide +kernel
theorem e_36_44 : den cf 36 44 L (.int y :: .int x :: st) M = if x = y then den cf 36 51 L st M else den cf 36 47 L st M := den_ic_eq l_36_44
theorem l_36_47 : look (tab 36) 47 = some (.iconst 1, 1, [], .int (zI 1)) := by decide +kernel
theorem e_36_47 : den cf 36 47 L st M = den cf 36 48 L (.int (zI 1) :: st) M := den_go l_36_47 rfl
theorem l_36_48 : look (tab 36) 48 = some (.goto 4, 3, [52], uu) := by decide +kernel
theorem e_36_48 : den cf 36 48 L st M = den cf 36 52 L st M := den_go l_36_48 rfl
theorem l_36_51 : look (tab 36) 51 = some (.iconst 0, 1, [], .int (zI 0)) := by decide +kernel
theorem e_36_51 : den cf 36 51 L st M = den cf 36 52 L (.int (zI 0) :: st) M := den_go l_36_51 rfl
theorem l_36_52 : look (tab 36) 52 = some (.istore 7, 2, [], uu) := by decide +kernel
theorem e_36_52 : den cf 36 52 [v0, v1, v2, v3, v4, v5, v6, v7] (.int x :: st) M = den cf 36 54 [v0, v1, v2, v3, v4, v5, kq v6, .int x] st M := den_st (k := 7) (v := .int x) l_36_52 rfl
theorem l_36_54 : look (tab 36) 54 = some (.iload 7, 2, [], uu) := by decide +kernel
theorem e_36_54 : den cf 36 54 [v0, v1, v2, v3, v4, v5, v6, .int x] st M = den cf 36 56 [v0, v1, v2, v3, v4, v5, v6, .int x] (.int x :: st) M := den_go l_36_54 rfl
theorem l_36_56 : look (tab 36) 56 = some (.ifCond .eq 24, 3, [80], uu) := by decide +kernel
theorem e_36_56 : den cf 36 56 L (.int x :: st) M = if x = zI 0 then den cf 36 80 L st M else den cf 36 59 L st M := den_if_eq l_36_56
theorem l_36_59 : look (tab 36) 59 = some (.aload_n 2, 1, [], uu) := by decide +kernel
theorem e_36_59 : den cf 36 59 [v0, v1, v2, v3, v4, v5, v6, v7] st M = if isRf v2 = true then den cf 36 60 [v0, v1, v2, v3, v4, v5, v6, v7] (v2 :: st) M else none := den_g l_36_59 rfl
theorem l_36_60 : look (tab 36) 60 = some (.ifnull 17, 3, [77], uu) := by decide +kernel
theorem e_36_60 : den cf 36 60 L (va_rf o :: st) M = oN o (den cf 36 77 L st M) (den cf 36 63 L st M) := den_nu l_36_60
theorem e_36_60_n : den cf 36 60 L (.null :: st) M = den cf 36 77 L st M := den_go l_36_60 rfl
theorem e_36_60_r : den cf 36 60 L (.ref a :: st) M = den cf 36 63 L st M := den_go l_36_60 rfl
theorem l_36_63 : look (tab 36) 63 = some (.aload_n 1, 1, [], uu) := by decide +kernel
theorem e_36_63 : den cf 36 63 [v0, v1, v2, v3, v4, v5, v6, v7] st M = if isRf v1 = true then den cf 36 64 [v0, v1, v2, v3, v4, v5, v6, v7] (v1 :: st) M else none := den_g l_36_63 rfl
theorem l_36_64 : look (tab 36) 64 = some (.aload 6, 2, [], uu) := by decide +kernel
theorem e_36_64 : den cf 36 64 [v0, v1, v2, v3, v4, v5, v6, v7] st M = if isRf v6 = true then den cf 36 66 [v0, v1, v2, v3, v4, v5, v6, v7] (v6 :: st) M else none := den_g l_36_64 rfl
theorem l_36_66 : look (tab 36) 66 = some (.invokevirtual 65, 3, [1, 20, 2, 260, 261, 262, 41], uu) := by decide +kernel
theorem e_36_66 : den cf 36 66 L (w1 :: .ref a :: st) M = if rcv M 1 [.ref a, w1] = true ∧ st.length ≤ 4 then rK (cf 20 [.ref a, w1] M) (fun v M' => den cf 36 69 L (pR v st) M') else none := den_iv [w1] l_36_66 rfl
theorem l_36_69 : look (tab 36) 69 = some (.aload_n 1, 1, [], uu) := by decide +kernel
theorem e_36_69 : den cf 36 69 [v0, v1, v2, v3, v4, v5, v6, v7] st M = if isRf v1 = true then den cf 36 70 [v0, v1, v2, v3, v4, v5, v6, v7] (v1 :: st) M else none := den_g l_36_69 rfl
theorem l_36_70 : look (tab 36) 70 = some (.aload_n 2, 1, [], uu) := by decide +kernel
theorem e_36_70 : den cf 36 70 [v0, v1, v2, v3, v4, v5, v6, v7] st M = if isRf v2 = true then den cf 36 71 [v0, v1, v2, v3, v4, v5, v6, v7] (v2 :: st) M else none := den_g l_36_70 rfl
theorem l_36_71 : look (tab 36) 71 = some (.invokevirtual 65, 3, [1, 20, 2, 260, 261, 262, 41], uu) := by decide +kernel
theorem e_36_71 : den cf 36 71 L (w1 :: .ref a :: st) M = if rcv M 1 [.ref a, w1] = true ∧ st.length ≤ 4 then rK (cf 20 [.ref a, w1] M) (fun v M' => den cf 36 74 L (pR v st) M') else none := den_iv [w1] l_36_71 rfl
theorem l_36_74 : look (tab 36) 74 = some (.if_icmp .le 6, 3, [80], uu) := by decide +kernel
theorem e_36_74 : den cf 36 74 L (.int y :: .int x :: st) M = if y < x then den cf 36 77 L st M else den cf 36 80 L st M := den_ic_le l_36_74
theorem l_36_77 : look (tab 36) 77 = some (.aload 6, 2, [], uu) := by decide +kernel
theorem e_36_77 : den cf 36 77 [v0, v1, v2, v3, v4, v5, v6, v7] st M = if isRf v6 = true then den cf 36 79 [v0, v1, v2, v3, v4, v5, v6, v7] (v6 :: st) M else none := den_g l_36_77 rfl
theorem l_36_79 : look (tab 36) 79 = some (.astore_n 2, 1, [], uu) := by decide +kernel
theorem e_36_79 : den cf 36 79 [v0, v1, v2, v3, v4, v5, v6, v7] (v :: st) M = if isRf v = true then den cf 36 80 [v0, kq v1, v, v3, v4, v5, v6, v7] st M else none := den_as (k := 2) (v := v) l_36_79 rfl (Nat.le_of_ble_eq_true rfl)
theorem l_36_80 : look (tab 36) 80 = some (.iinc 5 1, 3, [], .int (zI 1)) := by decide +kernel
theorem e_36_80 : den cf 36 80 [v0, v1, v2, v3, v4, .int x, v6, v7] st M = den cf 36 83 [v0, v1, v2, v3, kq v4, .int (x + (zI 1)), v6, v7] st M := den_st (k := 5) (v := .int (x + (zI 1))) l_36_80 rfl
theorem l_36_83 : look (tab 36) 83 = some (.goto (-69), 3, [14], uu) := by decide +kernel
theorem e_36_83 : den cf 36 83 L st M = den cf 36 14 L st M := den_go l_36_83 rfl
theorem l_36_86 : look (tab 36) 86 = some (.aload_n 2, 1, [], uu) := by decide +kernel
theorem e_36_86 : den cf 36 86 [v0, v1, v2, v3, v4, v5, v6, v7] st M = if isRf v2 = true then den cf 36 87 [v0, v1, v2, v3, v4, v5, v6, v7] (v2 :: st) M else none := den_g l_36_86 rfl
theorem l_36_87 : look (tab 36) 87 = some (.areturn, 1, [], uu) := by decide +kernel
theorem e_36_87 : den cf 36 87 L [v] M = if isRf v = true then some (some v, M) else none := den_e3 l_36_87
/-! yX2_howManyLike -/
theorem l_37_0 : look (tab 37) 0 = some (.iconst 0, 1, [], .int (zI 0)) := by decide +kernel
theorem e_37_0 : den cf 37 0 L st M = den cf 37 1 L (.int (zI 0) :: st) M := den_go l_37_0 rfl
theorem l_37_1 : look (tab 37) 1 = some (.istore_n 2, 1, [], uu) := by decide +kernel
theorem e_37_1 : den cf 37 1 [v0, v1, v2, v3, v4, v5, v6] (.int x :: st) M = den cf 37 2 [v0, kq v1, .int x, v3, v4, v5, v6] st M := den_st (k := 2) (v := .int x) l_37_1 rfl
theorem l_37_2 : look (tab 37) 2 = some (.aload_n 0, 1, [], uu) := by decide +kernel
theorem e_37_2 : den cf 37 2 [.ref a, v1, v2, v3, v4, v5, v6] st M = den cf 37 3 [.ref a, v1, v2, v3, v4, v5, v6] (.ref a :: st) M := den_go l_37_2 rfl
theorem l_37_3 : look (tab 37) 3 = some (.getfield 11, 3, [2, 0, 39], uu) := by decide +kernel
theorem e_37_3 : den cf 37 3 L (.ref a :: st) M = oK (gfA (M.2.2 a) 2 0) (fun v => den cf 37 6 L (v :: st) M) := den_gf l_37_3
theorem l_37_6 : look (tab 37) 6 = some (.astore_n 3, 1, [], uu) := by decide +kernel
theorem e_37_6 : den cf 37 6 [v0, v1, v2, v3, v4, v5, v6] (v :: st) M = if isRf v = true then den cf 37 7 [v0, v1, kq v2, v, v4, v5, v6] st M else none := den_as (k := 3) (v := v) l_37_6 rfl (Nat.le_of_ble_eq_true rfl)
theorem l_37_7 : look (tab 37) 7 = some (.aload_n 3, 1, [], uu) := by decide +kernel
theorem e_37_7 : den cf 37 7 [v0, v1, v2, v3, v4, v5, v6] st M = if isRf v3 = true then den cf 37 8 [v0, v1, v2, v3, v4, v5, v6] (v3 :: st) M else none := den_g l_37_7 rfl
theorem l_37_8 : look (tab 37) 8 = some (.arraylength, 1, [], uu) := by decide +kernel
theorem e_37_8 : den cf 37 8 L (.ref a :: st) M = oK (lenA (M.2.2 a)) (fun n => den cf 37 9 L (.int (zI n) :: st) M) := den_len l_37_8
theorem l_37_9 : look (tab 37) 9 = some (.istore 4, 2, [], uu) := by decide +kernel
theorem e_37_9 : den cf 37 9 [v0, v1, v2, v3, v4, v5, v6] (.int x :: st) M = den cf 37 11 [v0, v1, v2, kq v3, .int x, v5, v6] st M := den_st (k := 4) (v := .int x) l_37_9 rfl
theorem l_37_11 : look (tab 37) 11 = some (.iconst 0, 1, [], .int (zI 0)) := by decide +kernel
theorem e_37_11 : den cf 37 11 L st M = den cf 37 12 L (.int (zI 0) :: st) M := den_go l_37_11 rfl
theorem l_37_12 : look (tab 37) 12 = some (.istore 5, 2, [], uu) := by decide +kernel
theorem e_37_12 : den cf 37 12 [v0, v1, v2, v3, v4, v5, v6] (.int x :: st) M = den cf 37 14 [v0, v1, v2, v3, kq v4, .int x, v6] st M := den_st (k := 5) (v := .int x) l_37_12 rfl
theorem l_37_14 : look (tab 37) 14 = some (.iload 5, 2, [], uu) := by decide +kernel
theorem e_37_14 : den cf 37 14 [v0, v1, v2, v3, v4, .int x, v6] st M = den cf 37 16 [v0, v1, v2, v3, v4, .int x, v6] (.int x :: st) M := den_go l_37_14 rfl
theorem l_37_16 : look (tab 37) 16 = some (.iload 4, 2, [], uu) := by decide +kernel
theorem e_37_16 : den cf 37 16 [v0, v1, v2, v3, .int x, v5, v6] st M = den cf 37 18 [v0, v1, v2, v3, .int x, v5, v6] (.int x :: st) M := den_go l_37_16 rfl
theorem l_37_18 : look (tab 37) 18 = some (.if_icmp .ge 39, 3, [57], uu) := by decide +kernel
theorem e_37_18 : den cf 37 18 L (.int y :: .int x :: st) M = if x < y then den cf 37 21 L st M else den cf 37 57 L st M := den_ic_ge l_37_18
theorem l_37_21 : look (tab 37) 21 = some (.aload_n 3, 1, [], uu) := by decide +kernel
theorem e_37_21 : den cf 37 21 [v0, v1, v2, v3, v4, v5, v6] st M = if isRf v3 = true then den cf 37 22 [v0, v1, v2, v3, v4, v5, v6] (v3 :: st) M else none := den_g l_37_21 rfl
theorem l_37_22 : look (tab 37) 22 = some (.iload 5, 2, [], uu) := by decide +kernel
theorem e_37_22 : den cf 37 22 [v0, v1, v2, v3, v4, .int x, v6] st M = den cf 37 24 [v0, v1, v2, v3, v4, .int x, v6] (.int x :: st) M := den_go l_37_22 rfl
theorem l_37_24 : look (tab 37) 24 = some (.aaload, 1, [], uu) := by decide +kernel
theorem e_37_24 : den cf 37 24 L (.int x :: .ref a :: st) M = oK (ldQ (M.2.2 a) x) (fun v => den cf 37 25 L (v :: st) M) := den_al (g := ldQ) l_37_24 rfl
theorem l_37_25 : look (tab 37) 25 = some (.astore 6, 2, [], uu) := by decide +kernel
theorem e_37_25 : den cf 37 25 [v0, v1, v2, v3, v4, v5, v6] (v :: st) M = if isRf v = true then den cf 37 27 [v0, v1, v2, v3, v4, kq v5, v] st M else none := den_as (k := 6) (v := v) l_37_25 rfl (Nat.le_of_ble_eq_true rfl)
theorem l_37_27 : look (tab 37) 27 = some (.aload 6, 2, [], uu) := by decide +kernel
theorem e_37_27 : den cf 37 27 [v0, v1, v2, v3, v4, v5, v6] st M = if isRf v6 = true then den cf 37 29 [v0, v1, v2, v3, v4, v5, v6] (v6 :: st) M else none := den_g l_37_27 rfl
theorem l_37_29 : look (tab 37) 29 = some (.getfield 111, 3, [1, 1, 820], uu) := by decide +kernel
theorem e_37_29 : den cf 37 29 L (.ref a :: st) M = oK (gfA (M.2.2 a) 1 1) (fun v => den cf 37 32 L (v :: st) M) := den_gf l_37_29
theorem l_37_32 : look (tab 37) 32 = some (.ifCond .eq 19, 3, [51], uu) := by decide +kernel
theorem e_37_32 : den cf 37 32 L (.int x :: st) M = if x = zI 0 then den cf 37 51 L st M else den cf 37 35 L st M := den_if_eq l_37_32
theorem l_37_35 : look (tab 37) 35 = some (.aload 6, 2, [], uu) := by decide +kernel
theorem e_37_35 : den cf 37 35 [v0, v1, v2, v3, v4, v5, v6] st M = if isRf v6 = true then den cf 37 37 [v0, v1, v2, v3, v4, v5, v6] (v6 :: st) M else none := den_g l_37_35 rfl
theorem l_37_37 : look (tab 37) 37 = some (.getfield 117, 3, [1, 5, 834], uu) := by decide +kernel
theorem e_37_37 : den cf 37 37 L (.ref a :: st) M = oK (gfA (M.2.2 a) 1 5) (fun v => den cf 37 40 L (v :: st) M) := den_gf l_37_37
theorem l_37_40 : look (tab 37) 40 = some (.iload_n 1, 1, [], uu) := by decide +kernel
theorem e_37_40 : den cf 37 40 [v0, .int x, v2, v3, v4, v5, v6] st M = den cf 37 41 [v0, .int x, v2, v3, v4, v5, v6] (.int x :: st) M := den_go l_37_40 rfl
theorem l_37_41 : look (tab 37) 41 = some (.ishr, 1, [], uu) := by decide +kernel
theorem e_37_41 : den cf 37 41 L (.int y :: .int x :: st) M = den cf 37 42 L (.int (x >>> (y &&& 31)) :: st) M := den_go l_37_41 rfl
theorem l_37_42 : look (tab 37) 42 = some (.iconst 1, 1, [], .int (zI 1)) := by decide +kernel
theorem e_37_42 : den cf 37 42 L st M = den cf 37 43 L (.int (zI 1) :: st) M := den_go l_37_42 rfl
theorem l_37_43 : look (tab 37) 43 = some (.iand, 1, [], uu) := by decide +kernel
theorem e_37_43 : den cf 37 43 L (.int y :: .int x :: st) M = den cf 37 44 L (.int (x &&& y) :: st) M := den_go l_37_43 rfl
theorem l_37_44 : look (tab 37) 44 = some (.iconst 1, 1, [], .int (zI 1)) := by decide +kernel
theorem e_37_44 : den cf 37 44 L st M = den cf 37 45 L (.int (zI 1) :: st) M := den_go l_37_44 rfl
theorem l_37_45 : look (tab 37) 45 = some (.if_icmp .ne 6, 3, [51], uu) := by decide +kernel
theorem e_37_45 : den cf 37 45 L (.int y :: .int x :: st) M = if x = y then den cf 37 48 L st M else den cf 37 51 L st M := den_ic_ne l_37_45
theorem l_37_48 : look (tab 37) 48 = some (.iinc 2 1, 3, [], .int (zI 1)) := by decide +kernel
theorem e_37_48 : den cf 37 48 [v0, v1, .int x, v3, v4, v5, v6] st M = den cf 37 51 [v0, kq v1, .int (x + (zI 1)), v3, v4, v5, v6] st M := den_st (k := 2) (v := .int (x + (zI 1))) l_37_48 rfl
theorem l_37_51 : look (tab 37) 51 = some (.iinc 5 1, 3, [], .int (zI 1)) := by decide +kernel
theorem e_37_51 : den cf 37 51 [v0, v1, v2, v3, v4, .int x, v6] st M = den cf 37 54 [v0, v1, v2, v3, kq v4, .int (x + (zI 1)), v6] st M := den_st (k := 5) (v := .int (x + (zI 1))) l_37_51 rfl
theorem l_37_54 : look (tab 37) 54 = some (.goto (-40), 3, [14], uu) := by decide +kernel
theorem e_37_54 : den cf 37 54 L st M = den cf 37 14 L st M := den_go l_37_54 rfl
theorem l_37_57 : look (tab 37) 57 = some (.iload_n 2, 1, [], uu) := by decide +kernel
theorem e_37_57 : den cf 37 57 [v0, v1, .int x, v3, v4, v5, v6] st M = den cf 37 58 [v0, v1, .int x, v3, v4, v5, v6] (.int x :: st) M := den_go l_37_57 rfl
theorem l_37_58 : look (tab 37) 58 = some (.ireturn, 1, [0], uu) := by decide +kernel
theorem e_37_58 : den cf 37 58 L [.int x] M = some (some (.int x), M) := den_e0 l_37_58
/-! yX2_sharedInterest -/
theorem l_38_0 : look (tab 38) 0 = some (.iconst 0, 1, [], .int (zI 0)) := by decide +kernel
theorem e_38_0 : den cf 38 0 L st M = den cf 38 1 L (.int (zI 0) :: st) M := den_go l_38_0 rfl
theorem l_38_1 : look (tab 38) 1 = some (.istore_n 1, 1, [], uu) := by decide +kernel
theorem e_38_1 : den cf 38 1 [v0, v1, v2] (.int x :: st) M = den cf 38 2 [kq v0, .int x, v2] st M := den_st (k := 1) (v := .int x) l_38_1 rfl
theorem l_38_2 : look (tab 38) 2 = some (.iconst 1, 1, [], .int (zI 1)) := by decide +kernel
theorem e_38_2 : den cf 38 2 L st M = den cf 38 3 L (.int (zI 1) :: st) M := den_go l_38_2 rfl
theorem l_38_3 : look (tab 38) 3 = some (.istore_n 2, 1, [], uu) := by decide +kernel
theorem e_38_3 : den cf 38 3 [v0, v1, v2] (.int x :: st) M = den cf 38 4 [v0, kq v1, .int x] st M := den_st (k := 2) (v := .int x) l_38_3 rfl
theorem l_38_4 : look (tab 38) 4 = some (.iload_n 2, 1, [], uu) := by decide +kernel
theorem e_38_4 : den cf 38 4 [v0, v1, .int x] st M = den cf 38 5 [v0, v1, .int x] (.int x :: st) M := den_go l_38_4 rfl
theorem l_38_5 : look (tab 38) 5 = some (.bipush 8, 2, [], .int (zI 8)) := by decide +kernel
theorem e_38_5 : den cf 38 5 L st M = den cf 38 7 L (.int (zI 8) :: st) M := den_go l_38_5 rfl
theorem l_38_7 : look (tab 38) 7 = some (.if_icmp .ge 24, 3, [31], uu) := by decide +kernel
theorem e_38_7 : den cf 38 7 L (.int y :: .int x :: st) M = if x < y then den cf 38 10 L st M else den cf 38 31 L st M := den_ic_ge l_38_7
theorem l_38_10 : look (tab 38) 10 = some (.aload_n 0, 1, [], uu) := by decide +kernel
theorem e_38_10 : den cf 38 10 [.ref a, v1, v2] st M = den cf 38 11 [.ref a, v1, v2] (.ref a :: st) M := den_go l_38_10 rfl
theorem l_38_11 : look (tab 38) 11 = some (.iload_n 2, 1, [], uu) := by decide +kernel
theorem e_38_11 : den cf 38 11 [v0, v1, .int x] st M = den cf 38 12 [v0, v1, .int x] (.int x :: st) M := den_go l_38_11 rfl
theorem l_38_12 : look (tab 38) 12 = some (.invokevirtual 120, 3, [2, 37, 2, 839, 840, 841, 15], uu) := by decide +kernel
theorem e_38_12 : den cf 38 12 L (w1 :: .ref a :: st) M = if rcv M 2 [.ref a, w1] = true ∧ st.length ≤ 4 then rK (cf 37 [.ref a, w1] M) (fun v M' => den cf 38 15 L (pR v st) M') else none := den_iv [w1] l_38_12 rfl
theorem l_38_15 : look (tab 38) 15 = some (.aload_n 0, 1, [], uu) := by decide +kernel
theorem e_38_15 : den cf 38 15 [.ref a, v1, v2] st M = den cf 38 16 [.ref a, v1, v2] (.ref a :: st) M := den_go l_38_15 rfl
theorem l_38_16 : look (tab 38) 16 = some (.iload_n 1, 1, [], uu) := by decide +kernel
theorem e_38_16 : den cf 38 16 [v0, .int x, v2] st M = den cf 38 17 [v0, .int x, v2] (.int x :: st) M := den_go l_38_16 rfl
theorem l_38_17 : look (tab 38) 17 = some (.invokevirtual 120, 3, [2, 37, 2, 839, 840, 841, 15], uu) := by decide +kernel
theorem e_38_17 : den cf 38 17 L (w1 :: .ref a :: st) M = if rcv M 2 [.ref a, w1] = true ∧ st.length ≤ 4 then rK (cf 37 [.ref a, w1] M) (fun v M' => den cf 38 20 L (pR v st) M') else none := den_iv [w1] l_38_17 rfl
theorem l_38_20 : look (tab 38) 20 = some (.if_icmp .le 5, 3, [25], uu) := by decide +kernel
theorem e_38_20 : den cf 38 20 L (.int y :: .int x :: st) M = if y < x then den cf 38 23 L st M else den cf 38 25 L st M := den_ic_le l_38_20
theorem l_38_23 : look (tab 38) 23 = some (.iload_n 2, 1, [], uu) := by decide +kernel
theorem e_38_23 : den cf 38 23 [v0, v1, .int x] st M = den cf 38 24 [v0, v1, .int x] (.int x :: st) M := den_go l_38_23 rfl
theorem l_38_24 : look (tab 38) 24 = some (.istore_n 1, 1, [], uu) := by decide +kernel
theorem e_38_24 : den cf 38 24 [v0, v1, v2] (.int x :: st) M = den cf 38 25 [kq v0, .int x, v2] st M := den_st (k := 1) (v := .int x) l_38_24 rfl
theorem l_38_25 : look (tab 38) 25 = some (.iinc 2 1, 3, [], .int (zI 1)) := by decide +kernel
theorem e_38_25 : den cf 38 25 [v0, v1, .int x] st M = den cf 38 28 [v0, kq v1, .int (x + (zI 1))] st M := den_st (k := 2) (v := .int (x + (zI 1))) l_38_25 rfl
theorem l_38_28 : look (tab 38) 28 = some (.goto (-24), 3, [4], uu) := by decide +kernel
theorem e_38_28 : den cf 38 28 L st M = den cf 38 4 L st M := den_go l_38_28 rfl
theorem l_38_31 : look (tab 38) 31 = some (.iload_n 1, 1, [], uu) := by decide +kernel
theorem e_38_31 : den cf 38 31 [v0, .int x, v2] st M = den cf 38 32 [v0, .int x, v2] (.int x :: st) M := den_go l_38_31 rfl
theorem l_38_32 : look (tab 38) 32 = some (.ireturn, 1, [0], uu) := by decide +kernel
theorem e_38_32 : den cf 38 32 L [.int x] M = some (some (.int x), M) := den_e0 l_38_32
/-! yX2_twins -/
theorem l_39_0 : look (tab 39) 0 = some (.aload_n 0, 1, [], uu) := by decide +kernel
theorem e_39_0 : den cf 39 0 [.ref a, v1, v2, v3, v4, v5, v6, v7, v8, v9] st M = den cf 39 1 [.ref a, v1, v2, v3, v4, v5, v6, v7, v8, v9] (.ref a :: st) M := den_go l_39_0 rfl
theorem l_39_1 : look (tab 39) 1 = some (.getfield 11, 3, [2, 0, 39], uu) := by decide +kernel
theorem e_39_1 : den cf 39 1 L (.ref a :: st) M = oK (gfA (M.2.2 a) 2 0) (fun v => den cf 39 4 L (v :: st) M) := den_gf l_39_1
theorem l_39_4 : look (tab 39) 4 = some (.astore_n 1, 1, [], uu) := by decide +kernel
theorem e_39_4 : den cf 39 4 [v0, v1, v2, v3, v4, v5, v6, v7, v8, v9] (v :: st) M = if isRf v = true then den cf 39 5 [kq v0, v, v2, v3, v4, v5, v6, v7, v8, v9] st M else none := den_as (k := 1) (v := v) l_39_4 rfl (Nat.le_of_ble_eq_true rfl)
theorem l_39_5 : look (tab 39) 5 = some (.aload_n 1, 1, [], uu) := by decide +kernel
theorem e_39_5 : den cf 39 5 [v0, v1, v2, v3, v4, v5, v6, v7, v8, v9] st M = if isRf v1 = true then den cf 39 6 [v0, v1, v2, v3, v4, v5, v6, v7, v8, v9] (v1 :: st) M else none := den_g l_39_5 rfl
theorem l_39_6 : look (tab 39) 6 = some (.arraylength, 1, [], uu) := by decide +kernel
theorem e_39_6 : den cf 39 6 L (.ref a :: st) M = oK (lenA (M.2.2 a)) (fun n => den cf 39 7 L (.int (zI n) :: st) M) := den_len l_39_6
theorem l_39_7 : look (tab 39) 7 = some (.istore_n 2, 1, [], uu) := by decide +kernel
theorem e_39_7 : den cf 39 7 [v0, v1, v2, v3, v4, v5, v6, v7, v8, v9] (.int x :: st) M = den cf 39 8 [v0, kq v1, .int x, v3, v4, v5, v6, v7, v8, v9] st M := den_st (k := 2) (v := .int x) l_39_7 rfl
theorem l_39_8 : look (tab 39) 8 = some (.iconst 0, 1, [], .int (zI 0)) := by decide +kernel
theorem e_39_8 : den cf 39 8 L st M = den cf 39 9 L (.int (zI 0) :: st) M := den_go l_39_8 rfl
theorem l_39_9 : look (tab 39) 9 = some (.istore_n 3, 1, [], uu) := by decide +kernel
theorem e_39_9 : den cf 39 9 [v0, v1, v2, v3, v4, v5, v6, v7, v8, v9] (.int x :: st) M = den cf 39 10 [v0, v1, kq v2, .int x, v4, v5, v6, v7, v8, v9] st M := den_st (k := 3) (v := .int x) l_39_9 rfl
theorem l_39_10 : look (tab 39) 10 = some (.iload_n 3, 1, [], uu) := by decide +kernel
theorem e_39_10 : den cf 39 10 [v0, v1, v2, .int x, v4, v5, v6, v7, v8, v9] st M = den cf 39 11 [v0, v1, v2, .int x, v4, v5, v6, v7, v8, v9] (.int x :: st) M := den_go l_39_10 rfl
theorem l_39_11 : look (tab 39) 11 = some (.iload_n 2, 1, [], uu) := by decide +kernel
theorem e_39_11 : den cf 39 11 [v0, v1, .int x, v3, v4, v5, v6, v7, v8, v9] st M = den cf 39 12 [v0, v1, .int x, v3, v4, v5, v6, v7, v8, v9] (.int x :: st) M := den_go l_39_11 rfl
theorem l_39_12 : look (tab 39) 12 = some (.if_icmp .ge 130, 3, [142], uu) := by decide +kernel
theorem e_39_12 : den cf 39 12 L (.int y :: .int x :: st) M = if x < y then den cf 39 15 L st M else den cf 39 142 L st M := den_ic_ge l_39_12
theorem l_39_15 : look (tab 39) 15 = some (.aload_n 1, 1, [], uu) := by decide +kernel
theorem e_39_15 : den cf 39 15 [v0, v1, v2, v3, v4, v5, v6, v7, v8, v9] st M = if isRf v1 = true then den cf 39 16 [v0, v1, v2, v3, v4, v5, v6, v7, v8, v9] (v1 :: st) M else none := den_g l_39_15 rfl
theorem l_39_16 : look (tab 39) 16 = some (.iload_n 3, 1, [], uu) := by decide +kernel
theorem e_39_16 : den cf 39 16 [v0, v1, v2, .int x, v4, v5, v6, v7, v8, v9] st M = den cf 39 17 [v0, v1, v2, .int x, v4, v5, v6, v7, v8, v9] (.int x :: st) M := den_go l_39_16 rfl
theorem l_39_17 : look (tab 39) 17 = some (.aaload, 1, [], uu) := by decide +kernel
theorem e_39_17 : den cf 39 17 L (.int x :: .ref a :: st) M = oK (ldQ (M.2.2 a) x) (fun v => den cf 39 18 L (v :: st) M) := den_al (g := ldQ) l_39_17 rfl
theorem l_39_18 : look (tab 39) 18 = some (.astore 4, 2, [], uu) := by decide +kernel
theorem e_39_18 : den cf 39 18 [v0, v1, v2, v3, v4, v5, v6, v7, v8, v9] (v :: st) M = if isRf v = true then den cf 39 20 [v0, v1, v2, kq v3, v, v5, v6, v7, v8, v9] st M else none := den_as (k := 4) (v := v) l_39_18 rfl (Nat.le_of_ble_eq_true rfl)
theorem l_39_20 : look (tab 39) 20 = some (.aload_n 0, 1, [], uu) := by decide +kernel
theorem e_39_20 : den cf 39 20 [.ref a, v1, v2, v3, v4, v5, v6, v7, v8, v9] st M = den cf 39 21 [.ref a, v1, v2, v3, v4, v5, v6, v7, v8, v9] (.ref a :: st) M := den_go l_39_20 rfl
theorem l_39_21 : look (tab 39) 21 = some (.getfield 11, 3, [2, 0, 39], uu) := by decide +kernel
theorem e_39_21 : den cf 39 21 L (.ref a :: st) M = oK (gfA (M.2.2 a) 2 0) (fun v => den cf 39 24 L (v :: st) M) := den_gf l_39_21
theorem l_39_24 : look (tab 39) 24 = some (.astore 5, 2, [], uu) := by decide +kernel
theorem e_39_24 : den cf 39 24 [v0, v1, v2, v3, v4, v5, v6, v7, v8, v9] (v :: st) M = if isRf v = true then den cf 39 26 [v0, v1, v2, v3, kq v4, v, v6, v7, v8, v9] st M else none := den_as (k := 5) (v := v) l_39_24 rfl (Nat.le_of_ble_eq_true rfl)
theorem l_39_26 : look (tab 39) 26 = some (.aload 5, 2, [], uu) := by decide +kernel
theorem e_39_26 : den cf 39 26 [v0, v1, v2, v3, v4, v5, v6, v7, v8, v9] st M = if isRf v5 = true then den cf 39 28 [v0, v1, v2, v3, v4, v5, v6, v7, v8, v9] (v5 :: st) M else none := den_g l_39_26 rfl
theorem l_39_28 : look (tab 39) 28 = some (.arraylength, 1, [], uu) := by decide +kernel
theorem e_39_28 : den cf 39 28 L (.ref a :: st) M = oK (lenA (M.2.2 a)) (fun n => den cf 39 29 L (.int (zI n) :: st) M) := den_len l_39_28
theorem l_39_29 : look (tab 39) 29 = some (.istore 6, 2, [], uu) := by decide +kernel
theorem e_39_29 : den cf 39 29 [v0, v1, v2, v3, v4, v5, v6, v7, v8, v9] (.int x :: st) M = den cf 39 31 [v0, v1, v2, v3, v4, kq v5, .int x, v7, v8, v9] st M := den_st (k := 6) (v := .int x) l_39_29 rfl
theorem l_39_31 : look (tab 39) 31 = some (.iconst 0, 1, [], .int (zI 0)) := by decide +kernel
theorem e_39_31 : den cf 39 31 L st M = den cf 39 32 L (.int (zI 0) :: st) M := den_go l_39_31 rfl
theorem l_39_32 : look (tab 39) 32 = some (.istore 7, 2, [], uu) := by decide +kernel
theorem e_39_32 : den cf 39 32 [v0, v1, v2, v3, v4, v5, v6, v7, v8, v9] (.int x :: st) M = den cf 39 34 [v0, v1, v2, v3, v4, v5, kq v6, .int x, v8, v9] st M := den_st (k := 7) (v := .int x) l_39_32 rfl
theorem l_39_34 : look (tab 39) 34 = some (.iload 7, 2, [], uu) := by decide +kernel
theorem e_39_34 : den cf 39 34 [v0, v1, v2, v3, v4, v5, v6, .int x, v8, v9] st M = den cf 39 36 [v0, v1, v2, v3, v4, v5, v6, .int x, v8, v9] (.int x :: st) M := den_go l_39_34 rfl
theorem l_39_36 : look (tab 39) 36 = some (.iload 6, 2, [], uu) := by decide +kernel
theorem e_39_36 : den cf 39 36 [v0, v1, v2, v3, v4, v5, .int x, v7, v8, v9] st M = den cf 39 38 [v0, v1, v2, v3, v4, v5, .int x, v7, v8, v9] (.int x :: st) M := den_go l_39_36 rfl
theorem l_39_38 : look (tab 39) 38 = some (.if_icmp .ge 98, 3, [136], uu) := by decide +kernel
theorem e_39_38 : den cf 39 38 L (.int y :: .int x :: st) M = if x < y then den cf 39 41 L st M else den cf 39 136 L st M := den_ic_ge l_39_38
theorem l_39_41 : look (tab 39) 41 = some (.aload 5, 2, [], uu) := by decide +kernel
theorem e_39_41 : den cf 39 41 [v0, v1, v2, v3, v4, v5, v6, v7, v8, v9] st M = if isRf v5 = true then den cf 39 43 [v0, v1, v2, v3, v4, v5, v6, v7, v8, v9] (v5 :: st) M else none := den_g l_39_41 rfl
theorem l_39_43 : look (tab 39) 43 = some (.iload 7, 2, [], uu) := by decide +kernel
theorem e_39_43 : den cf 39 43 [v0, v1, v2, v3, v4, v5, v6, .int x, v8, v9] st M = den cf 39 45 [v0, v1, v2, v3, v4, v5, v6, .int x, v8, v9] (.int x :: st) M := den_go l_39_43 rfl
theorem l_39_45 : look (tab 39) 45 = some (.aaload, 1, [], uu) := by decide +kernel
theorem e_39_45 : den cf 39 45 L (.int x :: .ref a :: st) M = oK (ldQ (M.2.2 a) x) (fun v => den cf 39 46 L (v :: st) M) := den_al (g := ldQ) l_39_45 rfl
theorem l_39_46 : look (tab 39) 46 = some (.astore 8, 2, [], uu) := by decide +kernel
theorem e_39_46 : den cf 39 46 [v0, v1, v2, v3, v4, v5, v6, v7, v8, v9] (v :: st) M = if isRf v = true then den cf 39 48 [v0, v1, v2, v3, v4, v5, v6, kq v7, v, v9] st M else none := den_as (k := 8) (v := v) l_39_46 rfl (Nat.le_of_ble_eq_true rfl)
theorem l_39_48 : look (tab 39) 48 = some (.aload 4, 2, [], uu) := by decide +kernel
theorem e_39_48 : den cf 39 48 [v0, v1, v2, v3, v4, v5, v6, v7, v8, v9] st M = if isRf v4 = true then den cf 39 50 [v0, v1, v2, v3, v4, v5, v6, v7, v8, v9] (v4 :: st) M else none := den_g l_39_48 rfl
theorem l_39_50 : look (tab 39) 50 = some (.getfield 111, 3, [1, 1, 820], uu) := by decide +kernel
theorem e_39_50 : den cf 39 50 L (.ref a :: st) M = oK (gfA (M.2.2 a) 1 1) (fun v => den cf 39 53 L (v :: st) M) := den_gf l_39_50
theorem l_39_53 : look (tab 39) 53 = some (.ifCond .eq 28, 3, [81], uu) := by decide +kernel
theorem e_39_53 : den cf 39 53 L (.int x :: st) M = if x = zI 0 then den cf 39 81 L st M else den cf 39 56 L st M := den_if_eq l_39_53
theorem l_39_56 : look (tab 39) 56 = some (.aload 8, 2, [], uu) := by decide +kernel
theorem e_39_56 : den cf 39 56 [v0, v1, v2, v3, v4, v5, v6, v7, v8, v9] st M = if isRf v8 = true then den cf 39 58 [v0, v1, v2, v3, v4, v5, v6, v7, v8, v9] (v8 :: st) M else none := den_g l_39_56 rfl
theorem l_39_58 : look (tab 39) 58 = some (.getfield 111, 3, [1, 1, 820], uu) := by decide +kernel
theorem e_39_58 : den cf 39 58 L (.ref a :: st) M = oK (gfA (M.2.2 a) 1 1) (fun v => den cf 39 61 L (v :: st) M) := den_gf l_39_58
theorem l_39_61 : look (tab 39) 61 = some (.ifCond .eq 20, 3, [81], uu) := by decide +kernel
theorem e_39_61 : den cf 39 61 L (.int x :: st) M = if x = zI 0 then den cf 39 81 L st M else den cf 39 64 L st M := den_if_eq l_39_61
theorem l_39_64 : look (tab 39) 64 = some (.aload 4, 2, [], uu) := by decide +kernel
theorem e_39_64 : den cf 39 64 [v0, v1, v2, v3, v4, v5, v6, v7, v8, v9] st M = if isRf v4 = true then den cf 39 66 [v0, v1, v2, v3, v4, v5, v6, v7, v8, v9] (v4 :: st) M else none := den_g l_39_64 rfl
theorem l_39_66 : look (tab 39) 66 = some (.getfield 51, 3, [1, 0, 433], uu) := by decide +kernel
theorem e_39_66 : den cf 39 66 L (.ref a :: st) M = oK (gfA (M.2.2 a) 1 0) (fun v => den cf 39 69 L (v :: st) M) := den_gf l_39_66
theorem l_39_69 : look (tab 39) 69 = some (.aload 8, 2, [], uu) := by decide +kernel
theorem e_39_69 : den cf 39 69 [v0, v1, v2, v3, v4, v5, v6, v7, v8, v9] st M = if isRf v8 = true then den cf 39 71 [v0, v1, v2, v3, v4, v5, v6, v7, v8, v9] (v8 :: st) M else none := den_g l_39_69 rfl
theorem l_39_71 : look (tab 39) 71 = some (.getfield 51, 3, [1, 0, 433], uu) := by decide +kernel
theorem e_39_71 : den cf 39 71 L (.ref a :: st) M = oK (gfA (M.2.2 a) 1 0) (fun v => den cf 39 74 L (v :: st) M) := den_gf l_39_71
theorem l_39_74 : look (tab 39) 74 = some (.if_icmp .ge 7, 3, [81], uu) := by decide +kernel
theorem e_39_74 : den cf 39 74 L (.int y :: .int x :: st) M = if x < y then den cf 39 77 L st M else den cf 39 81 L st M := den_ic_ge l_39_74
theorem l_39_77 : look (tab 39) 77 = some (.iconst 1, 1, [], .int (zI 1)) := by decide +kernel
theorem e_39_77 : den cf 39 77 L st M = den cf 39 78 L (.int (zI 1) :: st) M := den_go l_39_77 rfl
theorem l_39_78 : look (tab 39) 78 = some (.goto 4, 3, [82], uu) := by decide +kernel
theorem e_39_78 : den cf 39 78 L st M = den cf 39 82 L st M := den_go l_39_78 rfl
theorem l_39_81 : look (tab 39) 81 = some (.iconst 0, 1, [], .int (zI 0)) := by decide +kernel
theorem e_39_81 : den cf 39 81 L st M = den cf 39 82 L (.int (zI 0) :: st) M := den_go l_39_81 rfl
theorem l_39_82 : look (tab 39) 82 = some (.istore 9, 2, [], uu) := by decide +kernel
theorem e_39_82 : den cf 39 82 [v0, v1, v2, v3, v4, v5, v6, v7, v8, v9] (.int x :: st) M = den cf 39 84 [v0, v1, v2, v3, v4, v5, v6, v7, kq v8, .int x] st M := den_st (k := 9) (v := .int x) l_39_82 rfl
theorem l_39_84 : look (tab 39) 84 = some (.iload 9, 2, [], uu) := by decide +kernel
theorem e_39_84 : den cf 39 84 [v0, v1, v2, v3, v4, v5, v6, v7, v8, .int x] st M = den cf 39 86 [v0, v1, v2, v3, v4, v5, v6, v7, v8, .int x] (.int x :: st) M := den_go l_39_84 rfl
theorem l_39_86 : look (tab 39) 86 = some (.ifCond .eq 44, 3, [130], uu) := by decide +kernel
theorem e_39_86 : den cf 39 86 L (.int x :: st) M = if x = zI 0 then den cf 39 130 L st M else den cf 39 89 L st M := den_if_eq l_39_86
theorem l_39_89 : look (tab 39) 89 = some (.aload 4, 2, [], uu) := by decide +kernel
theorem e_39_89 : den cf 39 89 [v0, v1, v2, v3, v4, v5, v6, v7, v8, v9] st M = if isRf v4 = true then den cf 39 91 [v0, v1, v2, v3, v4, v5, v6, v7, v8, v9] (v4 :: st) M else none := den_g l_39_89 rfl
theorem l_39_91 : look (tab 39) 91 = some (.getfield 114, 3, [1, 4, 821], uu) := by decide +kernel
theorem e_39_91 : den cf 39 91 L (.ref a :: st) M = oK (gfA (M.2.2 a) 1 4) (fun v => den cf 39 94 L (v :: st) M) := den_gf l_39_91
theorem l_39_94 : look (tab 39) 94 = some (.aload 8, 2, [], uu) := by decide +kernel
theorem e_39_94 : den cf 39 94 [v0, v1, v2, v3, v4, v5, v6, v7, v8, v9] st M = if isRf v8 = true then den cf 39 96 [v0, v1, v2, v3, v4, v5, v6, v7, v8, v9] (v8 :: st) M else none := den_g l_39_94 rfl
theorem l_39_96 : look (tab 39) 96 = some (.getfield 114, 3, [1, 4, 821], uu) := by decide +kernel
theorem e_39_96 : den cf 39 96 L (.ref a :: st) M = oK (gfA (M.2.2 a) 1 4) (fun v => den cf 39 99 L (v :: st) M) := den_gf l_39_96
theorem l_39_99 : look (tab 39) 99 = some (.if_icmp .ne 31, 3, [130], uu) := by decide +kernel
theorem e_39_99 : den cf 39 99 L (.int y :: .int x :: st) M = if x = y then den cf 39 102 L st M else den cf 39 130 L st M := den_ic_ne l_39_99
theorem l_39_102 : look (tab 39) 102 = some (.aload 4, 2, [], uu) := by decide +kernel
theorem e_39_102 : den cf 39 102 [v0, v1, v2, v3, v4, v5, v6, v7, v8, v9] st M = if isRf v4 = true then den cf 39 104 [v0, v1, v2, v3, v4, v5, v6, v7, v8, v9] (v4 :: st) M else none := den_g l_39_102 rfl
theorem l_39_104 : look (tab 39) 104 = some (.getfield 117, 3, [1, 5, 834], uu) := by decide +kernel
theorem e_39_104 : den cf 39 104 L (.ref a :: st) M = oK (gfA (M.2.2 a) 1 5) (fun v => den cf 39 107 L (v :: st) M) := den_gf l_39_104
theorem l_39_107 : look (tab 39) 107 = some (.aload 8, 2, [], uu) := by decide +kernel
theorem e_39_107 : den cf 39 107 [v0, v1, v2, v3, v4, v5, v6, v7, v8, v9] st M = if isRf v8 = true then den cf 39 109 [v0, v1, v2, v3, v4, v5, v6, v7, v8, v9] (v8 :: st) M else none := den_g l_39_107 rfl
theorem l_39_109 : look (tab 39) 109 = some (.getfield 117, 3, [1, 5, 834], uu) := by decide +kernel
theorem e_39_109 : den cf 39 109 L (.ref a :: st) M = oK (gfA (M.2.2 a) 1 5) (fun v => den cf 39 112 L (v :: st) M) := den_gf l_39_109
theorem l_39_112 : look (tab 39) 112 = some (.if_icmp .ne 18, 3, [130], uu) := by decide +kernel
theorem e_39_112 : den cf 39 112 L (.int y :: .int x :: st) M = if x = y then den cf 39 115 L st M else den cf 39 130 L st M := den_ic_ne l_39_112
theorem l_39_115 : look (tab 39) 115 = some (.bipush 20, 2, [], .int (zI 20)) := by decide +kernel
theorem e_39_115 : den cf 39 115 L st M = den cf 39 117 L (.int (zI 20) :: st) M := den_go l_39_115 rfl
theorem l_39_117 : look (tab 39) 117 = some (.aload 4, 2, [], uu) := by decide +kernel
theorem e_39_117 : den cf 39 117 [v0, v1, v2, v3, v4, v5, v6, v7, v8, v9] st M = if isRf v4 = true then den cf 39 119 [v0, v1, v2, v3, v4, v5, v6, v7, v8, v9] (v4 :: st) M else none := den_g l_39_117 rfl
theorem l_39_119 : look (tab 39) 119 = some (.getfield 51, 3, [1, 0, 433], uu) := by decide +kernel
theorem e_39_119 : den cf 39 119 L (.ref a :: st) M = oK (gfA (M.2.2 a) 1 0) (fun v => den cf 39 122 L (v :: st) M) := den_gf l_39_119
theorem l_39_122 : look (tab 39) 122 = some (.imul, 1, [], uu) := by decide +kernel
theorem e_39_122 : den cf 39 122 L (.int y :: .int x :: st) M = den cf 39 123 L (.int (x * y) :: st) M := den_go l_39_122 rfl
theorem l_39_123 : look (tab 39) 123 = some (.aload 8, 2, [], uu) := by decide +kernel
theorem e_39_123 : den cf 39 123 [v0, v1, v2, v3, v4, v5, v6, v7, v8, v9] st M = if isRf v8 = true then den cf 39 125 [v0, v1, v2, v3, v4, v5, v6, v7, v8, v9] (v8 :: st) M else none := den_g l_39_123 rfl
theorem l_39_125 : look (tab 39) 125 = some (.getfield 51, 3, [1, 0, 433], uu) := by decide +kernel
theorem e_39_125 : den cf 39 125 L (.ref a :: st) M = oK (gfA (M.2.2 a) 1 0) (fun v => den cf 39 128 L (v :: st) M) := den_gf l_39_125
theorem l_39_128 : look (tab 39) 128 = some (.iadd, 1, [], uu) := by decide +kernel
theorem e_39_128 : den cf 39 128 L (.int y :: .int x :: st) M = den cf 39 129 L (.int (x + y) :: st) M := den_go l_39_128 rfl
theorem l_39_129 : look (tab 39) 129 = some (.ireturn, 1, [0], uu) := by decide +kernel
theorem e_39_129 : den cf 39 129 L [.int x] M = some (some (.int x), M) := den_e0 l_39_129
theorem l_39_130 : look (tab 39) 130 = some (.iinc 7 1, 3, [], .int (zI 1)) := by decide +kernel
theorem e_39_130 : den cf 39 130 [v0, v1, v2, v3, v4, v5, v6, .int x, v8, v9] st M = den cf 39 133 [v0, v1, v2, v3, v4, v5, kq v6, .int (x + (zI 1)), v8, v9] st M := den_st (k := 7) (v := .int (x + (zI 1))) l_39_130 rfl
theorem l_39_133 : look (tab 39) 133 = some (.goto (-99), 3, [34], uu) := by decide +kernel
theorem e_39_133 : den cf 39 133 L st M = den cf 39 34 L st M := den_go l_39_133 rfl
theorem l_39_136 : look (tab 39) 136 = some (.iinc 3 1, 3, [], .int (zI 1)) := by decide +kernel
theorem e_39_136 : den cf 39 136 [v0, v1, v2, .int x, v4, v5, v6, v7, v8, v9] st M = den cf 39 139 [v0, v1, kq v2, .int (x + (zI 1)), v4, v5, v6, v7, v8, v9] st M := den_st (k := 3) (v := .int (x + (zI 1))) l_39_136 rfl
theorem l_39_139 : look (tab 39) 139 = some (.goto (-129), 3, [10], uu) := by decide +kernel
theorem e_39_139 : den cf 39 139 L st M = den cf 39 10 L st M := den_go l_39_139 rfl
theorem l_39_142 : look (tab 39) 142 = some (.iconst (-1), 1, [], .int (zI (-1))) := by decide +kernel
theorem e_39_142 : den cf 39 142 L st M = den cf 39 143 L (.int (zI (-1)) :: st) M := den_go l_39_142 rfl
theorem l_39_143 : look (tab 39) 143 = some (.ireturn, 1, [0], uu) := by decide +kernel
theorem e_39_143 : den cf 39 143 L [.int x] M = some (some (.int x), M) := den_e0 l_39_143
/-! yX2_countPairs -/
theorem l_40_0 : look (tab 40) 0 = some (.iconst 0, 1, [], .int (zI 0)) := by decide +kernel
theorem e_40_0 : den cf 40 0 L st M = den cf 40 1 L (.int (zI 0) :: st) M := den_go l_40_0 rfl
theorem l_40_1 : look (tab 40) 1 = some (.istore_n 1, 1, [], uu) := by decide +kernel
theorem e_40_1 : den cf 40 1 [v0, v1, v2, v3, v4, v5] (.int x :: st) M = den cf 40 2 [kq v0, .int x, v2, v3, v4, v5] st M := den_st (k := 1) (v := .int x) l_40_1 rfl
theorem l_40_2 : look (tab 40) 2 = some (.aload_n 0, 1, [], uu) := by decide +kernel
theorem e_40_2 : den cf 40 2 [.ref a, v1, v2, v3, v4, v5] st M = den cf 40 3 [.ref a, v1, v2, v3, v4, v5] (.ref a :: st) M := den_go l_40_2 rfl
theorem l_40_3 : look (tab 40) 3 = some (.getfield 11, 3, [2, 0, 39], uu) := by decide +kernel
theorem e_40_3 : den cf 40 3 L (.ref a :: st) M = oK (gfA (M.2.2 a) 2 0) (fun v => den cf 40 6 L (v :: st) M) := den_gf l_40_3
theorem l_40_6 : look (tab 40) 6 = some (.astore_n 2, 1, [], uu) := by decide +kernel
theorem e_40_6 : den cf 40 6 [v0, v1, v2, v3, v4, v5] (v :: st) M = if isRf v = true then den cf 40 7 [v0, kq v1, v, v3, v4, v5] st M else none := den_as (k := 2) (v := v) l_40_6 rfl (Nat.le_of_ble_eq_true rfl)
theorem l_40_7 : look (tab 40) 7 = some (.aload_n 2, 1, [], uu) := by decide +kernel
theorem e_40_7 : den cf 40 7 [v0, v1, v2, v3, v4, v5] st M = if isRf v2 = true then den cf 40 8 [v0, v1, v2, v3, v4, v5] (v2 :: st) M else none := den_g l_40_7 rfl
theorem l_40_8 : look (tab 40) 8 = some (.arraylength, 1, [], uu) := by decide +kernel
theorem e_40_8 : den cf 40 8 L (.ref a :: st) M = oK (lenA (M.2.2 a)) (fun n => den cf 40 9 L (.int (zI n) :: st) M) := den_len l_40_8
theorem l_40_9 : look (tab 40) 9 = some (.istore_n 3, 1, [], uu) := by decide +kernel
theorem e_40_9 : den cf 40 9 [v0, v1, v2, v3, v4, v5] (.int x :: st) M = den cf 40 10 [v0, v1, kq v2, .int x, v4, v5] st M := den_st (k := 3) (v := .int x) l_40_9 rfl
theorem l_40_10 : look (tab 40) 10 = some (.iconst 0, 1, [], .int (zI 0)) := by decide +kernel
theorem e_40_10 : den cf 40 10 L st M = den cf 40 11 L (.int (zI 0) :: st) M := den_go l_40_10 rfl
theorem l_40_11 : look (tab 40) 11 = some (.istore 4, 2, [], uu) := by decide +kernel
theorem e_40_11 : den cf 40 11 [v0, v1, v2, v3, v4, v5] (.int x :: st) M = den cf 40 13 [v0, v1, v2, kq v3, .int x, v5] st M := den_st (k := 4) (v := .int x) l_40_11 rfl
theorem l_40_13 : look (tab 40) 13 = some (.iload 4, 2, [], uu) := by decide +kernel
theorem e_40_13 : den cf 40 13 [v0, v1, v2, v3, .int x, v5] st M = den cf 40 15 [v0, v1, v2, v3, .int x, v5] (.int x :: st) M := den_go l_40_13 rfl
theorem l_40_15 : look (tab 40) 15 = some (.iload_n 3, 1, [], uu) := by decide +kernel
theorem e_40_15 : den cf 40 15 [v0, v1, v2, .int x, v4, v5] st M = den cf 40 16 [v0, v1, v2, .int x, v4, v5] (.int x :: st) M := den_go l_40_15 rfl
theorem l_40_16 : look (tab 40) 16 = some (.if_icmp .ge 26, 3, [42], uu) := by decide +kernel
theorem e_40_16 : den cf 40 16 L (.int y :: .int x :: st) M = if x < y then den cf 40 19 L st M else den cf 40 42 L st M := den_ic_ge l_40_16
theorem l_40_19 : look (tab 40) 19 = some (.aload_n 2, 1, [], uu) := by decide +kernel
theorem e_40_19 : den cf 40 19 [v0, v1, v2, v3, v4, v5] st M = if isRf v2 = true then den cf 40 20 [v0, v1, v2, v3, v4, v5] (v2 :: st) M else none := den_g l_40_19 rfl
theorem l_40_20 : look (tab 40) 20 = some (.iload 4, 2, [], uu) := by decide +kernel
theorem e_40_20 : den cf 40 20 [v0, v1, v2, v3, .int x, v5] st M = den cf 40 22 [v0, v1, v2, v3, .int x, v5] (.int x :: st) M := den_go l_40_20 rfl
theorem l_40_22 : look (tab 40) 22 = some (.aaload, 1, [], uu) := by decide +kernel
theorem e_40_22 : den cf 40 22 L (.int x :: .ref a :: st) M = oK (ldQ (M.2.2 a) x) (fun v => den cf 40 23 L (v :: st) M) := den_al (g := ldQ) l_40_22 rfl
theorem l_40_23 : look (tab 40) 23 = some (.astore 5, 2, [], uu) := by decide +kernel
theorem e_40_23 : den cf 40 23 [v0, v1, v2, v3, v4, v5] (v :: st) M = if isRf v = true then den cf 40 25 [v0, v1, v2, v3, kq v4, v] st M else none := den_as (k := 5) (v := v) l_40_23 rfl (Nat.le_of_ble_eq_true rfl)
theorem l_40_25 : look (tab 40) 25 = some (.aload 5, 2, [], uu) := by decide +kernel
theorem e_40_25 : den cf 40 25 [v0, v1, v2, v3, v4, v5] st M = if isRf v5 = true then den cf 40 27 [v0, v1, v2, v3, v4, v5] (v5 :: st) M else none := den_g l_40_25 rfl
theorem l_40_27 : look (tab 40) 27 = some (.invokevirtual 103, 3, [1, 16, 1, 864, 865, 866, 41], uu) := by decide +kernel
theorem e_40_27 : den cf 40 27 L (.ref a :: st) M = if rcv M 1 [.ref a] = true ∧ st.length ≤ 4 then rK (cf 16 [.ref a] M) (fun v M' => den cf 40 30 L (pR v st) M') else none := den_iv [] l_40_27 rfl
theorem l_40_30 : look (tab 40) 30 = some (.ifCond .eq 6, 3, [36], uu) := by decide +kernel
theorem e_40_30 : den cf 40 30 L (.int x :: st) M = if x = zI 0 then den cf 40 36 L st M else den cf 40 33 L st M := den_if_eq l_40_30
theorem l_40_33 : look (tab 40) 33 = some (.iinc 1 1, 3, [], .int (zI 1)) := by decide +kernel
theorem e_40_33 : den cf 40 33 [v0, .int x, v2, v3, v4, v5] st M = den cf 40 36 [kq v0, .int (x + (zI 1)), v2, v3, v4, v5] st M := den_st (k := 1) (v := .int (x + (zI 1))) l_40_33 rfl
theorem l_40_36 : look (tab 40) 36 = some (.iinc 4 1, 3, [], .int (zI 1)) := by decide +kernel
theorem e_40_36 : den cf 40 36 [v0, v1, v2, v3, .int x, v5] st M = den cf 40 39 [v0, v1, v2, kq v3, .int (x + (zI 1)), v5] st M := den_st (k := 4) (v := .int (x + (zI 1))) l_40_36 rfl
theorem l_40_39 : look (tab 40) 39 = some (.goto (-26), 3, [13], uu) := by decide +kernel
theorem e_40_39 : den cf 40 39 L st M = den cf 40 13 L st M := den_go l_40_39 rfl
theorem l_40_42 : look (tab 40) 42 = some (.iload_n 1, 1, [], uu) := by decide +kernel
theorem e_40_42 : den cf 40 42 [v0, .int x, v2, v3, v4, v5] st M = den cf 40 43 [v0, .int x, v2, v3, v4, v5] (.int x :: st) M := den_go l_40_42 rfl
theorem l_40_43 : look (tab 40) 43 = some (.ireturn, 1, [0], uu) := by decide +kernel
theorem e_40_43 : den cf 40 43 L [.int x] M = some (some (.int x), M) := den_e0 l_40_43
/-! yX2_countOver -/
theorem l_41_0 : look (tab 41) 0 = some (.iconst 0, 1, [], .int (zI 0)) := by decide +kernel
theorem e_41_0 : den cf 41 0 L st M = den cf 41 1 L (.int (zI 0) :: st) M := den_go l_41_0 rfl
theorem l_41_1 : look (tab 41) 1 = some (.istore_n 1, 1, [], uu) := by decide +kernel
theorem e_41_1 : den cf 41 1 [v0, v1, v2, v3, v4, v5] (.int x :: st) M = den cf 41 2 [kq v0, .int x, v2, v3, v4, v5] st M := den_st (k := 1) (v := .int x) l_41_1 rfl
theorem l_41_2 : look (tab 41) 2 = some (.aload_n 0, 1, [], uu) := by decide +kernel
theorem e_41_2 : den cf 41 2 [.ref a, v1, v2, v3, v4, v5] st M = den cf 41 3 [.ref a, v1, v2, v3, v4, v5] (.ref a :: st) M := den_go l_41_2 rfl
theorem l_41_3 : look (tab 41) 3 = some (.getfield 11, 3, [2, 0, 39], uu) := by decide +kernel
theorem e_41_3 : den cf 41 3 L (.ref a :: st) M = oK (gfA (M.2.2 a) 2 0) (fun v => den cf 41 6 L (v :: st) M) := den_gf l_41_3
theorem l_41_6 : look (tab 41) 6 = some (.astore_n 2, 1, [], uu) := by decide +kernel
theorem e_41_6 : den cf 41 6 [v0, v1, v2, v3, v4, v5] (v :: st) M = if isRf v = true then den cf 41 7 [v0, kq v1, v, v3, v4, v5] st M else none := den_as (k := 2) (v := v) l_41_6 rfl (Nat.le_of_ble_eq_true rfl)
theorem l_41_7 : look (tab 41) 7 = some (.aload_n 2, 1, [], uu) := by decide +kernel
theorem e_41_7 : den cf 41 7 [v0, v1, v2, v3, v4, v5] st M = if isRf v2 = true then den cf 41 8 [v0, v1, v2, v3, v4, v5] (v2 :: st) M else none := den_g l_41_7 rfl
theorem l_41_8 : look (tab 41) 8 = some (.arraylength, 1, [], uu) := by decide +kernel
theorem e_41_8 : den cf 41 8 L (.ref a :: st) M = oK (lenA (M.2.2 a)) (fun n => den cf 41 9 L (.int (zI n) :: st) M) := den_len l_41_8
theorem l_41_9 : look (tab 41) 9 = some (.istore_n 3, 1, [], uu) := by decide +kernel
theorem e_41_9 : den cf 41 9 [v0, v1, v2, v3, v4, v5] (.int x :: st) M = den cf 41 10 [v0, v1, kq v2, .int x, v4, v5] st M := den_st (k := 3) (v := .int x) l_41_9 rfl
theorem l_41_10 : look (tab 41) 10 = some (.iconst 0, 1, [], .int (zI 0)) := by decide +kernel
theorem e_41_10 : den cf 41 10 L st M = den cf 41 11 L (.int (zI 0) :: st) M := den_go l_41_10 rfl
theorem l_41_11 : look (tab 41) 11 = some (.istore 4, 2, [], uu) := by decide +kernel
theorem e_41_11 : den cf 41 11 [v0, v1, v2, v3, v4, v5] (.int x :: st) M = den cf 41 13 [v0, v1, v2, kq v3, .int x, v5] st M := den_st (k := 4) (v := .int x) l_41_11 rfl
theorem l_41_13 : look (tab 41) 13 = some (.iload 4, 2, [], uu) := by decide +kernel
theorem e_41_13 : den cf 41 13 [v0, v1, v2, v3, .int x, v5] st M = den cf 41 15 [v0, v1, v2, v3, .int x, v5] (.int x :: st) M := den_go l_41_13 rfl
theorem l_41_15 : look (tab 41) 15 = some (.iload_n 3, 1, [], uu) := by decide +kernel
theorem e_41_15 : den cf 41 15 [v0, v1, v2, .int x, v4, v5] st M = den cf 41 16 [v0, v1, v2, .int x, v4, v5] (.int x :: st) M := den_go l_41_15 rfl
theorem l_41_16 : look (tab 41) 16 = some (.if_icmp .ge 35, 3, [51], uu) := by decide +kernel
theorem e_41_16 : den cf 41 16 L (.int y :: .int x :: st) M = if x < y then den cf 41 19 L st M else den cf 41 51 L st M := den_ic_ge l_41_16
theorem l_41_19 : look (tab 41) 19 = some (.aload_n 2, 1, [], uu) := by decide +kernel
theorem e_41_19 : den cf 41 19 [v0, v1, v2, v3, v4, v5] st M = if isRf v2 = true then den cf 41 20 [v0, v1, v2, v3, v4, v5] (v2 :: st) M else none := den_g l_41_19 rfl
theorem l_41_20 : look (tab 41) 20 = some (.iload 4, 2, [], uu) := by decide +kernel
theorem e_41_20 : den cf 41 20 [v0, v1, v2, v3, .int x, v5] st M = den cf 41 22 [v0, v1, v2, v3, .int x, v5] (.int x :: st) M := den_go l_41_20 rfl
theorem l_41_22 : look (tab 41) 22 = some (.aaload, 1, [], uu) := by decide +kernel
theorem e_41_22 : den cf 41 22 L (.int x :: .ref a :: st) M = oK (ldQ (M.2.2 a) x) (fun v => den cf 41 23 L (v :: st) M) := den_al (g := ldQ) l_41_22 rfl
theorem l_41_23 : look (tab 41) 23 = some (.astore 5, 2, [], uu) := by decide +kernel
theorem e_41_23 : den cf 41 23 [v0, v1, v2, v3, v4, v5] (v :: st) M = if isRf v = true then den cf 41 25 [v0, v1, v2, v3, kq v4, v] st M else none := den_as (k := 5) (v := v) l_41_23 rfl (Nat.le_of_ble_eq_true rfl)
theorem l_41_25 : look (tab 41) 25 = some (.aload 5, 2, [], uu) := by decide +kernel
theorem e_41_25 : den cf 41 25 [v0, v1, v2, v3, v4, v5] st M = if isRf v5 = true then den cf 41 27 [v0, v1, v2, v3, v4, v5] (v5 :: st) M else none := den_g l_41_25 rfl
theorem l_41_27 : look (tab 41) 27 = some (.invokevirtual 103, 3, [1, 16, 1, 864, 865, 866, 41], uu) := by decide +kernel
theorem e_41_27 : den cf 41 27 L (.ref a :: st) M = if rcv M 1 [.ref a] = true ∧ st.length ≤ 4 then rK (cf 16 [.ref a] M) (fun v M' => den cf 41 30 L (pR v st) M') else none := den_iv [] l_41_27 rfl
theorem l_41_30 : look (tab 41) 30 = some (.ifCond .eq 15, 3, [45], uu) := by decide +kernel
theorem e_41_30 : den cf 41 30 L (.int x :: st) M = if x = zI 0 then den cf 41 45 L st M else den cf 41 33 L st M := den_if_eq l_41_30
theorem l_41_33 : look (tab 41) 33 = some (.aload_n 0, 1, [], uu) := by decide +kernel
theorem e_41_33 : den cf 41 33 [.ref a, v1, v2, v3, v4, v5] st M = den cf 41 34 [.ref a, v1, v2, v3, v4, v5] (.ref a :: st) M := den_go l_41_33 rfl
theorem l_41_34 : look (tab 41) 34 = some (.aload 5, 2, [], uu) := by decide +kernel
theorem e_41_34 : den cf 41 34 [v0, v1, v2, v3, v4, v5] st M = if isRf v5 = true then den cf 41 36 [v0, v1, v2, v3, v4, v5] (v5 :: st) M else none := den_g l_41_34 rfl
theorem l_41_36 : look (tab 41) 36 = some (.invokevirtual 124, 3, [2, 32, 2, 872, 662, 663, 15], uu) := by decide +kernel
theorem e_41_36 : den cf 41 36 L (w1 :: .ref a :: st) M = if rcv M 2 [.ref a, w1] = true ∧ st.length ≤ 4 then rK (cf 32 [.ref a, w1] M) (fun v M' => den cf 41 39 L (pR v st) M') else none := den_iv [w1] l_41_36 rfl
theorem l_41_39 : look (tab 41) 39 = some (.ifCond .eq 6, 3, [45], uu) := by decide +kernel
theorem e_41_39 : den cf 41 39 L (.int x :: st) M = if x = zI 0 then den cf 41 45 L st M else den cf 41 42 L st M := den_if_eq l_41_39
theorem l_41_42 : look (tab 41) 42 = some (.iinc 1 1, 3, [], .int (zI 1)) := by decide +kernel
theorem e_41_42 : den cf 41 42 [v0, .int x, v2, v3, v4, v5] st M = den cf 41 45 [kq v0, .int (x + (zI 1)), v2, v3, v4, v5] st M := den_st (k := 1) (v := .int (x + (zI 1))) l_41_42 rfl
theorem l_41_45 : look (tab 41) 45 = some (.iinc 4 1, 3, [], .int (zI 1)) := by decide +kernel
theorem e_41_45 : den cf 41 45 [v0, v1, v2, v3, .int x, v5] st M = den cf 41 48 [v0, v1, v2, kq v3, .int (x + (zI 1)), v5] st M := den_st (k := 4) (v := .int (x + (zI 1))) l_41_45 rfl
theorem l_41_48 : look (tab 41) 48 = some (.goto (-35), 3, [13], uu) := by decide +kernel
theorem e_41_48 : den cf 41 48 L st M = den cf 41 13 L st M := den_go l_41_48 rfl
theorem l_41_51 : look (tab 41) 51 = some (.iload_n 1, 1, [], uu) := by decide +kernel
theorem e_41_51 : den cf 41 51 [v0, .int x, v2, v3, v4, v5] st M = den cf 41 52 [v0, .int x, v2, v3, v4, v5] (.int x :: st) M := den_go l_41_51 rfl
theorem l_41_52 : look (tab 41) 52 = some (.ireturn, 1, [0], uu) := by decide +kernel
theorem e_41_52 : den cf 41 52 L [.int x] M = some (some (.int x), M) := den_e0 l_41_52
/-! yX2_allLengths -/
theorem l_42_0 : look (tab 42) 0 = some (.iconst 0, 1, [], .int (zI 0)) := by decide +kernel
theorem e_42_0 : den cf 42 0 L st M = den cf 42 1 L (.int (zI 0) :: st) M := den_go l_42_0 rfl
theorem l_42_1 : look (tab 42) 1 = some (.istore_n 1, 1, [], uu) := by decide +kernel
theorem e_42_1 : den cf 42 1 [v0, v1, v2, v3, v4, v5] (.int x :: st) M = den cf 42 2 [kq v0, .int x, v2, v3, v4, v5] st M := den_st (k := 1) (v := .int x) l_42_1 rfl
theorem l_42_2 : look (tab 42) 2 = some (.aload_n 0, 1, [], uu) := by decide +kernel
theorem e_42_2 : den cf 42 2 [.ref a, v1, v2, v3, v4, v5] st M = den cf 42 3 [.ref a, v1, v2, v3, v4, v5] (.ref a :: st) M := den_go l_42_2 rfl
theorem l_42_3 : look (tab 42) 3 = some (.getfield 11, 3, [2, 0, 39], uu) := by decide +kernel
theorem e_42_3 : den cf 42 3 L (.ref a :: st) M = oK (gfA (M.2.2 a) 2 0) (fun v => den cf 42 6 L (v :: st) M) := den_gf l_42_3
theorem l_42_6 : look (tab 42) 6 = some (.astore_n 2, 1, [], uu) := by decide +kernel
theorem e_42_6 : den cf 42 6 [v0, v1, v2, v3, v4, v5] (v :: st) M = if isRf v = true then den cf 42 7 [v0, kq v1, v, v3, v4, v5] st M else none := den_as (k := 2) (v := v) l_42_6 rfl (Nat.le_of_ble_eq_true rfl)
theorem l_42_7 : look (tab 42) 7 = some (.aload_n 2, 1, [], uu) := by decide +kernel
theorem e_42_7 : den cf 42 7 [v0, v1, v2, v3, v4, v5] st M = if isRf v2 = true then den cf 42 8 [v0, v1, v2, v3, v4, v5] (v2 :: st) M else none := den_g l_42_7 rfl
theorem l_42_8 : look (tab 42) 8 = some (.arraylength, 1, [], uu) := by decide +kernel
theorem e_42_8 : den cf 42 8 L (.ref a :: st) M = oK (lenA (M.2.2 a)) (fun n => den cf 42 9 L (.int (zI n) :: st) M) := den_len l_42_8
theorem l_42_9 : look (tab 42) 9 = some (.istore_n 3, 1, [], uu) := by decide +kernel
theorem e_42_9 : den cf 42 9 [v0, v1, v2, v3, v4, v5] (.int x :: st) M = den cf 42 10 [v0, v1, kq v2, .int x, v4, v5] st M := den_st (k := 3) (v := .int x) l_42_9 rfl
theorem l_42_10 : look (tab 42) 10 = some (.iconst 0, 1, [], .int (zI 0)) := by decide +kernel
theorem e_42_10 : den cf 42 10 L st M = den cf 42 11 L (.int (zI 0) :: st) M := den_go l_42_10 rfl
theorem l_42_11 : look (tab 42) 11 = some (.istore 4, 2, [], uu) := by decide +kernel
theorem e_42_11 : den cf 42 11 [v0, v1, v2, v3, v4, v5] (.int x :: st) M = den cf 42 13 [v0, v1, v2, kq v3, .int x, v5] st M := den_st (k := 4) (v := .int x) l_42_11 rfl
theorem l_42_13 : look (tab 42) 13 = some (.iload 4, 2, [], uu) := by decide +kernel
theorem e_42_13 : den cf 42 13 [v0, v1, v2, v3, .int x, v5] st M = den cf 42 15 [v0, v1, v2, v3, .int x, v5] (.int x :: st) M := den_go l_42_13 rfl
theorem l_42_15 : look (tab 42) 15 = some (.iload_n 3, 1, [], uu) := by decide +kernel
theorem e_42_15 : den cf 42 15 [v0, v1, v2, .int x, v4, v5] st M = den cf 42 16 [v0, v1, v2, .int x, v4, v5] (.int x :: st) M := den_go l_42_15 rfl
theorem l_42_16 : look (tab 42) 16 = some (.if_icmp .ge 31, 3, [47], uu) := by decide +kernel
theorem e_42_16 : den cf 42 16 L (.int y :: .int x :: st) M = if x < y then den cf 42 19 L st M else den cf 42 47 L st M := den_ic_ge l_42_16
theorem l_42_19 : look (tab 42) 19 = some (.aload_n 2, 1, [], uu) := by decide +kernel
theorem e_42_19 : den cf 42 19 [v0, v1, v2, v3, v4, v5] st M = if isRf v2 = true then den cf 42 20 [v0, v1, v2, v3, v4, v5] (v2 :: st) M else none := den_g l_42_19 rfl
theorem l_42_20 : look (tab 42) 20 = some (.iload 4, 2, [], uu) := by decide +kernel
theorem e_42_20 : den cf 42 20 [v0, v1, v2, v3, .int x, v5] st M = den cf 42 22 [v0, v1, v2, v3, .int x, v5] (.int x :: st) M := den_go l_42_20 rfl
theorem l_42_22 : look (tab 42) 22 = some (.aaload, 1, [], uu) := by decide +kernel
theorem e_42_22 : den cf 42 22 L (.int x :: .ref a :: st) M = oK (ldQ (M.2.2 a) x) (fun v => den cf 42 23 L (v :: st) M) := den_al (g := ldQ) l_42_22 rfl
theorem l_42_23 : look (tab 42) 23 = some (.astore 5, 2, [], uu) := by decide +kernel
theorem e_42_23 : den cf 42 23 [v0, v1, v2, v3, v4, v5] (v :: st) M = if isRf v = true then den cf 42 25 [v0, v1, v2, v3, kq v4, v] st M else none := den_as (k := 5) (v := v) l_42_23 rfl (Nat.le_of_ble_eq_true rfl)
theorem l_42_25 : look (tab 42) 25 = some (.aload 5, 2, [], uu) := by decide +kernel
theorem e_42_25 : den cf 42 25 [v0, v1, v2, v3, v4, v5] st M = if isRf v5 = true then den cf 42 27 [v0, v1, v2, v3, v4, v5] (v5 :: st) M else none := den_g l_42_25 rfl
theorem l_42_27 : look (tab 42) 27 = some (.getfield 111, 3, [1, 1, 820], uu) := by decide +kernel
theorem e_42_27 : den cf 42 27 L (.ref a :: st) M = oK (gfA (M.2.2 a) 1 1) (fun v => den cf 42 30 L (v :: st) M) := den_gf l_42_27
theorem l_42_30 : look (tab 42) 30 = some (.ifCond .eq 11, 3, [41], uu) := by decide +kernel
theorem e_42_30 : den cf 42 30 L (.int x :: st) M = if x = zI 0 then den cf 42 41 L st M else den cf 42 33 L st M := den_if_eq l_42_30
theorem l_42_33 : look (tab 42) 33 = some (.iload_n 1, 1, [], uu) := by decide +kernel
theorem e_42_33 : den cf 42 33 [v0, .int x, v2, v3, v4, v5] st M = den cf 42 34 [v0, .int x, v2, v3, v4, v5] (.int x :: st) M := den_go l_42_33 rfl
theorem l_42_34 : look (tab 42) 34 = some (.aload 5, 2, [], uu) := by decide +kernel
theorem e_42_34 : den cf 42 34 [v0, v1, v2, v3, v4, v5] st M = if isRf v5 = true then den cf 42 36 [v0, v1, v2, v3, v4, v5] (v5 :: st) M else none := den_g l_42_34 rfl
theorem l_42_36 : look (tab 42) 36 = some (.getfield 72, 3, [1, 9, 251], uu) := by decide +kernel
theorem e_42_36 : den cf 42 36 L (.ref a :: st) M = oK (gfA (M.2.2 a) 1 9) (fun v => den cf 42 39 L (v :: st) M) := den_gf l_42_36
theorem l_42_39 : look (tab 42) 39 = some (.iadd, 1, [], uu) := by decide +kernel
theorem e_42_39 : den cf 42 39 L (.int y :: .int x :: st) M = den cf 42 40 L (.int (x + y) :: st) M := den_go l_42_39 rfl
theorem l_42_40 : look (tab 42) 40 = some (.istore_n 1, 1, [], uu) := by decide +kernel
theorem e_42_40 : den cf 42 40 [v0, v1, v2, v3, v4, v5] (.int x :: st) M = den cf 42 41 [kq v0, .int x, v2, v3, v4, v5] st M := den_st (k := 1) (v := .int x) l_42_40 rfl
theorem l_42_41 : look (tab 42) 41 = some (.iinc 4 1, 3, [], .int (zI 1)) := by decide +kernel
theorem e_42_41 : den cf 42 41 [v0, v1, v2, v3, .int x, v5] st M = den cf 42 44 [v0, v1, v2, kq v3, .int (x + (zI 1)), v5] st M := den_st (k := 4) (v := .int (x + (zI 1))) l_42_41 rfl
theorem l_42_44 : look (tab 42) 44 = some (.goto (-31), 3, [13], uu) := by decide +kernel
theorem e_42_44 : den cf 42 44 L st M = den cf 42 13 L st M := den_go l_42_44 rfl
theorem l_42_47 : look (tab 42) 47 = some (.iload_n 1, 1, [], uu) := by decide +kernel
theorem e_42_47 : den cf 42 47 [v0, .int x, v2, v3, v4, v5] st M = den cf 42 48 [v0, .int x, v2, v3, v4, v5] (.int x :: st) M := den_go l_42_47 rfl
theorem l_42_48 : look (tab 42) 48 = some (.ireturn, 1, [0], uu) := by decide +kernel
theorem e_42_48 : den cf 42 48 L [.int x] M = some (some (.int x), M) := den_e0 l_42_48
/-! yX2_longestSilent -/
theorem l_43_0 : look (tab 43) 0 = some (.iconst 0, 1, [], .int (zI 0)) := by decide +kernel
theorem e_43_0 : den cf 43 0 L st M = den cf 43 1 L (.int (zI 0) :: st) M := den_go l_43_0 rfl
theorem l_43_1 : look (tab 43) 1 = some (.istore_n 1, 1, [], uu) := by decide +kernel
theorem e_43_1 : den cf 43 1 [v0, v1, v2, v3, v4, v5] (.int x :: st) M = den cf 43 2 [kq v0, .int x, v2, v3, v4, v5] st M := den_st (k := 1) (v := .int x) l_43_1 rfl
theorem l_43_2 : look (tab 43) 2 = some (.aload_n 0, 1, [], uu) := by decide +kernel
theorem e_43_2 : den cf 43 2 [.ref a, v1, v2, v3, v4, v5] st M = den cf 43 3 [.ref a, v1, v2, v3, v4, v5] (.ref a :: st) M := den_go l_43_2 rfl
theorem l_43_3 : look (tab 43) 3 = some (.getfield 11, 3, [2, 0, 39], uu) := by decide +kernel
theorem e_43_3 : den cf 43 3 L (.ref a :: st) M = oK (gfA (M.2.2 a) 2 0) (fun v => den cf 43 6 L (v :: st) M) := den_gf l_43_3
theorem l_43_6 : look (tab 43) 6 = some (.astore_n 2, 1, [], uu) := by decide +kernel
theorem e_43_6 : den cf 43 6 [v0, v1, v2, v3, v4, v5] (v :: st) M = if isRf v = true then den cf 43 7 [v0, kq v1, v, v3, v4, v5] st M else none := den_as (k := 2) (v := v) l_43_6 rfl (Nat.le_of_ble_eq_true rfl)
theorem l_43_7 : look (tab 43) 7 = some (.aload_n 2, 1, [], uu) := by decide +kernel
theorem e_43_7 : den cf 43 7 [v0, v1, v2, v3, v4, v5] st M = if isRf v2 = true then den cf 43 8 [v0, v1, v2, v3, v4, v5] (v2 :: st) M else none := den_g l_43_7 rfl
theorem l_43_8 : look (tab 43) 8 = some (.arraylength, 1, [], uu) := by decide +kernel
theorem e_43_8 : den cf 43 8 L (.ref a :: st) M = oK (lenA (M.2.2 a)) (fun n => den cf 43 9 L (.int (zI n) :: st) M) := den_len l_43_8
theorem l_43_9 : look (tab 43) 9 = some (.istore_n 3, 1, [], uu) := by decide +kernel
theorem e_43_9 : den cf 43 9 [v0, v1, v2, v3, v4, v5] (.int x :: st) M = den cf 43 10 [v0, v1, kq v2, .int x, v4, v5] st M := den_st (k := 3) (v := .int x) l_43_9 rfl
theorem l_43_10 : look (tab 43) 10 = some (.iconst 0, 1, [], .int (zI 0)) := by decide +kernel
theorem e_43_10 : den cf 43 10 L st M = den cf 43 11 L (.int (zI 0) :: st) M := den_go l_43_10 rfl
theorem l_43_11 : look (tab 43) 11 = some (.istore 4, 2, [], uu) := by decide +kernel
theorem e_43_11 : den cf 43 11 [v0, v1, v2, v3, v4, v5] (.int x :: st) M = den cf 43 13 [v0, v1, v2, kq v3, .int x, v5] st M := den_st (k := 4) (v := .int x) l_43_11 rfl
theorem l_43_13 : look (tab 43) 13 = some (.iload 4, 2, [], uu) := by decide +kernel
theorem e_43_13 : den cf 43 13 [v0, v1, v2, v3, .int x, v5] st M = den cf 43 15 [v0, v1, v2, v3, .int x, v5] (.int x :: st) M := den_go l_43_13 rfl
theorem l_43_15 : look (tab 43) 15 = some (.iload_n 3, 1, [], uu) := by decide +kernel
theorem e_43_15 : den cf 43 15 [v0, v1, v2, .int x, v4, v5] st M = den cf 43 16 [v0, v1, v2, .int x, v4, v5] (.int x :: st) M := den_go l_43_15 rfl
theorem l_43_16 : look (tab 43) 16 = some (.if_icmp .ge 33, 3, [49], uu) := by decide +kernel
theorem e_43_16 : den cf 43 16 L (.int y :: .int x :: st) M = if x < y then den cf 43 19 L st M else den cf 43 49 L st M := den_ic_ge l_43_16
theorem l_43_19 : look (tab 43) 19 = some (.aload_n 2, 1, [], uu) := by decide +kernel
theorem e_43_19 : den cf 43 19 [v0, v1, v2, v3, v4, v5] st M = if isRf v2 = true then den cf 43 20 [v0, v1, v2, v3, v4, v5] (v2 :: st) M else none := den_g l_43_19 rfl
theorem l_43_20 : look (tab 43) 20 = some (.iload 4, 2, [], uu) := by decide +kernel
theorem e_43_20 : den cf 43 20 [v0, v1, v2, v3, .int x, v5] st M = den cf 43 22 [v0, v1, v2, v3, .int x, v5] (.int x :: st) M := den_go l_43_20 rfl
theorem l_43_22 : look (tab 43) 22 = some (.aaload, 1, [], uu) := by decide +kernel
theorem e_43_22 : den cf 43 22 L (.int x :: .ref a :: st) M = oK (ldQ (M.2.2 a) x) (fun v => den cf 43 23 L (v :: st) M) := den_al (g := ldQ) l_43_22 rfl
theorem l_43_23 : look (tab 43) 23 = some (.astore 5, 2, [], uu) := by decide +kernel
theorem e_43_23 : den cf 43 23 [v0, v1, v2, v3, v4, v5] (v :: st) M = if isRf v = true then den cf 43 25 [v0, v1, v2, v3, kq v4, v] st M else none := den_as (k := 5) (v := v) l_43_23 rfl (Nat.le_of_ble_eq_true rfl)
theorem l_43_25 : look (tab 43) 25 = some (.aload 5, 2, [], uu) := by decide +kernel
theorem e_43_25 : den cf 43 25 [v0, v1, v2, v3, v4, v5] st M = if isRf v5 = true then den cf 43 27 [v0, v1, v2, v3, v4, v5] (v5 :: st) M else none := den_g l_43_25 rfl
theorem l_43_27 : look (tab 43) 27 = some (.getfield 111, 3, [1, 1, 820], uu) := by decide +kernel
theorem e_43_27 : den cf 43 27 L (.ref a :: st) M = oK (gfA (M.2.2 a) 1 1) (fun v => den cf 43 30 L (v :: st) M) := den_gf l_43_27
theorem l_43_30 : look (tab 43) 30 = some (.ifCond .eq 13, 3, [43], uu) := by decide +kernel
theorem e_43_30 : den cf 43 30 L (.int x :: st) M = if x = zI 0 then den cf 43 43 L st M else den cf 43 33 L st M := den_if_eq l_43_30
theorem l_43_33 : look (tab 43) 33 = some (.iload_n 1, 1, [], uu) := by decide +kernel
theorem e_43_33 : den cf 43 33 [v0, .int x, v2, v3, v4, v5] st M = den cf 43 34 [v0, .int x, v2, v3, v4, v5] (.int x :: st) M := den_go l_43_33 rfl
theorem l_43_34 : look (tab 43) 34 = some (.aload 5, 2, [], uu) := by decide +kernel
theorem e_43_34 : den cf 43 34 [v0, v1, v2, v3, v4, v5] st M = if isRf v5 = true then den cf 43 36 [v0, v1, v2, v3, v4, v5] (v5 :: st) M else none := den_g l_43_34 rfl
theorem l_43_36 : look (tab 43) 36 = some (.getfield 58, 3, [1, 8, 245], uu) := by decide +kernel
theorem e_43_36 : den cf 43 36 L (.ref a :: st) M = oK (gfA (M.2.2 a) 1 8) (fun v => den cf 43 39 L (v :: st) M) := den_gf l_43_36
theorem l_43_39 : look (tab 43) 39 = some (.invokestatic 84, 3, [1, 243, 2, 257, 258, 255], uu) := by decide +kernel
theorem e_43_39 : den cf 43 39 L (w2 :: w1 :: st) M = if st.length ≤ 4 then rK (cf 243 [w1, w2] M) (fun v M' => den cf 43 42 L (pR v st) M') else none := den_ist [w1, w2] l_43_39 rfl
theorem l_43_42 : look (tab 43) 42 = some (.istore_n 1, 1, [], uu) := by decide +kernel
theorem e_43_42 : den cf 43 42 [v0, v1, v2, v3, v4, v5] (.int x :: st) M = den cf 43 43 [kq v0, .int x, v2, v3, v4, v5] st M := den_st (k := 1) (v := .int x) l_43_42 rfl
theorem l_43_43 : look (tab 43) 43 = some (.iinc 4 1, 3, [], .int (zI 1)) := by decide +kernel
theorem e_43_43 : den cf 43 43 [v0, v1, v2, v3, .int x, v5] st M = den cf 43 46 [v0, v1, v2, kq v3, .int (x + (zI 1)), v5] st M := den_st (k := 4) (v := .int (x + (zI 1))) l_43_43 rfl
theorem l_43_46 : look (tab 43) 46 = some (.goto (-33), 3, [13], uu) := by decide +kernel
theorem e_43_46 : den cf 43 46 L st M = den cf 43 13 L st M := den_go l_43_46 rfl
theorem l_43_49 : look (tab 43) 49 = some (.iload_n 1, 1, [], uu) := by decide +kernel
theorem e_43_49 : den cf 43 49 [v0, .int x, v2, v3, v4, v5] st M = den cf 43 50 [v0, .int x, v2, v3, v4, v5] (.int x :: st) M := den_go l_43_49 rfl
theorem l_43_50 : look (tab 43) 50 = some (.ireturn, 1, [0], uu) := by decide +kernel
theorem e_43_50 : den cf 43 50 L [.int x] M = some (some (.int x), M) := den_e0 l_43_50
/-! yX2_couldHaveTold -/
theorem l_44_0 : look (tab 44) 0 = some (.aload_n 0, 1, [], uu) := by decide +kernel
theorem e_44_0 : den cf 44 0 [.ref a, v1, v2, v3, v4, v5, v6, v7] st M = den cf 44 1 [.ref a, v1, v2, v3, v4, v5, v6, v7] (.ref a :: st) M := den_go l_44_0 rfl
theorem l_44_1 : look (tab 44) 1 = some (.iload_n 1, 1, [], uu) := by decide +kernel
theorem e_44_1 : den cf 44 1 [v0, .int x, v2, v3, v4, v5, v6, v7] st M = den cf 44 2 [v0, .int x, v2, v3, v4, v5, v6, v7] (.int x :: st) M := den_go l_44_1 rfl
theorem l_44_2 : look (tab 44) 2 = some (.invokevirtual 54, 3, [2, 24, 2, 438, 210, 211, 15], uu) := by decide +kernel
theorem e_44_2 : den cf 44 2 L (w1 :: .ref a :: st) M = if rcv M 2 [.ref a, w1] = true ∧ st.length ≤ 4 then rK (cf 24 [.ref a, w1] M) (fun v M' => den cf 44 5 L (pR v st) M') else none := den_iv [w1] l_44_2 rfl
theorem l_44_5 : look (tab 44) 5 = some (.astore 5, 2, [], uu) := by decide +kernel
theorem e_44_5 : den cf 44 5 [v0, v1, v2, v3, v4, v5, v6, v7] (v :: st) M = if isRf v = true then den cf 44 7 [v0, v1, v2, v3, kq v4, v, v6, v7] st M else none := den_as (k := 5) (v := v) l_44_5 rfl (Nat.le_of_ble_eq_true rfl)
theorem l_44_7 : look (tab 44) 7 = some (.aload 5, 2, [], uu) := by decide +kernel
theorem e_44_7 : den cf 44 7 [v0, v1, v2, v3, v4, v5, v6, v7] st M = if isRf v5 = true then den cf 44 9 [v0, v1, v2, v3, v4, v5, v6, v7] (v5 :: st) M else none := den_g l_44_7 rfl
theorem l_44_9 : look (tab 44) 9 = some (.ifnonnull 5, 3, [14], uu) := by decide +kernel
theorem e_44_9 : den cf 44 9 L (va_rf o :: st) M = oN o (den cf 44 12 L st M) (den cf 44 14 L st M) := den_nn l_44_9
theorem e_44_9_n : den cf 44 9 L (.null :: st) M = den cf 44 12 L st M := den_go l_44_9 rfl
theorem e_44_9_r : den cf 44 9 L (.ref a :: st) M = den cf 44 14 L st M := den_go l_44_9 rfl
theorem l_44_12 : look (tab 44) 12 = some (.iconst 0, 1, [], .int (zI 0)) := by decide +kernel
theorem e_44_12 : den cf 44 12 L st M = den cf 44 13 L (.int (zI 0) :: st) M := den_go l_44_12 rfl
theorem l_44_13 : look (tab 44) 13 = some (.ireturn, 1, [1], uu) := by decide +kernel
theorem e_44_13 : den cf 44 13 L [.int x] M = if x = zI 0 ∨ x = zI 1 then some (some (.int x), M) else none := den_e1 l_44_13
theorem l_44_14 : look (tab 44) 14 = some (.aload 5, 2, [], uu) := by decide +kernel
theorem e_44_14 : den cf 44 14 [v0, v1, v2, v3, v4, v5, v6, v7] st M = if isRf v5 = true then den cf 44 16 [v0, v1, v2, v3, v4, v5, v6, v7] (v5 :: st) M else none := den_g l_44_14 rfl
theorem l_44_16 : look (tab 44) 16 = some (.iload_n 2, 1, [], uu) := by decide +kernel
theorem e_44_16 : den cf 44 16 [v0, v1, .int x, v3, v4, v5, v6, v7] st M = den cf 44 17 [v0, v1, .int x, v3, v4, v5, v6, v7] (.int x :: st) M := den_go l_44_16 rfl
theorem l_44_17 : look (tab 44) 17 = some (.putfield 69, 3, [1, 2, 0, 250, 0], uu) := by decide +kernel
theorem e_44_17 : den cf 44 17 L (.int x :: .ref a :: st) M = oK (pfA (M.2.2 a) 1 2 (.int x)) (fun c => den cf 44 20 L st (mU M a c)) := den_pf0 l_44_17
theorem l_44_20 : look (tab 44) 20 = some (.iconst 0, 1, [], .int (zI 0)) := by decide +kernel
theorem e_44_20 : den cf 44 20 L st M = den cf 44 21 L (.int (zI 0) :: st) M := den_go l_44_20 rfl
theorem l_44_21 : look (tab 44) 21 = some (.istore 6, 2, [], uu) := by decide +kernel
theorem e_44_21 : den cf 44 21 [v0, v1, v2, v3, v4, v5, v6, v7] (.int x :: st) M = den cf 44 23 [v0, v1, v2, v3, v4, kq v5, .int x, v7] st M := den_st (k := 6) (v := .int x) l_44_21 rfl
theorem l_44_23 : look (tab 44) 23 = some (.iload 6, 2, [], uu) := by decide +kernel
theorem e_44_23 : den cf 44 23 [v0, v1, v2, v3, v4, v5, .int x, v7] st M = den cf 44 25 [v0, v1, v2, v3, v4, v5, .int x, v7] (.int x :: st) M := den_go l_44_23 rfl
theorem l_44_25 : look (tab 44) 25 = some (.iload 4, 2, [], uu) := by decide +kernel
theorem e_44_25 : den cf 44 25 [v0, v1, v2, v3, .int x, v5, v6, v7] st M = den cf 44 27 [v0, v1, v2, v3, .int x, v5, v6, v7] (.int x :: st) M := den_go l_44_25 rfl
theorem l_44_27 : look (tab 44) 27 = some (.if_icmp .ge 65, 3, [92], uu) := by decide +kernel
theorem e_44_27 : den cf 44 27 L (.int y :: .int x :: st) M = if x < y then den cf 44 30 L st M else den cf 44 92 L st M := den_ic_ge l_44_27
theorem l_44_30 : look (tab 44) 30 = some (.aload_n 0, 1, [], uu) := by decide +kernel
theorem e_44_30 : den cf 44 30 [.ref a, v1, v2, v3, v4, v5, v6, v7] st M = den cf 44 31 [.ref a, v1, v2, v3, v4, v5, v6, v7] (.ref a :: st) M := den_go l_44_30 rfl
theorem l_44_31 : look (tab 44) 31 = some (.aload 5, 2, [], uu) := by decide +kernel
theorem e_44_31 : den cf 44 31 [v0, v1, v2, v3, v4, v5, v6, v7] st M = if isRf v5 = true then den cf 44 33 [v0, v1, v2, v3, v4, v5, v6, v7] (v5 :: st) M else none := den_g l_44_31 rfl
theorem l_44_33 : look (tab 44) 33 = some (.aload 5, 2, [], uu) := by decide +kernel
theorem e_44_33 : den cf 44 33 [v0, v1, v2, v3, v4, v5, v6, v7] st M = if isRf v5 = true then den cf 44 35 [v0, v1, v2, v3, v4, v5, v6, v7] (v5 :: st) M else none := den_g l_44_33 rfl
theorem l_44_35 : look (tab 44) 35 = some (.getfield 47, 3, [1, 6, 432], uu) := by decide +kernel
theorem e_44_35 : den cf 44 35 L (.ref a :: st) M = oK (gfA (M.2.2 a) 1 6) (fun v => den cf 44 38 L (v :: st) M) := den_gf l_44_35
theorem l_44_38 : look (tab 44) 38 = some (.invokevirtual 99, 3, [2, 27, 3, 669, 242, 243, 15], uu) := by decide +kernel
theorem e_44_38 : den cf 44 38 L (w2 :: w1 :: .ref a :: st) M = if rcv M 2 [.ref a, w1, w2] = true ∧ st.length ≤ 4 then rK (cf 27 [.ref a, w1, w2] M) (fun v M' => den cf 44 41 L (pR v st) M') else none := den_iv [w1, w2] l_44_38 rfl
theorem l_44_41 : look (tab 44) 41 = some (.istore 7, 2, [], uu) := by decide +kernel
theorem e_44_41 : den cf 44 41 [v0, v1, v2, v3, v4, v5, v6, v7] (.int x :: st) M = den cf 44 43 [v0, v1, v2, v3, v4, v5, kq v6, .int x] st M := den_st (k := 7) (v := .int x) l_44_41 rfl
theorem l_44_43 : look (tab 44) 43 = some (.aload_n 3, 1, [], uu) := by decide +kernel
theorem e_44_43 : den cf 44 43 [v0, v1, v2, v3, v4, v5, v6, v7] st M = if isRf v3 = true then den cf 44 44 [v0, v1, v2, v3, v4, v5, v6, v7] (v3 :: st) M else none := den_g l_44_43 rfl
theorem l_44_44 : look (tab 44) 44 = some (.iload 6, 2, [], uu) := by decide +kernel
theorem e_44_44 : den cf 44 44 [v0, v1, v2, v3, v4, v5, .int x, v7] st M = den cf 44 46 [v0, v1, v2, v3, v4, v5, .int x, v7] (.int x :: st) M := den_go l_44_44 rfl
theorem l_44_46 : look (tab 44) 46 = some (.invokevirtual 128, 3, [3, 56, 2, 1068, 189, 190, 27], uu) := by decide +kernel
theorem e_44_46 : den cf 44 46 L (w1 :: .ref a :: st) M = if rcv M 3 [.ref a, w1] = true ∧ st.length ≤ 4 then rK (cf 56 [.ref a, w1] M) (fun v M' => den cf 44 49 L (pR v st) M') else none := den_iv [w1] l_44_46 rfl
theorem l_44_49 : look (tab 44) 49 = some (.lconst 1, 1, [], .long (zJ 1)) := by decide +kernel
theorem e_44_49 : den cf 44 49 L st M = den cf 44 50 L (.long (zJ 1) :: st) M := den_go l_44_49 rfl
theorem l_44_50 : look (tab 44) 50 = some (.lcmp, 1, [], uu) := by decide +kernel
theorem e_44_50 : den cf 44 50 L (.long q :: .long p :: st) M = den cf 44 51 L (.int (lg_cmp p q) :: st) M := den_go l_44_50 rfl
theorem l_44_51 : look (tab 44) 51 = some (.ifCond .ne 20, 3, [71], uu) := by decide +kernel
theorem e_44_51 : den cf 44 51 L (.int x :: st) M = if x = zI 0 then den cf 44 54 L st M else den cf 44 71 L st M := den_if_ne l_44_51
theorem l_44_54 : look (tab 44) 54 = some (.iload 7, 2, [], uu) := by decide +kernel
theorem e_44_54 : den cf 44 54 [v0, v1, v2, v3, v4, v5, v6, .int x] st M = den cf 44 56 [v0, v1, v2, v3, v4, v5, v6, .int x] (.int x :: st) M := den_go l_44_54 rfl
theorem l_44_56 : look (tab 44) 56 = some (.ifCond .ne 5, 3, [61], uu) := by decide +kernel
theorem e_44_56 : den cf 44 56 L (.int x :: st) M = if x = zI 0 then den cf 44 59 L st M else den cf 44 61 L st M := den_if_ne l_44_56
theorem l_44_59 : look (tab 44) 59 = some (.iconst 0, 1, [], .int (zI 0)) := by decide +kernel
theorem e_44_59 : den cf 44 59 L st M = den cf 44 60 L (.int (zI 0) :: st) M := den_go l_44_59 rfl
theorem l_44_60 : look (tab 44) 60 = some (.ireturn, 1, [1], uu) := by decide +kernel
theorem e_44_60 : den cf 44 60 L [.int x] M = if x = zI 0 ∨ x = zI 1 then some (some (.int x), M) else none := den_e1 l_44_60
theorem l_44_61 : look (tab 44) 61 = some (.aload_n 0, 1, [], uu) := by decide +kernel
theorem e_44_61 : den cf 44 61 [.ref a, v1, v2, v3, v4, v5, v6, v7] st M = den cf 44 62 [.ref a, v1, v2, v3, v4, v5, v6, v7] (.ref a :: st) M := den_go l_44_61 rfl
theorem l_44_62 : look (tab 44) 62 = some (.aload 5, 2, [], uu) := by decide +kernel
theorem e_44_62 : den cf 44 62 [v0, v1, v2, v3, v4, v5, v6, v7] st M = if isRf v5 = true then den cf 44 64 [v0, v1, v2, v3, v4, v5, v6, v7] (v5 :: st) M else none := den_g l_44_62 rfl
theorem l_44_64 : look (tab 44) 64 = some (.iconst 0, 1, [], .int (zI 0)) := by decide +kernel
theorem e_44_64 : den cf 44 64 L st M = den cf 44 65 L (.int (zI 0) :: st) M := den_go l_44_64 rfl
theorem l_44_65 : look (tab 44) 65 = some (.invokevirtual 134, 3, [2, 30, 3, 1069, 1013, 1014, 15], uu) := by decide +kernel
theorem e_44_65 : den cf 44 65 L (w2 :: w1 :: .ref a :: st) M = if rcv M 2 [.ref a, w1, w2] = true ∧ st.length ≤ 4 then rK (cf 30 [.ref a, w1, w2] M) (fun v M' => den cf 44 68 L (pR v st) M') else none := den_iv [w1, w2] l_44_65 rfl
theorem l_44_68 : look (tab 44) 68 = some (.goto 18, 3, [86], uu) := by decide +kernel
theorem e_44_68 : den cf 44 68 L st M = den cf 44 86 L st M := den_go l_44_68 rfl
theorem l_44_71 : look (tab 44) 71 = some (.iload 7, 2, [], uu) := by decide +kernel
theorem e_44_71 : den cf 44 71 [v0, v1, v2, v3, v4, v5, v6, .int x] st M = den cf 44 73 [v0, v1, v2, v3, v4, v5, v6, .int x] (.int x :: st) M := den_go l_44_71 rfl
theorem l_44_73 : look (tab 44) 73 = some (.bipush 12, 2, [], .int (zI 12)) := by decide +kernel
theorem e_44_73 : den cf 44 73 L st M = den cf 44 75 L (.int (zI 12) :: st) M := den_go l_44_73 rfl
theorem l_44_75 : look (tab 44) 75 = some (.if_icmp .ne 5, 3, [80], uu) := by decide +kernel
theorem e_44_75 : den cf 44 75 L (.int y :: .int x :: st) M = if x = y then den cf 44 78 L st M else den cf 44 80 L st M := den_ic_ne l_44_75
theorem l_44_78 : look (tab 44) 78 = some (.iconst 0, 1, [], .int (zI 0)) := by decide +kernel
theorem e_44_78 : den cf 44 78 L st M = den cf 44 79 L (.int (zI 0) :: st) M := den_go l_44_78 rfl
theorem l_44_79 : look (tab 44) 79 = some (.ireturn, 1, [1], uu) := by decide +kernel
theorem e_44_79 : den cf 44 79 L [.int x] M = if x = zI 0 ∨ x = zI 1 then some (some (.int x), M) else none := den_e1 l_44_79
theorem l_44_80 : look (tab 44) 80 = some (.aload_n 0, 1, [], uu) := by decide +kernel
theorem e_44_80 : den cf 44 80 [.ref a, v1, v2, v3, v4, v5, v6, v7] st M = den cf 44 81 [.ref a, v1, v2, v3, v4, v5, v6, v7] (.ref a :: st) M := den_go l_44_80 rfl
theorem l_44_81 : look (tab 44) 81 = some (.aload 5, 2, [], uu) := by decide +kernel
theorem e_44_81 : den cf 44 81 [v0, v1, v2, v3, v4, v5, v6, v7] st M = if isRf v5 = true then den cf 44 83 [v0, v1, v2, v3, v4, v5, v6, v7] (v5 :: st) M else none := den_g l_44_81 rfl
theorem l_44_83 : look (tab 44) 83 = some (.invokevirtual 138, 3, [2, 31, 2, 1070, 1071, 1072, 15], uu) := by decide +kernel
theorem e_44_83 : den cf 44 83 L (w1 :: .ref a :: st) M = if rcv M 2 [.ref a, w1] = true ∧ st.length ≤ 4 then rK (cf 31 [.ref a, w1] M) (fun v M' => den cf 44 86 L (pR v st) M') else none := den_iv [w1] l_44_83 rfl
theorem l_44_86 : look (tab 44) 86 = some (.iinc 6 1, 3, [], .int (zI 1)) := by decide +kernel
theorem e_44_86 : den cf 44 86 [v0, v1, v2, v3, v4, v5, .int x, v7] st M = den cf 44 89 [v0, v1, v2, v3, v4, kq v5, .int (x + (zI 1)), v7] st M := den_st (k := 6) (v := .int (x + (zI 1))) l_44_86 rfl
theorem l_44_89 : look (tab 44) 89 = some (.goto (-66), 3, [23], uu) := by decide +kernel
theorem e_44_89 : den cf 44 89 L st M = den cf 44 23 L st M := den_go l_44_89 rfl
theorem l_44_92 : look (tab 44) 92 = some (.iconst 1, 1, [], .int (zI 1)) := by decide +kernel
theorem e_44_92 : den cf 44 92 L st M = den cf 44 93 L (.int (zI 1) :: st) M := den_go l_44_92 rfl
theorem l_44_93 : look (tab 44) 93 = some (.ireturn, 1, [1], uu) := by decide +kernel
theorem e_44_93 : den cf 44 93 L [.int x] M = if x = zI 0 ∨ x = zI 1 then some (some (.int x), M) else none := den_e1 l_44_93
/-! yX2_tellDeed -/
theorem l_45_0 : look (tab 45) 0 = some (.lload_n 1, 1, [], uu) := by decide +kernel
theorem e_45_0 : den cf 45 0 [v0, .long p, v2, v3, v4, v5] st M = den cf 45 1 [v0, .long p, v2, v3, v4, v5] (.long p :: st) M := den_go l_45_0 rfl
theorem l_45_1 : look (tab 45) 1 = some (.ldc2_w 141, 3, [1102], .long (zJ 100)) := by decide +kernel
theorem e_45_1 : den cf 45 1 L st M = den cf 45 4 L (.long (zJ 100) :: st) M := den_go l_45_1 rfl
theorem l_45_4 : look (tab 45) 4 = some (.lcmp, 1, [], uu) := by decide +kernel
theorem e_45_4 : den cf 45 4 L (.long q :: .long p :: st) M = den cf 45 5 L (.int (lg_cmp p q) :: st) M := den_go l_45_4 rfl
theorem l_45_5 : look (tab 45) 5 = some (.ifCond .lt 11, 3, [16], uu) := by decide +kernel
theorem e_45_5 : den cf 45 5 L (.int x :: st) M = if x < zI 0 then den cf 45 16 L st M else den cf 45 8 L st M := den_if_lt l_45_5
theorem l_45_8 : look (tab 45) 8 = some (.lload_n 1, 1, [], uu) := by decide +kernel
theorem e_45_8 : den cf 45 8 [v0, .long p, v2, v3, v4, v5] st M = den cf 45 9 [v0, .long p, v2, v3, v4, v5] (.long p :: st) M := den_go l_45_8 rfl
theorem l_45_9 : look (tab 45) 9 = some (.ldc2_w 143, 3, [1103], .long (zJ 399)) := by decide +kernel
theorem e_45_9 : den cf 45 9 L st M = den cf 45 12 L (.long (zJ 399) :: st) M := den_go l_45_9 rfl
theorem l_45_12 : look (tab 45) 12 = some (.lcmp, 1, [], uu) := by decide +kernel
theorem e_45_12 : den cf 45 12 L (.long q :: .long p :: st) M = den cf 45 13 L (.int (lg_cmp p q) :: st) M := den_go l_45_12 rfl
theorem l_45_13 : look (tab 45) 13 = some (.ifCond .le 5, 3, [18], uu) := by decide +kernel
theorem e_45_13 : den cf 45 13 L (.int x :: st) M = if zI 0 < x then den cf 45 16 L st M else den cf 45 18 L st M := den_if_le l_45_13
theorem l_45_16 : look (tab 45) 16 = some (.iconst 0, 1, [], .int (zI 0)) := by decide +kernel
theorem e_45_16 : den cf 45 16 L st M = den cf 45 17 L (.int (zI 0) :: st) M := den_go l_45_16 rfl
theorem l_45_17 : look (tab 45) 17 = some (.ireturn, 1, [1], uu) := by decide +kernel
theorem e_45_17 : den cf 45 17 L [.int x] M = if x = zI 0 ∨ x = zI 1 then some (some (.int x), M) else none := den_e1 l_45_17
theorem l_45_18 : look (tab 45) 18 = some (.lload_n 1, 1, [], uu) := by decide +kernel
theorem e_45_18 : den cf 45 18 [v0, .long p, v2, v3, v4, v5] st M = den cf 45 19 [v0, .long p, v2, v3, v4, v5] (.long p :: st) M := den_go l_45_18 rfl
theorem l_45_19 : look (tab 45) 19 = some (.ldc2_w 141, 3, [1102], .long (zJ 100)) := by decide +kernel
theorem e_45_19 : den cf 45 19 L st M = den cf 45 22 L (.long (zJ 100) :: st) M := den_go l_45_19 rfl
theorem l_45_22 : look (tab 45) 22 = some (.ldiv, 1, [], uu) := by decide +kernel
theorem e_45_22 : den cf 45 22 L (.long q :: .long p :: st) M = if q = zJ 0 then none else den cf 45 23 L (.long (p / q) :: st) M := den_dl (f := fun p q => p / q) l_45_22 rfl
theorem l_45_23 : look (tab 45) 23 = some (.l2i, 1, [], uu) := by decide +kernel
theorem e_45_23 : den cf 45 23 L (.long p :: st) M = den cf 45 24 L (.int p.toInt32 :: st) M := den_go l_45_23 rfl
theorem l_45_24 : look (tab 45) 24 = some (.istore_n 3, 1, [], uu) := by decide +kernel
theorem e_45_24 : den cf 45 24 [v0, v1, v2, v3, v4, v5] (.int x :: st) M = den cf 45 25 [v0, v1, kq v2, .int x, v4, v5] st M := den_st (k := 3) (v := .int x) l_45_24 rfl
theorem l_45_25 : look (tab 45) 25 = some (.aload_n 0, 1, [], uu) := by decide +kernel
theorem e_45_25 : den cf 45 25 [.ref a, v1, v2, v3, v4, v5] st M = den cf 45 26 [.ref a, v1, v2, v3, v4, v5] (.ref a :: st) M := den_go l_45_25 rfl
theorem l_45_26 : look (tab 45) 26 = some (.lload_n 1, 1, [], uu) := by decide +kernel
theorem e_45_26 : den cf 45 26 [v0, .long p, v2, v3, v4, v5] st M = den cf 45 27 [v0, .long p, v2, v3, v4, v5] (.long p :: st) M := den_go l_45_26 rfl
theorem l_45_27 : look (tab 45) 27 = some (.ldc2_w 141, 3, [1102], .long (zJ 100)) := by decide +kernel
theorem e_45_27 : den cf 45 27 L st M = den cf 45 30 L (.long (zJ 100) :: st) M := den_go l_45_27 rfl
theorem l_45_30 : look (tab 45) 30 = some (.lrem, 1, [], uu) := by decide +kernel
theorem e_45_30 : den cf 45 30 L (.long q :: .long p :: st) M = if q = zJ 0 then none else den cf 45 31 L (.long (p - p / q * q) :: st) M := den_dl (f := fun p q => p - p / q * q) l_45_30 rfl
theorem l_45_31 : look (tab 45) 31 = some (.l2i, 1, [], uu) := by decide +kernel
theorem e_45_31 : den cf 45 31 L (.long p :: st) M = den cf 45 32 L (.int p.toInt32 :: st) M := den_go l_45_31 rfl
theorem l_45_32 : look (tab 45) 32 = some (.invokevirtual 54, 3, [2, 24, 2, 438, 210, 211, 15], uu) := by decide +kernel
theorem e_45_32 : den cf 45 32 L (w1 :: .ref a :: st) M = if rcv M 2 [.ref a, w1] = true ∧ st.length ≤ 4 then rK (cf 24 [.ref a, w1] M) (fun v M' => den cf 45 35 L (pR v st) M') else none := den_iv [w1] l_45_32 rfl
theorem l_45_35 : look (tab 45) 35 = some (.astore 4, 2, [], uu) := by decide +kernel
theorem e_45_35 : den cf 45 35 [v0, v1, v2, v3, v4, v5] (v :: st) M = if isRf v = true then den cf 45 37 [v0, v1, v2, kq v3, v, v5] st M else none := den_as (k := 4) (v := v) l_45_35 rfl (Nat.le_of_ble_eq_true rfl)
theorem l_45_37 : look (tab 45) 37 = some (.aload 4, 2, [], uu) := by decide +kernel
theorem e_45_37 : den cf 45 37 [v0, v1, v2, v3, v4, v5] st M = if isRf v4 = true then den cf 45 39 [v0, v1, v2, v3, v4, v5] (v4 :: st) M else none := den_g l_45_37 rfl
theorem l_45_39 : look (tab 45) 39 = some (.ifnull 19, 3, [58], uu) := by decide +kernel
theorem e_45_39 : den cf 45 39 L (va_rf o :: st) M = oN o (den cf 45 58 L st M) (den cf 45 42 L st M) := den_nu l_45_39
theorem e_45_39_n : den cf 45 39 L (.null :: st) M = den cf 45 58 L st M := den_go l_45_39 rfl
theorem e_45_39_r : den cf 45 39 L (.ref a :: st) M = den cf 45 42 L st M := den_go l_45_39 rfl
theorem l_45_42 : look (tab 45) 42 = some (.aload 4, 2, [], uu) := by decide +kernel
theorem e_45_42 : den cf 45 42 [v0, v1, v2, v3, v4, v5] st M = if isRf v4 = true then den cf 45 44 [v0, v1, v2, v3, v4, v5] (v4 :: st) M else none := den_g l_45_42 rfl
theorem l_45_44 : look (tab 45) 44 = some (.getfield 47, 3, [1, 6, 432], uu) := by decide +kernel
theorem e_45_44 : den cf 45 44 L (.ref a :: st) M = oK (gfA (M.2.2 a) 1 6) (fun v => den cf 45 47 L (v :: st) M) := den_gf l_45_44
theorem l_45_47 : look (tab 45) 47 = some (.ifnull 11, 3, [58], uu) := by decide +kernel
theorem e_45_47 : den cf 45 47 L (va_rf o :: st) M = oN o (den cf 45 58 L st M) (den cf 45 50 L st M) := den_nu l_45_47
theorem e_45_47_n : den cf 45 47 L (.null :: st) M = den cf 45 58 L st M := den_go l_45_47 rfl
theorem e_45_47_r : den cf 45 47 L (.ref a :: st) M = den cf 45 50 L st M := den_go l_45_47 rfl
theorem l_45_50 : look (tab 45) 50 = some (.aload 4, 2, [], uu) := by decide +kernel
theorem e_45_50 : den cf 45 50 [v0, v1, v2, v3, v4, v5] st M = if isRf v4 = true then den cf 45 52 [v0, v1, v2, v3, v4, v5] (v4 :: st) M else none := den_g l_45_50 rfl
theorem l_45_52 : look (tab 45) 52 = some (.getfield 91, 3, [1, 7, 1016], uu) := by decide +kernel
theorem e_45_52 : den cf 45 52 L (.ref a :: st) M = oK (gfA (M.2.2 a) 1 7) (fun v => den cf 45 55 L (v :: st) M) := den_gf l_45_52
theorem l_45_55 : look (tab 45) 55 = some (.ifCond .ne 5, 3, [60], uu) := by decide +kernel
theorem e_45_55 : den cf 45 55 L (.int x :: st) M = if x = zI 0 then den cf 45 58 L st M else den cf 45 60 L st M := den_if_ne l_45_55
theorem l_45_58 : look (tab 45) 58 = some (.iconst 0, 1, [], .int (zI 0)) := by decide +kernel
theorem e_45_58 : den cf 45 58 L st M = den cf 45 59 L (.int (zI 0) :: st) M := den_go l_45_58 rfl
theorem l_45_59 : look (tab 45) 59 = some (.ireturn, 1, [1], uu) := by decide +kernel
theorem e_45_59 : den cf 45 59 L [.int x] M = if x = zI 0 ∨ x = zI 1 then some (some (.int x), M) else none := den_e1 l_45_59
theorem l_45_60 : look (tab 45) 60 = some (.aload_n 0, 1, [], uu) := by decide +kernel
theorem e_45_60 : den cf 45 60 [.ref a, v1, v2, v3, v4, v5] st M = den cf 45 61 [.ref a, v1, v2, v3, v4, v5] (.ref a :: st) M := den_go l_45_60 rfl
theorem l_45_61 : look (tab 45) 61 = some (.aload 4, 2, [], uu) := by decide +kernel
theorem e_45_61 : den cf 45 61 [v0, v1, v2, v3, v4, v5] st M = if isRf v4 = true then den cf 45 63 [v0, v1, v2, v3, v4, v5] (v4 :: st) M else none := den_g l_45_61 rfl
theorem l_45_63 : look (tab 45) 63 = some (.aload 4, 2, [], uu) := by decide +kernel
theorem e_45_63 : den cf 45 63 [v0, v1, v2, v3, v4, v5] st M = if isRf v4 = true then den cf 45 65 [v0, v1, v2, v3, v4, v5] (v4 :: st) M else none := den_g l_45_63 rfl
theorem l_45_65 : look (tab 45) 65 = some (.getfield 47, 3, [1, 6, 432], uu) := by decide +kernel
theorem e_45_65 : den cf 45 65 L (.ref a :: st) M = oK (gfA (M.2.2 a) 1 6) (fun v => den cf 45 68 L (v :: st) M) := den_gf l_45_65
theorem l_45_68 : look (tab 45) 68 = some (.invokevirtual 99, 3, [2, 27, 3, 669, 242, 243, 15], uu) := by decide +kernel
theorem e_45_68 : den cf 45 68 L (w2 :: w1 :: .ref a :: st) M = if rcv M 2 [.ref a, w1, w2] = true ∧ st.length ≤ 4 then rK (cf 27 [.ref a, w1, w2] M) (fun v M' => den cf 45 71 L (pR v st) M') else none := den_iv [w1, w2] l_45_68 rfl
theorem l_45_71 : look (tab 45) 71 = some (.istore 5, 2, [], uu) := by decide +kernel
theorem e_45_71 : den cf 45 71 [v0, v1, v2, v3, v4, v5] (.int x :: st) M = den cf 45 73 [v0, v1, v2, v3, kq v4, .int x] st M := den_st (k := 5) (v := .int x) l_45_71 rfl
theorem l_45_73 : look (tab 45) 73 = some (.iload 5, 2, [], uu) := by decide +kernel
theorem e_45_73 : den cf 45 73 [v0, v1, v2, v3, v4, .int x] st M = den cf 45 75 [v0, v1, v2, v3, v4, .int x] (.int x :: st) M := den_go l_45_73 rfl
theorem l_45_75 : look (tab 45) 75 = some (.iload_n 3, 1, [], uu) := by decide +kernel
theorem e_45_75 : den cf 45 75 [v0, v1, v2, .int x, v4, v5] st M = den cf 45 76 [v0, v1, v2, .int x, v4, v5] (.int x :: st) M := den_go l_45_75 rfl
theorem l_45_76 : look (tab 45) 76 = some (.iconst 3, 1, [], .int (zI 3)) := by decide +kernel
theorem e_45_76 : den cf 45 76 L st M = den cf 45 77 L (.int (zI 3) :: st) M := den_go l_45_76 rfl
theorem l_45_77 : look (tab 45) 77 = some (.if_icmp .ne 8, 3, [85], uu) := by decide +kernel
theorem e_45_77 : den cf 45 77 L (.int y :: .int x :: st) M = if x = y then den cf 45 80 L st M else den cf 45 85 L st M := den_ic_ne l_45_77
theorem l_45_80 : look (tab 45) 80 = some (.bipush 12, 2, [], .int (zI 12)) := by decide +kernel
theorem e_45_80 : den cf 45 80 L st M = den cf 45 82 L (.int (zI 12) :: st) M := den_go l_45_80 rfl
theorem l_45_82 : look (tab 45) 82 = some (.goto 4, 3, [86], uu) := by decide +kernel
theorem e_45_82 : den cf 45 82 L st M = den cf 45 86 L st M := den_go l_45_82 rfl
theorem l_45_85 : look (tab 45) 85 = some (.iconst 0, 1, [], .int (zI 0)) := by decide +kernel
theorem e_45_85 : den cf 45 85 L st M = den cf 45 86 L (.int (zI 0) :: st) M := den_go l_45_85 rfl
theorem l_45_86 : look (tab 45) 86 = some (.if_icmp .ne 5, 3, [91], uu) := by decide +kernel
theorem e_45_86 : den cf 45 86 L (.int y :: .int x :: st) M = if x = y then den cf 45 89 L st M else den cf 45 91 L st M := den_ic_ne l_45_86
theorem l_45_89 : look (tab 45) 89 = some (.iconst 0, 1, [], .int (zI 0)) := by decide +kernel
theorem e_45_89 : den cf 45 89 L st M = den cf 45 90 L (.int (zI 0) :: st) M := den_go l_45_89 rfl
theorem l_45_90 : look (tab 45) 90 = some (.ireturn, 1, [1], uu) := by decide +kernel
theorem e_45_90 : den cf 45 90 L [.int x] M = if x = zI 0 ∨ x = zI 1 then some (some (.int x), M) else none := den_e1 l_45_90
theorem l_45_91 : look (tab 45) 91 = some (.iload_n 3, 1, [], uu) := by decide +kernel
theorem e_45_91 : den cf 45 91 [v0, v1, v2, .int x, v4, v5] st M = den cf 45 92 [v0, v1, v2, .int x, v4, v5] (.int x :: st) M := den_go l_45_91 rfl
theorem l_45_92 : look (tab 45) 92 = some (.iconst 3, 1, [], .int (zI 3)) := by decide +kernel
theorem e_45_92 : den cf 45 92 L st M = den cf 45 93 L (.int (zI 3) :: st) M := den_go l_45_92 rfl
theorem l_45_93 : look (tab 45) 93 = some (.if_icmp .ne 12, 3, [105], uu) := by decide +kernel
theorem e_45_93 : den cf 45 93 L (.int y :: .int x :: st) M = if x = y then den cf 45 96 L st M else den cf 45 105 L st M := den_ic_ne l_45_93
theorem l_45_96 : look (tab 45) 96 = some (.aload_n 0, 1, [], uu) := by decide +kernel
theorem e_45_96 : den cf 45 96 [.ref a, v1, v2, v3, v4, v5] st M = den cf 45 97 [.ref a, v1, v2, v3, v4, v5] (.ref a :: st) M := den_go l_45_96 rfl
theorem l_45_97 : look (tab 45) 97 = some (.aload 4, 2, [], uu) := by decide +kernel
theorem e_45_97 : den cf 45 97 [v0, v1, v2, v3, v4, v5] st M = if isRf v4 = true then den cf 45 99 [v0, v1, v2, v3, v4, v5] (v4 :: st) M else none := den_g l_45_97 rfl
theorem l_45_99 : look (tab 45) 99 = some (.invokevirtual 138, 3, [2, 31, 2, 1070, 1071, 1072, 15], uu) := by decide +kernel
theorem e_45_99 : den cf 45 99 L (w1 :: .ref a :: st) M = if rcv M 2 [.ref a, w1] = true ∧ st.length ≤ 4 then rK (cf 31 [.ref a, w1] M) (fun v M' => den cf 45 102 L (pR v st) M') else none := den_iv [w1] l_45_99 rfl
theorem l_45_102 : look (tab 45) 102 = some (.goto 19, 3, [121], uu) := by decide +kernel
theorem e_45_102 : den cf 45 102 L st M = den cf 45 121 L st M := den_go l_45_102 rfl
theorem l_45_105 : look (tab 45) 105 = some (.aload_n 0, 1, [], uu) := by decide +kernel
theorem e_45_105 : den cf 45 105 [.ref a, v1, v2, v3, v4, v5] st M = den cf 45 106 [.ref a, v1, v2, v3, v4, v5] (.ref a :: st) M := den_go l_45_105 rfl
theorem l_45_106 : look (tab 45) 106 = some (.aload 4, 2, [], uu) := by decide +kernel
theorem e_45_106 : den cf 45 106 [v0, v1, v2, v3, v4, v5] st M = if isRf v4 = true then den cf 45 108 [v0, v1, v2, v3, v4, v5] (v4 :: st) M else none := den_g l_45_106 rfl
theorem l_45_108 : look (tab 45) 108 = some (.iload_n 3, 1, [], uu) := by decide +kernel
theorem e_45_108 : den cf 45 108 [v0, v1, v2, .int x, v4, v5] st M = den cf 45 109 [v0, v1, v2, .int x, v4, v5] (.int x :: st) M := den_go l_45_108 rfl
theorem l_45_109 : look (tab 45) 109 = some (.iconst 1, 1, [], .int (zI 1)) := by decide +kernel
theorem e_45_109 : den cf 45 109 L st M = den cf 45 110 L (.int (zI 1) :: st) M := den_go l_45_109 rfl
theorem l_45_110 : look (tab 45) 110 = some (.if_icmp .ne 7, 3, [117], uu) := by decide +kernel
theorem e_45_110 : den cf 45 110 L (.int y :: .int x :: st) M = if x = y then den cf 45 113 L st M else den cf 45 117 L st M := den_ic_ne l_45_110
theorem l_45_113 : look (tab 45) 113 = some (.iconst 1, 1, [], .int (zI 1)) := by decide +kernel
theorem e_45_113 : den cf 45 113 L st M = den cf 45 114 L (.int (zI 1) :: st) M := den_go l_45_113 rfl
theorem l_45_114 : look (tab 45) 114 = some (.goto 4, 3, [118], uu) := by decide +kernel
theorem e_45_114 : den cf 45 114 L st M = den cf 45 118 L st M := den_go l_45_114 rfl
theorem l_45_117 : look (tab 45) 117 = some (.iconst 0, 1, [], .int (zI 0)) := by decide +kernel
theorem e_45_117 : den cf 45 117 L st M = den cf 45 118 L (.int (zI 0) :: st) M := den_go l_45_117 rfl
theorem l_45_118 : look (tab 45) 118 = some (.invokevirtual 134, 3, [2, 30, 3, 1069, 1013, 1014, 15], uu) := by decide +kernel
theorem e_45_118 : den cf 45 118 L (w2 :: w1 :: .ref a :: st) M = if rcv M 2 [.ref a, w1, w2] = true ∧ st.length ≤ 4 then rK (cf 30 [.ref a, w1, w2] M) (fun v M' => den cf 45 121 L (pR v st) M') else none := den_iv [w1, w2] l_45_118 rfl
theorem l_45_121 : look (tab 45) 121 = some (.iconst 1, 1, [], .int (zI 1)) := by decide +kernel
theorem e_45_121 : den cf 45 121 L st M = den cf 45 122 L (.int (zI 1) :: st) M := den_go l_45_121 rfl
theorem l_45_122 : look (tab 45) 122 = some (.ireturn, 1, [1], uu) := by decide +kernel
theorem e_45_122 : den cf 45 122 L [.int x] M = if x = zI 0 ∨ x = zI 1 then some (some (.int x), M) else none := den_e1 l_45_122
