variable {cf : Nat → List Value → AM → Option AR} {L st : List Value} {M : AM} {x y : Int32} {p q : Int64} {a b : Nat} {v w : Value} {o : Option Nat} {v0 v1 v2 v3 v4 v5 v6 v7 v8 v9 v10 v11 v12 v13 v14 v15 v16 v17 v18 v19 v20 w1 w2 w3 w4 w5 w6 : Value}
/-! yX6_willOf -/
theorem l_177_0 : look (tab 177) 0 = some (.iconst 4, 1, [], .int (zI 4)) := by decide +kernel
theorem e_177_0 : den cf 177 0 L st M = den cf 177 1 L (.int (zI 4) :: st) M := den_go l_177_0 rfl
theorem l_177_1 : look (tab 177) 1 = some (.iconst 2, 1, [], .int (zI 2)) := by decide +kernel
theorem e_177_1 : den cf 177 1 L st M = den cf 177 2 L (.int (zI 2) :: st) M := den_go l_177_1 rfl
theorem l_177_2 : look (tab 177) 2 = some (.aload_n 0, 1, [], uu) := by decide +kernel
theorem e_177_2 : den cf 177 2 [.ref a, v1, v2, v3] st M = den cf 177 3 [.ref a, v1, v2, v3] (.ref a :: st) M := den_go l_177_2 rfl
theorem l_177_3 : look (tab 177) 3 = some (.iload_n 1, 1, [], uu) := by decide +kernel
theorem e_177_3 : den cf 177 3 [v0, .int x, v2, v3] st M = den cf 177 4 [v0, .int x, v2, v3] (.int x :: st) M := den_go l_177_3 rfl
theorem l_177_4 : look (tab 177) 4 = some (.aload_n 0, 1, [], uu) := by decide +kernel
theorem e_177_4 : den cf 177 4 [.ref a, v1, v2, v3] st M = den cf 177 5 [.ref a, v1, v2, v3] (.ref a :: st) M := den_go l_177_4 rfl
theorem l_177_5 : look (tab 177) 5 = some (.getfield 49, 3, [6, 14, 92], uu) := by decide +kernel
theorem e_177_5 : den cf 177 5 L (.ref a :: st) M = oK (gfA (M.2.2 a) 6 14) (fun v => den cf 177 8 L (v :: st) M) := den_gf l_177_5
theorem l_177_8 : look (tab 177) 8 = some (.iload_n 1, 1, [], uu) := by decide +kernel
theorem e_177_8 : den cf 177 8 [v0, .int x, v2, v3] st M = den cf 177 9 [v0, .int x, v2, v3] (.int x :: st) M := den_go l_177_8 rfl
theorem l_177_9 : look (tab 177) 9 = some (.iaload, 1, [], uu) := by decide +kernel
theorem e_177_9 : den cf 177 9 L (.int x :: .ref a :: st) M = oK (ldI (M.2.2 a) x) (fun v => den cf 177 10 L (v :: st) M) := den_al (g := ldI) l_177_9 rfl
theorem l_177_10 : look (tab 177) 10 = some (.invokevirtual 140, 3, [6, 153, 3, 288, 289, 290, 5], uu) := by decide +kernel
theorem e_177_10 : den cf 177 10 L (w2 :: w1 :: .ref a :: st) M = if rcv M 6 [.ref a, w1, w2] = true ∧ st.length ≤ 4 then rK (cf 153 [.ref a, w1, w2] M) (fun v M' => den cf 177 13 L (pR v st) M') else none := den_iv [w1, w2] l_177_10 rfl
theorem l_177_13 : look (tab 177) 13 = some (.imul, 1, [], uu) := by decide +kernel
theorem e_177_13 : den cf 177 13 L (.int y :: .int x :: st) M = den cf 177 14 L (.int (x * y) :: st) M := den_go l_177_13 rfl
theorem l_177_14 : look (tab 177) 14 = some (.iadd, 1, [], uu) := by decide +kernel
theorem e_177_14 : den cf 177 14 L (.int y :: .int x :: st) M = den cf 177 15 L (.int (x + y) :: st) M := den_go l_177_14 rfl
theorem l_177_15 : look (tab 177) 15 = some (.aload_n 0, 1, [], uu) := by decide +kernel
theorem e_177_15 : den cf 177 15 [.ref a, v1, v2, v3] st M = den cf 177 16 [.ref a, v1, v2, v3] (.ref a :: st) M := den_go l_177_15 rfl
theorem l_177_16 : look (tab 177) 16 = some (.getfield 61, 3, [6, 18, 96], uu) := by decide +kernel
theorem e_177_16 : den cf 177 16 L (.ref a :: st) M = oK (gfA (M.2.2 a) 6 18) (fun v => den cf 177 19 L (v :: st) M) := den_gf l_177_16
theorem l_177_19 : look (tab 177) 19 = some (.iconst 1, 1, [], .int (zI 1)) := by decide +kernel
theorem e_177_19 : den cf 177 19 L st M = den cf 177 20 L (.int (zI 1) :: st) M := den_go l_177_19 rfl
theorem l_177_20 : look (tab 177) 20 = some (.iaload, 1, [], uu) := by decide +kernel
theorem e_177_20 : den cf 177 20 L (.int x :: .ref a :: st) M = oK (ldI (M.2.2 a) x) (fun v => den cf 177 21 L (v :: st) M) := den_al (g := ldI) l_177_20 rfl
theorem l_177_21 : look (tab 177) 21 = some (.isub, 1, [], uu) := by decide +kernel
theorem e_177_21 : den cf 177 21 L (.int y :: .int x :: st) M = den cf 177 22 L (.int (x - y) :: st) M := den_go l_177_21 rfl
theorem l_177_22 : look (tab 177) 22 = some (.aload_n 0, 1, [], uu) := by decide +kernel
theorem e_177_22 : den cf 177 22 [.ref a, v1, v2, v3] st M = den cf 177 23 [.ref a, v1, v2, v3] (.ref a :: st) M := den_go l_177_22 rfl
theorem l_177_23 : look (tab 177) 23 = some (.getfield 55, 3, [6, 16, 94], uu) := by decide +kernel
theorem e_177_23 : den cf 177 23 L (.ref a :: st) M = oK (gfA (M.2.2 a) 6 16) (fun v => den cf 177 26 L (v :: st) M) := den_gf l_177_23
theorem l_177_26 : look (tab 177) 26 = some (.iload_n 1, 1, [], uu) := by decide +kernel
theorem e_177_26 : den cf 177 26 [v0, .int x, v2, v3] st M = den cf 177 27 [v0, .int x, v2, v3] (.int x :: st) M := den_go l_177_26 rfl
theorem l_177_27 : look (tab 177) 27 = some (.iaload, 1, [], uu) := by decide +kernel
theorem e_177_27 : den cf 177 27 L (.int x :: .ref a :: st) M = oK (ldI (M.2.2 a) x) (fun v => den cf 177 28 L (v :: st) M) := den_al (g := ldI) l_177_27 rfl
theorem l_177_28 : look (tab 177) 28 = some (.iconst 3, 1, [], .int (zI 3)) := by decide +kernel
theorem e_177_28 : den cf 177 28 L st M = den cf 177 29 L (.int (zI 3) :: st) M := den_go l_177_28 rfl
theorem l_177_29 : look (tab 177) 29 = some (.idiv, 1, [], uu) := by decide +kernel
theorem e_177_29 : den cf 177 29 L (.int y :: .int x :: st) M = if y = zI 0 then none else den cf 177 30 L (.int (x / y) :: st) M := den_dv (f := fun x y => x / y) l_177_29 rfl
theorem l_177_30 : look (tab 177) 30 = some (.isub, 1, [], uu) := by decide +kernel
theorem e_177_30 : den cf 177 30 L (.int y :: .int x :: st) M = den cf 177 31 L (.int (x - y) :: st) M := den_go l_177_30 rfl
theorem l_177_31 : look (tab 177) 31 = some (.istore_n 3, 1, [], uu) := by decide +kernel
theorem e_177_31 : den cf 177 31 [v0, v1, v2, v3] (.int x :: st) M = den cf 177 32 [v0, v1, kq v2, .int x] st M := den_st (k := 3) (v := .int x) l_177_31 rfl
theorem l_177_32 : look (tab 177) 32 = some (.iload_n 2, 1, [], uu) := by decide +kernel
theorem e_177_32 : den cf 177 32 [v0, v1, .int x, v3] st M = den cf 177 33 [v0, v1, .int x, v3] (.int x :: st) M := den_go l_177_32 rfl
theorem l_177_33 : look (tab 177) 33 = some (.tableswitch 115 1 5 #[35, 58, 42, 70, 101], 35, [148, 68, 91, 75, 103, 134], uu) := by decide +kernel
theorem e_177_33 : den cf 177 33 L (.int x :: st) M = if x.toInt < 1 ∨ 5 < x.toInt then den cf 177 148 L st M else oK ([68, 91, 75, 103, 134] : List Nat)[(x.toInt - 1).toNat]? (fun t => den cf 177 t L st M) := den_ts l_177_33
theorem l_177_68 : look (tab 177) 68 = some (.iload_n 3, 1, [], uu) := by decide +kernel
theorem e_177_68 : den cf 177 68 [v0, v1, v2, .int x] st M = den cf 177 69 [v0, v1, v2, .int x] (.int x :: st) M := den_go l_177_68 rfl
theorem l_177_69 : look (tab 177) 69 = some (.iconst 1, 1, [], .int (zI 1)) := by decide +kernel
theorem e_177_69 : den cf 177 69 L st M = den cf 177 70 L (.int (zI 1) :: st) M := den_go l_177_69 rfl
theorem l_177_70 : look (tab 177) 70 = some (.iadd, 1, [], uu) := by decide +kernel
theorem e_177_70 : den cf 177 70 L (.int y :: .int x :: st) M = den cf 177 71 L (.int (x + y) :: st) M := den_go l_177_70 rfl
theorem l_177_71 : look (tab 177) 71 = some (.istore_n 3, 1, [], uu) := by decide +kernel
theorem e_177_71 : den cf 177 71 [v0, v1, v2, v3] (.int x :: st) M = den cf 177 72 [v0, v1, kq v2, .int x] st M := den_st (k := 3) (v := .int x) l_177_71 rfl
theorem l_177_72 : look (tab 177) 72 = some (.goto 76, 3, [148], uu) := by decide +kernel
theorem e_177_72 : den cf 177 72 L st M = den cf 177 148 L st M := den_go l_177_72 rfl
theorem l_177_75 : look (tab 177) 75 = some (.iload_n 3, 1, [], uu) := by decide +kernel
theorem e_177_75 : den cf 177 75 [v0, v1, v2, .int x] st M = den cf 177 76 [v0, v1, v2, .int x] (.int x :: st) M := den_go l_177_75 rfl
theorem l_177_76 : look (tab 177) 76 = some (.iconst 1, 1, [], .int (zI 1)) := by decide +kernel
theorem e_177_76 : den cf 177 76 L st M = den cf 177 77 L (.int (zI 1) :: st) M := den_go l_177_76 rfl
theorem l_177_77 : look (tab 177) 77 = some (.iadd, 1, [], uu) := by decide +kernel
theorem e_177_77 : den cf 177 77 L (.int y :: .int x :: st) M = den cf 177 78 L (.int (x + y) :: st) M := den_go l_177_77 rfl
theorem l_177_78 : look (tab 177) 78 = some (.aload_n 0, 1, [], uu) := by decide +kernel
theorem e_177_78 : den cf 177 78 [.ref a, v1, v2, v3] st M = den cf 177 79 [.ref a, v1, v2, v3] (.ref a :: st) M := den_go l_177_78 rfl
theorem l_177_79 : look (tab 177) 79 = some (.getfield 58, 3, [6, 17, 95], uu) := by decide +kernel
theorem e_177_79 : den cf 177 79 L (.ref a :: st) M = oK (gfA (M.2.2 a) 6 17) (fun v => den cf 177 82 L (v :: st) M) := den_gf l_177_79
theorem l_177_82 : look (tab 177) 82 = some (.iload_n 1, 1, [], uu) := by decide +kernel
theorem e_177_82 : den cf 177 82 [v0, .int x, v2, v3] st M = den cf 177 83 [v0, .int x, v2, v3] (.int x :: st) M := den_go l_177_82 rfl
theorem l_177_83 : look (tab 177) 83 = some (.iaload, 1, [], uu) := by decide +kernel
theorem e_177_83 : den cf 177 83 L (.int x :: .ref a :: st) M = oK (ldI (M.2.2 a) x) (fun v => den cf 177 84 L (v :: st) M) := den_al (g := ldI) l_177_83 rfl
theorem l_177_84 : look (tab 177) 84 = some (.iconst 4, 1, [], .int (zI 4)) := by decide +kernel
theorem e_177_84 : den cf 177 84 L st M = den cf 177 85 L (.int (zI 4) :: st) M := den_go l_177_84 rfl
theorem l_177_85 : look (tab 177) 85 = some (.idiv, 1, [], uu) := by decide +kernel
theorem e_177_85 : den cf 177 85 L (.int y :: .int x :: st) M = if y = zI 0 then none else den cf 177 86 L (.int (x / y) :: st) M := den_dv (f := fun x y => x / y) l_177_85 rfl
theorem l_177_86 : look (tab 177) 86 = some (.isub, 1, [], uu) := by decide +kernel
theorem e_177_86 : den cf 177 86 L (.int y :: .int x :: st) M = den cf 177 87 L (.int (x - y) :: st) M := den_go l_177_86 rfl
theorem l_177_87 : look (tab 177) 87 = some (.istore_n 3, 1, [], uu) := by decide +kernel
theorem e_177_87 : den cf 177 87 [v0, v1, v2, v3] (.int x :: st) M = den cf 177 88 [v0, v1, kq v2, .int x] st M := den_st (k := 3) (v := .int x) l_177_87 rfl
theorem l_177_88 : look (tab 177) 88 = some (.goto 60, 3, [148], uu) := by decide +kernel
theorem e_177_88 : den cf 177 88 L st M = den cf 177 148 L st M := den_go l_177_88 rfl
theorem l_177_91 : look (tab 177) 91 = some (.iload_n 3, 1, [], uu) := by decide +kernel
theorem e_177_91 : den cf 177 91 [v0, v1, v2, .int x] st M = den cf 177 92 [v0, v1, v2, .int x] (.int x :: st) M := den_go l_177_91 rfl
theorem l_177_92 : look (tab 177) 92 = some (.aload_n 0, 1, [], uu) := by decide +kernel
theorem e_177_92 : den cf 177 92 [.ref a, v1, v2, v3] st M = den cf 177 93 [.ref a, v1, v2, v3] (.ref a :: st) M := den_go l_177_92 rfl
theorem l_177_93 : look (tab 177) 93 = some (.getfield 55, 3, [6, 16, 94], uu) := by decide +kernel
theorem e_177_93 : den cf 177 93 L (.ref a :: st) M = oK (gfA (M.2.2 a) 6 16) (fun v => den cf 177 96 L (v :: st) M) := den_gf l_177_93
theorem l_177_96 : look (tab 177) 96 = some (.iload_n 1, 1, [], uu) := by decide +kernel
theorem e_177_96 : den cf 177 96 [v0, .int x, v2, v3] st M = den cf 177 97 [v0, .int x, v2, v3] (.int x :: st) M := den_go l_177_96 rfl
theorem l_177_97 : look (tab 177) 97 = some (.iaload, 1, [], uu) := by decide +kernel
theorem e_177_97 : den cf 177 97 L (.int x :: .ref a :: st) M = oK (ldI (M.2.2 a) x) (fun v => den cf 177 98 L (v :: st) M) := den_al (g := ldI) l_177_97 rfl
theorem l_177_98 : look (tab 177) 98 = some (.isub, 1, [], uu) := by decide +kernel
theorem e_177_98 : den cf 177 98 L (.int y :: .int x :: st) M = den cf 177 99 L (.int (x - y) :: st) M := den_go l_177_98 rfl
theorem l_177_99 : look (tab 177) 99 = some (.istore_n 3, 1, [], uu) := by decide +kernel
theorem e_177_99 : den cf 177 99 [v0, v1, v2, v3] (.int x :: st) M = den cf 177 100 [v0, v1, kq v2, .int x] st M := den_st (k := 3) (v := .int x) l_177_99 rfl
theorem l_177_100 : look (tab 177) 100 = some (.goto 48, 3, [148], uu) := by decide +kernel
theorem e_177_100 : den cf 177 100 L st M = den cf 177 148 L st M := den_go l_177_100 rfl
theorem l_177_103 : look (tab 177) 103 = some (.aload_n 0, 1, [], uu) := by decide +kernel
theorem e_177_103 : den cf 177 103 [.ref a, v1, v2, v3] st M = den cf 177 104 [.ref a, v1, v2, v3] (.ref a :: st) M := den_go l_177_103 rfl
theorem l_177_104 : look (tab 177) 104 = some (.getfield 55, 3, [6, 16, 94], uu) := by decide +kernel
theorem e_177_104 : den cf 177 104 L (.ref a :: st) M = oK (gfA (M.2.2 a) 6 16) (fun v => den cf 177 107 L (v :: st) M) := den_gf l_177_104
theorem l_177_107 : look (tab 177) 107 = some (.iload_n 1, 1, [], uu) := by decide +kernel
theorem e_177_107 : den cf 177 107 [v0, .int x, v2, v3] st M = den cf 177 108 [v0, .int x, v2, v3] (.int x :: st) M := den_go l_177_107 rfl
theorem l_177_108 : look (tab 177) 108 = some (.iaload, 1, [], uu) := by decide +kernel
theorem e_177_108 : den cf 177 108 L (.int x :: .ref a :: st) M = oK (ldI (M.2.2 a) x) (fun v => den cf 177 109 L (v :: st) M) := den_al (g := ldI) l_177_108 rfl
theorem l_177_109 : look (tab 177) 109 = some (.aload_n 0, 1, [], uu) := by decide +kernel
theorem e_177_109 : den cf 177 109 [.ref a, v1, v2, v3] st M = den cf 177 110 [.ref a, v1, v2, v3] (.ref a :: st) M := den_go l_177_109 rfl
theorem l_177_110 : look (tab 177) 110 = some (.getfield 40, 3, [6, 11, 89], uu) := by decide +kernel
theorem e_177_110 : den cf 177 110 L (.ref a :: st) M = oK (gfA (M.2.2 a) 6 11) (fun v => den cf 177 113 L (v :: st) M) := den_gf l_177_110
theorem l_177_113 : look (tab 177) 113 = some (.iload_n 1, 1, [], uu) := by decide +kernel
theorem e_177_113 : den cf 177 113 [v0, .int x, v2, v3] st M = den cf 177 114 [v0, .int x, v2, v3] (.int x :: st) M := den_go l_177_113 rfl
theorem l_177_114 : look (tab 177) 114 = some (.iaload, 1, [], uu) := by decide +kernel
theorem e_177_114 : den cf 177 114 L (.int x :: .ref a :: st) M = oK (ldI (M.2.2 a) x) (fun v => den cf 177 115 L (v :: st) M) := den_al (g := ldI) l_177_114 rfl
theorem l_177_115 : look (tab 177) 115 = some (.if_icmp .lt 7, 3, [122], uu) := by decide +kernel
theorem e_177_115 : den cf 177 115 L (.int y :: .int x :: st) M = if x < y then den cf 177 122 L st M else den cf 177 118 L st M := den_ic_lt l_177_115
theorem l_177_118 : look (tab 177) 118 = some (.iconst 0, 1, [], .int (zI 0)) := by decide +kernel
theorem e_177_118 : den cf 177 118 L st M = den cf 177 119 L (.int (zI 0) :: st) M := den_go l_177_118 rfl
theorem l_177_119 : look (tab 177) 119 = some (.goto 11, 3, [130], uu) := by decide +kernel
theorem e_177_119 : den cf 177 119 L st M = den cf 177 130 L st M := den_go l_177_119 rfl
theorem l_177_122 : look (tab 177) 122 = some (.iload_n 3, 1, [], uu) := by decide +kernel
theorem e_177_122 : den cf 177 122 [v0, v1, v2, .int x] st M = den cf 177 123 [v0, v1, v2, .int x] (.int x :: st) M := den_go l_177_122 rfl
theorem l_177_123 : look (tab 177) 123 = some (.aload_n 0, 1, [], uu) := by decide +kernel
theorem e_177_123 : den cf 177 123 [.ref a, v1, v2, v3] st M = den cf 177 124 [.ref a, v1, v2, v3] (.ref a :: st) M := den_go l_177_123 rfl
theorem l_177_124 : look (tab 177) 124 = some (.getfield 55, 3, [6, 16, 94], uu) := by decide +kernel
theorem e_177_124 : den cf 177 124 L (.ref a :: st) M = oK (gfA (M.2.2 a) 6 16) (fun v => den cf 177 127 L (v :: st) M) := den_gf l_177_124
theorem l_177_127 : look (tab 177) 127 = some (.iload_n 1, 1, [], uu) := by decide +kernel
theorem e_177_127 : den cf 177 127 [v0, .int x, v2, v3] st M = den cf 177 128 [v0, .int x, v2, v3] (.int x :: st) M := den_go l_177_127 rfl
theorem l_177_128 : look (tab 177) 128 = some (.iaload, 1, [], uu) := by decide +kernel
theorem e_177_128 : den cf 177 128 L (.int x :: .ref a :: st) M = oK (ldI (M.2.2 a) x) (fun v => den cf 177 129 L (v :: st) M) := den_al (g := ldI) l_177_128 rfl
theorem l_177_129 : look (tab 177) 129 = some (.isub, 1, [], uu) := by decide +kernel
theorem e_177_129 : den cf 177 129 L (.int y :: .int x :: st) M = den cf 177 130 L (.int (x - y) :: st) M := den_go l_177_129 rfl
theorem l_177_130 : look (tab 177) 130 = some (.istore_n 3, 1, [], uu) := by decide +kernel
theorem e_177_130 : den cf 177 130 [v0, v1, v2, v3] (.int x :: st) M = den cf 177 131 [v0, v1, kq v2, .int x] st M := den_st (k := 3) (v := .int x) l_177_130 rfl
theorem l_177_131 : look (tab 177) 131 = some (.goto 17, 3, [148], uu) := by decide +kernel
theorem e_177_131 : den cf 177 131 L st M = den cf 177 148 L st M := den_go l_177_131 rfl
theorem l_177_134 : look (tab 177) 134 = some (.iload_n 3, 1, [], uu) := by decide +kernel
theorem e_177_134 : den cf 177 134 [v0, v1, v2, .int x] st M = den cf 177 135 [v0, v1, v2, .int x] (.int x :: st) M := den_go l_177_134 rfl
theorem l_177_135 : look (tab 177) 135 = some (.aload_n 0, 1, [], uu) := by decide +kernel
theorem e_177_135 : den cf 177 135 [.ref a, v1, v2, v3] st M = den cf 177 136 [.ref a, v1, v2, v3] (.ref a :: st) M := den_go l_177_135 rfl
theorem l_177_136 : look (tab 177) 136 = some (.getfield 40, 3, [6, 11, 89], uu) := by decide +kernel
theorem e_177_136 : den cf 177 136 L (.ref a :: st) M = oK (gfA (M.2.2 a) 6 11) (fun v => den cf 177 139 L (v :: st) M) := den_gf l_177_136
theorem l_177_139 : look (tab 177) 139 = some (.iload_n 1, 1, [], uu) := by decide +kernel
theorem e_177_139 : den cf 177 139 [v0, .int x, v2, v3] st M = den cf 177 140 [v0, .int x, v2, v3] (.int x :: st) M := den_go l_177_139 rfl
theorem l_177_140 : look (tab 177) 140 = some (.iaload, 1, [], uu) := by decide +kernel
theorem e_177_140 : den cf 177 140 L (.int x :: .ref a :: st) M = oK (ldI (M.2.2 a) x) (fun v => den cf 177 141 L (v :: st) M) := den_al (g := ldI) l_177_140 rfl
theorem l_177_141 : look (tab 177) 141 = some (.iconst 3, 1, [], .int (zI 3)) := by decide +kernel
theorem e_177_141 : den cf 177 141 L st M = den cf 177 142 L (.int (zI 3) :: st) M := den_go l_177_141 rfl
theorem l_177_142 : look (tab 177) 142 = some (.idiv, 1, [], uu) := by decide +kernel
theorem e_177_142 : den cf 177 142 L (.int y :: .int x :: st) M = if y = zI 0 then none else den cf 177 143 L (.int (x / y) :: st) M := den_dv (f := fun x y => x / y) l_177_142 rfl
theorem l_177_143 : look (tab 177) 143 = some (.iadd, 1, [], uu) := by decide +kernel
theorem e_177_143 : den cf 177 143 L (.int y :: .int x :: st) M = den cf 177 144 L (.int (x + y) :: st) M := den_go l_177_143 rfl
theorem l_177_144 : look (tab 177) 144 = some (.istore_n 3, 1, [], uu) := by decide +kernel
theorem e_177_144 : den cf 177 144 [v0, v1, v2, v3] (.int x :: st) M = den cf 177 145 [v0, v1, kq v2, .int x] st M := den_st (k := 3) (v := .int x) l_177_144 rfl
theorem l_177_145 : look (tab 177) 145 = some (.goto 3, 3, [148], uu) := by decide +kernel
theorem e_177_145 : den cf 177 145 L st M = den cf 177 148 L st M := den_go l_177_145 rfl
theorem l_177_148 : look (tab 177) 148 = some (.iload_n 3, 1, [], uu) := by decide +kernel
theorem e_177_148 : den cf 177 148 [v0, v1, v2, .int x] st M = den cf 177 149 [v0, v1, v2, .int x] (.int x :: st) M := den_go l_177_148 rfl
theorem l_177_149 : look (tab 177) 149 = some (.iconst 2, 1, [], .int (zI 2)) := by decide +kernel
theorem e_177_149 : den cf 177 149 L st M = den cf 177 150 L (.int (zI 2) :: st) M := den_go l_177_149 rfl
theorem l_177_150 : look (tab 177) 150 = some (.aload_n 0, 1, [], uu) := by decide +kernel
theorem e_177_150 : den cf 177 150 [.ref a, v1, v2, v3] st M = den cf 177 151 [.ref a, v1, v2, v3] (.ref a :: st) M := den_go l_177_150 rfl
theorem l_177_151 : look (tab 177) 151 = some (.getfield 61, 3, [6, 18, 96], uu) := by decide +kernel
theorem e_177_151 : den cf 177 151 L (.ref a :: st) M = oK (gfA (M.2.2 a) 6 18) (fun v => den cf 177 154 L (v :: st) M) := den_gf l_177_151
theorem l_177_154 : look (tab 177) 154 = some (.iconst 2, 1, [], .int (zI 2)) := by decide +kernel
theorem e_177_154 : den cf 177 154 L st M = den cf 177 155 L (.int (zI 2) :: st) M := den_go l_177_154 rfl
theorem l_177_155 : look (tab 177) 155 = some (.iaload, 1, [], uu) := by decide +kernel
theorem e_177_155 : den cf 177 155 L (.int x :: .ref a :: st) M = oK (ldI (M.2.2 a) x) (fun v => den cf 177 156 L (v :: st) M) := den_al (g := ldI) l_177_155 rfl
theorem l_177_156 : look (tab 177) 156 = some (.imul, 1, [], uu) := by decide +kernel
theorem e_177_156 : den cf 177 156 L (.int y :: .int x :: st) M = den cf 177 157 L (.int (x * y) :: st) M := den_go l_177_156 rfl
theorem l_177_157 : look (tab 177) 157 = some (.iadd, 1, [], uu) := by decide +kernel
theorem e_177_157 : den cf 177 157 L (.int y :: .int x :: st) M = den cf 177 158 L (.int (x + y) :: st) M := den_go l_177_157 rfl
theorem l_177_158 : look (tab 177) 158 = some (.istore_n 3, 1, [], uu) := by decide +kernel
theorem e_177_158 : den cf 177 158 [v0, v1, v2, v3] (.int x :: st) M = den cf 177 159 [v0, v1, kq v2, .int x] st M := den_st (k := 3) (v := .int x) l_177_158 rfl
theorem l_177_159 : look (tab 177) 159 = some (.iload_n 3, 1, [], uu) := by decide +kernel
theorem e_177_159 : den cf 177 159 [v0, v1, v2, .int x] st M = den cf 177 160 [v0, v1, v2, .int x] (.int x :: st) M := den_go l_177_159 rfl
theorem l_177_160 : look (tab 177) 160 = some (.ifCond .ge 7, 3, [167], uu) := by decide +kernel
theorem e_177_160 : den cf 177 160 L (.int x :: st) M = if x < zI 0 then den cf 177 163 L st M else den cf 177 167 L st M := den_if_ge l_177_160
theorem l_177_163 : look (tab 177) 163 = some (.iconst 0, 1, [], .int (zI 0)) := by decide +kernel
theorem e_177_163 : den cf 177 163 L st M = den cf 177 164 L (.int (zI 0) :: st) M := den_go l_177_163 rfl
theorem l_177_164 : look (tab 177) 164 = some (.goto 15, 3, [179], uu) := by decide +kernel
theorem e_177_164 : den cf 177 164 L st M = den cf 177 179 L st M := den_go l_177_164 rfl
theorem l_177_167 : look (tab 177) 167 = some (.iload_n 3, 1, [], uu) := by decide +kernel
theorem e_177_167 : den cf 177 167 [v0, v1, v2, .int x] st M = den cf 177 168 [v0, v1, v2, .int x] (.int x :: st) M := den_go l_177_167 rfl
theorem l_177_168 : look (tab 177) 168 = some (.bipush 12, 2, [], .int (zI 12)) := by decide +kernel
theorem e_177_168 : den cf 177 168 L st M = den cf 177 170 L (.int (zI 12) :: st) M := den_go l_177_168 rfl
theorem l_177_170 : look (tab 177) 170 = some (.if_icmp .le 8, 3, [178], uu) := by decide +kernel
theorem e_177_170 : den cf 177 170 L (.int y :: .int x :: st) M = if y < x then den cf 177 173 L st M else den cf 177 178 L st M := den_ic_le l_177_170
theorem l_177_173 : look (tab 177) 173 = some (.bipush 12, 2, [], .int (zI 12)) := by decide +kernel
theorem e_177_173 : den cf 177 173 L st M = den cf 177 175 L (.int (zI 12) :: st) M := den_go l_177_173 rfl
theorem l_177_175 : look (tab 177) 175 = some (.goto 4, 3, [179], uu) := by decide +kernel
theorem e_177_175 : den cf 177 175 L st M = den cf 177 179 L st M := den_go l_177_175 rfl
theorem l_177_178 : look (tab 177) 178 = some (.iload_n 3, 1, [], uu) := by decide +kernel
theorem e_177_178 : den cf 177 178 [v0, v1, v2, .int x] st M = den cf 177 179 [v0, v1, v2, .int x] (.int x :: st) M := den_go l_177_178 rfl
theorem l_177_179 : look (tab 177) 179 = some (.ireturn, 1, [0], uu) := by decide +kernel
theorem e_177_179 : den cf 177 179 L [.int x] M = some (some (.int x), M) := den_e0 l_177_179
/-! yX6_linesOf -/
theorem l_178_0 : look (tab 178) 0 = some (.iconst 5, 1, [], .int (zI 5)) := by decide +kernel
theorem e_178_0 : den cf 178 0 L st M = den cf 178 1 L (.int (zI 5) :: st) M := den_go l_178_0 rfl
theorem l_178_1 : look (tab 178) 1 = some (.aload_n 0, 1, [], uu) := by decide +kernel
theorem e_178_1 : den cf 178 1 [.ref a, v1, v2, v3, v4, v5] st M = den cf 178 2 [.ref a, v1, v2, v3, v4, v5] (.ref a :: st) M := den_go l_178_1 rfl
theorem l_178_2 : look (tab 178) 2 = some (.getfield 40, 3, [6, 11, 89], uu) := by decide +kernel
theorem e_178_2 : den cf 178 2 L (.ref a :: st) M = oK (gfA (M.2.2 a) 6 11) (fun v => den cf 178 5 L (v :: st) M) := den_gf l_178_2
theorem l_178_5 : look (tab 178) 5 = some (.iload_n 1, 1, [], uu) := by decide +kernel
theorem e_178_5 : den cf 178 5 [v0, .int x, v2, v3, v4, v5] st M = den cf 178 6 [v0, .int x, v2, v3, v4, v5] (.int x :: st) M := den_go l_178_5 rfl
theorem l_178_6 : look (tab 178) 6 = some (.iaload, 1, [], uu) := by decide +kernel
theorem e_178_6 : den cf 178 6 L (.int x :: .ref a :: st) M = oK (ldI (M.2.2 a) x) (fun v => den cf 178 7 L (v :: st) M) := den_al (g := ldI) l_178_6 rfl
theorem l_178_7 : look (tab 178) 7 = some (.iadd, 1, [], uu) := by decide +kernel
theorem e_178_7 : den cf 178 7 L (.int y :: .int x :: st) M = den cf 178 8 L (.int (x + y) :: st) M := den_go l_178_7 rfl
theorem l_178_8 : look (tab 178) 8 = some (.aload_n 0, 1, [], uu) := by decide +kernel
theorem e_178_8 : den cf 178 8 [.ref a, v1, v2, v3, v4, v5] st M = den cf 178 9 [.ref a, v1, v2, v3, v4, v5] (.ref a :: st) M := den_go l_178_8 rfl
theorem l_178_9 : look (tab 178) 9 = some (.getfield 58, 3, [6, 17, 95], uu) := by decide +kernel
theorem e_178_9 : den cf 178 9 L (.ref a :: st) M = oK (gfA (M.2.2 a) 6 17) (fun v => den cf 178 12 L (v :: st) M) := den_gf l_178_9
theorem l_178_12 : look (tab 178) 12 = some (.aload_n 0, 1, [], uu) := by decide +kernel
theorem e_178_12 : den cf 178 12 [.ref a, v1, v2, v3, v4, v5] st M = den cf 178 13 [.ref a, v1, v2, v3, v4, v5] (.ref a :: st) M := den_go l_178_12 rfl
theorem l_178_13 : look (tab 178) 13 = some (.getfield 49, 3, [6, 14, 92], uu) := by decide +kernel
theorem e_178_13 : den cf 178 13 L (.ref a :: st) M = oK (gfA (M.2.2 a) 6 14) (fun v => den cf 178 16 L (v :: st) M) := den_gf l_178_13
theorem l_178_16 : look (tab 178) 16 = some (.iload_n 1, 1, [], uu) := by decide +kernel
theorem e_178_16 : den cf 178 16 [v0, .int x, v2, v3, v4, v5] st M = den cf 178 17 [v0, .int x, v2, v3, v4, v5] (.int x :: st) M := den_go l_178_16 rfl
theorem l_178_17 : look (tab 178) 17 = some (.iaload, 1, [], uu) := by decide +kernel
theorem e_178_17 : den cf 178 17 L (.int x :: .ref a :: st) M = oK (ldI (M.2.2 a) x) (fun v => den cf 178 18 L (v :: st) M) := den_al (g := ldI) l_178_17 rfl
theorem l_178_18 : look (tab 178) 18 = some (.iaload, 1, [], uu) := by decide +kernel
theorem e_178_18 : den cf 178 18 L (.int x :: .ref a :: st) M = oK (ldI (M.2.2 a) x) (fun v => den cf 178 19 L (v :: st) M) := den_al (g := ldI) l_178_18 rfl
theorem l_178_19 : look (tab 178) 19 = some (.iconst 2, 1, [], .int (zI 2)) := by decide +kernel
theorem e_178_19 : den cf 178 19 L st M = den cf 178 20 L (.int (zI 2) :: st) M := den_go l_178_19 rfl
theorem l_178_20 : look (tab 178) 20 = some (.idiv, 1, [], uu) := by decide +kernel
theorem e_178_20 : den cf 178 20 L (.int y :: .int x :: st) M = if y = zI 0 then none else den cf 178 21 L (.int (x / y) :: st) M := den_dv (f := fun x y => x / y) l_178_20 rfl
theorem l_178_21 : look (tab 178) 21 = some (.iadd, 1, [], uu) := by decide +kernel
theorem e_178_21 : den cf 178 21 L (.int y :: .int x :: st) M = den cf 178 22 L (.int (x + y) :: st) M := den_go l_178_21 rfl
theorem l_178_22 : look (tab 178) 22 = some (.istore_n 3, 1, [], uu) := by decide +kernel
theorem e_178_22 : den cf 178 22 [v0, v1, v2, v3, v4, v5] (.int x :: st) M = den cf 178 23 [v0, v1, kq v2, .int x, v4, v5] st M := den_st (k := 3) (v := .int x) l_178_22 rfl
theorem l_178_23 : look (tab 178) 23 = some (.iload_n 2, 1, [], uu) := by decide +kernel
theorem e_178_23 : den cf 178 23 [v0, v1, .int x, v3, v4, v5] st M = den cf 178 24 [v0, v1, .int x, v3, v4, v5] (.int x :: st) M := den_go l_178_23 rfl
theorem l_178_24 : look (tab 178) 24 = some (.tableswitch 83 1 5 #[36, 54, 44, 54, 67], 36, [107, 60, 78, 68, 78, 91], uu) := by decide +kernel
theorem e_178_24 : den cf 178 24 L (.int x :: st) M = if x.toInt < 1 ∨ 5 < x.toInt then den cf 178 107 L st M else oK ([60, 78, 68, 78, 91] : List Nat)[(x.toInt - 1).toNat]? (fun t => den cf 178 t L st M) := den_ts l_178_24
theorem l_178_60 : look (tab 178) 60 = some (.iconst 2, 1, [], .int (zI 2)) := by decide +kernel
theorem e_178_60 : den cf 178 60 L st M = den cf 178 61 L (.int (zI 2) :: st) M := den_go l_178_60 rfl
theorem l_178_61 : look (tab 178) 61 = some (.iload_n 3, 1, [], uu) := by decide +kernel
theorem e_178_61 : den cf 178 61 [v0, v1, v2, .int x, v4, v5] st M = den cf 178 62 [v0, v1, v2, .int x, v4, v5] (.int x :: st) M := den_go l_178_61 rfl
theorem l_178_62 : look (tab 178) 62 = some (.imul, 1, [], uu) := by decide +kernel
theorem e_178_62 : den cf 178 62 L (.int y :: .int x :: st) M = den cf 178 63 L (.int (x * y) :: st) M := den_go l_178_62 rfl
theorem l_178_63 : look (tab 178) 63 = some (.istore 4, 2, [], uu) := by decide +kernel
theorem e_178_63 : den cf 178 63 [v0, v1, v2, v3, v4, v5] (.int x :: st) M = den cf 178 65 [v0, v1, v2, kq v3, .int x, v5] st M := den_st (k := 4) (v := .int x) l_178_63 rfl
theorem l_178_65 : look (tab 178) 65 = some (.goto 45, 3, [110], uu) := by decide +kernel
theorem e_178_65 : den cf 178 65 L st M = den cf 178 110 L st M := den_go l_178_65 rfl
theorem l_178_68 : look (tab 178) 68 = some (.iconst 2, 1, [], .int (zI 2)) := by decide +kernel
theorem e_178_68 : den cf 178 68 L st M = den cf 178 69 L (.int (zI 2) :: st) M := den_go l_178_68 rfl
theorem l_178_69 : look (tab 178) 69 = some (.iload_n 3, 1, [], uu) := by decide +kernel
theorem e_178_69 : den cf 178 69 [v0, v1, v2, .int x, v4, v5] st M = den cf 178 70 [v0, v1, v2, .int x, v4, v5] (.int x :: st) M := den_go l_178_69 rfl
theorem l_178_70 : look (tab 178) 70 = some (.imul, 1, [], uu) := by decide +kernel
theorem e_178_70 : den cf 178 70 L (.int y :: .int x :: st) M = den cf 178 71 L (.int (x * y) :: st) M := den_go l_178_70 rfl
theorem l_178_71 : look (tab 178) 71 = some (.iconst 5, 1, [], .int (zI 5)) := by decide +kernel
theorem e_178_71 : den cf 178 71 L st M = den cf 178 72 L (.int (zI 5) :: st) M := den_go l_178_71 rfl
theorem l_178_72 : look (tab 178) 72 = some (.iadd, 1, [], uu) := by decide +kernel
theorem e_178_72 : den cf 178 72 L (.int y :: .int x :: st) M = den cf 178 73 L (.int (x + y) :: st) M := den_go l_178_72 rfl
theorem l_178_73 : look (tab 178) 73 = some (.istore 4, 2, [], uu) := by decide +kernel
theorem e_178_73 : den cf 178 73 [v0, v1, v2, v3, v4, v5] (.int x :: st) M = den cf 178 75 [v0, v1, v2, kq v3, .int x, v5] st M := den_st (k := 4) (v := .int x) l_178_73 rfl
theorem l_178_75 : look (tab 178) 75 = some (.goto 35, 3, [110], uu) := by decide +kernel
theorem e_178_75 : den cf 178 75 L st M = den cf 178 110 L st M := den_go l_178_75 rfl
theorem l_178_78 : look (tab 178) 78 = some (.iload_n 3, 1, [], uu) := by decide +kernel
theorem e_178_78 : den cf 178 78 [v0, v1, v2, .int x, v4, v5] st M = den cf 178 79 [v0, v1, v2, .int x, v4, v5] (.int x :: st) M := den_go l_178_78 rfl
theorem l_178_79 : look (tab 178) 79 = some (.aload_n 0, 1, [], uu) := by decide +kernel
theorem e_178_79 : den cf 178 79 [.ref a, v1, v2, v3, v4, v5] st M = den cf 178 80 [.ref a, v1, v2, v3, v4, v5] (.ref a :: st) M := den_go l_178_79 rfl
theorem l_178_80 : look (tab 178) 80 = some (.getfield 55, 3, [6, 16, 94], uu) := by decide +kernel
theorem e_178_80 : den cf 178 80 L (.ref a :: st) M = oK (gfA (M.2.2 a) 6 16) (fun v => den cf 178 83 L (v :: st) M) := den_gf l_178_80
theorem l_178_83 : look (tab 178) 83 = some (.iload_n 1, 1, [], uu) := by decide +kernel
theorem e_178_83 : den cf 178 83 [v0, .int x, v2, v3, v4, v5] st M = den cf 178 84 [v0, .int x, v2, v3, v4, v5] (.int x :: st) M := den_go l_178_83 rfl
theorem l_178_84 : look (tab 178) 84 = some (.iaload, 1, [], uu) := by decide +kernel
theorem e_178_84 : den cf 178 84 L (.int x :: .ref a :: st) M = oK (ldI (M.2.2 a) x) (fun v => den cf 178 85 L (v :: st) M) := den_al (g := ldI) l_178_84 rfl
theorem l_178_85 : look (tab 178) 85 = some (.isub, 1, [], uu) := by decide +kernel
theorem e_178_85 : den cf 178 85 L (.int y :: .int x :: st) M = den cf 178 86 L (.int (x - y) :: st) M := den_go l_178_85 rfl
theorem l_178_86 : look (tab 178) 86 = some (.istore 4, 2, [], uu) := by decide +kernel
theorem e_178_86 : den cf 178 86 [v0, v1, v2, v3, v4, v5] (.int x :: st) M = den cf 178 88 [v0, v1, v2, kq v3, .int x, v5] st M := den_st (k := 4) (v := .int x) l_178_86 rfl
theorem l_178_88 : look (tab 178) 88 = some (.goto 22, 3, [110], uu) := by decide +kernel
theorem e_178_88 : den cf 178 88 L st M = den cf 178 110 L st M := den_go l_178_88 rfl
theorem l_178_91 : look (tab 178) 91 = some (.aload_n 0, 1, [], uu) := by decide +kernel
theorem e_178_91 : den cf 178 91 [.ref a, v1, v2, v3, v4, v5] st M = den cf 178 92 [.ref a, v1, v2, v3, v4, v5] (.ref a :: st) M := den_go l_178_91 rfl
theorem l_178_92 : look (tab 178) 92 = some (.getfield 58, 3, [6, 17, 95], uu) := by decide +kernel
theorem e_178_92 : den cf 178 92 L (.ref a :: st) M = oK (gfA (M.2.2 a) 6 17) (fun v => den cf 178 95 L (v :: st) M) := den_gf l_178_92
theorem l_178_95 : look (tab 178) 95 = some (.aload_n 0, 1, [], uu) := by decide +kernel
theorem e_178_95 : den cf 178 95 [.ref a, v1, v2, v3, v4, v5] st M = den cf 178 96 [.ref a, v1, v2, v3, v4, v5] (.ref a :: st) M := den_go l_178_95 rfl
theorem l_178_96 : look (tab 178) 96 = some (.getfield 49, 3, [6, 14, 92], uu) := by decide +kernel
theorem e_178_96 : den cf 178 96 L (.ref a :: st) M = oK (gfA (M.2.2 a) 6 14) (fun v => den cf 178 99 L (v :: st) M) := den_gf l_178_96
theorem l_178_99 : look (tab 178) 99 = some (.iload_n 1, 1, [], uu) := by decide +kernel
theorem e_178_99 : den cf 178 99 [v0, .int x, v2, v3, v4, v5] st M = den cf 178 100 [v0, .int x, v2, v3, v4, v5] (.int x :: st) M := den_go l_178_99 rfl
theorem l_178_100 : look (tab 178) 100 = some (.iaload, 1, [], uu) := by decide +kernel
theorem e_178_100 : den cf 178 100 L (.int x :: .ref a :: st) M = oK (ldI (M.2.2 a) x) (fun v => den cf 178 101 L (v :: st) M) := den_al (g := ldI) l_178_100 rfl
theorem l_178_101 : look (tab 178) 101 = some (.iaload, 1, [], uu) := by decide +kernel
theorem e_178_101 : den cf 178 101 L (.int x :: .ref a :: st) M = oK (ldI (M.2.2 a) x) (fun v => den cf 178 102 L (v :: st) M) := den_al (g := ldI) l_178_101 rfl
theorem l_178_102 : look (tab 178) 102 = some (.istore 4, 2, [], uu) := by decide +kernel
theorem e_178_102 : den cf 178 102 [v0, v1, v2, v3, v4, v5] (.int x :: st) M = den cf 178 104 [v0, v1, v2, kq v3, .int x, v5] st M := den_st (k := 4) (v := .int x) l_178_102 rfl
theorem l_178_104 : look (tab 178) 104 = some (.goto 6, 3, [110], uu) := by decide +kernel
theorem e_178_104 : den cf 178 104 L st M = den cf 178 110 L st M := den_go l_178_104 rfl
theorem l_178_107 : look (tab 178) 107 = some (.iload_n 3, 1, [], uu) := by decide +kernel
theorem e_178_107 : den cf 178 107 [v0, v1, v2, .int x, v4, v5] st M = den cf 178 108 [v0, v1, v2, .int x, v4, v5] (.int x :: st) M := den_go l_178_107 rfl
theorem l_178_108 : look (tab 178) 108 = some (.istore 4, 2, [], uu) := by decide +kernel
theorem e_178_108 : den cf 178 108 [v0, v1, v2, v3, v4, v5] (.int x :: st) M = den cf 178 110 [v0, v1, v2, kq v3, .int x, v5] st M := den_st (k := 4) (v := .int x) l_178_108 rfl
theorem l_178_110 : look (tab 178) 110 = some (.aload_n 0, 1, [], uu) := by decide +kernel
theorem e_178_110 : den cf 178 110 [.ref a, v1, v2, v3, v4, v5] st M = den cf 178 111 [.ref a, v1, v2, v3, v4, v5] (.ref a :: st) M := den_go l_178_110 rfl
theorem l_178_111 : look (tab 178) 111 = some (.getfield 61, 3, [6, 18, 96], uu) := by decide +kernel
theorem e_178_111 : den cf 178 111 L (.ref a :: st) M = oK (gfA (M.2.2 a) 6 18) (fun v => den cf 178 114 L (v :: st) M) := den_gf l_178_111
theorem l_178_114 : look (tab 178) 114 = some (.iconst 2, 1, [], .int (zI 2)) := by decide +kernel
theorem e_178_114 : den cf 178 114 L st M = den cf 178 115 L (.int (zI 2) :: st) M := den_go l_178_114 rfl
theorem l_178_115 : look (tab 178) 115 = some (.iaload, 1, [], uu) := by decide +kernel
theorem e_178_115 : den cf 178 115 L (.int x :: .ref a :: st) M = oK (ldI (M.2.2 a) x) (fun v => den cf 178 116 L (v :: st) M) := den_al (g := ldI) l_178_115 rfl
theorem l_178_116 : look (tab 178) 116 = some (.iconst 1, 1, [], .int (zI 1)) := by decide +kernel
theorem e_178_116 : den cf 178 116 L st M = den cf 178 117 L (.int (zI 1) :: st) M := den_go l_178_116 rfl
theorem l_178_117 : look (tab 178) 117 = some (.if_icmp .ne 8, 3, [125], uu) := by decide +kernel
theorem e_178_117 : den cf 178 117 L (.int y :: .int x :: st) M = if x = y then den cf 178 120 L st M else den cf 178 125 L st M := den_ic_ne l_178_117
theorem l_178_120 : look (tab 178) 120 = some (.bipush 10, 2, [], .int (zI 10)) := by decide +kernel
theorem e_178_120 : den cf 178 120 L st M = den cf 178 122 L (.int (zI 10) :: st) M := den_go l_178_120 rfl
theorem l_178_122 : look (tab 178) 122 = some (.goto 5, 3, [127], uu) := by decide +kernel
theorem e_178_122 : den cf 178 122 L st M = den cf 178 127 L st M := den_go l_178_122 rfl
theorem l_178_125 : look (tab 178) 125 = some (.bipush 99, 2, [], .int (zI 99)) := by decide +kernel
theorem e_178_125 : den cf 178 125 L st M = den cf 178 127 L (.int (zI 99) :: st) M := den_go l_178_125 rfl
theorem l_178_127 : look (tab 178) 127 = some (.istore 5, 2, [], uu) := by decide +kernel
theorem e_178_127 : den cf 178 127 [v0, v1, v2, v3, v4, v5] (.int x :: st) M = den cf 178 129 [v0, v1, v2, v3, kq v4, .int x] st M := den_st (k := 5) (v := .int x) l_178_127 rfl
theorem l_178_129 : look (tab 178) 129 = some (.iload 4, 2, [], uu) := by decide +kernel
theorem e_178_129 : den cf 178 129 [v0, v1, v2, v3, .int x, v5] st M = den cf 178 131 [v0, v1, v2, v3, .int x, v5] (.int x :: st) M := den_go l_178_129 rfl
theorem l_178_131 : look (tab 178) 131 = some (.iconst 1, 1, [], .int (zI 1)) := by decide +kernel
theorem e_178_131 : den cf 178 131 L st M = den cf 178 132 L (.int (zI 1) :: st) M := den_go l_178_131 rfl
theorem l_178_132 : look (tab 178) 132 = some (.if_icmp .ge 7, 3, [139], uu) := by decide +kernel
theorem e_178_132 : den cf 178 132 L (.int y :: .int x :: st) M = if x < y then den cf 178 135 L st M else den cf 178 139 L st M := den_ic_ge l_178_132
theorem l_178_135 : look (tab 178) 135 = some (.iconst 1, 1, [], .int (zI 1)) := by decide +kernel
theorem e_178_135 : den cf 178 135 L st M = den cf 178 136 L (.int (zI 1) :: st) M := den_go l_178_135 rfl
theorem l_178_136 : look (tab 178) 136 = some (.goto 17, 3, [153], uu) := by decide +kernel
theorem e_178_136 : den cf 178 136 L st M = den cf 178 153 L st M := den_go l_178_136 rfl
theorem l_178_139 : look (tab 178) 139 = some (.iload 4, 2, [], uu) := by decide +kernel
theorem e_178_139 : den cf 178 139 [v0, v1, v2, v3, .int x, v5] st M = den cf 178 141 [v0, v1, v2, v3, .int x, v5] (.int x :: st) M := den_go l_178_139 rfl
theorem l_178_141 : look (tab 178) 141 = some (.iload 5, 2, [], uu) := by decide +kernel
theorem e_178_141 : den cf 178 141 [v0, v1, v2, v3, v4, .int x] st M = den cf 178 143 [v0, v1, v2, v3, v4, .int x] (.int x :: st) M := den_go l_178_141 rfl
theorem l_178_143 : look (tab 178) 143 = some (.if_icmp .le 8, 3, [151], uu) := by decide +kernel
theorem e_178_143 : den cf 178 143 L (.int y :: .int x :: st) M = if y < x then den cf 178 146 L st M else den cf 178 151 L st M := den_ic_le l_178_143
theorem l_178_146 : look (tab 178) 146 = some (.iload 5, 2, [], uu) := by decide +kernel
theorem e_178_146 : den cf 178 146 [v0, v1, v2, v3, v4, .int x] st M = den cf 178 148 [v0, v1, v2, v3, v4, .int x] (.int x :: st) M := den_go l_178_146 rfl
theorem l_178_148 : look (tab 178) 148 = some (.goto 5, 3, [153], uu) := by decide +kernel
theorem e_178_148 : den cf 178 148 L st M = den cf 178 153 L st M := den_go l_178_148 rfl
theorem l_178_151 : look (tab 178) 151 = some (.iload 4, 2, [], uu) := by decide +kernel
theorem e_178_151 : den cf 178 151 [v0, v1, v2, v3, .int x, v5] st M = den cf 178 153 [v0, v1, v2, v3, .int x, v5] (.int x :: st) M := den_go l_178_151 rfl
theorem l_178_153 : look (tab 178) 153 = some (.ireturn, 1, [0], uu) := by decide +kernel
theorem e_178_153 : den cf 178 153 L [.int x] M = some (some (.int x), M) := den_e0 l_178_153
/-! yX6_common -/
theorem l_179_0 : look (tab 179) 0 = some (.aload_n 0, 1, [], uu) := by decide +kernel
theorem e_179_0 : den cf 179 0 [.ref a, v1, v2] st M = den cf 179 1 [.ref a, v1, v2] (.ref a :: st) M := den_go l_179_0 rfl
theorem l_179_1 : look (tab 179) 1 = some (.iload_n 1, 1, [], uu) := by decide +kernel
theorem e_179_1 : den cf 179 1 [v0, .int x, v2] st M = den cf 179 2 [v0, .int x, v2] (.int x :: st) M := den_go l_179_1 rfl
theorem l_179_2 : look (tab 179) 2 = some (.invokevirtual 104, 3, [6, 138, 2, 226, 227, 228, 5], uu) := by decide +kernel
theorem e_179_2 : den cf 179 2 L (w1 :: .ref a :: st) M = if rcv M 6 [.ref a, w1] = true ∧ st.length ≤ 4 then rK (cf 138 [.ref a, w1] M) (fun v M' => den cf 179 5 L (pR v st) M') else none := den_iv [w1] l_179_2 rfl
theorem l_179_5 : look (tab 179) 5 = some (.ifCond .eq 20, 3, [25], uu) := by decide +kernel
theorem e_179_5 : den cf 179 5 L (.int x :: st) M = if x = zI 0 then den cf 179 25 L st M else den cf 179 8 L st M := den_if_eq l_179_5
theorem l_179_8 : look (tab 179) 8 = some (.aload_n 0, 1, [], uu) := by decide +kernel
theorem e_179_8 : den cf 179 8 [.ref a, v1, v2] st M = den cf 179 9 [.ref a, v1, v2] (.ref a :: st) M := den_go l_179_8 rfl
theorem l_179_9 : look (tab 179) 9 = some (.iload_n 2, 1, [], uu) := by decide +kernel
theorem e_179_9 : den cf 179 9 [v0, v1, .int x] st M = den cf 179 10 [v0, v1, .int x] (.int x :: st) M := den_go l_179_9 rfl
theorem l_179_10 : look (tab 179) 10 = some (.invokevirtual 104, 3, [6, 138, 2, 226, 227, 228, 5], uu) := by decide +kernel
theorem e_179_10 : den cf 179 10 L (w1 :: .ref a :: st) M = if rcv M 6 [.ref a, w1] = true ∧ st.length ≤ 4 then rK (cf 138 [.ref a, w1] M) (fun v M' => den cf 179 13 L (pR v st) M') else none := den_iv [w1] l_179_10 rfl
theorem l_179_13 : look (tab 179) 13 = some (.ifCond .eq 12, 3, [25], uu) := by decide +kernel
theorem e_179_13 : den cf 179 13 L (.int x :: st) M = if x = zI 0 then den cf 179 25 L st M else den cf 179 16 L st M := den_if_eq l_179_13
theorem l_179_16 : look (tab 179) 16 = some (.aload_n 0, 1, [], uu) := by decide +kernel
theorem e_179_16 : den cf 179 16 [.ref a, v1, v2] st M = den cf 179 17 [.ref a, v1, v2] (.ref a :: st) M := den_go l_179_16 rfl
theorem l_179_17 : look (tab 179) 17 = some (.iload_n 1, 1, [], uu) := by decide +kernel
theorem e_179_17 : den cf 179 17 [v0, .int x, v2] st M = den cf 179 18 [v0, .int x, v2] (.int x :: st) M := den_go l_179_17 rfl
theorem l_179_18 : look (tab 179) 18 = some (.iload_n 2, 1, [], uu) := by decide +kernel
theorem e_179_18 : den cf 179 18 [v0, v1, .int x] st M = den cf 179 19 [v0, v1, .int x] (.int x :: st) M := den_go l_179_18 rfl
theorem l_179_19 : look (tab 179) 19 = some (.invokevirtual 140, 3, [6, 153, 3, 288, 289, 290, 5], uu) := by decide +kernel
theorem e_179_19 : den cf 179 19 L (w2 :: w1 :: .ref a :: st) M = if rcv M 6 [.ref a, w1, w2] = true ∧ st.length ≤ 4 then rK (cf 153 [.ref a, w1, w2] M) (fun v M' => den cf 179 22 L (pR v st) M') else none := den_iv [w1, w2] l_179_19 rfl
theorem l_179_22 : look (tab 179) 22 = some (.goto 9, 3, [31], uu) := by decide +kernel
theorem e_179_22 : den cf 179 22 L st M = den cf 179 31 L st M := den_go l_179_22 rfl
theorem l_179_25 : look (tab 179) 25 = some (.aload_n 0, 1, [], uu) := by decide +kernel
theorem e_179_25 : den cf 179 25 [.ref a, v1, v2] st M = den cf 179 26 [.ref a, v1, v2] (.ref a :: st) M := den_go l_179_25 rfl
theorem l_179_26 : look (tab 179) 26 = some (.bipush (-2), 2, [], .int (zI (-2))) := by decide +kernel
theorem e_179_26 : den cf 179 26 L st M = den cf 179 28 L (.int (zI (-2)) :: st) M := den_go l_179_26 rfl
theorem l_179_28 : look (tab 179) 28 = some (.invokevirtual 93, 3, [6, 136, 2, 133, 134, 135, 5], uu) := by decide +kernel
theorem e_179_28 : den cf 179 28 L (w1 :: .ref a :: st) M = if rcv M 6 [.ref a, w1] = true ∧ st.length ≤ 4 then rK (cf 136 [.ref a, w1] M) (fun v M' => den cf 179 31 L (pR v st) M') else none := den_iv [w1] l_179_28 rfl
theorem l_179_31 : look (tab 179) 31 = some (.ireturn, 1, [0], uu) := by decide +kernel
theorem e_179_31 : den cf 179 31 L [.int x] M = some (some (.int x), M) := den_e0 l_179_31
/-! yX6_noFriend -/
theorem l_180_0 : look (tab 180) 0 = some (.aload_n 0, 1, [], uu) := by decide +kernel
theorem e_180_0 : den cf 180 0 [.ref a, v1] st M = den cf 180 1 [.ref a, v1] (.ref a :: st) M := den_go l_180_0 rfl
theorem l_180_1 : look (tab 180) 1 = some (.iload_n 1, 1, [], uu) := by decide +kernel
theorem e_180_1 : den cf 180 1 [v0, .int x] st M = den cf 180 2 [v0, .int x] (.int x :: st) M := den_go l_180_1 rfl
theorem l_180_2 : look (tab 180) 2 = some (.invokevirtual 104, 3, [6, 138, 2, 226, 227, 228, 5], uu) := by decide +kernel
theorem e_180_2 : den cf 180 2 L (w1 :: .ref a :: st) M = if rcv M 6 [.ref a, w1] = true ∧ st.length ≤ 4 then rK (cf 138 [.ref a, w1] M) (fun v M' => den cf 180 5 L (pR v st) M') else none := den_iv [w1] l_180_2 rfl
theorem l_180_5 : look (tab 180) 5 = some (.ifCond .ne 10, 3, [15], uu) := by decide +kernel
theorem e_180_5 : den cf 180 5 L (.int x :: st) M = if x = zI 0 then den cf 180 8 L st M else den cf 180 15 L st M := den_if_ne l_180_5
theorem l_180_8 : look (tab 180) 8 = some (.aload_n 0, 1, [], uu) := by decide +kernel
theorem e_180_8 : den cf 180 8 [.ref a, v1] st M = den cf 180 9 [.ref a, v1] (.ref a :: st) M := den_go l_180_8 rfl
theorem l_180_9 : look (tab 180) 9 = some (.bipush (-2), 2, [], .int (zI (-2))) := by decide +kernel
theorem e_180_9 : den cf 180 9 L st M = den cf 180 11 L (.int (zI (-2)) :: st) M := den_go l_180_9 rfl
theorem l_180_11 : look (tab 180) 11 = some (.invokevirtual 93, 3, [6, 136, 2, 133, 134, 135, 5], uu) := by decide +kernel
theorem e_180_11 : den cf 180 11 L (w1 :: .ref a :: st) M = if rcv M 6 [.ref a, w1] = true ∧ st.length ≤ 4 then rK (cf 136 [.ref a, w1] M) (fun v M' => den cf 180 14 L (pR v st) M') else none := den_iv [w1] l_180_11 rfl
theorem l_180_14 : look (tab 180) 14 = some (.ireturn, 1, [0], uu) := by decide +kernel
theorem e_180_14 : den cf 180 14 L [.int x] M = some (some (.int x), M) := den_e0 l_180_14
theorem l_180_15 : look (tab 180) 15 = some (.aload_n 0, 1, [], uu) := by decide +kernel
theorem e_180_15 : den cf 180 15 [.ref a, v1] st M = den cf 180 16 [.ref a, v1] (.ref a :: st) M := den_go l_180_15 rfl
theorem l_180_16 : look (tab 180) 16 = some (.getfield 49, 3, [6, 14, 92], uu) := by decide +kernel
theorem e_180_16 : den cf 180 16 L (.ref a :: st) M = oK (gfA (M.2.2 a) 6 14) (fun v => den cf 180 19 L (v :: st) M) := den_gf l_180_16
theorem l_180_19 : look (tab 180) 19 = some (.iload_n 1, 1, [], uu) := by decide +kernel
theorem e_180_19 : den cf 180 19 [v0, .int x] st M = den cf 180 20 [v0, .int x] (.int x :: st) M := den_go l_180_19 rfl
theorem l_180_20 : look (tab 180) 20 = some (.iaload, 1, [], uu) := by decide +kernel
theorem e_180_20 : den cf 180 20 L (.int x :: .ref a :: st) M = oK (ldI (M.2.2 a) x) (fun v => den cf 180 21 L (v :: st) M) := den_al (g := ldI) l_180_20 rfl
theorem l_180_21 : look (tab 180) 21 = some (.iconst (-1), 1, [], .int (zI (-1))) := by decide +kernel
theorem e_180_21 : den cf 180 21 L st M = den cf 180 22 L (.int (zI (-1)) :: st) M := den_go l_180_21 rfl
theorem l_180_22 : look (tab 180) 22 = some (.if_icmp .ne 12, 3, [34], uu) := by decide +kernel
theorem e_180_22 : den cf 180 22 L (.int y :: .int x :: st) M = if x = y then den cf 180 25 L st M else den cf 180 34 L st M := den_ic_ne l_180_22
theorem l_180_25 : look (tab 180) 25 = some (.aload_n 0, 1, [], uu) := by decide +kernel
theorem e_180_25 : den cf 180 25 [.ref a, v1] st M = den cf 180 26 [.ref a, v1] (.ref a :: st) M := den_go l_180_25 rfl
theorem l_180_26 : look (tab 180) 26 = some (.bipush (-5), 2, [], .int (zI (-5))) := by decide +kernel
theorem e_180_26 : den cf 180 26 L st M = den cf 180 28 L (.int (zI (-5)) :: st) M := den_go l_180_26 rfl
theorem l_180_28 : look (tab 180) 28 = some (.invokevirtual 93, 3, [6, 136, 2, 133, 134, 135, 5], uu) := by decide +kernel
theorem e_180_28 : den cf 180 28 L (w1 :: .ref a :: st) M = if rcv M 6 [.ref a, w1] = true ∧ st.length ≤ 4 then rK (cf 136 [.ref a, w1] M) (fun v M' => den cf 180 31 L (pR v st) M') else none := den_iv [w1] l_180_28 rfl
theorem l_180_31 : look (tab 180) 31 = some (.goto 4, 3, [35], uu) := by decide +kernel
theorem e_180_31 : den cf 180 31 L st M = den cf 180 35 L st M := den_go l_180_31 rfl
theorem l_180_34 : look (tab 180) 34 = some (.iconst 0, 1, [], .int (zI 0)) := by decide +kernel
theorem e_180_34 : den cf 180 34 L st M = den cf 180 35 L (.int (zI 0) :: st) M := den_go l_180_34 rfl
theorem l_180_35 : look (tab 180) 35 = some (.ireturn, 1, [0], uu) := by decide +kernel
theorem e_180_35 : den cf 180 35 L [.int x] M = some (some (.int x), M) := den_e0 l_180_35
/-! yX6_will -/
theorem l_181_0 : look (tab 181) 0 = some (.aload_n 0, 1, [], uu) := by decide +kernel
theorem e_181_0 : den cf 181 0 [.ref a, v1, v2, v3] st M = den cf 181 1 [.ref a, v1, v2, v3] (.ref a :: st) M := den_go l_181_0 rfl
theorem l_181_1 : look (tab 181) 1 = some (.iload_n 1, 1, [], uu) := by decide +kernel
theorem e_181_1 : den cf 181 1 [v0, .int x, v2, v3] st M = den cf 181 2 [v0, .int x, v2, v3] (.int x :: st) M := den_go l_181_1 rfl
theorem l_181_2 : look (tab 181) 2 = some (.invokevirtual 104, 3, [6, 138, 2, 226, 227, 228, 5], uu) := by decide +kernel
theorem e_181_2 : den cf 181 2 L (w1 :: .ref a :: st) M = if rcv M 6 [.ref a, w1] = true ∧ st.length ≤ 4 then rK (cf 138 [.ref a, w1] M) (fun v M' => den cf 181 5 L (pR v st) M') else none := den_iv [w1] l_181_2 rfl
theorem l_181_5 : look (tab 181) 5 = some (.ifCond .eq 13, 3, [18], uu) := by decide +kernel
theorem e_181_5 : den cf 181 5 L (.int x :: st) M = if x = zI 0 then den cf 181 18 L st M else den cf 181 8 L st M := den_if_eq l_181_5
theorem l_181_8 : look (tab 181) 8 = some (.iload_n 2, 1, [], uu) := by decide +kernel
theorem e_181_8 : den cf 181 8 [v0, v1, .int x, v3] st M = den cf 181 9 [v0, v1, .int x, v3] (.int x :: st) M := den_go l_181_8 rfl
theorem l_181_9 : look (tab 181) 9 = some (.i2l, 1, [], uu) := by decide +kernel
theorem e_181_9 : den cf 181 9 L (.int x :: st) M = den cf 181 10 L (.long x.toInt64 :: st) M := den_go l_181_9 rfl
theorem l_181_10 : look (tab 181) 10 = some (.lconst 0, 1, [], .long (zJ 0)) := by decide +kernel
theorem e_181_10 : den cf 181 10 L st M = den cf 181 11 L (.long (zJ 0) :: st) M := den_go l_181_10 rfl
theorem l_181_11 : look (tab 181) 11 = some (.lconst 1, 1, [], .long (zJ 1)) := by decide +kernel
theorem e_181_11 : den cf 181 11 L st M = den cf 181 12 L (.long (zJ 1) :: st) M := den_go l_181_11 rfl
theorem l_181_12 : look (tab 181) 12 = some (.invokestatic 83, 3, [1, 137, 3, 130, 131, 5], uu) := by decide +kernel
theorem e_181_12 : den cf 181 12 L (w3 :: w2 :: w1 :: st) M = if st.length ≤ 4 then rK (cf 137 [w1, w2, w3] M) (fun v M' => den cf 181 15 L (pR v st) M') else none := den_ist [w1, w2, w3] l_181_12 rfl
theorem l_181_15 : look (tab 181) 15 = some (.ifCond .ne 10, 3, [25], uu) := by decide +kernel
theorem e_181_15 : den cf 181 15 L (.int x :: st) M = if x = zI 0 then den cf 181 18 L st M else den cf 181 25 L st M := den_if_ne l_181_15
theorem l_181_18 : look (tab 181) 18 = some (.aload_n 0, 1, [], uu) := by decide +kernel
theorem e_181_18 : den cf 181 18 [.ref a, v1, v2, v3] st M = den cf 181 19 [.ref a, v1, v2, v3] (.ref a :: st) M := den_go l_181_18 rfl
theorem l_181_19 : look (tab 181) 19 = some (.bipush (-2), 2, [], .int (zI (-2))) := by decide +kernel
theorem e_181_19 : den cf 181 19 L st M = den cf 181 21 L (.int (zI (-2)) :: st) M := den_go l_181_19 rfl
theorem l_181_21 : look (tab 181) 21 = some (.invokevirtual 93, 3, [6, 136, 2, 133, 134, 135, 5], uu) := by decide +kernel
theorem e_181_21 : den cf 181 21 L (w1 :: .ref a :: st) M = if rcv M 6 [.ref a, w1] = true ∧ st.length ≤ 4 then rK (cf 136 [.ref a, w1] M) (fun v M' => den cf 181 24 L (pR v st) M') else none := den_iv [w1] l_181_21 rfl
theorem l_181_24 : look (tab 181) 24 = some (.ireturn, 1, [0], uu) := by decide +kernel
theorem e_181_24 : den cf 181 24 L [.int x] M = some (some (.int x), M) := den_e0 l_181_24
theorem l_181_25 : look (tab 181) 25 = some (.aload_n 0, 1, [], uu) := by decide +kernel
theorem e_181_25 : den cf 181 25 [.ref a, v1, v2, v3] st M = den cf 181 26 [.ref a, v1, v2, v3] (.ref a :: st) M := den_go l_181_25 rfl
theorem l_181_26 : look (tab 181) 26 = some (.iload_n 1, 1, [], uu) := by decide +kernel
theorem e_181_26 : den cf 181 26 [v0, .int x, v2, v3] st M = den cf 181 27 [v0, .int x, v2, v3] (.int x :: st) M := den_go l_181_26 rfl
theorem l_181_27 : look (tab 181) 27 = some (.invokevirtual 247, 3, [6, 180, 2, 653, 654, 655, 5], uu) := by decide +kernel
theorem e_181_27 : den cf 181 27 L (w1 :: .ref a :: st) M = if rcv M 6 [.ref a, w1] = true ∧ st.length ≤ 4 then rK (cf 180 [.ref a, w1] M) (fun v M' => den cf 181 30 L (pR v st) M') else none := den_iv [w1] l_181_27 rfl
theorem l_181_30 : look (tab 181) 30 = some (.istore_n 3, 1, [], uu) := by decide +kernel
theorem e_181_30 : den cf 181 30 [v0, v1, v2, v3] (.int x :: st) M = den cf 181 31 [v0, v1, kq v2, .int x] st M := den_st (k := 3) (v := .int x) l_181_30 rfl
theorem l_181_31 : look (tab 181) 31 = some (.iload_n 3, 1, [], uu) := by decide +kernel
theorem e_181_31 : den cf 181 31 [v0, v1, v2, .int x] st M = den cf 181 32 [v0, v1, v2, .int x] (.int x :: st) M := den_go l_181_31 rfl
theorem l_181_32 : look (tab 181) 32 = some (.ifCond .eq 7, 3, [39], uu) := by decide +kernel
theorem e_181_32 : den cf 181 32 L (.int x :: st) M = if x = zI 0 then den cf 181 39 L st M else den cf 181 35 L st M := den_if_eq l_181_32
theorem l_181_35 : look (tab 181) 35 = some (.iload_n 3, 1, [], uu) := by decide +kernel
theorem e_181_35 : den cf 181 35 [v0, v1, v2, .int x] st M = den cf 181 36 [v0, v1, v2, .int x] (.int x :: st) M := den_go l_181_35 rfl
theorem l_181_36 : look (tab 181) 36 = some (.goto 32, 3, [68], uu) := by decide +kernel
theorem e_181_36 : den cf 181 36 L st M = den cf 181 68 L st M := den_go l_181_36 rfl
theorem l_181_39 : look (tab 181) 39 = some (.iload_n 2, 1, [], uu) := by decide +kernel
theorem e_181_39 : den cf 181 39 [v0, v1, .int x, v3] st M = den cf 181 40 [v0, v1, .int x, v3] (.int x :: st) M := den_go l_181_39 rfl
theorem l_181_40 : look (tab 181) 40 = some (.ifCond .ne 17, 3, [57], uu) := by decide +kernel
theorem e_181_40 : den cf 181 40 L (.int x :: st) M = if x = zI 0 then den cf 181 43 L st M else den cf 181 57 L st M := den_if_ne l_181_40
theorem l_181_43 : look (tab 181) 43 = some (.aload_n 0, 1, [], uu) := by decide +kernel
theorem e_181_43 : den cf 181 43 [.ref a, v1, v2, v3] st M = den cf 181 44 [.ref a, v1, v2, v3] (.ref a :: st) M := den_go l_181_43 rfl
theorem l_181_44 : look (tab 181) 44 = some (.iload_n 1, 1, [], uu) := by decide +kernel
theorem e_181_44 : den cf 181 44 [v0, .int x, v2, v3] st M = den cf 181 45 [v0, .int x, v2, v3] (.int x :: st) M := den_go l_181_44 rfl
theorem l_181_45 : look (tab 181) 45 = some (.aload_n 0, 1, [], uu) := by decide +kernel
theorem e_181_45 : den cf 181 45 [.ref a, v1, v2, v3] st M = den cf 181 46 [.ref a, v1, v2, v3] (.ref a :: st) M := den_go l_181_45 rfl
theorem l_181_46 : look (tab 181) 46 = some (.getfield 37, 3, [6, 10, 88], uu) := by decide +kernel
theorem e_181_46 : den cf 181 46 L (.ref a :: st) M = oK (gfA (M.2.2 a) 6 10) (fun v => den cf 181 49 L (v :: st) M) := den_gf l_181_46
theorem l_181_49 : look (tab 181) 49 = some (.iload_n 1, 1, [], uu) := by decide +kernel
theorem e_181_49 : den cf 181 49 [v0, .int x, v2, v3] st M = den cf 181 50 [v0, .int x, v2, v3] (.int x :: st) M := den_go l_181_49 rfl
theorem l_181_50 : look (tab 181) 50 = some (.iaload, 1, [], uu) := by decide +kernel
theorem e_181_50 : den cf 181 50 L (.int x :: .ref a :: st) M = oK (ldI (M.2.2 a) x) (fun v => den cf 181 51 L (v :: st) M) := den_al (g := ldI) l_181_50 rfl
theorem l_181_51 : look (tab 181) 51 = some (.invokevirtual 114, 3, [6, 177, 3, 284, 285, 286, 5], uu) := by decide +kernel
theorem e_181_51 : den cf 181 51 L (w2 :: w1 :: .ref a :: st) M = if rcv M 6 [.ref a, w1, w2] = true ∧ st.length ≤ 4 then rK (cf 177 [.ref a, w1, w2] M) (fun v M' => den cf 181 54 L (pR v st) M') else none := den_iv [w1, w2] l_181_51 rfl
theorem l_181_54 : look (tab 181) 54 = some (.goto 14, 3, [68], uu) := by decide +kernel
theorem e_181_54 : den cf 181 54 L st M = den cf 181 68 L st M := den_go l_181_54 rfl
theorem l_181_57 : look (tab 181) 57 = some (.aload_n 0, 1, [], uu) := by decide +kernel
theorem e_181_57 : den cf 181 57 [.ref a, v1, v2, v3] st M = den cf 181 58 [.ref a, v1, v2, v3] (.ref a :: st) M := den_go l_181_57 rfl
theorem l_181_58 : look (tab 181) 58 = some (.iload_n 1, 1, [], uu) := by decide +kernel
theorem e_181_58 : den cf 181 58 [v0, .int x, v2, v3] st M = den cf 181 59 [v0, .int x, v2, v3] (.int x :: st) M := den_go l_181_58 rfl
theorem l_181_59 : look (tab 181) 59 = some (.aload_n 0, 1, [], uu) := by decide +kernel
theorem e_181_59 : den cf 181 59 [.ref a, v1, v2, v3] st M = den cf 181 60 [.ref a, v1, v2, v3] (.ref a :: st) M := den_go l_181_59 rfl
theorem l_181_60 : look (tab 181) 60 = some (.getfield 37, 3, [6, 10, 88], uu) := by decide +kernel
theorem e_181_60 : den cf 181 60 L (.ref a :: st) M = oK (gfA (M.2.2 a) 6 10) (fun v => den cf 181 63 L (v :: st) M) := den_gf l_181_60
theorem l_181_63 : look (tab 181) 63 = some (.iload_n 1, 1, [], uu) := by decide +kernel
theorem e_181_63 : den cf 181 63 [v0, .int x, v2, v3] st M = den cf 181 64 [v0, .int x, v2, v3] (.int x :: st) M := den_go l_181_63 rfl
theorem l_181_64 : look (tab 181) 64 = some (.iaload, 1, [], uu) := by decide +kernel
theorem e_181_64 : den cf 181 64 L (.int x :: .ref a :: st) M = oK (ldI (M.2.2 a) x) (fun v => den cf 181 65 L (v :: st) M) := den_al (g := ldI) l_181_64 rfl
theorem l_181_65 : look (tab 181) 65 = some (.invokevirtual 118, 3, [6, 178, 3, 295, 296, 297, 5], uu) := by decide +kernel
theorem e_181_65 : den cf 181 65 L (w2 :: w1 :: .ref a :: st) M = if rcv M 6 [.ref a, w1, w2] = true ∧ st.length ≤ 4 then rK (cf 178 [.ref a, w1, w2] M) (fun v M' => den cf 181 68 L (pR v st) M') else none := den_iv [w1, w2] l_181_65 rfl
theorem l_181_68 : look (tab 181) 68 = some (.ireturn, 1, [0], uu) := by decide +kernel
theorem e_181_68 : den cf 181 68 L [.int x] M = some (some (.int x), M) := den_e0 l_181_68
/-! yX6_debtor -/
theorem l_182_0 : look (tab 182) 0 = some (.aload_n 0, 1, [], uu) := by decide +kernel
theorem e_182_0 : den cf 182 0 [.ref a, v1] st M = den cf 182 1 [.ref a, v1] (.ref a :: st) M := den_go l_182_0 rfl
theorem l_182_1 : look (tab 182) 1 = some (.getfield 52, 3, [6, 15, 93], uu) := by decide +kernel
theorem e_182_1 : den cf 182 1 L (.ref a :: st) M = oK (gfA (M.2.2 a) 6 15) (fun v => den cf 182 4 L (v :: st) M) := den_gf l_182_1
theorem l_182_4 : look (tab 182) 4 = some (.iload_n 1, 1, [], uu) := by decide +kernel
theorem e_182_4 : den cf 182 4 [v0, .int x] st M = den cf 182 5 [v0, .int x] (.int x :: st) M := den_go l_182_4 rfl
theorem l_182_5 : look (tab 182) 5 = some (.iaload, 1, [], uu) := by decide +kernel
theorem e_182_5 : den cf 182 5 L (.int x :: .ref a :: st) M = oK (ldI (M.2.2 a) x) (fun v => den cf 182 6 L (v :: st) M) := den_al (g := ldI) l_182_5 rfl
theorem l_182_6 : look (tab 182) 6 = some (.iconst 1, 1, [], .int (zI 1)) := by decide +kernel
theorem e_182_6 : den cf 182 6 L st M = den cf 182 7 L (.int (zI 1) :: st) M := den_go l_182_6 rfl
theorem l_182_7 : look (tab 182) 7 = some (.if_icmp .ne 7, 3, [14], uu) := by decide +kernel
theorem e_182_7 : den cf 182 7 L (.int y :: .int x :: st) M = if x = y then den cf 182 10 L st M else den cf 182 14 L st M := den_ic_ne l_182_7
theorem l_182_10 : look (tab 182) 10 = some (.iload_n 1, 1, [], uu) := by decide +kernel
theorem e_182_10 : den cf 182 10 [v0, .int x] st M = den cf 182 11 [v0, .int x] (.int x :: st) M := den_go l_182_10 rfl
theorem l_182_11 : look (tab 182) 11 = some (.goto 9, 3, [20], uu) := by decide +kernel
theorem e_182_11 : den cf 182 11 L st M = den cf 182 20 L st M := den_go l_182_11 rfl
theorem l_182_14 : look (tab 182) 14 = some (.aload_n 0, 1, [], uu) := by decide +kernel
theorem e_182_14 : den cf 182 14 [.ref a, v1] st M = den cf 182 15 [.ref a, v1] (.ref a :: st) M := den_go l_182_14 rfl
theorem l_182_15 : look (tab 182) 15 = some (.getfield 49, 3, [6, 14, 92], uu) := by decide +kernel
theorem e_182_15 : den cf 182 15 L (.ref a :: st) M = oK (gfA (M.2.2 a) 6 14) (fun v => den cf 182 18 L (v :: st) M) := den_gf l_182_15
theorem l_182_18 : look (tab 182) 18 = some (.iload_n 1, 1, [], uu) := by decide +kernel
theorem e_182_18 : den cf 182 18 [v0, .int x] st M = den cf 182 19 [v0, .int x] (.int x :: st) M := den_go l_182_18 rfl
theorem l_182_19 : look (tab 182) 19 = some (.iaload, 1, [], uu) := by decide +kernel
theorem e_182_19 : den cf 182 19 L (.int x :: .ref a :: st) M = oK (ldI (M.2.2 a) x) (fun v => den cf 182 20 L (v :: st) M) := den_al (g := ldI) l_182_19 rfl
theorem l_182_20 : look (tab 182) 20 = some (.ireturn, 1, [0], uu) := by decide +kernel
theorem e_182_20 : den cf 182 20 L [.int x] M = some (some (.int x), M) := den_e0 l_182_20
/-! yX6_isOver -/
theorem l_183_0 : look (tab 183) 0 = some (.aload_n 0, 1, [], uu) := by decide +kernel
theorem e_183_0 : den cf 183 0 [.ref a, v1, v2] st M = den cf 183 1 [.ref a, v1, v2] (.ref a :: st) M := den_go l_183_0 rfl
theorem l_183_1 : look (tab 183) 1 = some (.iload_n 1, 1, [], uu) := by decide +kernel
theorem e_183_1 : den cf 183 1 [v0, .int x, v2] st M = den cf 183 2 [v0, .int x, v2] (.int x :: st) M := den_go l_183_1 rfl
theorem l_183_2 : look (tab 183) 2 = some (.invokevirtual 250, 3, [6, 182, 2, 678, 679, 680, 5], uu) := by decide +kernel
theorem e_183_2 : den cf 183 2 L (w1 :: .ref a :: st) M = if rcv M 6 [.ref a, w1] = true ∧ st.length ≤ 4 then rK (cf 182 [.ref a, w1] M) (fun v M' => den cf 183 5 L (pR v st) M') else none := den_iv [w1] l_183_2 rfl
theorem l_183_5 : look (tab 183) 5 = some (.istore_n 2, 1, [], uu) := by decide +kernel
theorem e_183_5 : den cf 183 5 [v0, v1, v2] (.int x :: st) M = den cf 183 6 [v0, kq v1, .int x] st M := den_st (k := 2) (v := .int x) l_183_5 rfl
theorem l_183_6 : look (tab 183) 6 = some (.aload_n 0, 1, [], uu) := by decide +kernel
theorem e_183_6 : den cf 183 6 [.ref a, v1, v2] st M = den cf 183 7 [.ref a, v1, v2] (.ref a :: st) M := den_go l_183_6 rfl
theorem l_183_7 : look (tab 183) 7 = some (.iload_n 2, 1, [], uu) := by decide +kernel
theorem e_183_7 : den cf 183 7 [v0, v1, .int x] st M = den cf 183 8 [v0, v1, .int x] (.int x :: st) M := den_go l_183_7 rfl
theorem l_183_8 : look (tab 183) 8 = some (.aload_n 0, 1, [], uu) := by decide +kernel
theorem e_183_8 : den cf 183 8 [.ref a, v1, v2] st M = den cf 183 9 [.ref a, v1, v2] (.ref a :: st) M := den_go l_183_8 rfl
theorem l_183_9 : look (tab 183) 9 = some (.getfield 37, 3, [6, 10, 88], uu) := by decide +kernel
theorem e_183_9 : den cf 183 9 L (.ref a :: st) M = oK (gfA (M.2.2 a) 6 10) (fun v => den cf 183 12 L (v :: st) M) := den_gf l_183_9
theorem l_183_12 : look (tab 183) 12 = some (.iload_n 2, 1, [], uu) := by decide +kernel
theorem e_183_12 : den cf 183 12 [v0, v1, .int x] st M = den cf 183 13 [v0, v1, .int x] (.int x :: st) M := den_go l_183_12 rfl
theorem l_183_13 : look (tab 183) 13 = some (.iaload, 1, [], uu) := by decide +kernel
theorem e_183_13 : den cf 183 13 L (.int x :: .ref a :: st) M = oK (ldI (M.2.2 a) x) (fun v => den cf 183 14 L (v :: st) M) := den_al (g := ldI) l_183_13 rfl
theorem l_183_14 : look (tab 183) 14 = some (.invokevirtual 114, 3, [6, 177, 3, 284, 285, 286, 5], uu) := by decide +kernel
theorem e_183_14 : den cf 183 14 L (w2 :: w1 :: .ref a :: st) M = if rcv M 6 [.ref a, w1, w2] = true ∧ st.length ≤ 4 then rK (cf 177 [.ref a, w1, w2] M) (fun v M' => den cf 183 17 L (pR v st) M') else none := den_iv [w1, w2] l_183_14 rfl
theorem l_183_17 : look (tab 183) 17 = some (.ifCond .ne 7, 3, [24], uu) := by decide +kernel
theorem e_183_17 : den cf 183 17 L (.int x :: st) M = if x = zI 0 then den cf 183 20 L st M else den cf 183 24 L st M := den_if_ne l_183_17
theorem l_183_20 : look (tab 183) 20 = some (.iconst 1, 1, [], .int (zI 1)) := by decide +kernel
theorem e_183_20 : den cf 183 20 L st M = den cf 183 21 L (.int (zI 1) :: st) M := den_go l_183_20 rfl
theorem l_183_21 : look (tab 183) 21 = some (.goto 4, 3, [25], uu) := by decide +kernel
theorem e_183_21 : den cf 183 21 L st M = den cf 183 25 L st M := den_go l_183_21 rfl
theorem l_183_24 : look (tab 183) 24 = some (.iconst 0, 1, [], .int (zI 0)) := by decide +kernel
theorem e_183_24 : den cf 183 24 L st M = den cf 183 25 L (.int (zI 0) :: st) M := den_go l_183_24 rfl
theorem l_183_25 : look (tab 183) 25 = some (.ireturn, 1, [1], uu) := by decide +kernel
theorem e_183_25 : den cf 183 25 L [.int x] M = if x = zI 0 ∨ x = zI 1 then some (some (.int x), M) else none := den_e1 l_183_25
/-! yX6_over -/
theorem l_184_0 : look (tab 184) 0 = some (.aload_n 0, 1, [], uu) := by decide +kernel
theorem e_184_0 : den cf 184 0 [.ref a, v1, v2] st M = den cf 184 1 [.ref a, v1, v2] (.ref a :: st) M := den_go l_184_0 rfl
theorem l_184_1 : look (tab 184) 1 = some (.iload_n 1, 1, [], uu) := by decide +kernel
theorem e_184_1 : den cf 184 1 [v0, .int x, v2] st M = den cf 184 2 [v0, .int x, v2] (.int x :: st) M := den_go l_184_1 rfl
theorem l_184_2 : look (tab 184) 2 = some (.invokevirtual 247, 3, [6, 180, 2, 653, 654, 655, 5], uu) := by decide +kernel
theorem e_184_2 : den cf 184 2 L (w1 :: .ref a :: st) M = if rcv M 6 [.ref a, w1] = true ∧ st.length ≤ 4 then rK (cf 180 [.ref a, w1] M) (fun v M' => den cf 184 5 L (pR v st) M') else none := den_iv [w1] l_184_2 rfl
theorem l_184_5 : look (tab 184) 5 = some (.istore_n 2, 1, [], uu) := by decide +kernel
theorem e_184_5 : den cf 184 5 [v0, v1, v2] (.int x :: st) M = den cf 184 6 [v0, kq v1, .int x] st M := den_st (k := 2) (v := .int x) l_184_5 rfl
theorem l_184_6 : look (tab 184) 6 = some (.iload_n 2, 1, [], uu) := by decide +kernel
theorem e_184_6 : den cf 184 6 [v0, v1, .int x] st M = den cf 184 7 [v0, v1, .int x] (.int x :: st) M := den_go l_184_6 rfl
theorem l_184_7 : look (tab 184) 7 = some (.ifCond .eq 7, 3, [14], uu) := by decide +kernel
theorem e_184_7 : den cf 184 7 L (.int x :: st) M = if x = zI 0 then den cf 184 14 L st M else den cf 184 10 L st M := den_if_eq l_184_7
theorem l_184_10 : look (tab 184) 10 = some (.iload_n 2, 1, [], uu) := by decide +kernel
theorem e_184_10 : den cf 184 10 [v0, v1, .int x] st M = den cf 184 11 [v0, v1, .int x] (.int x :: st) M := den_go l_184_10 rfl
theorem l_184_11 : look (tab 184) 11 = some (.goto 16, 3, [27], uu) := by decide +kernel
theorem e_184_11 : den cf 184 11 L st M = den cf 184 27 L st M := den_go l_184_11 rfl
theorem l_184_14 : look (tab 184) 14 = some (.aload_n 0, 1, [], uu) := by decide +kernel
theorem e_184_14 : den cf 184 14 [.ref a, v1, v2] st M = den cf 184 15 [.ref a, v1, v2] (.ref a :: st) M := den_go l_184_14 rfl
theorem l_184_15 : look (tab 184) 15 = some (.iload_n 1, 1, [], uu) := by decide +kernel
theorem e_184_15 : den cf 184 15 [v0, .int x, v2] st M = den cf 184 16 [v0, .int x, v2] (.int x :: st) M := den_go l_184_15 rfl
theorem l_184_16 : look (tab 184) 16 = some (.invokevirtual 253, 3, [6, 183, 2, 674, 675, 676, 5], uu) := by decide +kernel
theorem e_184_16 : den cf 184 16 L (w1 :: .ref a :: st) M = if rcv M 6 [.ref a, w1] = true ∧ st.length ≤ 4 then rK (cf 183 [.ref a, w1] M) (fun v M' => den cf 184 19 L (pR v st) M') else none := den_iv [w1] l_184_16 rfl
theorem l_184_19 : look (tab 184) 19 = some (.ifCond .eq 7, 3, [26], uu) := by decide +kernel
theorem e_184_19 : den cf 184 19 L (.int x :: st) M = if x = zI 0 then den cf 184 26 L st M else den cf 184 22 L st M := den_if_eq l_184_19
theorem l_184_22 : look (tab 184) 22 = some (.iconst 1, 1, [], .int (zI 1)) := by decide +kernel
theorem e_184_22 : den cf 184 22 L st M = den cf 184 23 L (.int (zI 1) :: st) M := den_go l_184_22 rfl
theorem l_184_23 : look (tab 184) 23 = some (.goto 4, 3, [27], uu) := by decide +kernel
theorem e_184_23 : den cf 184 23 L st M = den cf 184 27 L st M := den_go l_184_23 rfl
theorem l_184_26 : look (tab 184) 26 = some (.iconst 0, 1, [], .int (zI 0)) := by decide +kernel
theorem e_184_26 : den cf 184 26 L st M = den cf 184 27 L (.int (zI 0) :: st) M := den_go l_184_26 rfl
theorem l_184_27 : look (tab 184) 27 = some (.ireturn, 1, [0], uu) := by decide +kernel
theorem e_184_27 : den cf 184 27 L [.int x] M = some (some (.int x), M) := den_e0 l_184_27
/-! yX6_isSilent -/
theorem l_185_0 : look (tab 185) 0 = some (.aload_n 0, 1, [], uu) := by decide +kernel
theorem e_185_0 : den cf 185 0 [.ref a, v1] st M = den cf 185 1 [.ref a, v1] (.ref a :: st) M := den_go l_185_0 rfl
theorem l_185_1 : look (tab 185) 1 = some (.getfield 55, 3, [6, 16, 94], uu) := by decide +kernel
theorem e_185_1 : den cf 185 1 L (.ref a :: st) M = oK (gfA (M.2.2 a) 6 16) (fun v => den cf 185 4 L (v :: st) M) := den_gf l_185_1
theorem l_185_4 : look (tab 185) 4 = some (.iload_n 1, 1, [], uu) := by decide +kernel
theorem e_185_4 : den cf 185 4 [v0, .int x] st M = den cf 185 5 [v0, .int x] (.int x :: st) M := den_go l_185_4 rfl
theorem l_185_5 : look (tab 185) 5 = some (.dup2, 1, [], uu) := by decide +kernel
theorem e_185_5 : den cf 185 5 L (.int x :: .ref a :: st) M = den cf 185 6 L (.int x :: .ref a :: .int x :: .ref a :: st) M := den_go l_185_5 rfl
theorem l_185_6 : look (tab 185) 6 = some (.iaload, 1, [], uu) := by decide +kernel
theorem e_185_6 : den cf 185 6 L (.int x :: .ref a :: st) M = oK (ldI (M.2.2 a) x) (fun v => den cf 185 7 L (v :: st) M) := den_al (g := ldI) l_185_6 rfl
theorem l_185_7 : look (tab 185) 7 = some (.aload_n 0, 1, [], uu) := by decide +kernel
theorem e_185_7 : den cf 185 7 [.ref a, v1] st M = den cf 185 8 [.ref a, v1] (.ref a :: st) M := den_go l_185_7 rfl
theorem l_185_8 : look (tab 185) 8 = some (.getfield 55, 3, [6, 16, 94], uu) := by decide +kernel
theorem e_185_8 : den cf 185 8 L (.ref a :: st) M = oK (gfA (M.2.2 a) 6 16) (fun v => den cf 185 11 L (v :: st) M) := den_gf l_185_8
theorem l_185_11 : look (tab 185) 11 = some (.iload_n 1, 1, [], uu) := by decide +kernel
theorem e_185_11 : den cf 185 11 [v0, .int x] st M = den cf 185 12 [v0, .int x] (.int x :: st) M := den_go l_185_11 rfl
theorem l_185_12 : look (tab 185) 12 = some (.iaload, 1, [], uu) := by decide +kernel
theorem e_185_12 : den cf 185 12 L (.int x :: .ref a :: st) M = oK (ldI (M.2.2 a) x) (fun v => den cf 185 13 L (v :: st) M) := den_al (g := ldI) l_185_12 rfl
theorem l_185_13 : look (tab 185) 13 = some (.bipush 99, 2, [], .int (zI 99)) := by decide +kernel
theorem e_185_13 : den cf 185 13 L st M = den cf 185 15 L (.int (zI 99) :: st) M := den_go l_185_13 rfl
theorem l_185_15 : look (tab 185) 15 = some (.if_icmp .ge 7, 3, [22], uu) := by decide +kernel
theorem e_185_15 : den cf 185 15 L (.int y :: .int x :: st) M = if x < y then den cf 185 18 L st M else den cf 185 22 L st M := den_ic_ge l_185_15
theorem l_185_18 : look (tab 185) 18 = some (.iconst 1, 1, [], .int (zI 1)) := by decide +kernel
theorem e_185_18 : den cf 185 18 L st M = den cf 185 19 L (.int (zI 1) :: st) M := den_go l_185_18 rfl
theorem l_185_19 : look (tab 185) 19 = some (.goto 4, 3, [23], uu) := by decide +kernel
theorem e_185_19 : den cf 185 19 L st M = den cf 185 23 L st M := den_go l_185_19 rfl
theorem l_185_22 : look (tab 185) 22 = some (.iconst 0, 1, [], .int (zI 0)) := by decide +kernel
theorem e_185_22 : den cf 185 22 L st M = den cf 185 23 L (.int (zI 0) :: st) M := den_go l_185_22 rfl
theorem l_185_23 : look (tab 185) 23 = some (.iadd, 1, [], uu) := by decide +kernel
theorem e_185_23 : den cf 185 23 L (.int y :: .int x :: st) M = den cf 185 24 L (.int (x + y) :: st) M := den_go l_185_23 rfl
theorem l_185_24 : look (tab 185) 24 = some (.iastore, 1, [], uu) := by decide +kernel
theorem e_185_24 : den cf 185 24 L (.int x :: .int y :: .ref a :: st) M = oK (stI (M.2.2 a) y x) (fun c => den cf 185 25 L st (mU M a c)) := den_is l_185_24
theorem l_185_25 : look (tab 185) 25 = some (.return_, 1, [], uu) := by decide +kernel
theorem e_185_25 : den cf 185 25 L [] M = some (none, M) := den_e4 l_185_25
/-! yX6_writes -/
theorem l_186_0 : look (tab 186) 0 = some (.aload_n 0, 1, [], uu) := by decide +kernel
theorem e_186_0 : den cf 186 0 [.ref a, v1, v2] st M = den cf 186 1 [.ref a, v1, v2] (.ref a :: st) M := den_go l_186_0 rfl
theorem l_186_1 : look (tab 186) 1 = some (.getfield 58, 3, [6, 17, 95], uu) := by decide +kernel
theorem e_186_1 : den cf 186 1 L (.ref a :: st) M = oK (gfA (M.2.2 a) 6 17) (fun v => den cf 186 4 L (v :: st) M) := den_gf l_186_1
theorem l_186_4 : look (tab 186) 4 = some (.iload_n 1, 1, [], uu) := by decide +kernel
theorem e_186_4 : den cf 186 4 [v0, .int x, v2] st M = den cf 186 5 [v0, .int x, v2] (.int x :: st) M := den_go l_186_4 rfl
theorem l_186_5 : look (tab 186) 5 = some (.aload_n 0, 1, [], uu) := by decide +kernel
theorem e_186_5 : den cf 186 5 [.ref a, v1, v2] st M = den cf 186 6 [.ref a, v1, v2] (.ref a :: st) M := den_go l_186_5 rfl
theorem l_186_6 : look (tab 186) 6 = some (.iload_n 1, 1, [], uu) := by decide +kernel
theorem e_186_6 : den cf 186 6 [v0, .int x, v2] st M = den cf 186 7 [v0, .int x, v2] (.int x :: st) M := den_go l_186_6 rfl
theorem l_186_7 : look (tab 186) 7 = some (.aload_n 0, 1, [], uu) := by decide +kernel
theorem e_186_7 : den cf 186 7 [.ref a, v1, v2] st M = den cf 186 8 [.ref a, v1, v2] (.ref a :: st) M := den_go l_186_7 rfl
theorem l_186_8 : look (tab 186) 8 = some (.getfield 37, 3, [6, 10, 88], uu) := by decide +kernel
theorem e_186_8 : den cf 186 8 L (.ref a :: st) M = oK (gfA (M.2.2 a) 6 10) (fun v => den cf 186 11 L (v :: st) M) := den_gf l_186_8
theorem l_186_11 : look (tab 186) 11 = some (.iload_n 1, 1, [], uu) := by decide +kernel
theorem e_186_11 : den cf 186 11 [v0, .int x, v2] st M = den cf 186 12 [v0, .int x, v2] (.int x :: st) M := den_go l_186_11 rfl
theorem l_186_12 : look (tab 186) 12 = some (.iaload, 1, [], uu) := by decide +kernel
theorem e_186_12 : den cf 186 12 L (.int x :: .ref a :: st) M = oK (ldI (M.2.2 a) x) (fun v => den cf 186 13 L (v :: st) M) := den_al (g := ldI) l_186_12 rfl
theorem l_186_13 : look (tab 186) 13 = some (.invokevirtual 118, 3, [6, 178, 3, 295, 296, 297, 5], uu) := by decide +kernel
theorem e_186_13 : den cf 186 13 L (w2 :: w1 :: .ref a :: st) M = if rcv M 6 [.ref a, w1, w2] = true ∧ st.length ≤ 4 then rK (cf 178 [.ref a, w1, w2] M) (fun v M' => den cf 186 16 L (pR v st) M') else none := den_iv [w1, w2] l_186_13 rfl
theorem l_186_16 : look (tab 186) 16 = some (.iastore, 1, [], uu) := by decide +kernel
theorem e_186_16 : den cf 186 16 L (.int x :: .int y :: .ref a :: st) M = oK (stI (M.2.2 a) y x) (fun c => den cf 186 17 L st (mU M a c)) := den_is l_186_16
theorem l_186_17 : look (tab 186) 17 = some (.aload_n 0, 1, [], uu) := by decide +kernel
theorem e_186_17 : den cf 186 17 [.ref a, v1, v2] st M = den cf 186 18 [.ref a, v1, v2] (.ref a :: st) M := den_go l_186_17 rfl
theorem l_186_18 : look (tab 186) 18 = some (.getfield 55, 3, [6, 16, 94], uu) := by decide +kernel
theorem e_186_18 : den cf 186 18 L (.ref a :: st) M = oK (gfA (M.2.2 a) 6 16) (fun v => den cf 186 21 L (v :: st) M) := den_gf l_186_18
theorem l_186_21 : look (tab 186) 21 = some (.iload_n 1, 1, [], uu) := by decide +kernel
theorem e_186_21 : den cf 186 21 [v0, .int x, v2] st M = den cf 186 22 [v0, .int x, v2] (.int x :: st) M := den_go l_186_21 rfl
theorem l_186_22 : look (tab 186) 22 = some (.iconst 0, 1, [], .int (zI 0)) := by decide +kernel
theorem e_186_22 : den cf 186 22 L st M = den cf 186 23 L (.int (zI 0) :: st) M := den_go l_186_22 rfl
theorem l_186_23 : look (tab 186) 23 = some (.iastore, 1, [], uu) := by decide +kernel
theorem e_186_23 : den cf 186 23 L (.int x :: .int y :: .ref a :: st) M = oK (stI (M.2.2 a) y x) (fun c => den cf 186 24 L st (mU M a c)) := den_is l_186_23
theorem l_186_24 : look (tab 186) 24 = some (.iload_n 2, 1, [], uu) := by decide +kernel
theorem e_186_24 : den cf 186 24 [v0, v1, .int x] st M = den cf 186 25 [v0, v1, .int x] (.int x :: st) M := den_go l_186_24 rfl
theorem l_186_25 : look (tab 186) 25 = some (.ifCond .eq 22, 3, [47], uu) := by decide +kernel
theorem e_186_25 : den cf 186 25 L (.int x :: st) M = if x = zI 0 then den cf 186 47 L st M else den cf 186 28 L st M := den_if_eq l_186_25
theorem l_186_28 : look (tab 186) 28 = some (.aload_n 0, 1, [], uu) := by decide +kernel
theorem e_186_28 : den cf 186 28 [.ref a, v1, v2] st M = den cf 186 29 [.ref a, v1, v2] (.ref a :: st) M := den_go l_186_28 rfl
theorem l_186_29 : look (tab 186) 29 = some (.getfield 52, 3, [6, 15, 93], uu) := by decide +kernel
theorem e_186_29 : den cf 186 29 L (.ref a :: st) M = oK (gfA (M.2.2 a) 6 15) (fun v => den cf 186 32 L (v :: st) M) := den_gf l_186_29
theorem l_186_32 : look (tab 186) 32 = some (.iload_n 1, 1, [], uu) := by decide +kernel
theorem e_186_32 : den cf 186 32 [v0, .int x, v2] st M = den cf 186 33 [v0, .int x, v2] (.int x :: st) M := den_go l_186_32 rfl
theorem l_186_33 : look (tab 186) 33 = some (.iconst 0, 1, [], .int (zI 0)) := by decide +kernel
theorem e_186_33 : den cf 186 33 L st M = den cf 186 34 L (.int (zI 0) :: st) M := den_go l_186_33 rfl
theorem l_186_34 : look (tab 186) 34 = some (.iastore, 1, [], uu) := by decide +kernel
theorem e_186_34 : den cf 186 34 L (.int x :: .int y :: .ref a :: st) M = oK (stI (M.2.2 a) y x) (fun c => den cf 186 35 L st (mU M a c)) := den_is l_186_34
theorem l_186_35 : look (tab 186) 35 = some (.aload_n 0, 1, [], uu) := by decide +kernel
theorem e_186_35 : den cf 186 35 [.ref a, v1, v2] st M = den cf 186 36 [.ref a, v1, v2] (.ref a :: st) M := den_go l_186_35 rfl
theorem l_186_36 : look (tab 186) 36 = some (.getfield 52, 3, [6, 15, 93], uu) := by decide +kernel
theorem e_186_36 : den cf 186 36 L (.ref a :: st) M = oK (gfA (M.2.2 a) 6 15) (fun v => den cf 186 39 L (v :: st) M) := den_gf l_186_36
theorem l_186_39 : look (tab 186) 39 = some (.aload_n 0, 1, [], uu) := by decide +kernel
theorem e_186_39 : den cf 186 39 [.ref a, v1, v2] st M = den cf 186 40 [.ref a, v1, v2] (.ref a :: st) M := den_go l_186_39 rfl
theorem l_186_40 : look (tab 186) 40 = some (.getfield 49, 3, [6, 14, 92], uu) := by decide +kernel
theorem e_186_40 : den cf 186 40 L (.ref a :: st) M = oK (gfA (M.2.2 a) 6 14) (fun v => den cf 186 43 L (v :: st) M) := den_gf l_186_40
theorem l_186_43 : look (tab 186) 43 = some (.iload_n 1, 1, [], uu) := by decide +kernel
theorem e_186_43 : den cf 186 43 [v0, .int x, v2] st M = den cf 186 44 [v0, .int x, v2] (.int x :: st) M := den_go l_186_43 rfl
theorem l_186_44 : look (tab 186) 44 = some (.iaload, 1, [], uu) := by decide +kernel
theorem e_186_44 : den cf 186 44 L (.int x :: .ref a :: st) M = oK (ldI (M.2.2 a) x) (fun v => den cf 186 45 L (v :: st) M) := den_al (g := ldI) l_186_44 rfl
theorem l_186_45 : look (tab 186) 45 = some (.iconst 1, 1, [], .int (zI 1)) := by decide +kernel
theorem e_186_45 : den cf 186 45 L st M = den cf 186 46 L (.int (zI 1) :: st) M := den_go l_186_45 rfl
theorem l_186_46 : look (tab 186) 46 = some (.iastore, 1, [], uu) := by decide +kernel
theorem e_186_46 : den cf 186 46 L (.int x :: .int y :: .ref a :: st) M = oK (stI (M.2.2 a) y x) (fun c => den cf 186 47 L st (mU M a c)) := den_is l_186_46
theorem l_186_47 : look (tab 186) 47 = some (.return_, 1, [], uu) := by decide +kernel
theorem e_186_47 : den cf 186 47 L [] M = some (none, M) := den_e4 l_186_47
/-! yX6_stillOf -/
theorem l_187_0 : look (tab 187) 0 = some (.aload_n 0, 1, [], uu) := by decide +kernel
theorem e_187_0 : den cf 187 0 [.ref a, v1, v2, v3, v4, v5, v6, v7] st M = den cf 187 1 [.ref a, v1, v2, v3, v4, v5, v6, v7] (.ref a :: st) M := den_go l_187_0 rfl
theorem l_187_1 : look (tab 187) 1 = some (.iload_n 1, 1, [], uu) := by decide +kernel
theorem e_187_1 : den cf 187 1 [v0, .int x, v2, v3, v4, v5, v6, v7] st M = den cf 187 2 [v0, .int x, v2, v3, v4, v5, v6, v7] (.int x :: st) M := den_go l_187_1 rfl
theorem l_187_2 : look (tab 187) 2 = some (.invokevirtual 250, 3, [6, 182, 2, 678, 679, 680, 5], uu) := by decide +kernel
theorem e_187_2 : den cf 187 2 L (w1 :: .ref a :: st) M = if rcv M 6 [.ref a, w1] = true ∧ st.length ≤ 4 then rK (cf 182 [.ref a, w1] M) (fun v M' => den cf 187 5 L (pR v st) M') else none := den_iv [w1] l_187_2 rfl
theorem l_187_5 : look (tab 187) 5 = some (.istore_n 3, 1, [], uu) := by decide +kernel
theorem e_187_5 : den cf 187 5 [v0, v1, v2, v3, v4, v5, v6, v7] (.int x :: st) M = den cf 187 6 [v0, v1, kq v2, .int x, v4, v5, v6, v7] st M := den_st (k := 3) (v := .int x) l_187_5 rfl
theorem l_187_6 : look (tab 187) 6 = some (.aload_n 0, 1, [], uu) := by decide +kernel
theorem e_187_6 : den cf 187 6 [.ref a, v1, v2, v3, v4, v5, v6, v7] st M = den cf 187 7 [.ref a, v1, v2, v3, v4, v5, v6, v7] (.ref a :: st) M := den_go l_187_6 rfl
theorem l_187_7 : look (tab 187) 7 = some (.getfield 55, 3, [6, 16, 94], uu) := by decide +kernel
theorem e_187_7 : den cf 187 7 L (.ref a :: st) M = oK (gfA (M.2.2 a) 6 16) (fun v => den cf 187 10 L (v :: st) M) := den_gf l_187_7
theorem l_187_10 : look (tab 187) 10 = some (.iload_n 3, 1, [], uu) := by decide +kernel
theorem e_187_10 : den cf 187 10 [v0, v1, v2, .int x, v4, v5, v6, v7] st M = den cf 187 11 [v0, v1, v2, .int x, v4, v5, v6, v7] (.int x :: st) M := den_go l_187_10 rfl
theorem l_187_11 : look (tab 187) 11 = some (.iaload, 1, [], uu) := by decide +kernel
theorem e_187_11 : den cf 187 11 L (.int x :: .ref a :: st) M = oK (ldI (M.2.2 a) x) (fun v => den cf 187 12 L (v :: st) M) := den_al (g := ldI) l_187_11 rfl
theorem l_187_12 : look (tab 187) 12 = some (.istore 4, 2, [], uu) := by decide +kernel
theorem e_187_12 : den cf 187 12 [v0, v1, v2, v3, v4, v5, v6, v7] (.int x :: st) M = den cf 187 14 [v0, v1, v2, kq v3, .int x, v5, v6, v7] st M := den_st (k := 4) (v := .int x) l_187_12 rfl
theorem l_187_14 : look (tab 187) 14 = some (.ldc2_w 256, 3, [699], .long (zJ 1000000)) := by decide +kernel
theorem e_187_14 : den cf 187 14 L st M = den cf 187 17 L (.long (zJ 1000000) :: st) M := den_go l_187_14 rfl
theorem l_187_17 : look (tab 187) 17 = some (.lstore 5, 2, [], uu) := by decide +kernel
theorem e_187_17 : den cf 187 17 [v0, v1, v2, v3, v4, v5, v6, v7] (.long p :: st) M = den cf 187 19 [v0, v1, v2, v3, kq v4, .long p, uu, v7] st M := den_s2 (k := 5) (v := .long p) l_187_17 rfl
theorem l_187_19 : look (tab 187) 19 = some (.iconst 0, 1, [], .int (zI 0)) := by decide +kernel
theorem e_187_19 : den cf 187 19 L st M = den cf 187 20 L (.int (zI 0) :: st) M := den_go l_187_19 rfl
theorem l_187_20 : look (tab 187) 20 = some (.istore 7, 2, [], uu) := by decide +kernel
theorem e_187_20 : den cf 187 20 [v0, v1, v2, v3, v4, v5, v6, v7] (.int x :: st) M = den cf 187 22 [v0, v1, v2, v3, v4, v5, kq v6, .int x] st M := den_st (k := 7) (v := .int x) l_187_20 rfl
theorem l_187_22 : look (tab 187) 22 = some (.iload 7, 2, [], uu) := by decide +kernel
theorem e_187_22 : den cf 187 22 [v0, v1, v2, v3, v4, v5, v6, .int x] st M = den cf 187 24 [v0, v1, v2, v3, v4, v5, v6, .int x] (.int x :: st) M := den_go l_187_22 rfl
theorem l_187_24 : look (tab 187) 24 = some (.iload_n 2, 1, [], uu) := by decide +kernel
theorem e_187_24 : den cf 187 24 [v0, v1, .int x, v3, v4, v5, v6, v7] st M = den cf 187 25 [v0, v1, .int x, v3, v4, v5, v6, v7] (.int x :: st) M := den_go l_187_24 rfl
theorem l_187_25 : look (tab 187) 25 = some (.if_icmp .ge 49, 3, [74], uu) := by decide +kernel
theorem e_187_25 : den cf 187 25 L (.int y :: .int x :: st) M = if x < y then den cf 187 28 L st M else den cf 187 74 L st M := den_ic_ge l_187_25
theorem l_187_28 : look (tab 187) 28 = some (.lload 5, 2, [], uu) := by decide +kernel
theorem e_187_28 : den cf 187 28 [v0, v1, v2, v3, v4, .long p, v6, v7] st M = den cf 187 30 [v0, v1, v2, v3, v4, .long p, v6, v7] (.long p :: st) M := den_go l_187_28 rfl
theorem l_187_30 : look (tab 187) 30 = some (.sipush 144, 3, [], .int (zI 144)) := by decide +kernel
theorem e_187_30 : den cf 187 30 L st M = den cf 187 33 L (.int (zI 144) :: st) M := den_go l_187_30 rfl
theorem l_187_33 : look (tab 187) 33 = some (.aload_n 0, 1, [], uu) := by decide +kernel
theorem e_187_33 : den cf 187 33 [.ref a, v1, v2, v3, v4, v5, v6, v7] st M = den cf 187 34 [.ref a, v1, v2, v3, v4, v5, v6, v7] (.ref a :: st) M := den_go l_187_33 rfl
theorem l_187_34 : look (tab 187) 34 = some (.iload_n 3, 1, [], uu) := by decide +kernel
theorem e_187_34 : den cf 187 34 [v0, v1, v2, .int x, v4, v5, v6, v7] st M = den cf 187 35 [v0, v1, v2, .int x, v4, v5, v6, v7] (.int x :: st) M := den_go l_187_34 rfl
theorem l_187_35 : look (tab 187) 35 = some (.aload_n 0, 1, [], uu) := by decide +kernel
theorem e_187_35 : den cf 187 35 [.ref a, v1, v2, v3, v4, v5, v6, v7] st M = den cf 187 36 [.ref a, v1, v2, v3, v4, v5, v6, v7] (.ref a :: st) M := den_go l_187_35 rfl
theorem l_187_36 : look (tab 187) 36 = some (.getfield 37, 3, [6, 10, 88], uu) := by decide +kernel
theorem e_187_36 : den cf 187 36 L (.ref a :: st) M = oK (gfA (M.2.2 a) 6 10) (fun v => den cf 187 39 L (v :: st) M) := den_gf l_187_36
theorem l_187_39 : look (tab 187) 39 = some (.iload_n 3, 1, [], uu) := by decide +kernel
theorem e_187_39 : den cf 187 39 [v0, v1, v2, .int x, v4, v5, v6, v7] st M = den cf 187 40 [v0, v1, v2, .int x, v4, v5, v6, v7] (.int x :: st) M := den_go l_187_39 rfl
theorem l_187_40 : look (tab 187) 40 = some (.iaload, 1, [], uu) := by decide +kernel
theorem e_187_40 : den cf 187 40 L (.int x :: .ref a :: st) M = oK (ldI (M.2.2 a) x) (fun v => den cf 187 41 L (v :: st) M) := den_al (g := ldI) l_187_40 rfl
theorem l_187_41 : look (tab 187) 41 = some (.invokevirtual 114, 3, [6, 177, 3, 284, 285, 286, 5], uu) := by decide +kernel
theorem e_187_41 : den cf 187 41 L (w2 :: w1 :: .ref a :: st) M = if rcv M 6 [.ref a, w1, w2] = true ∧ st.length ≤ 4 then rK (cf 177 [.ref a, w1, w2] M) (fun v M' => den cf 187 44 L (pR v st) M') else none := den_iv [w1, w2] l_187_41 rfl
theorem l_187_44 : look (tab 187) 44 = some (.bipush 12, 2, [], .int (zI 12)) := by decide +kernel
theorem e_187_44 : den cf 187 44 L st M = den cf 187 46 L (.int (zI 12) :: st) M := den_go l_187_44 rfl
theorem l_187_46 : look (tab 187) 46 = some (.aload_n 0, 1, [], uu) := by decide +kernel
theorem e_187_46 : den cf 187 46 [.ref a, v1, v2, v3, v4, v5, v6, v7] st M = den cf 187 47 [.ref a, v1, v2, v3, v4, v5, v6, v7] (.ref a :: st) M := den_go l_187_46 rfl
theorem l_187_47 : look (tab 187) 47 = some (.getfield 61, 3, [6, 18, 96], uu) := by decide +kernel
theorem e_187_47 : den cf 187 47 L (.ref a :: st) M = oK (gfA (M.2.2 a) 6 18) (fun v => den cf 187 50 L (v :: st) M) := den_gf l_187_47
theorem l_187_50 : look (tab 187) 50 = some (.iconst 0, 1, [], .int (zI 0)) := by decide +kernel
theorem e_187_50 : den cf 187 50 L st M = den cf 187 51 L (.int (zI 0) :: st) M := den_go l_187_50 rfl
theorem l_187_51 : look (tab 187) 51 = some (.iaload, 1, [], uu) := by decide +kernel
theorem e_187_51 : den cf 187 51 L (.int x :: .ref a :: st) M = oK (ldI (M.2.2 a) x) (fun v => den cf 187 52 L (v :: st) M) := den_al (g := ldI) l_187_51 rfl
theorem l_187_52 : look (tab 187) 52 = some (.isub, 1, [], uu) := by decide +kernel
theorem e_187_52 : den cf 187 52 L (.int y :: .int x :: st) M = den cf 187 53 L (.int (x - y) :: st) M := den_go l_187_52 rfl
theorem l_187_53 : look (tab 187) 53 = some (.imul, 1, [], uu) := by decide +kernel
theorem e_187_53 : den cf 187 53 L (.int y :: .int x :: st) M = den cf 187 54 L (.int (x * y) :: st) M := den_go l_187_53 rfl
theorem l_187_54 : look (tab 187) 54 = some (.isub, 1, [], uu) := by decide +kernel
theorem e_187_54 : den cf 187 54 L (.int y :: .int x :: st) M = den cf 187 55 L (.int (x - y) :: st) M := den_go l_187_54 rfl
theorem l_187_55 : look (tab 187) 55 = some (.i2l, 1, [], uu) := by decide +kernel
theorem e_187_55 : den cf 187 55 L (.int x :: st) M = den cf 187 56 L (.long x.toInt64 :: st) M := den_go l_187_55 rfl
theorem l_187_56 : look (tab 187) 56 = some (.lmul, 1, [], uu) := by decide +kernel
theorem e_187_56 : den cf 187 56 L (.long q :: .long p :: st) M = den cf 187 57 L (.long (p * q) :: st) M := den_go l_187_56 rfl
theorem l_187_57 : look (tab 187) 57 = some (.ldc2_w 258, 3, [700], .long (zJ 144)) := by decide +kernel
theorem e_187_57 : den cf 187 57 L st M = den cf 187 60 L (.long (zJ 144) :: st) M := den_go l_187_57 rfl
theorem l_187_60 : look (tab 187) 60 = some (.ldiv, 1, [], uu) := by decide +kernel
theorem e_187_60 : den cf 187 60 L (.long q :: .long p :: st) M = if q = zJ 0 then none else den cf 187 61 L (.long (p / q) :: st) M := den_dl (f := fun p q => p / q) l_187_60 rfl
theorem l_187_61 : look (tab 187) 61 = some (.lstore 5, 2, [], uu) := by decide +kernel
theorem e_187_61 : den cf 187 61 [v0, v1, v2, v3, v4, v5, v6, v7] (.long p :: st) M = den cf 187 63 [v0, v1, v2, v3, kq v4, .long p, uu, v7] st M := den_s2 (k := 5) (v := .long p) l_187_61 rfl
theorem l_187_63 : look (tab 187) 63 = some (.aload_n 0, 1, [], uu) := by decide +kernel
theorem e_187_63 : den cf 187 63 [.ref a, v1, v2, v3, v4, v5, v6, v7] st M = den cf 187 64 [.ref a, v1, v2, v3, v4, v5, v6, v7] (.ref a :: st) M := den_go l_187_63 rfl
theorem l_187_64 : look (tab 187) 64 = some (.iload_n 3, 1, [], uu) := by decide +kernel
theorem e_187_64 : den cf 187 64 [v0, v1, v2, .int x, v4, v5, v6, v7] st M = den cf 187 65 [v0, v1, v2, .int x, v4, v5, v6, v7] (.int x :: st) M := den_go l_187_64 rfl
theorem l_187_65 : look (tab 187) 65 = some (.invokevirtual 260, 3, [6, 185, 2, 701, 702, 703, 5], uu) := by decide +kernel
theorem e_187_65 : den cf 187 65 L (w1 :: .ref a :: st) M = if rcv M 6 [.ref a, w1] = true ∧ st.length ≤ 4 then rK (cf 185 [.ref a, w1] M) (fun v M' => den cf 187 68 L (pR v st) M') else none := den_iv [w1] l_187_65 rfl
theorem l_187_68 : look (tab 187) 68 = some (.iinc 7 1, 3, [], .int (zI 1)) := by decide +kernel
theorem e_187_68 : den cf 187 68 [v0, v1, v2, v3, v4, v5, v6, .int x] st M = den cf 187 71 [v0, v1, v2, v3, v4, v5, kq v6, .int (x + (zI 1))] st M := den_st (k := 7) (v := .int (x + (zI 1))) l_187_68 rfl
theorem l_187_71 : look (tab 187) 71 = some (.goto (-49), 3, [22], uu) := by decide +kernel
theorem e_187_71 : den cf 187 71 L st M = den cf 187 22 L st M := den_go l_187_71 rfl
theorem l_187_74 : look (tab 187) 74 = some (.aload_n 0, 1, [], uu) := by decide +kernel
theorem e_187_74 : den cf 187 74 [.ref a, v1, v2, v3, v4, v5, v6, v7] st M = den cf 187 75 [.ref a, v1, v2, v3, v4, v5, v6, v7] (.ref a :: st) M := den_go l_187_74 rfl
theorem l_187_75 : look (tab 187) 75 = some (.getfield 55, 3, [6, 16, 94], uu) := by decide +kernel
theorem e_187_75 : den cf 187 75 L (.ref a :: st) M = oK (gfA (M.2.2 a) 6 16) (fun v => den cf 187 78 L (v :: st) M) := den_gf l_187_75
theorem l_187_78 : look (tab 187) 78 = some (.iload_n 3, 1, [], uu) := by decide +kernel
theorem e_187_78 : den cf 187 78 [v0, v1, v2, .int x, v4, v5, v6, v7] st M = den cf 187 79 [v0, v1, v2, .int x, v4, v5, v6, v7] (.int x :: st) M := den_go l_187_78 rfl
theorem l_187_79 : look (tab 187) 79 = some (.iload 4, 2, [], uu) := by decide +kernel
theorem e_187_79 : den cf 187 79 [v0, v1, v2, v3, .int x, v5, v6, v7] st M = den cf 187 81 [v0, v1, v2, v3, .int x, v5, v6, v7] (.int x :: st) M := den_go l_187_79 rfl
theorem l_187_81 : look (tab 187) 81 = some (.iastore, 1, [], uu) := by decide +kernel
theorem e_187_81 : den cf 187 81 L (.int x :: .int y :: .ref a :: st) M = oK (stI (M.2.2 a) y x) (fun c => den cf 187 82 L st (mU M a c)) := den_is l_187_81
theorem l_187_82 : look (tab 187) 82 = some (.ldc2_w 256, 3, [699], .long (zJ 1000000)) := by decide +kernel
theorem e_187_82 : den cf 187 82 L st M = den cf 187 85 L (.long (zJ 1000000) :: st) M := den_go l_187_82 rfl
theorem l_187_85 : look (tab 187) 85 = some (.lload 5, 2, [], uu) := by decide +kernel
theorem e_187_85 : den cf 187 85 [v0, v1, v2, v3, v4, .long p, v6, v7] st M = den cf 187 87 [v0, v1, v2, v3, v4, .long p, v6, v7] (.long p :: st) M := den_go l_187_85 rfl
theorem l_187_87 : look (tab 187) 87 = some (.lsub, 1, [], uu) := by decide +kernel
theorem e_187_87 : den cf 187 87 L (.long q :: .long p :: st) M = den cf 187 88 L (.long (p - q) :: st) M := den_go l_187_87 rfl
theorem l_187_88 : look (tab 187) 88 = some (.l2i, 1, [], uu) := by decide +kernel
theorem e_187_88 : den cf 187 88 L (.long p :: st) M = den cf 187 89 L (.int p.toInt32 :: st) M := den_go l_187_88 rfl
theorem l_187_89 : look (tab 187) 89 = some (.ireturn, 1, [0], uu) := by decide +kernel
theorem e_187_89 : den cf 187 89 L [.int x] M = some (some (.int x), M) := den_e0 l_187_89
/-! yX6_still -/
theorem l_188_0 : look (tab 188) 0 = some (.aload_n 0, 1, [], uu) := by decide +kernel
theorem e_188_0 : den cf 188 0 [.ref a, v1, v2, v3] st M = den cf 188 1 [.ref a, v1, v2, v3] (.ref a :: st) M := den_go l_188_0 rfl
theorem l_188_1 : look (tab 188) 1 = some (.iload_n 1, 1, [], uu) := by decide +kernel
theorem e_188_1 : den cf 188 1 [v0, .int x, v2, v3] st M = den cf 188 2 [v0, .int x, v2, v3] (.int x :: st) M := den_go l_188_1 rfl
theorem l_188_2 : look (tab 188) 2 = some (.invokevirtual 104, 3, [6, 138, 2, 226, 227, 228, 5], uu) := by decide +kernel
theorem e_188_2 : den cf 188 2 L (w1 :: .ref a :: st) M = if rcv M 6 [.ref a, w1] = true ∧ st.length ≤ 4 then rK (cf 138 [.ref a, w1] M) (fun v M' => den cf 188 5 L (pR v st) M') else none := den_iv [w1] l_188_2 rfl
theorem l_188_5 : look (tab 188) 5 = some (.ifCond .eq 15, 3, [20], uu) := by decide +kernel
theorem e_188_5 : den cf 188 5 L (.int x :: st) M = if x = zI 0 then den cf 188 20 L st M else den cf 188 8 L st M := den_if_eq l_188_5
theorem l_188_8 : look (tab 188) 8 = some (.iload_n 2, 1, [], uu) := by decide +kernel
theorem e_188_8 : den cf 188 8 [v0, v1, .int x, v3] st M = den cf 188 9 [v0, v1, .int x, v3] (.int x :: st) M := den_go l_188_8 rfl
theorem l_188_9 : look (tab 188) 9 = some (.i2l, 1, [], uu) := by decide +kernel
theorem e_188_9 : den cf 188 9 L (.int x :: st) M = den cf 188 10 L (.long x.toInt64 :: st) M := den_go l_188_9 rfl
theorem l_188_10 : look (tab 188) 10 = some (.lconst 0, 1, [], .long (zJ 0)) := by decide +kernel
theorem e_188_10 : den cf 188 10 L st M = den cf 188 11 L (.long (zJ 0) :: st) M := den_go l_188_10 rfl
theorem l_188_11 : look (tab 188) 11 = some (.ldc2_w 149, 3, [399], .long (zJ 12)) := by decide +kernel
theorem e_188_11 : den cf 188 11 L st M = den cf 188 14 L (.long (zJ 12) :: st) M := den_go l_188_11 rfl
theorem l_188_14 : look (tab 188) 14 = some (.invokestatic 83, 3, [1, 137, 3, 130, 131, 5], uu) := by decide +kernel
theorem e_188_14 : den cf 188 14 L (w3 :: w2 :: w1 :: st) M = if st.length ≤ 4 then rK (cf 137 [w1, w2, w3] M) (fun v M' => den cf 188 17 L (pR v st) M') else none := den_ist [w1, w2, w3] l_188_14 rfl
theorem l_188_17 : look (tab 188) 17 = some (.ifCond .ne 10, 3, [27], uu) := by decide +kernel
theorem e_188_17 : den cf 188 17 L (.int x :: st) M = if x = zI 0 then den cf 188 20 L st M else den cf 188 27 L st M := den_if_ne l_188_17
theorem l_188_20 : look (tab 188) 20 = some (.aload_n 0, 1, [], uu) := by decide +kernel
theorem e_188_20 : den cf 188 20 [.ref a, v1, v2, v3] st M = den cf 188 21 [.ref a, v1, v2, v3] (.ref a :: st) M := den_go l_188_20 rfl
theorem l_188_21 : look (tab 188) 21 = some (.bipush (-2), 2, [], .int (zI (-2))) := by decide +kernel
theorem e_188_21 : den cf 188 21 L st M = den cf 188 23 L (.int (zI (-2)) :: st) M := den_go l_188_21 rfl
theorem l_188_23 : look (tab 188) 23 = some (.invokevirtual 93, 3, [6, 136, 2, 133, 134, 135, 5], uu) := by decide +kernel
theorem e_188_23 : den cf 188 23 L (w1 :: .ref a :: st) M = if rcv M 6 [.ref a, w1] = true ∧ st.length ≤ 4 then rK (cf 136 [.ref a, w1] M) (fun v M' => den cf 188 26 L (pR v st) M') else none := den_iv [w1] l_188_23 rfl
theorem l_188_26 : look (tab 188) 26 = some (.ireturn, 1, [0], uu) := by decide +kernel
theorem e_188_26 : den cf 188 26 L [.int x] M = some (some (.int x), M) := den_e0 l_188_26
theorem l_188_27 : look (tab 188) 27 = some (.aload_n 0, 1, [], uu) := by decide +kernel
theorem e_188_27 : den cf 188 27 [.ref a, v1, v2, v3] st M = den cf 188 28 [.ref a, v1, v2, v3] (.ref a :: st) M := den_go l_188_27 rfl
theorem l_188_28 : look (tab 188) 28 = some (.iload_n 1, 1, [], uu) := by decide +kernel
theorem e_188_28 : den cf 188 28 [v0, .int x, v2, v3] st M = den cf 188 29 [v0, .int x, v2, v3] (.int x :: st) M := den_go l_188_28 rfl
theorem l_188_29 : look (tab 188) 29 = some (.invokevirtual 247, 3, [6, 180, 2, 653, 654, 655, 5], uu) := by decide +kernel
theorem e_188_29 : den cf 188 29 L (w1 :: .ref a :: st) M = if rcv M 6 [.ref a, w1] = true ∧ st.length ≤ 4 then rK (cf 180 [.ref a, w1] M) (fun v M' => den cf 188 32 L (pR v st) M') else none := den_iv [w1] l_188_29 rfl
theorem l_188_32 : look (tab 188) 32 = some (.istore_n 3, 1, [], uu) := by decide +kernel
theorem e_188_32 : den cf 188 32 [v0, v1, v2, v3] (.int x :: st) M = den cf 188 33 [v0, v1, kq v2, .int x] st M := den_st (k := 3) (v := .int x) l_188_32 rfl
theorem l_188_33 : look (tab 188) 33 = some (.iload_n 3, 1, [], uu) := by decide +kernel
theorem e_188_33 : den cf 188 33 [v0, v1, v2, .int x] st M = den cf 188 34 [v0, v1, v2, .int x] (.int x :: st) M := den_go l_188_33 rfl
theorem l_188_34 : look (tab 188) 34 = some (.ifCond .eq 7, 3, [41], uu) := by decide +kernel
theorem e_188_34 : den cf 188 34 L (.int x :: st) M = if x = zI 0 then den cf 188 41 L st M else den cf 188 37 L st M := den_if_eq l_188_34
theorem l_188_37 : look (tab 188) 37 = some (.iload_n 3, 1, [], uu) := by decide +kernel
theorem e_188_37 : den cf 188 37 [v0, v1, v2, .int x] st M = den cf 188 38 [v0, v1, v2, .int x] (.int x :: st) M := den_go l_188_37 rfl
theorem l_188_38 : look (tab 188) 38 = some (.goto 9, 3, [47], uu) := by decide +kernel
theorem e_188_38 : den cf 188 38 L st M = den cf 188 47 L st M := den_go l_188_38 rfl
theorem l_188_41 : look (tab 188) 41 = some (.aload_n 0, 1, [], uu) := by decide +kernel
theorem e_188_41 : den cf 188 41 [.ref a, v1, v2, v3] st M = den cf 188 42 [.ref a, v1, v2, v3] (.ref a :: st) M := den_go l_188_41 rfl
theorem l_188_42 : look (tab 188) 42 = some (.iload_n 1, 1, [], uu) := by decide +kernel
theorem e_188_42 : den cf 188 42 [v0, .int x, v2, v3] st M = den cf 188 43 [v0, .int x, v2, v3] (.int x :: st) M := den_go l_188_42 rfl
theorem l_188_43 : look (tab 188) 43 = some (.iload_n 2, 1, [], uu) := by decide +kernel
theorem e_188_43 : den cf 188 43 [v0, v1, .int x, v3] st M = den cf 188 44 [v0, v1, .int x, v3] (.int x :: st) M := den_go l_188_43 rfl
theorem l_188_44 : look (tab 188) 44 = some (.invokevirtual 263, 3, [6, 187, 3, 695, 696, 697, 5], uu) := by decide +kernel
theorem e_188_44 : den cf 188 44 L (w2 :: w1 :: .ref a :: st) M = if rcv M 6 [.ref a, w1, w2] = true ∧ st.length ≤ 4 then rK (cf 187 [.ref a, w1, w2] M) (fun v M' => den cf 188 47 L (pR v st) M') else none := den_iv [w1, w2] l_188_44 rfl
theorem l_188_47 : look (tab 188) 47 = some (.ireturn, 1, [0], uu) := by decide +kernel
theorem e_188_47 : den cf 188 47 L [.int x] M = some (some (.int x), M) := den_e0 l_188_47
/-! yX6_again -/
theorem l_189_0 : look (tab 189) 0 = some (.aload_n 0, 1, [], uu) := by decide +kernel
theorem e_189_0 : den cf 189 0 [.ref a, v1, v2, v3, v4] st M = den cf 189 1 [.ref a, v1, v2, v3, v4] (.ref a :: st) M := den_go l_189_0 rfl
theorem l_189_1 : look (tab 189) 1 = some (.iload_n 1, 1, [], uu) := by decide +kernel
theorem e_189_1 : den cf 189 1 [v0, .int x, v2, v3, v4] st M = den cf 189 2 [v0, .int x, v2, v3, v4] (.int x :: st) M := den_go l_189_1 rfl
theorem l_189_2 : look (tab 189) 2 = some (.invokevirtual 104, 3, [6, 138, 2, 226, 227, 228, 5], uu) := by decide +kernel
theorem e_189_2 : den cf 189 2 L (w1 :: .ref a :: st) M = if rcv M 6 [.ref a, w1] = true ∧ st.length ≤ 4 then rK (cf 138 [.ref a, w1] M) (fun v M' => den cf 189 5 L (pR v st) M') else none := den_iv [w1] l_189_2 rfl
theorem l_189_5 : look (tab 189) 5 = some (.ifCond .eq 15, 3, [20], uu) := by decide +kernel
theorem e_189_5 : den cf 189 5 L (.int x :: st) M = if x = zI 0 then den cf 189 20 L st M else den cf 189 8 L st M := den_if_eq l_189_5
theorem l_189_8 : look (tab 189) 8 = some (.iload_n 2, 1, [], uu) := by decide +kernel
theorem e_189_8 : den cf 189 8 [v0, v1, .int x, v3, v4] st M = den cf 189 9 [v0, v1, .int x, v3, v4] (.int x :: st) M := den_go l_189_8 rfl
theorem l_189_9 : look (tab 189) 9 = some (.i2l, 1, [], uu) := by decide +kernel
theorem e_189_9 : den cf 189 9 L (.int x :: st) M = den cf 189 10 L (.long x.toInt64 :: st) M := den_go l_189_9 rfl
theorem l_189_10 : look (tab 189) 10 = some (.lconst 0, 1, [], .long (zJ 0)) := by decide +kernel
theorem e_189_10 : den cf 189 10 L st M = den cf 189 11 L (.long (zJ 0) :: st) M := den_go l_189_10 rfl
theorem l_189_11 : look (tab 189) 11 = some (.ldc2_w 256, 3, [699], .long (zJ 1000000)) := by decide +kernel
theorem e_189_11 : den cf 189 11 L st M = den cf 189 14 L (.long (zJ 1000000) :: st) M := den_go l_189_11 rfl
theorem l_189_14 : look (tab 189) 14 = some (.invokestatic 83, 3, [1, 137, 3, 130, 131, 5], uu) := by decide +kernel
theorem e_189_14 : den cf 189 14 L (w3 :: w2 :: w1 :: st) M = if st.length ≤ 4 then rK (cf 137 [w1, w2, w3] M) (fun v M' => den cf 189 17 L (pR v st) M') else none := den_ist [w1, w2, w3] l_189_14 rfl
theorem l_189_17 : look (tab 189) 17 = some (.ifCond .ne 10, 3, [27], uu) := by decide +kernel
theorem e_189_17 : den cf 189 17 L (.int x :: st) M = if x = zI 0 then den cf 189 20 L st M else den cf 189 27 L st M := den_if_ne l_189_17
theorem l_189_20 : look (tab 189) 20 = some (.aload_n 0, 1, [], uu) := by decide +kernel
theorem e_189_20 : den cf 189 20 [.ref a, v1, v2, v3, v4] st M = den cf 189 21 [.ref a, v1, v2, v3, v4] (.ref a :: st) M := den_go l_189_20 rfl
theorem l_189_21 : look (tab 189) 21 = some (.bipush (-2), 2, [], .int (zI (-2))) := by decide +kernel
theorem e_189_21 : den cf 189 21 L st M = den cf 189 23 L (.int (zI (-2)) :: st) M := den_go l_189_21 rfl
theorem l_189_23 : look (tab 189) 23 = some (.invokevirtual 93, 3, [6, 136, 2, 133, 134, 135, 5], uu) := by decide +kernel
theorem e_189_23 : den cf 189 23 L (w1 :: .ref a :: st) M = if rcv M 6 [.ref a, w1] = true ∧ st.length ≤ 4 then rK (cf 136 [.ref a, w1] M) (fun v M' => den cf 189 26 L (pR v st) M') else none := den_iv [w1] l_189_23 rfl
theorem l_189_26 : look (tab 189) 26 = some (.ireturn, 1, [0], uu) := by decide +kernel
theorem e_189_26 : den cf 189 26 L [.int x] M = some (some (.int x), M) := den_e0 l_189_26
theorem l_189_27 : look (tab 189) 27 = some (.aload_n 0, 1, [], uu) := by decide +kernel
theorem e_189_27 : den cf 189 27 [.ref a, v1, v2, v3, v4] st M = den cf 189 28 [.ref a, v1, v2, v3, v4] (.ref a :: st) M := den_go l_189_27 rfl
theorem l_189_28 : look (tab 189) 28 = some (.iload_n 1, 1, [], uu) := by decide +kernel
theorem e_189_28 : den cf 189 28 [v0, .int x, v2, v3, v4] st M = den cf 189 29 [v0, .int x, v2, v3, v4] (.int x :: st) M := den_go l_189_28 rfl
theorem l_189_29 : look (tab 189) 29 = some (.invokevirtual 247, 3, [6, 180, 2, 653, 654, 655, 5], uu) := by decide +kernel
theorem e_189_29 : den cf 189 29 L (w1 :: .ref a :: st) M = if rcv M 6 [.ref a, w1] = true ∧ st.length ≤ 4 then rK (cf 180 [.ref a, w1] M) (fun v M' => den cf 189 32 L (pR v st) M') else none := den_iv [w1] l_189_29 rfl
theorem l_189_32 : look (tab 189) 32 = some (.istore_n 3, 1, [], uu) := by decide +kernel
theorem e_189_32 : den cf 189 32 [v0, v1, v2, v3, v4] (.int x :: st) M = den cf 189 33 [v0, v1, kq v2, .int x, v4] st M := den_st (k := 3) (v := .int x) l_189_32 rfl
theorem l_189_33 : look (tab 189) 33 = some (.iload_n 3, 1, [], uu) := by decide +kernel
theorem e_189_33 : den cf 189 33 [v0, v1, v2, .int x, v4] st M = den cf 189 34 [v0, v1, v2, .int x, v4] (.int x :: st) M := den_go l_189_33 rfl
theorem l_189_34 : look (tab 189) 34 = some (.ifCond .eq 5, 3, [39], uu) := by decide +kernel
theorem e_189_34 : den cf 189 34 L (.int x :: st) M = if x = zI 0 then den cf 189 39 L st M else den cf 189 37 L st M := den_if_eq l_189_34
theorem l_189_37 : look (tab 189) 37 = some (.iload_n 3, 1, [], uu) := by decide +kernel
theorem e_189_37 : den cf 189 37 [v0, v1, v2, .int x, v4] st M = den cf 189 38 [v0, v1, v2, .int x, v4] (.int x :: st) M := den_go l_189_37 rfl
theorem l_189_38 : look (tab 189) 38 = some (.ireturn, 1, [0], uu) := by decide +kernel
theorem e_189_38 : den cf 189 38 L [.int x] M = some (some (.int x), M) := den_e0 l_189_38
theorem l_189_39 : look (tab 189) 39 = some (.iconst 1, 1, [], .int (zI 1)) := by decide +kernel
theorem e_189_39 : den cf 189 39 L st M = den cf 189 40 L (.int (zI 1) :: st) M := den_go l_189_39 rfl
theorem l_189_40 : look (tab 189) 40 = some (.istore 4, 2, [], uu) := by decide +kernel
theorem e_189_40 : den cf 189 40 [v0, v1, v2, v3, v4] (.int x :: st) M = den cf 189 42 [v0, v1, v2, kq v3, .int x] st M := den_st (k := 4) (v := .int x) l_189_40 rfl
theorem l_189_42 : look (tab 189) 42 = some (.iload 4, 2, [], uu) := by decide +kernel
theorem e_189_42 : den cf 189 42 [v0, v1, v2, v3, .int x] st M = den cf 189 44 [v0, v1, v2, v3, .int x] (.int x :: st) M := den_go l_189_42 rfl
theorem l_189_44 : look (tab 189) 44 = some (.bipush 12, 2, [], .int (zI 12)) := by decide +kernel
theorem e_189_44 : den cf 189 44 L st M = den cf 189 46 L (.int (zI 12) :: st) M := den_go l_189_44 rfl
theorem l_189_46 : look (tab 189) 46 = some (.if_icmp .gt 23, 3, [69], uu) := by decide +kernel
theorem e_189_46 : den cf 189 46 L (.int y :: .int x :: st) M = if y < x then den cf 189 69 L st M else den cf 189 49 L st M := den_ic_gt l_189_46
theorem l_189_49 : look (tab 189) 49 = some (.aload_n 0, 1, [], uu) := by decide +kernel
theorem e_189_49 : den cf 189 49 [.ref a, v1, v2, v3, v4] st M = den cf 189 50 [.ref a, v1, v2, v3, v4] (.ref a :: st) M := den_go l_189_49 rfl
theorem l_189_50 : look (tab 189) 50 = some (.iload_n 1, 1, [], uu) := by decide +kernel
theorem e_189_50 : den cf 189 50 [v0, .int x, v2, v3, v4] st M = den cf 189 51 [v0, .int x, v2, v3, v4] (.int x :: st) M := den_go l_189_50 rfl
theorem l_189_51 : look (tab 189) 51 = some (.iload 4, 2, [], uu) := by decide +kernel
theorem e_189_51 : den cf 189 51 [v0, v1, v2, v3, .int x] st M = den cf 189 53 [v0, v1, v2, v3, .int x] (.int x :: st) M := den_go l_189_51 rfl
theorem l_189_53 : look (tab 189) 53 = some (.invokevirtual 263, 3, [6, 187, 3, 695, 696, 697, 5], uu) := by decide +kernel
theorem e_189_53 : den cf 189 53 L (w2 :: w1 :: .ref a :: st) M = if rcv M 6 [.ref a, w1, w2] = true ∧ st.length ≤ 4 then rK (cf 187 [.ref a, w1, w2] M) (fun v M' => den cf 189 56 L (pR v st) M') else none := den_iv [w1, w2] l_189_53 rfl
theorem l_189_56 : look (tab 189) 56 = some (.iload_n 2, 1, [], uu) := by decide +kernel
theorem e_189_56 : den cf 189 56 [v0, v1, .int x, v3, v4] st M = den cf 189 57 [v0, v1, .int x, v3, v4] (.int x :: st) M := den_go l_189_56 rfl
theorem l_189_57 : look (tab 189) 57 = some (.if_icmp .lt 6, 3, [63], uu) := by decide +kernel
theorem e_189_57 : den cf 189 57 L (.int y :: .int x :: st) M = if x < y then den cf 189 63 L st M else den cf 189 60 L st M := den_ic_lt l_189_57
theorem l_189_60 : look (tab 189) 60 = some (.iload 4, 2, [], uu) := by decide +kernel
theorem e_189_60 : den cf 189 60 [v0, v1, v2, v3, .int x] st M = den cf 189 62 [v0, v1, v2, v3, .int x] (.int x :: st) M := den_go l_189_60 rfl
theorem l_189_62 : look (tab 189) 62 = some (.ireturn, 1, [0], uu) := by decide +kernel
theorem e_189_62 : den cf 189 62 L [.int x] M = some (some (.int x), M) := den_e0 l_189_62
theorem l_189_63 : look (tab 189) 63 = some (.iinc 4 1, 3, [], .int (zI 1)) := by decide +kernel
theorem e_189_63 : den cf 189 63 [v0, v1, v2, v3, .int x] st M = den cf 189 66 [v0, v1, v2, kq v3, .int (x + (zI 1))] st M := den_st (k := 4) (v := .int (x + (zI 1))) l_189_63 rfl
theorem l_189_66 : look (tab 189) 66 = some (.goto (-24), 3, [42], uu) := by decide +kernel
theorem e_189_66 : den cf 189 66 L st M = den cf 189 42 L st M := den_go l_189_66 rfl
theorem l_189_69 : look (tab 189) 69 = some (.iconst (-1), 1, [], .int (zI (-1))) := by decide +kernel
theorem e_189_69 : den cf 189 69 L st M = den cf 189 70 L (.int (zI (-1)) :: st) M := den_go l_189_69 rfl
theorem l_189_70 : look (tab 189) 70 = some (.ireturn, 1, [0], uu) := by decide +kernel
theorem e_189_70 : den cf 189 70 L [.int x] M = some (some (.int x), M) := den_e0 l_189_70
/-! yX6_lost -/
theorem l_190_0 : look (tab 190) 0 = some (.aload_n 0, 1, [], uu) := by decide +kernel
theorem e_190_0 : den cf 190 0 [.ref a, v1, v2, v3, v4, v5, v6, v7, v8, v9, v10, v11] st M = den cf 190 1 [.ref a, v1, v2, v3, v4, v5, v6, v7, v8, v9, v10, v11] (.ref a :: st) M := den_go l_190_0 rfl
theorem l_190_1 : look (tab 190) 1 = some (.iload_n 1, 1, [], uu) := by decide +kernel
theorem e_190_1 : den cf 190 1 [v0, .int x, v2, v3, v4, v5, v6, v7, v8, v9, v10, v11] st M = den cf 190 2 [v0, .int x, v2, v3, v4, v5, v6, v7, v8, v9, v10, v11] (.int x :: st) M := den_go l_190_1 rfl
theorem l_190_2 : look (tab 190) 2 = some (.invokevirtual 104, 3, [6, 138, 2, 226, 227, 228, 5], uu) := by decide +kernel
theorem e_190_2 : den cf 190 2 L (w1 :: .ref a :: st) M = if rcv M 6 [.ref a, w1] = true ∧ st.length ≤ 4 then rK (cf 138 [.ref a, w1] M) (fun v M' => den cf 190 5 L (pR v st) M') else none := den_iv [w1] l_190_2 rfl
theorem l_190_5 : look (tab 190) 5 = some (.ifCond .eq 15, 3, [20], uu) := by decide +kernel
theorem e_190_5 : den cf 190 5 L (.int x :: st) M = if x = zI 0 then den cf 190 20 L st M else den cf 190 8 L st M := den_if_eq l_190_5
theorem l_190_8 : look (tab 190) 8 = some (.iload_n 2, 1, [], uu) := by decide +kernel
theorem e_190_8 : den cf 190 8 [v0, v1, .int x, v3, v4, v5, v6, v7, v8, v9, v10, v11] st M = den cf 190 9 [v0, v1, .int x, v3, v4, v5, v6, v7, v8, v9, v10, v11] (.int x :: st) M := den_go l_190_8 rfl
theorem l_190_9 : look (tab 190) 9 = some (.i2l, 1, [], uu) := by decide +kernel
theorem e_190_9 : den cf 190 9 L (.int x :: st) M = den cf 190 10 L (.long x.toInt64 :: st) M := den_go l_190_9 rfl
theorem l_190_10 : look (tab 190) 10 = some (.lconst 0, 1, [], .long (zJ 0)) := by decide +kernel
theorem e_190_10 : den cf 190 10 L st M = den cf 190 11 L (.long (zJ 0) :: st) M := den_go l_190_10 rfl
theorem l_190_11 : look (tab 190) 11 = some (.ldc2_w 91, 3, [129], .long (zJ 40)) := by decide +kernel
theorem e_190_11 : den cf 190 11 L st M = den cf 190 14 L (.long (zJ 40) :: st) M := den_go l_190_11 rfl
theorem l_190_14 : look (tab 190) 14 = some (.invokestatic 83, 3, [1, 137, 3, 130, 131, 5], uu) := by decide +kernel
theorem e_190_14 : den cf 190 14 L (w3 :: w2 :: w1 :: st) M = if st.length ≤ 4 then rK (cf 137 [w1, w2, w3] M) (fun v M' => den cf 190 17 L (pR v st) M') else none := den_ist [w1, w2, w3] l_190_14 rfl
theorem l_190_17 : look (tab 190) 17 = some (.ifCond .ne 10, 3, [27], uu) := by decide +kernel
theorem e_190_17 : den cf 190 17 L (.int x :: st) M = if x = zI 0 then den cf 190 20 L st M else den cf 190 27 L st M := den_if_ne l_190_17
theorem l_190_20 : look (tab 190) 20 = some (.aload_n 0, 1, [], uu) := by decide +kernel
theorem e_190_20 : den cf 190 20 [.ref a, v1, v2, v3, v4, v5, v6, v7, v8, v9, v10, v11] st M = den cf 190 21 [.ref a, v1, v2, v3, v4, v5, v6, v7, v8, v9, v10, v11] (.ref a :: st) M := den_go l_190_20 rfl
theorem l_190_21 : look (tab 190) 21 = some (.bipush (-2), 2, [], .int (zI (-2))) := by decide +kernel
theorem e_190_21 : den cf 190 21 L st M = den cf 190 23 L (.int (zI (-2)) :: st) M := den_go l_190_21 rfl
theorem l_190_23 : look (tab 190) 23 = some (.invokevirtual 93, 3, [6, 136, 2, 133, 134, 135, 5], uu) := by decide +kernel
theorem e_190_23 : den cf 190 23 L (w1 :: .ref a :: st) M = if rcv M 6 [.ref a, w1] = true ∧ st.length ≤ 4 then rK (cf 136 [.ref a, w1] M) (fun v M' => den cf 190 26 L (pR v st) M') else none := den_iv [w1] l_190_23 rfl
theorem l_190_26 : look (tab 190) 26 = some (.ireturn, 1, [0], uu) := by decide +kernel
theorem e_190_26 : den cf 190 26 L [.int x] M = some (some (.int x), M) := den_e0 l_190_26
theorem l_190_27 : look (tab 190) 27 = some (.aload_n 0, 1, [], uu) := by decide +kernel
theorem e_190_27 : den cf 190 27 [.ref a, v1, v2, v3, v4, v5, v6, v7, v8, v9, v10, v11] st M = den cf 190 28 [.ref a, v1, v2, v3, v4, v5, v6, v7, v8, v9, v10, v11] (.ref a :: st) M := den_go l_190_27 rfl
theorem l_190_28 : look (tab 190) 28 = some (.iload_n 1, 1, [], uu) := by decide +kernel
theorem e_190_28 : den cf 190 28 [v0, .int x, v2, v3, v4, v5, v6, v7, v8, v9, v10, v11] st M = den cf 190 29 [v0, .int x, v2, v3, v4, v5, v6, v7, v8, v9, v10, v11] (.int x :: st) M := den_go l_190_28 rfl
theorem l_190_29 : look (tab 190) 29 = some (.invokevirtual 247, 3, [6, 180, 2, 653, 654, 655, 5], uu) := by decide +kernel
theorem e_190_29 : den cf 190 29 L (w1 :: .ref a :: st) M = if rcv M 6 [.ref a, w1] = true ∧ st.length ≤ 4 then rK (cf 180 [.ref a, w1] M) (fun v M' => den cf 190 32 L (pR v st) M') else none := den_iv [w1] l_190_29 rfl
theorem l_190_32 : look (tab 190) 32 = some (.istore_n 3, 1, [], uu) := by decide +kernel
theorem e_190_32 : den cf 190 32 [v0, v1, v2, v3, v4, v5, v6, v7, v8, v9, v10, v11] (.int x :: st) M = den cf 190 33 [v0, v1, kq v2, .int x, v4, v5, v6, v7, v8, v9, v10, v11] st M := den_st (k := 3) (v := .int x) l_190_32 rfl
theorem l_190_33 : look (tab 190) 33 = some (.iload_n 3, 1, [], uu) := by decide +kernel
theorem e_190_33 : den cf 190 33 [v0, v1, v2, .int x, v4, v5, v6, v7, v8, v9, v10, v11] st M = den cf 190 34 [v0, v1, v2, .int x, v4, v5, v6, v7, v8, v9, v10, v11] (.int x :: st) M := den_go l_190_33 rfl
theorem l_190_34 : look (tab 190) 34 = some (.ifCond .eq 5, 3, [39], uu) := by decide +kernel
theorem e_190_34 : den cf 190 34 L (.int x :: st) M = if x = zI 0 then den cf 190 39 L st M else den cf 190 37 L st M := den_if_eq l_190_34
theorem l_190_37 : look (tab 190) 37 = some (.iload_n 3, 1, [], uu) := by decide +kernel
theorem e_190_37 : den cf 190 37 [v0, v1, v2, .int x, v4, v5, v6, v7, v8, v9, v10, v11] st M = den cf 190 38 [v0, v1, v2, .int x, v4, v5, v6, v7, v8, v9, v10, v11] (.int x :: st) M := den_go l_190_37 rfl
theorem l_190_38 : look (tab 190) 38 = some (.ireturn, 1, [0], uu) := by decide +kernel
theorem e_190_38 : den cf 190 38 L [.int x] M = some (some (.int x), M) := den_e0 l_190_38
theorem l_190_39 : look (tab 190) 39 = some (.aload_n 0, 1, [], uu) := by decide +kernel
theorem e_190_39 : den cf 190 39 [.ref a, v1, v2, v3, v4, v5, v6, v7, v8, v9, v10, v11] st M = den cf 190 40 [.ref a, v1, v2, v3, v4, v5, v6, v7, v8, v9, v10, v11] (.ref a :: st) M := den_go l_190_39 rfl
theorem l_190_40 : look (tab 190) 40 = some (.iload_n 1, 1, [], uu) := by decide +kernel
theorem e_190_40 : den cf 190 40 [v0, .int x, v2, v3, v4, v5, v6, v7, v8, v9, v10, v11] st M = den cf 190 41 [v0, .int x, v2, v3, v4, v5, v6, v7, v8, v9, v10, v11] (.int x :: st) M := den_go l_190_40 rfl
theorem l_190_41 : look (tab 190) 41 = some (.invokevirtual 250, 3, [6, 182, 2, 678, 679, 680, 5], uu) := by decide +kernel
theorem e_190_41 : den cf 190 41 L (w1 :: .ref a :: st) M = if rcv M 6 [.ref a, w1] = true ∧ st.length ≤ 4 then rK (cf 182 [.ref a, w1] M) (fun v M' => den cf 190 44 L (pR v st) M') else none := den_iv [w1] l_190_41 rfl
theorem l_190_44 : look (tab 190) 44 = some (.istore 4, 2, [], uu) := by decide +kernel
theorem e_190_44 : den cf 190 44 [v0, v1, v2, v3, v4, v5, v6, v7, v8, v9, v10, v11] (.int x :: st) M = den cf 190 46 [v0, v1, v2, kq v3, .int x, v5, v6, v7, v8, v9, v10, v11] st M := den_st (k := 4) (v := .int x) l_190_44 rfl
theorem l_190_46 : look (tab 190) 46 = some (.aload_n 0, 1, [], uu) := by decide +kernel
theorem e_190_46 : den cf 190 46 [.ref a, v1, v2, v3, v4, v5, v6, v7, v8, v9, v10, v11] st M = den cf 190 47 [.ref a, v1, v2, v3, v4, v5, v6, v7, v8, v9, v10, v11] (.ref a :: st) M := den_go l_190_46 rfl
theorem l_190_47 : look (tab 190) 47 = some (.getfield 55, 3, [6, 16, 94], uu) := by decide +kernel
theorem e_190_47 : den cf 190 47 L (.ref a :: st) M = oK (gfA (M.2.2 a) 6 16) (fun v => den cf 190 50 L (v :: st) M) := den_gf l_190_47
theorem l_190_50 : look (tab 190) 50 = some (.iload 4, 2, [], uu) := by decide +kernel
theorem e_190_50 : den cf 190 50 [v0, v1, v2, v3, .int x, v5, v6, v7, v8, v9, v10, v11] st M = den cf 190 52 [v0, v1, v2, v3, .int x, v5, v6, v7, v8, v9, v10, v11] (.int x :: st) M := den_go l_190_50 rfl
theorem l_190_52 : look (tab 190) 52 = some (.iaload, 1, [], uu) := by decide +kernel
theorem e_190_52 : den cf 190 52 L (.int x :: .ref a :: st) M = oK (ldI (M.2.2 a) x) (fun v => den cf 190 53 L (v :: st) M) := den_al (g := ldI) l_190_52 rfl
theorem l_190_53 : look (tab 190) 53 = some (.istore 5, 2, [], uu) := by decide +kernel
theorem e_190_53 : den cf 190 53 [v0, v1, v2, v3, v4, v5, v6, v7, v8, v9, v10, v11] (.int x :: st) M = den cf 190 55 [v0, v1, v2, v3, kq v4, .int x, v6, v7, v8, v9, v10, v11] st M := den_st (k := 5) (v := .int x) l_190_53 rfl
theorem l_190_55 : look (tab 190) 55 = some (.aload_n 0, 1, [], uu) := by decide +kernel
theorem e_190_55 : den cf 190 55 [.ref a, v1, v2, v3, v4, v5, v6, v7, v8, v9, v10, v11] st M = den cf 190 56 [.ref a, v1, v2, v3, v4, v5, v6, v7, v8, v9, v10, v11] (.ref a :: st) M := den_go l_190_55 rfl
theorem l_190_56 : look (tab 190) 56 = some (.getfield 55, 3, [6, 16, 94], uu) := by decide +kernel
theorem e_190_56 : den cf 190 56 L (.ref a :: st) M = oK (gfA (M.2.2 a) 6 16) (fun v => den cf 190 59 L (v :: st) M) := den_gf l_190_56
theorem l_190_59 : look (tab 190) 59 = some (.iload 4, 2, [], uu) := by decide +kernel
theorem e_190_59 : den cf 190 59 [v0, v1, v2, v3, .int x, v5, v6, v7, v8, v9, v10, v11] st M = den cf 190 61 [v0, v1, v2, v3, .int x, v5, v6, v7, v8, v9, v10, v11] (.int x :: st) M := den_go l_190_59 rfl
theorem l_190_61 : look (tab 190) 61 = some (.iconst 0, 1, [], .int (zI 0)) := by decide +kernel
theorem e_190_61 : den cf 190 61 L st M = den cf 190 62 L (.int (zI 0) :: st) M := den_go l_190_61 rfl
theorem l_190_62 : look (tab 190) 62 = some (.iastore, 1, [], uu) := by decide +kernel
theorem e_190_62 : den cf 190 62 L (.int x :: .int y :: .ref a :: st) M = oK (stI (M.2.2 a) y x) (fun c => den cf 190 63 L st (mU M a c)) := den_is l_190_62
theorem l_190_63 : look (tab 190) 63 = some (.aload_n 0, 1, [], uu) := by decide +kernel
theorem e_190_63 : den cf 190 63 [.ref a, v1, v2, v3, v4, v5, v6, v7, v8, v9, v10, v11] st M = den cf 190 64 [.ref a, v1, v2, v3, v4, v5, v6, v7, v8, v9, v10, v11] (.ref a :: st) M := den_go l_190_63 rfl
theorem l_190_64 : look (tab 190) 64 = some (.iload 4, 2, [], uu) := by decide +kernel
theorem e_190_64 : den cf 190 64 [v0, v1, v2, v3, .int x, v5, v6, v7, v8, v9, v10, v11] st M = den cf 190 66 [v0, v1, v2, v3, .int x, v5, v6, v7, v8, v9, v10, v11] (.int x :: st) M := den_go l_190_64 rfl
theorem l_190_66 : look (tab 190) 66 = some (.aload_n 0, 1, [], uu) := by decide +kernel
theorem e_190_66 : den cf 190 66 [.ref a, v1, v2, v3, v4, v5, v6, v7, v8, v9, v10, v11] st M = den cf 190 67 [.ref a, v1, v2, v3, v4, v5, v6, v7, v8, v9, v10, v11] (.ref a :: st) M := den_go l_190_66 rfl
theorem l_190_67 : look (tab 190) 67 = some (.getfield 37, 3, [6, 10, 88], uu) := by decide +kernel
theorem e_190_67 : den cf 190 67 L (.ref a :: st) M = oK (gfA (M.2.2 a) 6 10) (fun v => den cf 190 70 L (v :: st) M) := den_gf l_190_67
theorem l_190_70 : look (tab 190) 70 = some (.iload 4, 2, [], uu) := by decide +kernel
theorem e_190_70 : den cf 190 70 [v0, v1, v2, v3, .int x, v5, v6, v7, v8, v9, v10, v11] st M = den cf 190 72 [v0, v1, v2, v3, .int x, v5, v6, v7, v8, v9, v10, v11] (.int x :: st) M := den_go l_190_70 rfl
theorem l_190_72 : look (tab 190) 72 = some (.iaload, 1, [], uu) := by decide +kernel
theorem e_190_72 : den cf 190 72 L (.int x :: .ref a :: st) M = oK (ldI (M.2.2 a) x) (fun v => den cf 190 73 L (v :: st) M) := den_al (g := ldI) l_190_72 rfl
theorem l_190_73 : look (tab 190) 73 = some (.invokevirtual 114, 3, [6, 177, 3, 284, 285, 286, 5], uu) := by decide +kernel
theorem e_190_73 : den cf 190 73 L (w2 :: w1 :: .ref a :: st) M = if rcv M 6 [.ref a, w1, w2] = true ∧ st.length ≤ 4 then rK (cf 177 [.ref a, w1, w2] M) (fun v M' => den cf 190 76 L (pR v st) M') else none := den_iv [w1, w2] l_190_73 rfl
theorem l_190_76 : look (tab 190) 76 = some (.istore 6, 2, [], uu) := by decide +kernel
theorem e_190_76 : den cf 190 76 [v0, v1, v2, v3, v4, v5, v6, v7, v8, v9, v10, v11] (.int x :: st) M = den cf 190 78 [v0, v1, v2, v3, v4, kq v5, .int x, v7, v8, v9, v10, v11] st M := den_st (k := 6) (v := .int x) l_190_76 rfl
theorem l_190_78 : look (tab 190) 78 = some (.aload_n 0, 1, [], uu) := by decide +kernel
theorem e_190_78 : den cf 190 78 [.ref a, v1, v2, v3, v4, v5, v6, v7, v8, v9, v10, v11] st M = den cf 190 79 [.ref a, v1, v2, v3, v4, v5, v6, v7, v8, v9, v10, v11] (.ref a :: st) M := den_go l_190_78 rfl
theorem l_190_79 : look (tab 190) 79 = some (.getfield 55, 3, [6, 16, 94], uu) := by decide +kernel
theorem e_190_79 : den cf 190 79 L (.ref a :: st) M = oK (gfA (M.2.2 a) 6 16) (fun v => den cf 190 82 L (v :: st) M) := den_gf l_190_79
theorem l_190_82 : look (tab 190) 82 = some (.iload 4, 2, [], uu) := by decide +kernel
theorem e_190_82 : den cf 190 82 [v0, v1, v2, v3, .int x, v5, v6, v7, v8, v9, v10, v11] st M = den cf 190 84 [v0, v1, v2, v3, .int x, v5, v6, v7, v8, v9, v10, v11] (.int x :: st) M := den_go l_190_82 rfl
theorem l_190_84 : look (tab 190) 84 = some (.iload 5, 2, [], uu) := by decide +kernel
theorem e_190_84 : den cf 190 84 [v0, v1, v2, v3, v4, .int x, v6, v7, v8, v9, v10, v11] st M = den cf 190 86 [v0, v1, v2, v3, v4, .int x, v6, v7, v8, v9, v10, v11] (.int x :: st) M := den_go l_190_84 rfl
theorem l_190_86 : look (tab 190) 86 = some (.iastore, 1, [], uu) := by decide +kernel
theorem e_190_86 : den cf 190 86 L (.int x :: .int y :: .ref a :: st) M = oK (stI (M.2.2 a) y x) (fun c => den cf 190 87 L st (mU M a c)) := den_is l_190_86
theorem l_190_87 : look (tab 190) 87 = some (.ldc2_w 256, 3, [699], .long (zJ 1000000)) := by decide +kernel
theorem e_190_87 : den cf 190 87 L st M = den cf 190 90 L (.long (zJ 1000000) :: st) M := den_go l_190_87 rfl
theorem l_190_90 : look (tab 190) 90 = some (.lstore 7, 2, [], uu) := by decide +kernel
theorem e_190_90 : den cf 190 90 [v0, v1, v2, v3, v4, v5, v6, v7, v8, v9, v10, v11] (.long p :: st) M = den cf 190 92 [v0, v1, v2, v3, v4, v5, kq v6, .long p, uu, v9, v10, v11] st M := den_s2 (k := 7) (v := .long p) l_190_90 rfl
theorem l_190_92 : look (tab 190) 92 = some (.ldc2_w 256, 3, [699], .long (zJ 1000000)) := by decide +kernel
theorem e_190_92 : den cf 190 92 L st M = den cf 190 95 L (.long (zJ 1000000) :: st) M := den_go l_190_92 rfl
theorem l_190_95 : look (tab 190) 95 = some (.lstore 9, 2, [], uu) := by decide +kernel
theorem e_190_95 : den cf 190 95 [v0, v1, v2, v3, v4, v5, v6, v7, v8, v9, v10, v11] (.long p :: st) M = den cf 190 97 [v0, v1, v2, v3, v4, v5, v6, v7, kq v8, .long p, uu, v11] st M := den_s2 (k := 9) (v := .long p) l_190_95 rfl
theorem l_190_97 : look (tab 190) 97 = some (.iconst 0, 1, [], .int (zI 0)) := by decide +kernel
theorem e_190_97 : den cf 190 97 L st M = den cf 190 98 L (.int (zI 0) :: st) M := den_go l_190_97 rfl
theorem l_190_98 : look (tab 190) 98 = some (.istore 11, 2, [], uu) := by decide +kernel
theorem e_190_98 : den cf 190 98 [v0, v1, v2, v3, v4, v5, v6, v7, v8, v9, v10, v11] (.int x :: st) M = den cf 190 100 [v0, v1, v2, v3, v4, v5, v6, v7, v8, v9, kq v10, .int x] st M := den_st (k := 11) (v := .int x) l_190_98 rfl
theorem l_190_100 : look (tab 190) 100 = some (.iload 11, 2, [], uu) := by decide +kernel
theorem e_190_100 : den cf 190 100 [v0, v1, v2, v3, v4, v5, v6, v7, v8, v9, v10, .int x] st M = den cf 190 102 [v0, v1, v2, v3, v4, v5, v6, v7, v8, v9, v10, .int x] (.int x :: st) M := den_go l_190_100 rfl
theorem l_190_102 : look (tab 190) 102 = some (.iload_n 2, 1, [], uu) := by decide +kernel
theorem e_190_102 : den cf 190 102 [v0, v1, .int x, v3, v4, v5, v6, v7, v8, v9, v10, v11] st M = den cf 190 103 [v0, v1, .int x, v3, v4, v5, v6, v7, v8, v9, v10, v11] (.int x :: st) M := den_go l_190_102 rfl
theorem l_190_103 : look (tab 190) 103 = some (.if_icmp .ge 40, 3, [143], uu) := by decide +kernel
theorem e_190_103 : den cf 190 103 L (.int y :: .int x :: st) M = if x < y then den cf 190 106 L st M else den cf 190 143 L st M := den_ic_ge l_190_103
theorem l_190_106 : look (tab 190) 106 = some (.lload 7, 2, [], uu) := by decide +kernel
theorem e_190_106 : den cf 190 106 [v0, v1, v2, v3, v4, v5, v6, .long p, v8, v9, v10, v11] st M = den cf 190 108 [v0, v1, v2, v3, v4, v5, v6, .long p, v8, v9, v10, v11] (.long p :: st) M := den_go l_190_106 rfl
theorem l_190_108 : look (tab 190) 108 = some (.aload_n 0, 1, [], uu) := by decide +kernel
theorem e_190_108 : den cf 190 108 [.ref a, v1, v2, v3, v4, v5, v6, v7, v8, v9, v10, v11] st M = den cf 190 109 [.ref a, v1, v2, v3, v4, v5, v6, v7, v8, v9, v10, v11] (.ref a :: st) M := den_go l_190_108 rfl
theorem l_190_109 : look (tab 190) 109 = some (.getfield 61, 3, [6, 18, 96], uu) := by decide +kernel
theorem e_190_109 : den cf 190 109 L (.ref a :: st) M = oK (gfA (M.2.2 a) 6 18) (fun v => den cf 190 112 L (v :: st) M) := den_gf l_190_109
theorem l_190_112 : look (tab 190) 112 = some (.iconst 0, 1, [], .int (zI 0)) := by decide +kernel
theorem e_190_112 : den cf 190 112 L st M = den cf 190 113 L (.int (zI 0) :: st) M := den_go l_190_112 rfl
theorem l_190_113 : look (tab 190) 113 = some (.iaload, 1, [], uu) := by decide +kernel
theorem e_190_113 : den cf 190 113 L (.int x :: .ref a :: st) M = oK (ldI (M.2.2 a) x) (fun v => den cf 190 114 L (v :: st) M) := den_al (g := ldI) l_190_113 rfl
theorem l_190_114 : look (tab 190) 114 = some (.i2l, 1, [], uu) := by decide +kernel
theorem e_190_114 : den cf 190 114 L (.int x :: st) M = den cf 190 115 L (.long x.toInt64 :: st) M := den_go l_190_114 rfl
theorem l_190_115 : look (tab 190) 115 = some (.lmul, 1, [], uu) := by decide +kernel
theorem e_190_115 : den cf 190 115 L (.long q :: .long p :: st) M = den cf 190 116 L (.long (p * q) :: st) M := den_go l_190_115 rfl
theorem l_190_116 : look (tab 190) 116 = some (.ldc2_w 149, 3, [399], .long (zJ 12)) := by decide +kernel
theorem e_190_116 : den cf 190 116 L st M = den cf 190 119 L (.long (zJ 12) :: st) M := den_go l_190_116 rfl
theorem l_190_119 : look (tab 190) 119 = some (.ldiv, 1, [], uu) := by decide +kernel
theorem e_190_119 : den cf 190 119 L (.long q :: .long p :: st) M = if q = zJ 0 then none else den cf 190 120 L (.long (p / q) :: st) M := den_dl (f := fun p q => p / q) l_190_119 rfl
theorem l_190_120 : look (tab 190) 120 = some (.lstore 7, 2, [], uu) := by decide +kernel
theorem e_190_120 : den cf 190 120 [v0, v1, v2, v3, v4, v5, v6, v7, v8, v9, v10, v11] (.long p :: st) M = den cf 190 122 [v0, v1, v2, v3, v4, v5, kq v6, .long p, uu, v9, v10, v11] st M := den_s2 (k := 7) (v := .long p) l_190_120 rfl
theorem l_190_122 : look (tab 190) 122 = some (.lload 9, 2, [], uu) := by decide +kernel
theorem e_190_122 : den cf 190 122 [v0, v1, v2, v3, v4, v5, v6, v7, v8, .long p, v10, v11] st M = den cf 190 124 [v0, v1, v2, v3, v4, v5, v6, v7, v8, .long p, v10, v11] (.long p :: st) M := den_go l_190_122 rfl
theorem l_190_124 : look (tab 190) 124 = some (.bipush 12, 2, [], .int (zI 12)) := by decide +kernel
theorem e_190_124 : den cf 190 124 L st M = den cf 190 126 L (.int (zI 12) :: st) M := den_go l_190_124 rfl
theorem l_190_126 : look (tab 190) 126 = some (.iload 6, 2, [], uu) := by decide +kernel
theorem e_190_126 : den cf 190 126 [v0, v1, v2, v3, v4, v5, .int x, v7, v8, v9, v10, v11] st M = den cf 190 128 [v0, v1, v2, v3, v4, v5, .int x, v7, v8, v9, v10, v11] (.int x :: st) M := den_go l_190_126 rfl
theorem l_190_128 : look (tab 190) 128 = some (.isub, 1, [], uu) := by decide +kernel
theorem e_190_128 : den cf 190 128 L (.int y :: .int x :: st) M = den cf 190 129 L (.int (x - y) :: st) M := den_go l_190_128 rfl
theorem l_190_129 : look (tab 190) 129 = some (.i2l, 1, [], uu) := by decide +kernel
theorem e_190_129 : den cf 190 129 L (.int x :: st) M = den cf 190 130 L (.long x.toInt64 :: st) M := den_go l_190_129 rfl
theorem l_190_130 : look (tab 190) 130 = some (.lmul, 1, [], uu) := by decide +kernel
theorem e_190_130 : den cf 190 130 L (.long q :: .long p :: st) M = den cf 190 131 L (.long (p * q) :: st) M := den_go l_190_130 rfl
theorem l_190_131 : look (tab 190) 131 = some (.ldc2_w 149, 3, [399], .long (zJ 12)) := by decide +kernel
theorem e_190_131 : den cf 190 131 L st M = den cf 190 134 L (.long (zJ 12) :: st) M := den_go l_190_131 rfl
theorem l_190_134 : look (tab 190) 134 = some (.ldiv, 1, [], uu) := by decide +kernel
theorem e_190_134 : den cf 190 134 L (.long q :: .long p :: st) M = if q = zJ 0 then none else den cf 190 135 L (.long (p / q) :: st) M := den_dl (f := fun p q => p / q) l_190_134 rfl
theorem l_190_135 : look (tab 190) 135 = some (.lstore 9, 2, [], uu) := by decide +kernel
theorem e_190_135 : den cf 190 135 [v0, v1, v2, v3, v4, v5, v6, v7, v8, v9, v10, v11] (.long p :: st) M = den cf 190 137 [v0, v1, v2, v3, v4, v5, v6, v7, kq v8, .long p, uu, v11] st M := den_s2 (k := 9) (v := .long p) l_190_135 rfl
theorem l_190_137 : look (tab 190) 137 = some (.iinc 11 1, 3, [], .int (zI 1)) := by decide +kernel
theorem e_190_137 : den cf 190 137 [v0, v1, v2, v3, v4, v5, v6, v7, v8, v9, v10, .int x] st M = den cf 190 140 [v0, v1, v2, v3, v4, v5, v6, v7, v8, v9, kq v10, .int (x + (zI 1))] st M := den_st (k := 11) (v := .int (x + (zI 1))) l_190_137 rfl
theorem l_190_140 : look (tab 190) 140 = some (.goto (-40), 3, [100], uu) := by decide +kernel
theorem e_190_140 : den cf 190 140 L st M = den cf 190 100 L st M := den_go l_190_140 rfl
theorem l_190_143 : look (tab 190) 143 = some (.lload 7, 2, [], uu) := by decide +kernel
theorem e_190_143 : den cf 190 143 [v0, v1, v2, v3, v4, v5, v6, .long p, v8, v9, v10, v11] st M = den cf 190 145 [v0, v1, v2, v3, v4, v5, v6, .long p, v8, v9, v10, v11] (.long p :: st) M := den_go l_190_143 rfl
theorem l_190_145 : look (tab 190) 145 = some (.lload 9, 2, [], uu) := by decide +kernel
theorem e_190_145 : den cf 190 145 [v0, v1, v2, v3, v4, v5, v6, v7, v8, .long p, v10, v11] st M = den cf 190 147 [v0, v1, v2, v3, v4, v5, v6, v7, v8, .long p, v10, v11] (.long p :: st) M := den_go l_190_145 rfl
theorem l_190_147 : look (tab 190) 147 = some (.ladd, 1, [], uu) := by decide +kernel
theorem e_190_147 : den cf 190 147 L (.long q :: .long p :: st) M = den cf 190 148 L (.long (p + q) :: st) M := den_go l_190_147 rfl
theorem l_190_148 : look (tab 190) 148 = some (.lconst 0, 1, [], .long (zJ 0)) := by decide +kernel
theorem e_190_148 : den cf 190 148 L st M = den cf 190 149 L (.long (zJ 0) :: st) M := den_go l_190_148 rfl
theorem l_190_149 : look (tab 190) 149 = some (.lcmp, 1, [], uu) := by decide +kernel
theorem e_190_149 : den cf 190 149 L (.long q :: .long p :: st) M = den cf 190 150 L (.int (lg_cmp p q) :: st) M := den_go l_190_149 rfl
theorem l_190_150 : look (tab 190) 150 = some (.ifCond .ne 7, 3, [157], uu) := by decide +kernel
theorem e_190_150 : den cf 190 150 L (.int x :: st) M = if x = zI 0 then den cf 190 153 L st M else den cf 190 157 L st M := den_if_ne l_190_150
theorem l_190_153 : look (tab 190) 153 = some (.iconst 0, 1, [], .int (zI 0)) := by decide +kernel
theorem e_190_153 : den cf 190 153 L st M = den cf 190 154 L (.int (zI 0) :: st) M := den_go l_190_153 rfl
theorem l_190_154 : look (tab 190) 154 = some (.goto 16, 3, [170], uu) := by decide +kernel
theorem e_190_154 : den cf 190 154 L st M = den cf 190 170 L st M := den_go l_190_154 rfl
theorem l_190_157 : look (tab 190) 157 = some (.ldc2_w 266, 3, [726], .long (zJ 1000)) := by decide +kernel
theorem e_190_157 : den cf 190 157 L st M = den cf 190 160 L (.long (zJ 1000) :: st) M := den_go l_190_157 rfl
theorem l_190_160 : look (tab 190) 160 = some (.lload 7, 2, [], uu) := by decide +kernel
theorem e_190_160 : den cf 190 160 [v0, v1, v2, v3, v4, v5, v6, .long p, v8, v9, v10, v11] st M = den cf 190 162 [v0, v1, v2, v3, v4, v5, v6, .long p, v8, v9, v10, v11] (.long p :: st) M := den_go l_190_160 rfl
theorem l_190_162 : look (tab 190) 162 = some (.lmul, 1, [], uu) := by decide +kernel
theorem e_190_162 : den cf 190 162 L (.long q :: .long p :: st) M = den cf 190 163 L (.long (p * q) :: st) M := den_go l_190_162 rfl
theorem l_190_163 : look (tab 190) 163 = some (.lload 7, 2, [], uu) := by decide +kernel
theorem e_190_163 : den cf 190 163 [v0, v1, v2, v3, v4, v5, v6, .long p, v8, v9, v10, v11] st M = den cf 190 165 [v0, v1, v2, v3, v4, v5, v6, .long p, v8, v9, v10, v11] (.long p :: st) M := den_go l_190_163 rfl
theorem l_190_165 : look (tab 190) 165 = some (.lload 9, 2, [], uu) := by decide +kernel
theorem e_190_165 : den cf 190 165 [v0, v1, v2, v3, v4, v5, v6, v7, v8, .long p, v10, v11] st M = den cf 190 167 [v0, v1, v2, v3, v4, v5, v6, v7, v8, .long p, v10, v11] (.long p :: st) M := den_go l_190_165 rfl
theorem l_190_167 : look (tab 190) 167 = some (.ladd, 1, [], uu) := by decide +kernel
theorem e_190_167 : den cf 190 167 L (.long q :: .long p :: st) M = den cf 190 168 L (.long (p + q) :: st) M := den_go l_190_167 rfl
theorem l_190_168 : look (tab 190) 168 = some (.ldiv, 1, [], uu) := by decide +kernel
theorem e_190_168 : den cf 190 168 L (.long q :: .long p :: st) M = if q = zJ 0 then none else den cf 190 169 L (.long (p / q) :: st) M := den_dl (f := fun p q => p / q) l_190_168 rfl
theorem l_190_169 : look (tab 190) 169 = some (.l2i, 1, [], uu) := by decide +kernel
theorem e_190_169 : den cf 190 169 L (.long p :: st) M = den cf 190 170 L (.int p.toInt32 :: st) M := den_go l_190_169 rfl
theorem l_190_170 : look (tab 190) 170 = some (.ireturn, 1, [0], uu) := by decide +kernel
theorem e_190_170 : den cf 190 170 L [.int x] M = some (some (.int x), M) := den_e0 l_190_170
/-! yX6_seekPaired -/
theorem l_191_0 : look (tab 191) 0 = some (.iload_n 1, 1, [], uu) := by decide +kernel
theorem e_191_0 : den cf 191 0 [v0, .int x, v2, v3, v4, v5] st M = den cf 191 1 [v0, .int x, v2, v3, v4, v5] (.int x :: st) M := den_go l_191_0 rfl
theorem l_191_1 : look (tab 191) 1 = some (.aload_n 0, 1, [], uu) := by decide +kernel
theorem e_191_1 : den cf 191 1 [.ref a, v1, v2, v3, v4, v5] st M = den cf 191 2 [.ref a, v1, v2, v3, v4, v5] (.ref a :: st) M := den_go l_191_1 rfl
theorem l_191_2 : look (tab 191) 2 = some (.getfield 268, 3, [6, 31, 787], uu) := by decide +kernel
theorem e_191_2 : den cf 191 2 L (.ref a :: st) M = oK (gfA (M.2.2 a) 6 31) (fun v => den cf 191 5 L (v :: st) M) := den_gf l_191_2
theorem l_191_5 : look (tab 191) 5 = some (.if_icmp .ne 51, 3, [56], uu) := by decide +kernel
theorem e_191_5 : den cf 191 5 L (.int y :: .int x :: st) M = if x = y then den cf 191 8 L st M else den cf 191 56 L st M := den_ic_ne l_191_5
theorem l_191_8 : look (tab 191) 8 = some (.iload_n 3, 1, [], uu) := by decide +kernel
theorem e_191_8 : den cf 191 8 [v0, v1, v2, .int x, v4, v5] st M = den cf 191 9 [v0, v1, v2, .int x, v4, v5] (.int x :: st) M := den_go l_191_8 rfl
theorem l_191_9 : look (tab 191) 9 = some (.aload_n 0, 1, [], uu) := by decide +kernel
theorem e_191_9 : den cf 191 9 [.ref a, v1, v2, v3, v4, v5] st M = den cf 191 10 [.ref a, v1, v2, v3, v4, v5] (.ref a :: st) M := den_go l_191_9 rfl
theorem l_191_10 : look (tab 191) 10 = some (.getfield 271, 3, [6, 34, 788], uu) := by decide +kernel
theorem e_191_10 : den cf 191 10 L (.ref a :: st) M = oK (gfA (M.2.2 a) 6 34) (fun v => den cf 191 13 L (v :: st) M) := den_gf l_191_10
theorem l_191_13 : look (tab 191) 13 = some (.if_icmp .gt 20, 3, [33], uu) := by decide +kernel
theorem e_191_13 : den cf 191 13 L (.int y :: .int x :: st) M = if y < x then den cf 191 33 L st M else den cf 191 16 L st M := den_ic_gt l_191_13
theorem l_191_16 : look (tab 191) 16 = some (.iload_n 3, 1, [], uu) := by decide +kernel
theorem e_191_16 : den cf 191 16 [v0, v1, v2, .int x, v4, v5] st M = den cf 191 17 [v0, v1, v2, .int x, v4, v5] (.int x :: st) M := den_go l_191_16 rfl
theorem l_191_17 : look (tab 191) 17 = some (.aload_n 0, 1, [], uu) := by decide +kernel
theorem e_191_17 : den cf 191 17 [.ref a, v1, v2, v3, v4, v5] st M = den cf 191 18 [.ref a, v1, v2, v3, v4, v5] (.ref a :: st) M := den_go l_191_17 rfl
theorem l_191_18 : look (tab 191) 18 = some (.getfield 271, 3, [6, 34, 788], uu) := by decide +kernel
theorem e_191_18 : den cf 191 18 L (.ref a :: st) M = oK (gfA (M.2.2 a) 6 34) (fun v => den cf 191 21 L (v :: st) M) := den_gf l_191_18
theorem l_191_21 : look (tab 191) 21 = some (.if_icmp .ne 34, 3, [55], uu) := by decide +kernel
theorem e_191_21 : den cf 191 21 L (.int y :: .int x :: st) M = if x = y then den cf 191 24 L st M else den cf 191 55 L st M := den_ic_ne l_191_21
theorem l_191_24 : look (tab 191) 24 = some (.iload 4, 2, [], uu) := by decide +kernel
theorem e_191_24 : den cf 191 24 [v0, v1, v2, v3, .int x, v5] st M = den cf 191 26 [v0, v1, v2, v3, .int x, v5] (.int x :: st) M := den_go l_191_24 rfl
theorem l_191_26 : look (tab 191) 26 = some (.aload_n 0, 1, [], uu) := by decide +kernel
theorem e_191_26 : den cf 191 26 [.ref a, v1, v2, v3, v4, v5] st M = den cf 191 27 [.ref a, v1, v2, v3, v4, v5] (.ref a :: st) M := den_go l_191_26 rfl
theorem l_191_27 : look (tab 191) 27 = some (.getfield 274, 3, [6, 35, 793], uu) := by decide +kernel
theorem e_191_27 : den cf 191 27 L (.ref a :: st) M = oK (gfA (M.2.2 a) 6 35) (fun v => den cf 191 30 L (v :: st) M) := den_gf l_191_27
theorem l_191_30 : look (tab 191) 30 = some (.if_icmp .le 25, 3, [55], uu) := by decide +kernel
theorem e_191_30 : den cf 191 30 L (.int y :: .int x :: st) M = if y < x then den cf 191 33 L st M else den cf 191 55 L st M := den_ic_le l_191_30
theorem l_191_33 : look (tab 191) 33 = some (.aload_n 0, 1, [], uu) := by decide +kernel
theorem e_191_33 : den cf 191 33 [.ref a, v1, v2, v3, v4, v5] st M = den cf 191 34 [.ref a, v1, v2, v3, v4, v5] (.ref a :: st) M := den_go l_191_33 rfl
theorem l_191_34 : look (tab 191) 34 = some (.iload_n 3, 1, [], uu) := by decide +kernel
theorem e_191_34 : den cf 191 34 [v0, v1, v2, .int x, v4, v5] st M = den cf 191 35 [v0, v1, v2, .int x, v4, v5] (.int x :: st) M := den_go l_191_34 rfl
theorem l_191_35 : look (tab 191) 35 = some (.putfield 271, 3, [6, 34, 0, 788, 0], uu) := by decide +kernel
theorem e_191_35 : den cf 191 35 L (.int x :: .ref a :: st) M = oK (pfA (M.2.2 a) 6 34 (.int x)) (fun c => den cf 191 38 L st (mU M a c)) := den_pf0 l_191_35
theorem l_191_38 : look (tab 191) 38 = some (.aload_n 0, 1, [], uu) := by decide +kernel
theorem e_191_38 : den cf 191 38 [.ref a, v1, v2, v3, v4, v5] st M = den cf 191 39 [.ref a, v1, v2, v3, v4, v5] (.ref a :: st) M := den_go l_191_38 rfl
theorem l_191_39 : look (tab 191) 39 = some (.iload 4, 2, [], uu) := by decide +kernel
theorem e_191_39 : den cf 191 39 [v0, v1, v2, v3, .int x, v5] st M = den cf 191 41 [v0, v1, v2, v3, .int x, v5] (.int x :: st) M := den_go l_191_39 rfl
theorem l_191_41 : look (tab 191) 41 = some (.putfield 274, 3, [6, 35, 0, 793, 0], uu) := by decide +kernel
theorem e_191_41 : den cf 191 41 L (.int x :: .ref a :: st) M = oK (pfA (M.2.2 a) 6 35 (.int x)) (fun c => den cf 191 44 L st (mU M a c)) := den_pf0 l_191_41
theorem l_191_44 : look (tab 191) 44 = some (.aload_n 0, 1, [], uu) := by decide +kernel
theorem e_191_44 : den cf 191 44 [.ref a, v1, v2, v3, v4, v5] st M = den cf 191 45 [.ref a, v1, v2, v3, v4, v5] (.ref a :: st) M := den_go l_191_44 rfl
theorem l_191_45 : look (tab 191) 45 = some (.getfield 74, 3, [6, 32, 100], uu) := by decide +kernel
theorem e_191_45 : den cf 191 45 L (.ref a :: st) M = oK (gfA (M.2.2 a) 6 32) (fun v => den cf 191 48 L (v :: st) M) := den_gf l_191_45
theorem l_191_48 : look (tab 191) 48 = some (.aload_n 0, 1, [], uu) := by decide +kernel
theorem e_191_48 : den cf 191 48 [.ref a, v1, v2, v3, v4, v5] st M = den cf 191 49 [.ref a, v1, v2, v3, v4, v5] (.ref a :: st) M := den_go l_191_48 rfl
theorem l_191_49 : look (tab 191) 49 = some (.getfield 77, 3, [6, 33, 101], uu) := by decide +kernel
theorem e_191_49 : den cf 191 49 L (.ref a :: st) M = oK (gfA (M.2.2 a) 6 33) (fun v => den cf 191 52 L (v :: st) M) := den_gf l_191_49
theorem l_191_52 : look (tab 191) 52 = some (.invokestatic 277, 3, [1, 237, 2, 573, 574, 5], uu) := by decide +kernel
theorem e_191_52 : den cf 191 52 L (w2 :: w1 :: st) M = if st.length ≤ 4 then rK (cf 237 [w1, w2] M) (fun v M' => den cf 191 55 L (pR v st) M') else none := den_ist [w1, w2] l_191_52 rfl
theorem l_191_55 : look (tab 191) 55 = some (.return_, 1, [], uu) := by decide +kernel
theorem e_191_55 : den cf 191 55 L [] M = some (none, M) := den_e4 l_191_55
theorem l_191_56 : look (tab 191) 56 = some (.aload_n 0, 1, [], uu) := by decide +kernel
theorem e_191_56 : den cf 191 56 [.ref a, v1, v2, v3, v4, v5] st M = den cf 191 57 [.ref a, v1, v2, v3, v4, v5] (.ref a :: st) M := den_go l_191_56 rfl
theorem l_191_57 : look (tab 191) 57 = some (.getfield 74, 3, [6, 32, 100], uu) := by decide +kernel
theorem e_191_57 : den cf 191 57 L (.ref a :: st) M = oK (gfA (M.2.2 a) 6 32) (fun v => den cf 191 60 L (v :: st) M) := den_gf l_191_57
theorem l_191_60 : look (tab 191) 60 = some (.iload_n 1, 1, [], uu) := by decide +kernel
theorem e_191_60 : den cf 191 60 [v0, .int x, v2, v3, v4, v5] st M = den cf 191 61 [v0, .int x, v2, v3, v4, v5] (.int x :: st) M := den_go l_191_60 rfl
theorem l_191_61 : look (tab 191) 61 = some (.iconst (-1), 1, [], .int (zI (-1))) := by decide +kernel
theorem e_191_61 : den cf 191 61 L st M = den cf 191 62 L (.int (zI (-1)) :: st) M := den_go l_191_61 rfl
theorem l_191_62 : look (tab 191) 62 = some (.iastore, 1, [], uu) := by decide +kernel
theorem e_191_62 : den cf 191 62 L (.int x :: .int y :: .ref a :: st) M = oK (stI (M.2.2 a) y x) (fun c => den cf 191 63 L st (mU M a c)) := den_is l_191_62
theorem l_191_63 : look (tab 191) 63 = some (.aload_n 0, 1, [], uu) := by decide +kernel
theorem e_191_63 : den cf 191 63 [.ref a, v1, v2, v3, v4, v5] st M = den cf 191 64 [.ref a, v1, v2, v3, v4, v5] (.ref a :: st) M := den_go l_191_63 rfl
theorem l_191_64 : look (tab 191) 64 = some (.iload_n 1, 1, [], uu) := by decide +kernel
theorem e_191_64 : den cf 191 64 [v0, .int x, v2, v3, v4, v5] st M = den cf 191 65 [v0, .int x, v2, v3, v4, v5] (.int x :: st) M := den_go l_191_64 rfl
theorem l_191_65 : look (tab 191) 65 = some (.iconst 1, 1, [], .int (zI 1)) := by decide +kernel
theorem e_191_65 : den cf 191 65 L st M = den cf 191 66 L (.int (zI 1) :: st) M := den_go l_191_65 rfl
theorem l_191_66 : look (tab 191) 66 = some (.iadd, 1, [], uu) := by decide +kernel
theorem e_191_66 : den cf 191 66 L (.int y :: .int x :: st) M = den cf 191 67 L (.int (x + y) :: st) M := den_go l_191_66 rfl
theorem l_191_67 : look (tab 191) 67 = some (.iload_n 2, 1, [], uu) := by decide +kernel
theorem e_191_67 : den cf 191 67 [v0, v1, .int x, v3, v4, v5] st M = den cf 191 68 [v0, v1, .int x, v3, v4, v5] (.int x :: st) M := den_go l_191_67 rfl
theorem l_191_68 : look (tab 191) 68 = some (.iload_n 3, 1, [], uu) := by decide +kernel
theorem e_191_68 : den cf 191 68 [v0, v1, v2, .int x, v4, v5] st M = den cf 191 69 [v0, v1, v2, .int x, v4, v5] (.int x :: st) M := den_go l_191_68 rfl
theorem l_191_69 : look (tab 191) 69 = some (.iload 4, 2, [], uu) := by decide +kernel
theorem e_191_69 : den cf 191 69 [v0, v1, v2, v3, .int x, v5] st M = den cf 191 71 [v0, v1, v2, v3, .int x, v5] (.int x :: st) M := den_go l_191_69 rfl
theorem l_191_71 : look (tab 191) 71 = some (.invokevirtual 281, 3, [6, 191, 5, 794, 795, 796, 5], uu) := by decide +kernel
theorem e_191_71 : den cf 191 71 L (w4 :: w3 :: w2 :: w1 :: .ref a :: st) M = if rcv M 6 [.ref a, w1, w2, w3, w4] = true ∧ st.length ≤ 4 then rK (cf 191 [.ref a, w1, w2, w3, w4] M) (fun v M' => den cf 191 74 L (pR v st) M') else none := den_iv [w1, w2, w3, w4] l_191_71 rfl
theorem l_191_74 : look (tab 191) 74 = some (.iconst 0, 1, [], .int (zI 0)) := by decide +kernel
theorem e_191_74 : den cf 191 74 L st M = den cf 191 75 L (.int (zI 0) :: st) M := den_go l_191_74 rfl
theorem l_191_75 : look (tab 191) 75 = some (.istore 5, 2, [], uu) := by decide +kernel
theorem e_191_75 : den cf 191 75 [v0, v1, v2, v3, v4, v5] (.int x :: st) M = den cf 191 77 [v0, v1, v2, v3, kq v4, .int x] st M := den_st (k := 5) (v := .int x) l_191_75 rfl
theorem l_191_77 : look (tab 191) 77 = some (.iload 5, 2, [], uu) := by decide +kernel
theorem e_191_77 : den cf 191 77 [v0, v1, v2, v3, v4, .int x] st M = den cf 191 79 [v0, v1, v2, v3, v4, .int x] (.int x :: st) M := den_go l_191_77 rfl
theorem l_191_79 : look (tab 191) 79 = some (.aload_n 0, 1, [], uu) := by decide +kernel
theorem e_191_79 : den cf 191 79 [.ref a, v1, v2, v3, v4, v5] st M = den cf 191 80 [.ref a, v1, v2, v3, v4, v5] (.ref a :: st) M := den_go l_191_79 rfl
theorem l_191_80 : look (tab 191) 80 = some (.getfield 80, 3, [6, 9, 230], uu) := by decide +kernel
theorem e_191_80 : den cf 191 80 L (.ref a :: st) M = oK (gfA (M.2.2 a) 6 9) (fun v => den cf 191 83 L (v :: st) M) := den_gf l_191_80
theorem l_191_83 : look (tab 191) 83 = some (.if_icmp .ge 67, 3, [150], uu) := by decide +kernel
theorem e_191_83 : den cf 191 83 L (.int y :: .int x :: st) M = if x < y then den cf 191 86 L st M else den cf 191 150 L st M := den_ic_ge l_191_83
theorem l_191_86 : look (tab 191) 86 = some (.iload_n 2, 1, [], uu) := by decide +kernel
theorem e_191_86 : den cf 191 86 [v0, v1, .int x, v3, v4, v5] st M = den cf 191 87 [v0, v1, .int x, v3, v4, v5] (.int x :: st) M := den_go l_191_86 rfl
theorem l_191_87 : look (tab 191) 87 = some (.iload 5, 2, [], uu) := by decide +kernel
theorem e_191_87 : den cf 191 87 [v0, v1, v2, v3, v4, .int x] st M = den cf 191 89 [v0, v1, v2, v3, v4, .int x] (.int x :: st) M := den_go l_191_87 rfl
theorem l_191_89 : look (tab 191) 89 = some (.ishr, 1, [], uu) := by decide +kernel
theorem e_191_89 : den cf 191 89 L (.int y :: .int x :: st) M = den cf 191 90 L (.int (x >>> (y &&& 31)) :: st) M := den_go l_191_89 rfl
theorem l_191_90 : look (tab 191) 90 = some (.iconst 1, 1, [], .int (zI 1)) := by decide +kernel
theorem e_191_90 : den cf 191 90 L st M = den cf 191 91 L (.int (zI 1) :: st) M := den_go l_191_90 rfl
theorem l_191_91 : look (tab 191) 91 = some (.iand, 1, [], uu) := by decide +kernel
theorem e_191_91 : den cf 191 91 L (.int y :: .int x :: st) M = den cf 191 92 L (.int (x &&& y) :: st) M := den_go l_191_91 rfl
theorem l_191_92 : look (tab 191) 92 = some (.ifCond .ne 52, 3, [144], uu) := by decide +kernel
theorem e_191_92 : den cf 191 92 L (.int x :: st) M = if x = zI 0 then den cf 191 95 L st M else den cf 191 144 L st M := den_if_ne l_191_92
theorem l_191_95 : look (tab 191) 95 = some (.aload_n 0, 1, [], uu) := by decide +kernel
theorem e_191_95 : den cf 191 95 [.ref a, v1, v2, v3, v4, v5] st M = den cf 191 96 [.ref a, v1, v2, v3, v4, v5] (.ref a :: st) M := den_go l_191_95 rfl
theorem l_191_96 : look (tab 191) 96 = some (.iload 5, 2, [], uu) := by decide +kernel
theorem e_191_96 : den cf 191 96 [v0, v1, v2, v3, v4, .int x] st M = den cf 191 98 [v0, v1, v2, v3, v4, .int x] (.int x :: st) M := den_go l_191_96 rfl
theorem l_191_98 : look (tab 191) 98 = some (.iconst 1, 1, [], .int (zI 1)) := by decide +kernel
theorem e_191_98 : den cf 191 98 L st M = den cf 191 99 L (.int (zI 1) :: st) M := den_go l_191_98 rfl
theorem l_191_99 : look (tab 191) 99 = some (.invokevirtual 133, 3, [6, 156, 3, 358, 359, 360, 5], uu) := by decide +kernel
theorem e_191_99 : den cf 191 99 L (w2 :: w1 :: .ref a :: st) M = if rcv M 6 [.ref a, w1, w2] = true ∧ st.length ≤ 4 then rK (cf 156 [.ref a, w1, w2] M) (fun v M' => den cf 191 102 L (pR v st) M') else none := den_iv [w1, w2] l_191_99 rfl
theorem l_191_102 : look (tab 191) 102 = some (.ifCond .eq 42, 3, [144], uu) := by decide +kernel
theorem e_191_102 : den cf 191 102 L (.int x :: st) M = if x = zI 0 then den cf 191 144 L st M else den cf 191 105 L st M := den_if_eq l_191_102
theorem l_191_105 : look (tab 191) 105 = some (.aload_n 0, 1, [], uu) := by decide +kernel
theorem e_191_105 : den cf 191 105 [.ref a, v1, v2, v3, v4, v5] st M = den cf 191 106 [.ref a, v1, v2, v3, v4, v5] (.ref a :: st) M := den_go l_191_105 rfl
theorem l_191_106 : look (tab 191) 106 = some (.getfield 74, 3, [6, 32, 100], uu) := by decide +kernel
theorem e_191_106 : den cf 191 106 L (.ref a :: st) M = oK (gfA (M.2.2 a) 6 32) (fun v => den cf 191 109 L (v :: st) M) := den_gf l_191_106
theorem l_191_109 : look (tab 191) 109 = some (.iload_n 1, 1, [], uu) := by decide +kernel
theorem e_191_109 : den cf 191 109 [v0, .int x, v2, v3, v4, v5] st M = den cf 191 110 [v0, .int x, v2, v3, v4, v5] (.int x :: st) M := den_go l_191_109 rfl
theorem l_191_110 : look (tab 191) 110 = some (.iload 5, 2, [], uu) := by decide +kernel
theorem e_191_110 : den cf 191 110 [v0, v1, v2, v3, v4, .int x] st M = den cf 191 112 [v0, v1, v2, v3, v4, .int x] (.int x :: st) M := den_go l_191_110 rfl
theorem l_191_112 : look (tab 191) 112 = some (.iastore, 1, [], uu) := by decide +kernel
theorem e_191_112 : den cf 191 112 L (.int x :: .int y :: .ref a :: st) M = oK (stI (M.2.2 a) y x) (fun c => den cf 191 113 L st (mU M a c)) := den_is l_191_112
theorem l_191_113 : look (tab 191) 113 = some (.aload_n 0, 1, [], uu) := by decide +kernel
theorem e_191_113 : den cf 191 113 [.ref a, v1, v2, v3, v4, v5] st M = den cf 191 114 [.ref a, v1, v2, v3, v4, v5] (.ref a :: st) M := den_go l_191_113 rfl
theorem l_191_114 : look (tab 191) 114 = some (.iload_n 1, 1, [], uu) := by decide +kernel
theorem e_191_114 : den cf 191 114 [v0, .int x, v2, v3, v4, v5] st M = den cf 191 115 [v0, .int x, v2, v3, v4, v5] (.int x :: st) M := den_go l_191_114 rfl
theorem l_191_115 : look (tab 191) 115 = some (.iconst 1, 1, [], .int (zI 1)) := by decide +kernel
theorem e_191_115 : den cf 191 115 L st M = den cf 191 116 L (.int (zI 1) :: st) M := den_go l_191_115 rfl
theorem l_191_116 : look (tab 191) 116 = some (.iadd, 1, [], uu) := by decide +kernel
theorem e_191_116 : den cf 191 116 L (.int y :: .int x :: st) M = den cf 191 117 L (.int (x + y) :: st) M := den_go l_191_116 rfl
theorem l_191_117 : look (tab 191) 117 = some (.iload_n 2, 1, [], uu) := by decide +kernel
theorem e_191_117 : den cf 191 117 [v0, v1, .int x, v3, v4, v5] st M = den cf 191 118 [v0, v1, .int x, v3, v4, v5] (.int x :: st) M := den_go l_191_117 rfl
theorem l_191_118 : look (tab 191) 118 = some (.iconst 1, 1, [], .int (zI 1)) := by decide +kernel
theorem e_191_118 : den cf 191 118 L st M = den cf 191 119 L (.int (zI 1) :: st) M := den_go l_191_118 rfl
theorem l_191_119 : look (tab 191) 119 = some (.iload 5, 2, [], uu) := by decide +kernel
theorem e_191_119 : den cf 191 119 [v0, v1, v2, v3, v4, .int x] st M = den cf 191 121 [v0, v1, v2, v3, v4, .int x] (.int x :: st) M := den_go l_191_119 rfl
theorem l_191_121 : look (tab 191) 121 = some (.ishl, 1, [], uu) := by decide +kernel
theorem e_191_121 : den cf 191 121 L (.int y :: .int x :: st) M = den cf 191 122 L (.int (x <<< (y &&& 31)) :: st) M := den_go l_191_121 rfl
theorem l_191_122 : look (tab 191) 122 = some (.ior, 1, [], uu) := by decide +kernel
theorem e_191_122 : den cf 191 122 L (.int y :: .int x :: st) M = den cf 191 123 L (.int (x ||| y) :: st) M := den_go l_191_122 rfl
theorem l_191_123 : look (tab 191) 123 = some (.iload_n 3, 1, [], uu) := by decide +kernel
theorem e_191_123 : den cf 191 123 [v0, v1, v2, .int x, v4, v5] st M = den cf 191 124 [v0, v1, v2, .int x, v4, v5] (.int x :: st) M := den_go l_191_123 rfl
theorem l_191_124 : look (tab 191) 124 = some (.aload_n 0, 1, [], uu) := by decide +kernel
theorem e_191_124 : den cf 191 124 [.ref a, v1, v2, v3, v4, v5] st M = den cf 191 125 [.ref a, v1, v2, v3, v4, v5] (.ref a :: st) M := den_go l_191_124 rfl
theorem l_191_125 : look (tab 191) 125 = some (.aload_n 0, 1, [], uu) := by decide +kernel
theorem e_191_125 : den cf 191 125 [.ref a, v1, v2, v3, v4, v5] st M = den cf 191 126 [.ref a, v1, v2, v3, v4, v5] (.ref a :: st) M := den_go l_191_125 rfl
theorem l_191_126 : look (tab 191) 126 = some (.getfield 71, 3, [6, 30, 99], uu) := by decide +kernel
theorem e_191_126 : den cf 191 126 L (.ref a :: st) M = oK (gfA (M.2.2 a) 6 30) (fun v => den cf 191 129 L (v :: st) M) := den_gf l_191_126
theorem l_191_129 : look (tab 191) 129 = some (.iload_n 1, 1, [], uu) := by decide +kernel
theorem e_191_129 : den cf 191 129 [v0, .int x, v2, v3, v4, v5] st M = den cf 191 130 [v0, .int x, v2, v3, v4, v5] (.int x :: st) M := den_go l_191_129 rfl
theorem l_191_130 : look (tab 191) 130 = some (.iaload, 1, [], uu) := by decide +kernel
theorem e_191_130 : den cf 191 130 L (.int x :: .ref a :: st) M = oK (ldI (M.2.2 a) x) (fun v => den cf 191 131 L (v :: st) M) := den_al (g := ldI) l_191_130 rfl
theorem l_191_131 : look (tab 191) 131 = some (.iload 5, 2, [], uu) := by decide +kernel
theorem e_191_131 : den cf 191 131 [v0, v1, v2, v3, v4, .int x] st M = den cf 191 133 [v0, v1, v2, v3, v4, .int x] (.int x :: st) M := den_go l_191_131 rfl
theorem l_191_133 : look (tab 191) 133 = some (.invokevirtual 140, 3, [6, 153, 3, 288, 289, 290, 5], uu) := by decide +kernel
theorem e_191_133 : den cf 191 133 L (w2 :: w1 :: .ref a :: st) M = if rcv M 6 [.ref a, w1, w2] = true ∧ st.length ≤ 4 then rK (cf 153 [.ref a, w1, w2] M) (fun v M' => den cf 191 136 L (pR v st) M') else none := den_iv [w1, w2] l_191_133 rfl
theorem l_191_136 : look (tab 191) 136 = some (.iadd, 1, [], uu) := by decide +kernel
theorem e_191_136 : den cf 191 136 L (.int y :: .int x :: st) M = den cf 191 137 L (.int (x + y) :: st) M := den_go l_191_136 rfl
theorem l_191_137 : look (tab 191) 137 = some (.iload 4, 2, [], uu) := by decide +kernel
theorem e_191_137 : den cf 191 137 [v0, v1, v2, v3, .int x, v5] st M = den cf 191 139 [v0, v1, v2, v3, .int x, v5] (.int x :: st) M := den_go l_191_137 rfl
theorem l_191_139 : look (tab 191) 139 = some (.iconst 1, 1, [], .int (zI 1)) := by decide +kernel
theorem e_191_139 : den cf 191 139 L st M = den cf 191 140 L (.int (zI 1) :: st) M := den_go l_191_139 rfl
theorem l_191_140 : look (tab 191) 140 = some (.iadd, 1, [], uu) := by decide +kernel
theorem e_191_140 : den cf 191 140 L (.int y :: .int x :: st) M = den cf 191 141 L (.int (x + y) :: st) M := den_go l_191_140 rfl
theorem l_191_141 : look (tab 191) 141 = some (.invokevirtual 281, 3, [6, 191, 5, 794, 795, 796, 5], uu) := by decide +kernel
theorem e_191_141 : den cf 191 141 L (w4 :: w3 :: w2 :: w1 :: .ref a :: st) M = if rcv M 6 [.ref a, w1, w2, w3, w4] = true ∧ st.length ≤ 4 then rK (cf 191 [.ref a, w1, w2, w3, w4] M) (fun v M' => den cf 191 144 L (pR v st) M') else none := den_iv [w1, w2, w3, w4] l_191_141 rfl
theorem l_191_144 : look (tab 191) 144 = some (.iinc 5 1, 3, [], .int (zI 1)) := by decide +kernel
theorem e_191_144 : den cf 191 144 [v0, v1, v2, v3, v4, .int x] st M = den cf 191 147 [v0, v1, v2, v3, kq v4, .int (x + (zI 1))] st M := den_st (k := 5) (v := .int (x + (zI 1))) l_191_144 rfl
theorem l_191_147 : look (tab 191) 147 = some (.goto (-70), 3, [77], uu) := by decide +kernel
theorem e_191_147 : den cf 191 147 L st M = den cf 191 77 L st M := den_go l_191_147 rfl
theorem l_191_150 : look (tab 191) 150 = some (.return_, 1, [], uu) := by decide +kernel
theorem e_191_150 : den cf 191 150 L [] M = some (none, M) := den_e4 l_191_150
/-! yX6_findPaired -/
theorem l_192_0 : look (tab 192) 0 = some (.aload_n 0, 1, [], uu) := by decide +kernel
theorem e_192_0 : den cf 192 0 [.ref a, v1] st M = den cf 192 1 [.ref a, v1] (.ref a :: st) M := den_go l_192_0 rfl
theorem l_192_1 : look (tab 192) 1 = some (.iconst 0, 1, [], .int (zI 0)) := by decide +kernel
theorem e_192_1 : den cf 192 1 L st M = den cf 192 2 L (.int (zI 0) :: st) M := den_go l_192_1 rfl
theorem l_192_2 : look (tab 192) 2 = some (.putfield 268, 3, [6, 31, 0, 787, 0], uu) := by decide +kernel
theorem e_192_2 : den cf 192 2 L (.int x :: .ref a :: st) M = oK (pfA (M.2.2 a) 6 31 (.int x)) (fun c => den cf 192 5 L st (mU M a c)) := den_pf0 l_192_2
theorem l_192_5 : look (tab 192) 5 = some (.iconst 0, 1, [], .int (zI 0)) := by decide +kernel
theorem e_192_5 : den cf 192 5 L st M = den cf 192 6 L (.int (zI 0) :: st) M := den_go l_192_5 rfl
theorem l_192_6 : look (tab 192) 6 = some (.istore_n 1, 1, [], uu) := by decide +kernel
theorem e_192_6 : den cf 192 6 [v0, v1] (.int x :: st) M = den cf 192 7 [kq v0, .int x] st M := den_st (k := 1) (v := .int x) l_192_6 rfl
theorem l_192_7 : look (tab 192) 7 = some (.iload_n 1, 1, [], uu) := by decide +kernel
theorem e_192_7 : den cf 192 7 [v0, .int x] st M = den cf 192 8 [v0, .int x] (.int x :: st) M := den_go l_192_7 rfl
theorem l_192_8 : look (tab 192) 8 = some (.aload_n 0, 1, [], uu) := by decide +kernel
theorem e_192_8 : den cf 192 8 [.ref a, v1] st M = den cf 192 9 [.ref a, v1] (.ref a :: st) M := den_go l_192_8 rfl
theorem l_192_9 : look (tab 192) 9 = some (.getfield 80, 3, [6, 9, 230], uu) := by decide +kernel
theorem e_192_9 : den cf 192 9 L (.ref a :: st) M = oK (gfA (M.2.2 a) 6 9) (fun v => den cf 192 12 L (v :: st) M) := den_gf l_192_9
theorem l_192_12 : look (tab 192) 12 = some (.if_icmp .ge 44, 3, [56], uu) := by decide +kernel
theorem e_192_12 : den cf 192 12 L (.int y :: .int x :: st) M = if x < y then den cf 192 15 L st M else den cf 192 56 L st M := den_ic_ge l_192_12
theorem l_192_15 : look (tab 192) 15 = some (.aload_n 0, 1, [], uu) := by decide +kernel
theorem e_192_15 : den cf 192 15 [.ref a, v1] st M = den cf 192 16 [.ref a, v1] (.ref a :: st) M := den_go l_192_15 rfl
theorem l_192_16 : look (tab 192) 16 = some (.getfield 268, 3, [6, 31, 787], uu) := by decide +kernel
theorem e_192_16 : den cf 192 16 L (.ref a :: st) M = oK (gfA (M.2.2 a) 6 31) (fun v => den cf 192 19 L (v :: st) M) := den_gf l_192_16
theorem l_192_19 : look (tab 192) 19 = some (.bipush 6, 2, [], .int (zI 6)) := by decide +kernel
theorem e_192_19 : den cf 192 19 L st M = den cf 192 21 L (.int (zI 6) :: st) M := den_go l_192_19 rfl
theorem l_192_21 : look (tab 192) 21 = some (.if_icmp .ge 35, 3, [56], uu) := by decide +kernel
theorem e_192_21 : den cf 192 21 L (.int y :: .int x :: st) M = if x < y then den cf 192 24 L st M else den cf 192 56 L st M := den_ic_ge l_192_21
theorem l_192_24 : look (tab 192) 24 = some (.aload_n 0, 1, [], uu) := by decide +kernel
theorem e_192_24 : den cf 192 24 [.ref a, v1] st M = den cf 192 25 [.ref a, v1] (.ref a :: st) M := den_go l_192_24 rfl
theorem l_192_25 : look (tab 192) 25 = some (.iload_n 1, 1, [], uu) := by decide +kernel
theorem e_192_25 : den cf 192 25 [v0, .int x] st M = den cf 192 26 [v0, .int x] (.int x :: st) M := den_go l_192_25 rfl
theorem l_192_26 : look (tab 192) 26 = some (.iconst 0, 1, [], .int (zI 0)) := by decide +kernel
theorem e_192_26 : den cf 192 26 L st M = den cf 192 27 L (.int (zI 0) :: st) M := den_go l_192_26 rfl
theorem l_192_27 : look (tab 192) 27 = some (.invokevirtual 133, 3, [6, 156, 3, 358, 359, 360, 5], uu) := by decide +kernel
theorem e_192_27 : den cf 192 27 L (w2 :: w1 :: .ref a :: st) M = if rcv M 6 [.ref a, w1, w2] = true ∧ st.length ≤ 4 then rK (cf 156 [.ref a, w1, w2] M) (fun v M' => den cf 192 30 L (pR v st) M') else none := den_iv [w1, w2] l_192_27 rfl
theorem l_192_30 : look (tab 192) 30 = some (.ifCond .eq 20, 3, [50], uu) := by decide +kernel
theorem e_192_30 : den cf 192 30 L (.int x :: st) M = if x = zI 0 then den cf 192 50 L st M else den cf 192 33 L st M := den_if_eq l_192_30
theorem l_192_33 : look (tab 192) 33 = some (.aload_n 0, 1, [], uu) := by decide +kernel
theorem e_192_33 : den cf 192 33 [.ref a, v1] st M = den cf 192 34 [.ref a, v1] (.ref a :: st) M := den_go l_192_33 rfl
theorem l_192_34 : look (tab 192) 34 = some (.getfield 71, 3, [6, 30, 99], uu) := by decide +kernel
theorem e_192_34 : den cf 192 34 L (.ref a :: st) M = oK (gfA (M.2.2 a) 6 30) (fun v => den cf 192 37 L (v :: st) M) := den_gf l_192_34
theorem l_192_37 : look (tab 192) 37 = some (.aload_n 0, 1, [], uu) := by decide +kernel
theorem e_192_37 : den cf 192 37 [.ref a, v1] st M = den cf 192 38 [.ref a, v1] (.ref a :: st) M := den_go l_192_37 rfl
theorem l_192_38 : look (tab 192) 38 = some (.dup, 1, [], uu) := by decide +kernel
theorem e_192_38 : den cf 192 38 L (.ref a :: st) M = den cf 192 39 L (.ref a :: .ref a :: st) M := den_go l_192_38 rfl
theorem e_192_38_i : den cf 192 38 L (.int x :: st) M = den cf 192 39 L (.int x :: .int x :: st) M := den_go l_192_38 rfl
theorem l_192_39 : look (tab 192) 39 = some (.getfield 268, 3, [6, 31, 787], uu) := by decide +kernel
theorem e_192_39 : den cf 192 39 L (.ref a :: st) M = oK (gfA (M.2.2 a) 6 31) (fun v => den cf 192 42 L (v :: st) M) := den_gf l_192_39
theorem l_192_42 : look (tab 192) 42 = some (.dup_x1, 1, [], uu) := by decide +kernel
theorem e_192_42 : den cf 192 42 L (.int x :: .ref a :: st) M = den cf 192 43 L (.int x :: .ref a :: .int x :: st) M := den_go l_192_42 rfl
theorem l_192_43 : look (tab 192) 43 = some (.iconst 1, 1, [], .int (zI 1)) := by decide +kernel
theorem e_192_43 : den cf 192 43 L st M = den cf 192 44 L (.int (zI 1) :: st) M := den_go l_192_43 rfl
theorem l_192_44 : look (tab 192) 44 = some (.iadd, 1, [], uu) := by decide +kernel
theorem e_192_44 : den cf 192 44 L (.int y :: .int x :: st) M = den cf 192 45 L (.int (x + y) :: st) M := den_go l_192_44 rfl
theorem l_192_45 : look (tab 192) 45 = some (.putfield 268, 3, [6, 31, 0, 787, 0], uu) := by decide +kernel
theorem e_192_45 : den cf 192 45 L (.int x :: .ref a :: st) M = oK (pfA (M.2.2 a) 6 31 (.int x)) (fun c => den cf 192 48 L st (mU M a c)) := den_pf0 l_192_45
theorem l_192_48 : look (tab 192) 48 = some (.iload_n 1, 1, [], uu) := by decide +kernel
theorem e_192_48 : den cf 192 48 [v0, .int x] st M = den cf 192 49 [v0, .int x] (.int x :: st) M := den_go l_192_48 rfl
theorem l_192_49 : look (tab 192) 49 = some (.iastore, 1, [], uu) := by decide +kernel
theorem e_192_49 : den cf 192 49 L (.int x :: .int y :: .ref a :: st) M = oK (stI (M.2.2 a) y x) (fun c => den cf 192 50 L st (mU M a c)) := den_is l_192_49
theorem l_192_50 : look (tab 192) 50 = some (.iinc 1 1, 3, [], .int (zI 1)) := by decide +kernel
theorem e_192_50 : den cf 192 50 [v0, .int x] st M = den cf 192 53 [kq v0, .int (x + (zI 1))] st M := den_st (k := 1) (v := .int (x + (zI 1))) l_192_50 rfl
theorem l_192_53 : look (tab 192) 53 = some (.goto (-46), 3, [7], uu) := by decide +kernel
theorem e_192_53 : den cf 192 53 L st M = den cf 192 7 L st M := den_go l_192_53 rfl
theorem l_192_56 : look (tab 192) 56 = some (.aload_n 0, 1, [], uu) := by decide +kernel
theorem e_192_56 : den cf 192 56 [.ref a, v1] st M = den cf 192 57 [.ref a, v1] (.ref a :: st) M := den_go l_192_56 rfl
theorem l_192_57 : look (tab 192) 57 = some (.iconst (-1), 1, [], .int (zI (-1))) := by decide +kernel
theorem e_192_57 : den cf 192 57 L st M = den cf 192 58 L (.int (zI (-1)) :: st) M := den_go l_192_57 rfl
theorem l_192_58 : look (tab 192) 58 = some (.putfield 271, 3, [6, 34, 0, 788, 0], uu) := by decide +kernel
theorem e_192_58 : den cf 192 58 L (.int x :: .ref a :: st) M = oK (pfA (M.2.2 a) 6 34 (.int x)) (fun c => den cf 192 61 L st (mU M a c)) := den_pf0 l_192_58
theorem l_192_61 : look (tab 192) 61 = some (.aload_n 0, 1, [], uu) := by decide +kernel
theorem e_192_61 : den cf 192 61 [.ref a, v1] st M = den cf 192 62 [.ref a, v1] (.ref a :: st) M := den_go l_192_61 rfl
theorem l_192_62 : look (tab 192) 62 = some (.iconst (-1), 1, [], .int (zI (-1))) := by decide +kernel
theorem e_192_62 : den cf 192 62 L st M = den cf 192 63 L (.int (zI (-1)) :: st) M := den_go l_192_62 rfl
theorem l_192_63 : look (tab 192) 63 = some (.putfield 274, 3, [6, 35, 0, 793, 0], uu) := by decide +kernel
theorem e_192_63 : den cf 192 63 L (.int x :: .ref a :: st) M = oK (pfA (M.2.2 a) 6 35 (.int x)) (fun c => den cf 192 66 L st (mU M a c)) := den_pf0 l_192_63
theorem l_192_66 : look (tab 192) 66 = some (.aload_n 0, 1, [], uu) := by decide +kernel
theorem e_192_66 : den cf 192 66 [.ref a, v1] st M = den cf 192 67 [.ref a, v1] (.ref a :: st) M := den_go l_192_66 rfl
theorem l_192_67 : look (tab 192) 67 = some (.iconst 0, 1, [], .int (zI 0)) := by decide +kernel
theorem e_192_67 : den cf 192 67 L st M = den cf 192 68 L (.int (zI 0) :: st) M := den_go l_192_67 rfl
theorem l_192_68 : look (tab 192) 68 = some (.iconst 0, 1, [], .int (zI 0)) := by decide +kernel
theorem e_192_68 : den cf 192 68 L st M = den cf 192 69 L (.int (zI 0) :: st) M := den_go l_192_68 rfl
theorem l_192_69 : look (tab 192) 69 = some (.iconst 0, 1, [], .int (zI 0)) := by decide +kernel
theorem e_192_69 : den cf 192 69 L st M = den cf 192 70 L (.int (zI 0) :: st) M := den_go l_192_69 rfl
theorem l_192_70 : look (tab 192) 70 = some (.iconst 0, 1, [], .int (zI 0)) := by decide +kernel
theorem e_192_70 : den cf 192 70 L st M = den cf 192 71 L (.int (zI 0) :: st) M := den_go l_192_70 rfl
theorem l_192_71 : look (tab 192) 71 = some (.invokevirtual 281, 3, [6, 191, 5, 794, 795, 796, 5], uu) := by decide +kernel
theorem e_192_71 : den cf 192 71 L (w4 :: w3 :: w2 :: w1 :: .ref a :: st) M = if rcv M 6 [.ref a, w1, w2, w3, w4] = true ∧ st.length ≤ 4 then rK (cf 191 [.ref a, w1, w2, w3, w4] M) (fun v M' => den cf 192 74 L (pR v st) M') else none := den_iv [w1, w2, w3, w4] l_192_71 rfl
theorem l_192_74 : look (tab 192) 74 = some (.return_, 1, [], uu) := by decide +kernel
theorem e_192_74 : den cf 192 74 L [] M = some (none, M) := den_e4 l_192_74
