variable {cf : Nat → List Value → AM → Option AR} {L st : List Value} {M : AM} {x y : Int32} {p q : Int64} {a b : Nat} {v w : Value} {o : Option Nat} {v0 v1 v2 v3 v4 v5 v6 v7 v8 v9 v10 v11 v12 v13 v14 v15 v16 v17 v18 v19 v20 w1 w2 w3 w4 w5 w6 : Value}
/-! yX4_nextToken -/
theorem l_72_0 : look (tab 72) 0 = some (.aload_n 0, 1, [], uu) := by decide +kernel
theorem e_72_0 : den cf 72 0 [.ref a] st M = den cf 72 1 [.ref a] (.ref a :: st) M := den_go l_72_0 rfl
theorem l_72_1 : look (tab 72) 1 = some (.aload_n 0, 1, [], uu) := by decide +kernel
theorem e_72_1 : den cf 72 1 [.ref a] st M = den cf 72 2 [.ref a] (.ref a :: st) M := den_go l_72_1 rfl
theorem l_72_2 : look (tab 72) 2 = some (.getfield 23, 3, [4, 6, 444], uu) := by decide +kernel
theorem e_72_2 : den cf 72 2 L (.ref a :: st) M = oK (gfA (M.2.2 a) 4 6) (fun v => den cf 72 5 L (v :: st) M) := den_gf l_72_2
theorem l_72_5 : look (tab 72) 5 = some (.invokevirtual 121, 3, [4, 61, 2, 458, 459, 460, 30], uu) := by decide +kernel
theorem e_72_5 : den cf 72 5 L (w1 :: .ref a :: st) M = if rcv M 4 [.ref a, w1] = true ∧ st.length ≤ 4 then rK (cf 61 [.ref a, w1] M) (fun v M' => den cf 72 8 L (pR v st) M') else none := den_iv [w1] l_72_5 rfl
theorem l_72_8 : look (tab 72) 8 = some (.bipush 32, 2, [], .int (zI 32)) := by decide +kernel
theorem e_72_8 : den cf 72 8 L st M = den cf 72 10 L (.int (zI 32) :: st) M := den_go l_72_8 rfl
theorem l_72_10 : look (tab 72) 10 = some (.if_icmp .ne 27, 3, [37], uu) := by decide +kernel
theorem e_72_10 : den cf 72 10 L (.int y :: .int x :: st) M = if x = y then den cf 72 13 L st M else den cf 72 37 L st M := den_ic_ne l_72_10
theorem l_72_13 : look (tab 72) 13 = some (.aload_n 0, 1, [], uu) := by decide +kernel
theorem e_72_13 : den cf 72 13 [.ref a] st M = den cf 72 14 [.ref a] (.ref a :: st) M := den_go l_72_13 rfl
theorem l_72_14 : look (tab 72) 14 = some (.getfield 23, 3, [4, 6, 444], uu) := by decide +kernel
theorem e_72_14 : den cf 72 14 L (.ref a :: st) M = oK (gfA (M.2.2 a) 4 6) (fun v => den cf 72 17 L (v :: st) M) := den_gf l_72_14
theorem l_72_17 : look (tab 72) 17 = some (.aload_n 0, 1, [], uu) := by decide +kernel
theorem e_72_17 : den cf 72 17 [.ref a] st M = den cf 72 18 [.ref a] (.ref a :: st) M := den_go l_72_17 rfl
theorem l_72_18 : look (tab 72) 18 = some (.getfield 15, 3, [4, 1, 74], uu) := by decide +kernel
theorem e_72_18 : den cf 72 18 L (.ref a :: st) M = oK (gfA (M.2.2 a) 4 1) (fun v => den cf 72 21 L (v :: st) M) := den_gf l_72_18
theorem l_72_21 : look (tab 72) 21 = some (.if_icmp .ge 16, 3, [37], uu) := by decide +kernel
theorem e_72_21 : den cf 72 21 L (.int y :: .int x :: st) M = if x < y then den cf 72 24 L st M else den cf 72 37 L st M := den_ic_ge l_72_21
theorem l_72_24 : look (tab 72) 24 = some (.aload_n 0, 1, [], uu) := by decide +kernel
theorem e_72_24 : den cf 72 24 [.ref a] st M = den cf 72 25 [.ref a] (.ref a :: st) M := den_go l_72_24 rfl
theorem l_72_25 : look (tab 72) 25 = some (.dup, 1, [], uu) := by decide +kernel
theorem e_72_25 : den cf 72 25 L (.ref a :: st) M = den cf 72 26 L (.ref a :: .ref a :: st) M := den_go l_72_25 rfl
theorem e_72_25_i : den cf 72 25 L (.int x :: st) M = den cf 72 26 L (.int x :: .int x :: st) M := den_go l_72_25 rfl
theorem l_72_26 : look (tab 72) 26 = some (.getfield 23, 3, [4, 6, 444], uu) := by decide +kernel
theorem e_72_26 : den cf 72 26 L (.ref a :: st) M = oK (gfA (M.2.2 a) 4 6) (fun v => den cf 72 29 L (v :: st) M) := den_gf l_72_26
theorem l_72_29 : look (tab 72) 29 = some (.iconst 1, 1, [], .int (zI 1)) := by decide +kernel
theorem e_72_29 : den cf 72 29 L st M = den cf 72 30 L (.int (zI 1) :: st) M := den_go l_72_29 rfl
theorem l_72_30 : look (tab 72) 30 = some (.iadd, 1, [], uu) := by decide +kernel
theorem e_72_30 : den cf 72 30 L (.int y :: .int x :: st) M = den cf 72 31 L (.int (x + y) :: st) M := den_go l_72_30 rfl
theorem l_72_31 : look (tab 72) 31 = some (.putfield 23, 3, [4, 6, 0, 444, 0], uu) := by decide +kernel
theorem e_72_31 : den cf 72 31 L (.int x :: .ref a :: st) M = oK (pfA (M.2.2 a) 4 6 (.int x)) (fun c => den cf 72 34 L st (mU M a c)) := den_pf0 l_72_31
theorem l_72_34 : look (tab 72) 34 = some (.goto (-34), 3, [0], uu) := by decide +kernel
theorem e_72_34 : den cf 72 34 L st M = den cf 72 0 L st M := den_go l_72_34 rfl
theorem l_72_37 : look (tab 72) 37 = some (.aload_n 0, 1, [], uu) := by decide +kernel
theorem e_72_37 : den cf 72 37 [.ref a] st M = den cf 72 38 [.ref a] (.ref a :: st) M := den_go l_72_37 rfl
theorem l_72_38 : look (tab 72) 38 = some (.aload_n 0, 1, [], uu) := by decide +kernel
theorem e_72_38 : den cf 72 38 [.ref a] st M = den cf 72 39 [.ref a] (.ref a :: st) M := den_go l_72_38 rfl
theorem l_72_39 : look (tab 72) 39 = some (.getfield 23, 3, [4, 6, 444], uu) := by decide +kernel
theorem e_72_39 : den cf 72 39 L (.ref a :: st) M = oK (gfA (M.2.2 a) 4 6) (fun v => den cf 72 42 L (v :: st) M) := den_gf l_72_39
theorem l_72_42 : look (tab 72) 42 = some (.putfield 39, 3, [4, 5, 0, 457, 0], uu) := by decide +kernel
theorem e_72_42 : den cf 72 42 L (.int x :: .ref a :: st) M = oK (pfA (M.2.2 a) 4 5 (.int x)) (fun c => den cf 72 45 L st (mU M a c)) := den_pf0 l_72_42
theorem l_72_45 : look (tab 72) 45 = some (.aload_n 0, 1, [], uu) := by decide +kernel
theorem e_72_45 : den cf 72 45 [.ref a] st M = den cf 72 46 [.ref a] (.ref a :: st) M := den_go l_72_45 rfl
theorem l_72_46 : look (tab 72) 46 = some (.aload_n 0, 1, [], uu) := by decide +kernel
theorem e_72_46 : den cf 72 46 [.ref a] st M = den cf 72 47 [.ref a] (.ref a :: st) M := den_go l_72_46 rfl
theorem l_72_47 : look (tab 72) 47 = some (.aload_n 0, 1, [], uu) := by decide +kernel
theorem e_72_47 : den cf 72 47 [.ref a] st M = den cf 72 48 [.ref a] (.ref a :: st) M := den_go l_72_47 rfl
theorem l_72_48 : look (tab 72) 48 = some (.getfield 23, 3, [4, 6, 444], uu) := by decide +kernel
theorem e_72_48 : den cf 72 48 L (.ref a :: st) M = oK (gfA (M.2.2 a) 4 6) (fun v => den cf 72 51 L (v :: st) M) := den_gf l_72_48
theorem l_72_51 : look (tab 72) 51 = some (.invokevirtual 121, 3, [4, 61, 2, 458, 459, 460, 30], uu) := by decide +kernel
theorem e_72_51 : den cf 72 51 L (w1 :: .ref a :: st) M = if rcv M 4 [.ref a, w1] = true ∧ st.length ≤ 4 then rK (cf 61 [.ref a, w1] M) (fun v M' => den cf 72 54 L (pR v st) M') else none := den_iv [w1] l_72_51 rfl
theorem l_72_54 : look (tab 72) 54 = some (.invokestatic 134, 3, [1, 73, 1, 462, 463, 30], uu) := by decide +kernel
theorem e_72_54 : den cf 72 54 L (w1 :: st) M = if st.length ≤ 4 then rK (cf 73 [w1] M) (fun v M' => den cf 72 57 L (pR v st) M') else none := den_ist [w1] l_72_54 rfl
theorem l_72_57 : look (tab 72) 57 = some (.putfield 33, 3, [4, 4, 0, 445, 0], uu) := by decide +kernel
theorem e_72_57 : den cf 72 57 L (.int x :: .ref a :: st) M = oK (pfA (M.2.2 a) 4 4 (.int x)) (fun c => den cf 72 60 L st (mU M a c)) := den_pf0 l_72_57
theorem l_72_60 : look (tab 72) 60 = some (.aload_n 0, 1, [], uu) := by decide +kernel
theorem e_72_60 : den cf 72 60 [.ref a] st M = den cf 72 61 [.ref a] (.ref a :: st) M := den_go l_72_60 rfl
theorem l_72_61 : look (tab 72) 61 = some (.getfield 33, 3, [4, 4, 445], uu) := by decide +kernel
theorem e_72_61 : den cf 72 61 L (.ref a :: st) M = oK (gfA (M.2.2 a) 4 4) (fun v => den cf 72 64 L (v :: st) M) := den_gf l_72_61
theorem l_72_64 : look (tab 72) 64 = some (.iconst 1, 1, [], .int (zI 1)) := by decide +kernel
theorem e_72_64 : den cf 72 64 L st M = den cf 72 65 L (.int (zI 1) :: st) M := den_go l_72_64 rfl
theorem l_72_65 : look (tab 72) 65 = some (.if_icmp .eq 11, 3, [76], uu) := by decide +kernel
theorem e_72_65 : den cf 72 65 L (.int y :: .int x :: st) M = if x = y then den cf 72 76 L st M else den cf 72 68 L st M := den_ic_eq l_72_65
theorem l_72_68 : look (tab 72) 68 = some (.aload_n 0, 1, [], uu) := by decide +kernel
theorem e_72_68 : den cf 72 68 [.ref a] st M = den cf 72 69 [.ref a] (.ref a :: st) M := den_go l_72_68 rfl
theorem l_72_69 : look (tab 72) 69 = some (.getfield 33, 3, [4, 4, 445], uu) := by decide +kernel
theorem e_72_69 : den cf 72 69 L (.ref a :: st) M = oK (gfA (M.2.2 a) 4 4) (fun v => den cf 72 72 L (v :: st) M) := den_gf l_72_69
theorem l_72_72 : look (tab 72) 72 = some (.iconst 2, 1, [], .int (zI 2)) := by decide +kernel
theorem e_72_72 : den cf 72 72 L st M = den cf 72 73 L (.int (zI 2) :: st) M := den_go l_72_72 rfl
theorem l_72_73 : look (tab 72) 73 = some (.if_icmp .ne 45, 3, [118], uu) := by decide +kernel
theorem e_72_73 : den cf 72 73 L (.int y :: .int x :: st) M = if x = y then den cf 72 76 L st M else den cf 72 118 L st M := den_ic_ne l_72_73
theorem l_72_76 : look (tab 72) 76 = some (.aload_n 0, 1, [], uu) := by decide +kernel
theorem e_72_76 : den cf 72 76 [.ref a] st M = den cf 72 77 [.ref a] (.ref a :: st) M := den_go l_72_76 rfl
theorem l_72_77 : look (tab 72) 77 = some (.aload_n 0, 1, [], uu) := by decide +kernel
theorem e_72_77 : den cf 72 77 [.ref a] st M = den cf 72 78 [.ref a] (.ref a :: st) M := den_go l_72_77 rfl
theorem l_72_78 : look (tab 72) 78 = some (.getfield 23, 3, [4, 6, 444], uu) := by decide +kernel
theorem e_72_78 : den cf 72 78 L (.ref a :: st) M = oK (gfA (M.2.2 a) 4 6) (fun v => den cf 72 81 L (v :: st) M) := den_gf l_72_78
theorem l_72_81 : look (tab 72) 81 = some (.invokevirtual 121, 3, [4, 61, 2, 458, 459, 460, 30], uu) := by decide +kernel
theorem e_72_81 : den cf 72 81 L (w1 :: .ref a :: st) M = if rcv M 4 [.ref a, w1] = true ∧ st.length ≤ 4 then rK (cf 61 [.ref a, w1] M) (fun v M' => den cf 72 84 L (pR v st) M') else none := den_iv [w1] l_72_81 rfl
theorem l_72_84 : look (tab 72) 84 = some (.invokestatic 134, 3, [1, 73, 1, 462, 463, 30], uu) := by decide +kernel
theorem e_72_84 : den cf 72 84 L (w1 :: st) M = if st.length ≤ 4 then rK (cf 73 [w1] M) (fun v M' => den cf 72 87 L (pR v st) M') else none := den_ist [w1] l_72_84 rfl
theorem l_72_87 : look (tab 72) 87 = some (.aload_n 0, 1, [], uu) := by decide +kernel
theorem e_72_87 : den cf 72 87 [.ref a] st M = den cf 72 88 [.ref a] (.ref a :: st) M := den_go l_72_87 rfl
theorem l_72_88 : look (tab 72) 88 = some (.getfield 33, 3, [4, 4, 445], uu) := by decide +kernel
theorem e_72_88 : den cf 72 88 L (.ref a :: st) M = oK (gfA (M.2.2 a) 4 4) (fun v => den cf 72 91 L (v :: st) M) := den_gf l_72_88
theorem l_72_91 : look (tab 72) 91 = some (.if_icmp .ne 45, 3, [136], uu) := by decide +kernel
theorem e_72_91 : den cf 72 91 L (.int y :: .int x :: st) M = if x = y then den cf 72 94 L st M else den cf 72 136 L st M := den_ic_ne l_72_91
theorem l_72_94 : look (tab 72) 94 = some (.aload_n 0, 1, [], uu) := by decide +kernel
theorem e_72_94 : den cf 72 94 [.ref a] st M = den cf 72 95 [.ref a] (.ref a :: st) M := den_go l_72_94 rfl
theorem l_72_95 : look (tab 72) 95 = some (.getfield 23, 3, [4, 6, 444], uu) := by decide +kernel
theorem e_72_95 : den cf 72 95 L (.ref a :: st) M = oK (gfA (M.2.2 a) 4 6) (fun v => den cf 72 98 L (v :: st) M) := den_gf l_72_95
theorem l_72_98 : look (tab 72) 98 = some (.aload_n 0, 1, [], uu) := by decide +kernel
theorem e_72_98 : den cf 72 98 [.ref a] st M = den cf 72 99 [.ref a] (.ref a :: st) M := den_go l_72_98 rfl
theorem l_72_99 : look (tab 72) 99 = some (.getfield 15, 3, [4, 1, 74], uu) := by decide +kernel
theorem e_72_99 : den cf 72 99 L (.ref a :: st) M = oK (gfA (M.2.2 a) 4 1) (fun v => den cf 72 102 L (v :: st) M) := den_gf l_72_99
theorem l_72_102 : look (tab 72) 102 = some (.if_icmp .ge 34, 3, [136], uu) := by decide +kernel
theorem e_72_102 : den cf 72 102 L (.int y :: .int x :: st) M = if x < y then den cf 72 105 L st M else den cf 72 136 L st M := den_ic_ge l_72_102
theorem l_72_105 : look (tab 72) 105 = some (.aload_n 0, 1, [], uu) := by decide +kernel
theorem e_72_105 : den cf 72 105 [.ref a] st M = den cf 72 106 [.ref a] (.ref a :: st) M := den_go l_72_105 rfl
theorem l_72_106 : look (tab 72) 106 = some (.dup, 1, [], uu) := by decide +kernel
theorem e_72_106 : den cf 72 106 L (.ref a :: st) M = den cf 72 107 L (.ref a :: .ref a :: st) M := den_go l_72_106 rfl
theorem e_72_106_i : den cf 72 106 L (.int x :: st) M = den cf 72 107 L (.int x :: .int x :: st) M := den_go l_72_106 rfl
theorem l_72_107 : look (tab 72) 107 = some (.getfield 23, 3, [4, 6, 444], uu) := by decide +kernel
theorem e_72_107 : den cf 72 107 L (.ref a :: st) M = oK (gfA (M.2.2 a) 4 6) (fun v => den cf 72 110 L (v :: st) M) := den_gf l_72_107
theorem l_72_110 : look (tab 72) 110 = some (.iconst 1, 1, [], .int (zI 1)) := by decide +kernel
theorem e_72_110 : den cf 72 110 L st M = den cf 72 111 L (.int (zI 1) :: st) M := den_go l_72_110 rfl
theorem l_72_111 : look (tab 72) 111 = some (.iadd, 1, [], uu) := by decide +kernel
theorem e_72_111 : den cf 72 111 L (.int y :: .int x :: st) M = den cf 72 112 L (.int (x + y) :: st) M := den_go l_72_111 rfl
theorem l_72_112 : look (tab 72) 112 = some (.putfield 23, 3, [4, 6, 0, 444, 0], uu) := by decide +kernel
theorem e_72_112 : den cf 72 112 L (.int x :: .ref a :: st) M = oK (pfA (M.2.2 a) 4 6 (.int x)) (fun c => den cf 72 115 L st (mU M a c)) := den_pf0 l_72_112
theorem l_72_115 : look (tab 72) 115 = some (.goto (-39), 3, [76], uu) := by decide +kernel
theorem e_72_115 : den cf 72 115 L st M = den cf 72 76 L st M := den_go l_72_115 rfl
theorem l_72_118 : look (tab 72) 118 = some (.aload_n 0, 1, [], uu) := by decide +kernel
theorem e_72_118 : den cf 72 118 [.ref a] st M = den cf 72 119 [.ref a] (.ref a :: st) M := den_go l_72_118 rfl
theorem l_72_119 : look (tab 72) 119 = some (.getfield 33, 3, [4, 4, 445], uu) := by decide +kernel
theorem e_72_119 : den cf 72 119 L (.ref a :: st) M = oK (gfA (M.2.2 a) 4 4) (fun v => den cf 72 122 L (v :: st) M) := den_gf l_72_119
theorem l_72_122 : look (tab 72) 122 = some (.iconst 3, 1, [], .int (zI 3)) := by decide +kernel
theorem e_72_122 : den cf 72 122 L st M = den cf 72 123 L (.int (zI 3) :: st) M := den_go l_72_122 rfl
theorem l_72_123 : look (tab 72) 123 = some (.if_icmp .ne 13, 3, [136], uu) := by decide +kernel
theorem e_72_123 : den cf 72 123 L (.int y :: .int x :: st) M = if x = y then den cf 72 126 L st M else den cf 72 136 L st M := den_ic_ne l_72_123
theorem l_72_126 : look (tab 72) 126 = some (.aload_n 0, 1, [], uu) := by decide +kernel
theorem e_72_126 : den cf 72 126 [.ref a] st M = den cf 72 127 [.ref a] (.ref a :: st) M := den_go l_72_126 rfl
theorem l_72_127 : look (tab 72) 127 = some (.dup, 1, [], uu) := by decide +kernel
theorem e_72_127 : den cf 72 127 L (.ref a :: st) M = den cf 72 128 L (.ref a :: .ref a :: st) M := den_go l_72_127 rfl
theorem e_72_127_i : den cf 72 127 L (.int x :: st) M = den cf 72 128 L (.int x :: .int x :: st) M := den_go l_72_127 rfl
theorem l_72_128 : look (tab 72) 128 = some (.getfield 23, 3, [4, 6, 444], uu) := by decide +kernel
theorem e_72_128 : den cf 72 128 L (.ref a :: st) M = oK (gfA (M.2.2 a) 4 6) (fun v => den cf 72 131 L (v :: st) M) := den_gf l_72_128
theorem l_72_131 : look (tab 72) 131 = some (.iconst 1, 1, [], .int (zI 1)) := by decide +kernel
theorem e_72_131 : den cf 72 131 L st M = den cf 72 132 L (.int (zI 1) :: st) M := den_go l_72_131 rfl
theorem l_72_132 : look (tab 72) 132 = some (.iadd, 1, [], uu) := by decide +kernel
theorem e_72_132 : den cf 72 132 L (.int y :: .int x :: st) M = den cf 72 133 L (.int (x + y) :: st) M := den_go l_72_132 rfl
theorem l_72_133 : look (tab 72) 133 = some (.putfield 23, 3, [4, 6, 0, 444, 0], uu) := by decide +kernel
theorem e_72_133 : den cf 72 133 L (.int x :: .ref a :: st) M = oK (pfA (M.2.2 a) 4 6 (.int x)) (fun c => den cf 72 136 L st (mU M a c)) := den_pf0 l_72_133
theorem l_72_136 : look (tab 72) 136 = some (.return_, 1, [], uu) := by decide +kernel
theorem e_72_136 : den cf 72 136 L [] M = some (none, M) := den_e4 l_72_136
/-! yX4_sortOf -/
theorem l_73_0 : look (tab 73) 0 = some (.iload_n 0, 1, [], uu) := by decide +kernel
theorem e_73_0 : den cf 73 0 [.int x] st M = den cf 73 1 [.int x] (.int x :: st) M := den_go l_73_0 rfl
theorem l_73_1 : look (tab 73) 1 = some (.iconst (-1), 1, [], .int (zI (-1))) := by decide +kernel
theorem e_73_1 : den cf 73 1 L st M = den cf 73 2 L (.int (zI (-1)) :: st) M := den_go l_73_1 rfl
theorem l_73_2 : look (tab 73) 2 = some (.if_icmp .ne 5, 3, [7], uu) := by decide +kernel
theorem e_73_2 : den cf 73 2 L (.int y :: .int x :: st) M = if x = y then den cf 73 5 L st M else den cf 73 7 L st M := den_ic_ne l_73_2
theorem l_73_5 : look (tab 73) 5 = some (.iconst 0, 1, [], .int (zI 0)) := by decide +kernel
theorem e_73_5 : den cf 73 5 L st M = den cf 73 6 L (.int (zI 0) :: st) M := den_go l_73_5 rfl
theorem l_73_6 : look (tab 73) 6 = some (.ireturn, 1, [0], uu) := by decide +kernel
theorem e_73_6 : den cf 73 6 L [.int x] M = some (some (.int x), M) := den_e0 l_73_6
theorem l_73_7 : look (tab 73) 7 = some (.iload_n 0, 1, [], uu) := by decide +kernel
theorem e_73_7 : den cf 73 7 [.int x] st M = den cf 73 8 [.int x] (.int x :: st) M := den_go l_73_7 rfl
theorem l_73_8 : look (tab 73) 8 = some (.bipush 97, 2, [], .int (zI 97)) := by decide +kernel
theorem e_73_8 : den cf 73 8 L st M = den cf 73 10 L (.int (zI 97) :: st) M := den_go l_73_8 rfl
theorem l_73_10 : look (tab 73) 10 = some (.if_icmp .lt 11, 3, [21], uu) := by decide +kernel
theorem e_73_10 : den cf 73 10 L (.int y :: .int x :: st) M = if x < y then den cf 73 21 L st M else den cf 73 13 L st M := den_ic_lt l_73_10
theorem l_73_13 : look (tab 73) 13 = some (.iload_n 0, 1, [], uu) := by decide +kernel
theorem e_73_13 : den cf 73 13 [.int x] st M = den cf 73 14 [.int x] (.int x :: st) M := den_go l_73_13 rfl
theorem l_73_14 : look (tab 73) 14 = some (.bipush 122, 2, [], .int (zI 122)) := by decide +kernel
theorem e_73_14 : den cf 73 14 L st M = den cf 73 16 L (.int (zI 122) :: st) M := den_go l_73_14 rfl
theorem l_73_16 : look (tab 73) 16 = some (.if_icmp .gt 5, 3, [21], uu) := by decide +kernel
theorem e_73_16 : den cf 73 16 L (.int y :: .int x :: st) M = if y < x then den cf 73 21 L st M else den cf 73 19 L st M := den_ic_gt l_73_16
theorem l_73_19 : look (tab 73) 19 = some (.iconst 1, 1, [], .int (zI 1)) := by decide +kernel
theorem e_73_19 : den cf 73 19 L st M = den cf 73 20 L (.int (zI 1) :: st) M := den_go l_73_19 rfl
theorem l_73_20 : look (tab 73) 20 = some (.ireturn, 1, [0], uu) := by decide +kernel
theorem e_73_20 : den cf 73 20 L [.int x] M = some (some (.int x), M) := den_e0 l_73_20
theorem l_73_21 : look (tab 73) 21 = some (.iload_n 0, 1, [], uu) := by decide +kernel
theorem e_73_21 : den cf 73 21 [.int x] st M = den cf 73 22 [.int x] (.int x :: st) M := den_go l_73_21 rfl
theorem l_73_22 : look (tab 73) 22 = some (.bipush 48, 2, [], .int (zI 48)) := by decide +kernel
theorem e_73_22 : den cf 73 22 L st M = den cf 73 24 L (.int (zI 48) :: st) M := den_go l_73_22 rfl
theorem l_73_24 : look (tab 73) 24 = some (.if_icmp .lt 11, 3, [35], uu) := by decide +kernel
theorem e_73_24 : den cf 73 24 L (.int y :: .int x :: st) M = if x < y then den cf 73 35 L st M else den cf 73 27 L st M := den_ic_lt l_73_24
theorem l_73_27 : look (tab 73) 27 = some (.iload_n 0, 1, [], uu) := by decide +kernel
theorem e_73_27 : den cf 73 27 [.int x] st M = den cf 73 28 [.int x] (.int x :: st) M := den_go l_73_27 rfl
theorem l_73_28 : look (tab 73) 28 = some (.bipush 57, 2, [], .int (zI 57)) := by decide +kernel
theorem e_73_28 : den cf 73 28 L st M = den cf 73 30 L (.int (zI 57) :: st) M := den_go l_73_28 rfl
theorem l_73_30 : look (tab 73) 30 = some (.if_icmp .gt 5, 3, [35], uu) := by decide +kernel
theorem e_73_30 : den cf 73 30 L (.int y :: .int x :: st) M = if y < x then den cf 73 35 L st M else den cf 73 33 L st M := den_ic_gt l_73_30
theorem l_73_33 : look (tab 73) 33 = some (.iconst 2, 1, [], .int (zI 2)) := by decide +kernel
theorem e_73_33 : den cf 73 33 L st M = den cf 73 34 L (.int (zI 2) :: st) M := den_go l_73_33 rfl
theorem l_73_34 : look (tab 73) 34 = some (.ireturn, 1, [0], uu) := by decide +kernel
theorem e_73_34 : den cf 73 34 L [.int x] M = some (some (.int x), M) := den_e0 l_73_34
theorem l_73_35 : look (tab 73) 35 = some (.iload_n 0, 1, [], uu) := by decide +kernel
theorem e_73_35 : den cf 73 35 [.int x] st M = den cf 73 36 [.int x] (.int x :: st) M := den_go l_73_35 rfl
theorem l_73_36 : look (tab 73) 36 = some (.bipush 59, 2, [], .int (zI 59)) := by decide +kernel
theorem e_73_36 : den cf 73 36 L st M = den cf 73 38 L (.int (zI 59) :: st) M := den_go l_73_36 rfl
theorem l_73_38 : look (tab 73) 38 = some (.if_icmp .ne 7, 3, [45], uu) := by decide +kernel
theorem e_73_38 : den cf 73 38 L (.int y :: .int x :: st) M = if x = y then den cf 73 41 L st M else den cf 73 45 L st M := den_ic_ne l_73_38
theorem l_73_41 : look (tab 73) 41 = some (.iconst 3, 1, [], .int (zI 3)) := by decide +kernel
theorem e_73_41 : den cf 73 41 L st M = den cf 73 42 L (.int (zI 3) :: st) M := den_go l_73_41 rfl
theorem l_73_42 : look (tab 73) 42 = some (.goto 4, 3, [46], uu) := by decide +kernel
theorem e_73_42 : den cf 73 42 L st M = den cf 73 46 L st M := den_go l_73_42 rfl
theorem l_73_45 : look (tab 73) 45 = some (.iconst 4, 1, [], .int (zI 4)) := by decide +kernel
theorem e_73_45 : den cf 73 45 L st M = den cf 73 46 L (.int (zI 4) :: st) M := den_go l_73_45 rfl
theorem l_73_46 : look (tab 73) 46 = some (.ireturn, 1, [0], uu) := by decide +kernel
theorem e_73_46 : den cf 73 46 L [.int x] M = some (some (.int x), M) := den_e0 l_73_46
/-! yX5_init -/
theorem l_74_0 : look (tab 74) 0 = some (.aload_n 0, 1, [], uu) := by decide +kernel
theorem e_74_0 : den cf 74 0 [.ref a, v1] st M = den cf 74 1 [.ref a, v1] (.ref a :: st) M := den_go l_74_0 rfl
theorem l_74_1 : look (tab 74) 1 = some (.invokespecial 1, 3, [0, 10, 11, 12], uu) := by decide +kernel
theorem e_74_1 : den cf 74 1 L (.ref a :: st) M = if st.length ≤ 4 then den cf 74 4 L st M else none := den_g l_74_1 rfl
theorem l_74_4 : look (tab 74) 4 = some (.aload_n 0, 1, [], uu) := by decide +kernel
theorem e_74_4 : den cf 74 4 [.ref a, v1] st M = den cf 74 5 [.ref a, v1] (.ref a :: st) M := den_go l_74_4 rfl
theorem l_74_5 : look (tab 74) 5 = some (.new 7, 3, [2, 13, 14, 15], uu) := by decide +kernel
theorem e_74_5 : den cf 74 5 L st M = if M.1 < 600000 then den cf 74 8 L (.ref M.1 :: st) (mN M 7 (.inl (2, dflA 2))) else none := den_g l_74_5 rfl
theorem l_74_8 : look (tab 74) 8 = some (.dup, 1, [], uu) := by decide +kernel
theorem e_74_8 : den cf 74 8 L (.ref a :: st) M = den cf 74 9 L (.ref a :: .ref a :: st) M := den_go l_74_8 rfl
theorem e_74_8_i : den cf 74 8 L (.int x :: st) M = den cf 74 9 L (.int x :: .int x :: st) M := den_go l_74_8 rfl
theorem l_74_9 : look (tab 74) 9 = some (.invokespecial 9, 3, [1, 2, 23, 1, 34, 35, 15], uu) := by decide +kernel
theorem e_74_9 : den cf 74 9 L (.ref a :: st) M = if rcv M 2 [.ref a] = true ∧ st.length ≤ 4 then rK (cf 23 [.ref a] M) (fun v M' => den cf 74 12 L (pR v st) M') else none := den_isp [] l_74_9 rfl
theorem l_74_12 : look (tab 74) 12 = some (.putfield 10, 3, [5, 0, 2, 16, 1], uu) := by decide +kernel
theorem e_74_12 : den cf 74 12 L (v :: .ref a :: st) M = if okv 2 v = true then oK (pfA (M.2.2 a) 5 0 v) (fun c => den cf 74 15 L st (mU M a c)) else none := den_pf l_74_12
theorem l_74_15 : look (tab 74) 15 = some (.aload_n 0, 1, [], uu) := by decide +kernel
theorem e_74_15 : den cf 74 15 [.ref a, v1] st M = den cf 74 16 [.ref a, v1] (.ref a :: st) M := den_go l_74_15 rfl
theorem l_74_16 : look (tab 74) 16 = some (.new 7, 3, [2, 13, 14, 15], uu) := by decide +kernel
theorem e_74_16 : den cf 74 16 L st M = if M.1 < 600000 then den cf 74 19 L (.ref M.1 :: st) (mN M 7 (.inl (2, dflA 2))) else none := den_g l_74_16 rfl
theorem l_74_19 : look (tab 74) 19 = some (.dup, 1, [], uu) := by decide +kernel
theorem e_74_19 : den cf 74 19 L (.ref a :: st) M = den cf 74 20 L (.ref a :: .ref a :: st) M := den_go l_74_19 rfl
theorem e_74_19_i : den cf 74 19 L (.int x :: st) M = den cf 74 20 L (.int x :: .int x :: st) M := den_go l_74_19 rfl
theorem l_74_20 : look (tab 74) 20 = some (.invokespecial 9, 3, [1, 2, 23, 1, 34, 35, 15], uu) := by decide +kernel
theorem e_74_20 : den cf 74 20 L (.ref a :: st) M = if rcv M 2 [.ref a] = true ∧ st.length ≤ 4 then rK (cf 23 [.ref a] M) (fun v M' => den cf 74 23 L (pR v st) M') else none := den_isp [] l_74_20 rfl
theorem l_74_23 : look (tab 74) 23 = some (.putfield 16, 3, [5, 1, 2, 17, 1], uu) := by decide +kernel
theorem e_74_23 : den cf 74 23 L (v :: .ref a :: st) M = if okv 2 v = true then oK (pfA (M.2.2 a) 5 1 v) (fun c => den cf 74 26 L st (mU M a c)) else none := den_pf l_74_23
theorem l_74_26 : look (tab 74) 26 = some (.aload_n 0, 1, [], uu) := by decide +kernel
theorem e_74_26 : den cf 74 26 [.ref a, v1] st M = den cf 74 27 [.ref a, v1] (.ref a :: st) M := den_go l_74_26 rfl
theorem l_74_27 : look (tab 74) 27 = some (.new 7, 3, [2, 13, 14, 15], uu) := by decide +kernel
theorem e_74_27 : den cf 74 27 L st M = if M.1 < 600000 then den cf 74 30 L (.ref M.1 :: st) (mN M 7 (.inl (2, dflA 2))) else none := den_g l_74_27 rfl
theorem l_74_30 : look (tab 74) 30 = some (.dup, 1, [], uu) := by decide +kernel
theorem e_74_30 : den cf 74 30 L (.ref a :: st) M = den cf 74 31 L (.ref a :: .ref a :: st) M := den_go l_74_30 rfl
theorem e_74_30_i : den cf 74 30 L (.int x :: st) M = den cf 74 31 L (.int x :: .int x :: st) M := den_go l_74_30 rfl
theorem l_74_31 : look (tab 74) 31 = some (.invokespecial 9, 3, [1, 2, 23, 1, 34, 35, 15], uu) := by decide +kernel
theorem e_74_31 : den cf 74 31 L (.ref a :: st) M = if rcv M 2 [.ref a] = true ∧ st.length ≤ 4 then rK (cf 23 [.ref a] M) (fun v M' => den cf 74 34 L (pR v st) M') else none := den_isp [] l_74_31 rfl
theorem l_74_34 : look (tab 74) 34 = some (.putfield 19, 3, [5, 2, 2, 18, 1], uu) := by decide +kernel
theorem e_74_34 : den cf 74 34 L (v :: .ref a :: st) M = if okv 2 v = true then oK (pfA (M.2.2 a) 5 2 v) (fun c => den cf 74 37 L st (mU M a c)) else none := den_pf l_74_34
theorem l_74_37 : look (tab 74) 37 = some (.aload_n 0, 1, [], uu) := by decide +kernel
theorem e_74_37 : den cf 74 37 [.ref a, v1] st M = den cf 74 38 [.ref a, v1] (.ref a :: st) M := den_go l_74_37 rfl
theorem l_74_38 : look (tab 74) 38 = some (.iconst 0, 1, [], .int (zI 0)) := by decide +kernel
theorem e_74_38 : den cf 74 38 L st M = den cf 74 39 L (.int (zI 0) :: st) M := den_go l_74_38 rfl
theorem l_74_39 : look (tab 74) 39 = some (.putfield 22, 3, [5, 3, 1, 19, 0], uu) := by decide +kernel
theorem e_74_39 : den cf 74 39 L (v :: .ref a :: st) M = if okv 1 v = true then oK (pfA (M.2.2 a) 5 3 v) (fun c => den cf 74 42 L st (mU M a c)) else none := den_pf l_74_39
theorem l_74_42 : look (tab 74) 42 = some (.aload_n 0, 1, [], uu) := by decide +kernel
theorem e_74_42 : den cf 74 42 [.ref a, v1] st M = den cf 74 43 [.ref a, v1] (.ref a :: st) M := den_go l_74_42 rfl
theorem l_74_43 : look (tab 74) 43 = some (.new 26, 3, [0, 20, 21, 22], uu) := by decide +kernel
theorem e_74_43 : den cf 74 43 L st M = if M.1 < 600000 then den cf 74 46 L (.ref M.1 :: st) (mN M 8 (.inl (0, dflA 0))) else none := den_g l_74_43 rfl
theorem l_74_46 : look (tab 74) 46 = some (.dup, 1, [], uu) := by decide +kernel
theorem e_74_46 : den cf 74 46 L (.ref a :: st) M = den cf 74 47 L (.ref a :: .ref a :: st) M := den_go l_74_46 rfl
theorem e_74_46_i : den cf 74 46 L (.int x :: st) M = den cf 74 47 L (.int x :: .int x :: st) M := den_go l_74_46 rfl
theorem l_74_47 : look (tab 74) 47 = some (.invokespecial 28, 3, [1, 0, 1, 1, 53, 54, 22], uu) := by decide +kernel
theorem e_74_47 : den cf 74 47 L (.ref a :: st) M = if rcv M 0 [.ref a] = true ∧ st.length ≤ 4 then rK (cf 1 [.ref a] M) (fun v M' => den cf 74 50 L (pR v st) M') else none := den_isp [] l_74_47 rfl
theorem l_74_50 : look (tab 74) 50 = some (.putfield 29, 3, [5, 4, 2, 23, 1], uu) := by decide +kernel
theorem e_74_50 : den cf 74 50 L (v :: .ref a :: st) M = if okv 2 v = true then oK (pfA (M.2.2 a) 5 4 v) (fun c => den cf 74 53 L st (mU M a c)) else none := den_pf l_74_50
theorem l_74_53 : look (tab 74) 53 = some (.aload_n 0, 1, [], uu) := by decide +kernel
theorem e_74_53 : den cf 74 53 [.ref a, v1] st M = den cf 74 54 [.ref a, v1] (.ref a :: st) M := den_go l_74_53 rfl
theorem l_74_54 : look (tab 74) 54 = some (.bipush 8, 2, [], .int (zI 8)) := by decide +kernel
theorem e_74_54 : den cf 74 54 L st M = den cf 74 56 L (.int (zI 8) :: st) M := den_go l_74_54 rfl
theorem l_74_56 : look (tab 74) 56 = some (.anewarray 33, 3, [3, 24], uu) := by decide +kernel
theorem e_74_56 : den cf 74 56 L (.int x :: st) M = if M.1 < 600000 ∧ 0 ≤ x.toInt ∧ x.toInt < 100000 then den cf 74 59 L (.ref M.1 :: st) (mN M x.toNatClampNeg (nwA 3 x.toNatClampNeg)) else none := den_g l_74_56 rfl
theorem l_74_59 : look (tab 74) 59 = some (.putfield 35, 3, [5, 5, 2, 25, 1], uu) := by decide +kernel
theorem e_74_59 : den cf 74 59 L (v :: .ref a :: st) M = if okv 2 v = true then oK (pfA (M.2.2 a) 5 5 v) (fun c => den cf 74 62 L st (mU M a c)) else none := den_pf l_74_59
theorem l_74_62 : look (tab 74) 62 = some (.iconst 0, 1, [], .int (zI 0)) := by decide +kernel
theorem e_74_62 : den cf 74 62 L st M = den cf 74 63 L (.int (zI 0) :: st) M := den_go l_74_62 rfl
theorem l_74_63 : look (tab 74) 63 = some (.istore_n 1, 1, [], uu) := by decide +kernel
theorem e_74_63 : den cf 74 63 [v0, v1] (.int x :: st) M = den cf 74 64 [kq v0, .int x] st M := den_st (k := 1) (v := .int x) l_74_63 rfl
theorem l_74_64 : look (tab 74) 64 = some (.iload_n 1, 1, [], uu) := by decide +kernel
theorem e_74_64 : den cf 74 64 [v0, .int x] st M = den cf 74 65 [v0, .int x] (.int x :: st) M := den_go l_74_64 rfl
theorem l_74_65 : look (tab 74) 65 = some (.bipush 8, 2, [], .int (zI 8)) := by decide +kernel
theorem e_74_65 : den cf 74 65 L st M = den cf 74 67 L (.int (zI 8) :: st) M := den_go l_74_65 rfl
theorem l_74_67 : look (tab 74) 67 = some (.if_icmp .ge 22, 3, [89], uu) := by decide +kernel
theorem e_74_67 : den cf 74 67 L (.int y :: .int x :: st) M = if x < y then den cf 74 70 L st M else den cf 74 89 L st M := den_ic_ge l_74_67
theorem l_74_70 : look (tab 74) 70 = some (.aload_n 0, 1, [], uu) := by decide +kernel
theorem e_74_70 : den cf 74 70 [.ref a, v1] st M = den cf 74 71 [.ref a, v1] (.ref a :: st) M := den_go l_74_70 rfl
theorem l_74_71 : look (tab 74) 71 = some (.getfield 35, 3, [5, 5, 25], uu) := by decide +kernel
theorem e_74_71 : den cf 74 71 L (.ref a :: st) M = oK (gfA (M.2.2 a) 5 5) (fun v => den cf 74 74 L (v :: st) M) := den_gf l_74_71
theorem l_74_74 : look (tab 74) 74 = some (.iload_n 1, 1, [], uu) := by decide +kernel
theorem e_74_74 : den cf 74 74 [v0, .int x] st M = den cf 74 75 [v0, .int x] (.int x :: st) M := den_go l_74_74 rfl
theorem l_74_75 : look (tab 74) 75 = some (.new 33, 3, [3, 24, 26, 27], uu) := by decide +kernel
theorem e_74_75 : den cf 74 75 L st M = if M.1 < 600000 then den cf 74 78 L (.ref M.1 :: st) (mN M 5 (.inl (3, dflA 3))) else none := den_g l_74_75 rfl
theorem l_74_78 : look (tab 74) 78 = some (.dup, 1, [], uu) := by decide +kernel
theorem e_74_78 : den cf 74 78 L (.ref a :: st) M = den cf 74 79 L (.ref a :: .ref a :: st) M := den_go l_74_78 rfl
theorem e_74_78_i : den cf 74 78 L (.int x :: st) M = den cf 74 79 L (.int x :: .int x :: st) M := den_go l_74_78 rfl
theorem l_74_79 : look (tab 74) 79 = some (.invokespecial 39, 3, [1, 3, 48, 1, 62, 63, 27], uu) := by decide +kernel
theorem e_74_79 : den cf 74 79 L (.ref a :: st) M = if rcv M 3 [.ref a] = true ∧ st.length ≤ 4 then rK (cf 48 [.ref a] M) (fun v M' => den cf 74 82 L (pR v st) M') else none := den_isp [] l_74_79 rfl
theorem l_74_82 : look (tab 74) 82 = some (.aastore, 1, [], uu) := by decide +kernel
theorem e_74_82 : den cf 74 82 L (v :: .int y :: .ref a :: st) M = oK (stQ M (M.2.2 a) y v) (fun c => den cf 74 83 L st (mU M a c)) := den_qs l_74_82
theorem l_74_83 : look (tab 74) 83 = some (.iinc 1 1, 3, [], .int (zI 1)) := by decide +kernel
theorem e_74_83 : den cf 74 83 [v0, .int x] st M = den cf 74 86 [kq v0, .int (x + (zI 1))] st M := den_st (k := 1) (v := .int (x + (zI 1))) l_74_83 rfl
theorem l_74_86 : look (tab 74) 86 = some (.goto (-22), 3, [64], uu) := by decide +kernel
theorem e_74_86 : den cf 74 86 L st M = den cf 74 64 L st M := den_go l_74_86 rfl
theorem l_74_89 : look (tab 74) 89 = some (.aload_n 0, 1, [], uu) := by decide +kernel
theorem e_74_89 : den cf 74 89 [.ref a, v1] st M = den cf 74 90 [.ref a, v1] (.ref a :: st) M := den_go l_74_89 rfl
theorem l_74_90 : look (tab 74) 90 = some (.new 40, 3, [4, 28, 29, 30], uu) := by decide +kernel
theorem e_74_90 : den cf 74 90 L st M = if M.1 < 600000 then den cf 74 93 L (.ref M.1 :: st) (mN M 7 (.inl (4, dflA 4))) else none := den_g l_74_90 rfl
theorem l_74_93 : look (tab 74) 93 = some (.dup, 1, [], uu) := by decide +kernel
theorem e_74_93 : den cf 74 93 L (.ref a :: st) M = den cf 74 94 L (.ref a :: .ref a :: st) M := den_go l_74_93 rfl
theorem e_74_93_i : den cf 74 93 L (.int x :: st) M = den cf 74 94 L (.int x :: .int x :: st) M := den_go l_74_93 rfl
theorem l_74_94 : look (tab 74) 94 = some (.invokespecial 42, 3, [1, 4, 59, 1, 69, 70, 30], uu) := by decide +kernel
theorem e_74_94 : den cf 74 94 L (.ref a :: st) M = if rcv M 4 [.ref a] = true ∧ st.length ≤ 4 then rK (cf 59 [.ref a] M) (fun v M' => den cf 74 97 L (pR v st) M') else none := den_isp [] l_74_94 rfl
theorem l_74_97 : look (tab 74) 97 = some (.putfield 43, 3, [5, 6, 2, 31, 1], uu) := by decide +kernel
theorem e_74_97 : den cf 74 97 L (v :: .ref a :: st) M = if okv 2 v = true then oK (pfA (M.2.2 a) 5 6 v) (fun c => den cf 74 100 L st (mU M a c)) else none := den_pf l_74_97
theorem l_74_100 : look (tab 74) 100 = some (.aload_n 0, 1, [], uu) := by decide +kernel
theorem e_74_100 : den cf 74 100 [.ref a, v1] st M = den cf 74 101 [.ref a, v1] (.ref a :: st) M := den_go l_74_100 rfl
theorem l_74_101 : look (tab 74) 101 = some (.bipush 7, 2, [], .int (zI 7)) := by decide +kernel
theorem e_74_101 : den cf 74 101 L st M = den cf 74 103 L (.int (zI 7) :: st) M := den_go l_74_101 rfl
theorem l_74_103 : look (tab 74) 103 = some (.newarray .int, 2, [32], uu) := by decide +kernel
theorem e_74_103 : den cf 74 103 L (.int x :: st) M = if M.1 < 600000 ∧ 0 ≤ x.toInt ∧ x.toInt < 100000 then den cf 74 105 L (.ref M.1 :: st) (mN M x.toNatClampNeg (nwA 0 x.toNatClampNeg)) else none := den_g l_74_103 rfl
theorem l_74_105 : look (tab 74) 105 = some (.putfield 47, 3, [5, 7, 2, 33, 1], uu) := by decide +kernel
theorem e_74_105 : den cf 74 105 L (v :: .ref a :: st) M = if okv 2 v = true then oK (pfA (M.2.2 a) 5 7 v) (fun c => den cf 74 108 L st (mU M a c)) else none := den_pf l_74_105
theorem l_74_108 : look (tab 74) 108 = some (.return_, 1, [], uu) := by decide +kernel
theorem e_74_108 : den cf 74 108 L [] M = some (none, M) := den_e4 l_74_108
/-! yX5_row -/
theorem l_75_0 : look (tab 75) 0 = some (.aload_n 0, 1, [], uu) := by decide +kernel
theorem e_75_0 : den cf 75 0 [.ref a, v1, v2, v3, v4] st M = den cf 75 1 [.ref a, v1, v2, v3, v4] (.ref a :: st) M := den_go l_75_0 rfl
theorem l_75_1 : look (tab 75) 1 = some (.iload_n 1, 1, [], uu) := by decide +kernel
theorem e_75_1 : den cf 75 1 [v0, .int x, v2, v3, v4] st M = den cf 75 2 [v0, .int x, v2, v3, v4] (.int x :: st) M := den_go l_75_1 rfl
theorem l_75_2 : look (tab 75) 2 = some (.invokevirtual 51, 3, [5, 130, 2, 106, 107, 108, 2], uu) := by decide +kernel
theorem e_75_2 : den cf 75 2 L (w1 :: .ref a :: st) M = if rcv M 5 [.ref a, w1] = true ∧ st.length ≤ 4 then rK (cf 130 [.ref a, w1] M) (fun v M' => den cf 75 5 L (pR v st) M') else none := den_iv [w1] l_75_2 rfl
theorem l_75_5 : look (tab 75) 5 = some (.astore 4, 2, [], uu) := by decide +kernel
theorem e_75_5 : den cf 75 5 [v0, v1, v2, v3, v4] (v :: st) M = if isRf v = true then den cf 75 7 [v0, v1, v2, kq v3, v] st M else none := den_as (k := 4) (v := v) l_75_5 rfl (Nat.le_of_ble_eq_true rfl)
theorem l_75_7 : look (tab 75) 7 = some (.aload 4, 2, [], uu) := by decide +kernel
theorem e_75_7 : den cf 75 7 [v0, v1, v2, v3, v4] st M = if isRf v4 = true then den cf 75 9 [v0, v1, v2, v3, v4] (v4 :: st) M else none := den_g l_75_7 rfl
theorem l_75_9 : look (tab 75) 9 = some (.ifnull 20, 3, [29], uu) := by decide +kernel
theorem e_75_9 : den cf 75 9 L (va_rf o :: st) M = oN o (den cf 75 29 L st M) (den cf 75 12 L st M) := den_nu l_75_9
theorem e_75_9_n : den cf 75 9 L (.null :: st) M = den cf 75 29 L st M := den_go l_75_9 rfl
theorem e_75_9_r : den cf 75 9 L (.ref a :: st) M = den cf 75 12 L st M := den_go l_75_9 rfl
theorem l_75_12 : look (tab 75) 12 = some (.iload_n 2, 1, [], uu) := by decide +kernel
theorem e_75_12 : den cf 75 12 [v0, v1, .int x, v3, v4] st M = den cf 75 13 [v0, v1, .int x, v3, v4] (.int x :: st) M := den_go l_75_12 rfl
theorem l_75_13 : look (tab 75) 13 = some (.iconst 4, 1, [], .int (zI 4)) := by decide +kernel
theorem e_75_13 : den cf 75 13 L st M = den cf 75 14 L (.int (zI 4) :: st) M := den_go l_75_13 rfl
theorem l_75_14 : look (tab 75) 14 = some (.invokestatic 55, 3, [1, 129, 2, 110, 111, 2], uu) := by decide +kernel
theorem e_75_14 : den cf 75 14 L (w2 :: w1 :: st) M = if st.length ≤ 4 then rK (cf 129 [w1, w2] M) (fun v M' => den cf 75 17 L (pR v st) M') else none := den_ist [w1, w2] l_75_14 rfl
theorem l_75_17 : look (tab 75) 17 = some (.ifCond .eq 12, 3, [29], uu) := by decide +kernel
theorem e_75_17 : den cf 75 17 L (.int x :: st) M = if x = zI 0 then den cf 75 29 L st M else den cf 75 20 L st M := den_if_eq l_75_17
theorem l_75_20 : look (tab 75) 20 = some (.iload_n 3, 1, [], uu) := by decide +kernel
theorem e_75_20 : den cf 75 20 [v0, v1, v2, .int x, v4] st M = den cf 75 21 [v0, v1, v2, .int x, v4] (.int x :: st) M := den_go l_75_20 rfl
theorem l_75_21 : look (tab 75) 21 = some (.bipush 40, 2, [], .int (zI 40)) := by decide +kernel
theorem e_75_21 : den cf 75 21 L st M = den cf 75 23 L (.int (zI 40) :: st) M := den_go l_75_21 rfl
theorem l_75_23 : look (tab 75) 23 = some (.invokestatic 55, 3, [1, 129, 2, 110, 111, 2], uu) := by decide +kernel
theorem e_75_23 : den cf 75 23 L (w2 :: w1 :: st) M = if st.length ≤ 4 then rK (cf 129 [w1, w2] M) (fun v M' => den cf 75 26 L (pR v st) M') else none := den_ist [w1, w2] l_75_23 rfl
theorem l_75_26 : look (tab 75) 26 = some (.ifCond .ne 10, 3, [36], uu) := by decide +kernel
theorem e_75_26 : den cf 75 26 L (.int x :: st) M = if x = zI 0 then den cf 75 29 L st M else den cf 75 36 L st M := den_if_ne l_75_26
theorem l_75_29 : look (tab 75) 29 = some (.aload_n 0, 1, [], uu) := by decide +kernel
theorem e_75_29 : den cf 75 29 [.ref a, v1, v2, v3, v4] st M = den cf 75 30 [.ref a, v1, v2, v3, v4] (.ref a :: st) M := den_go l_75_29 rfl
theorem l_75_30 : look (tab 75) 30 = some (.bipush (-2), 2, [], .int (zI (-2))) := by decide +kernel
theorem e_75_30 : den cf 75 30 L st M = den cf 75 32 L (.int (zI (-2)) :: st) M := den_go l_75_30 rfl
theorem l_75_32 : look (tab 75) 32 = some (.invokevirtual 59, 3, [5, 128, 2, 113, 114, 115, 2], uu) := by decide +kernel
theorem e_75_32 : den cf 75 32 L (w1 :: .ref a :: st) M = if rcv M 5 [.ref a, w1] = true ∧ st.length ≤ 4 then rK (cf 128 [.ref a, w1] M) (fun v M' => den cf 75 35 L (pR v st) M') else none := den_iv [w1] l_75_32 rfl
theorem l_75_35 : look (tab 75) 35 = some (.ireturn, 1, [0], uu) := by decide +kernel
theorem e_75_35 : den cf 75 35 L [.int x] M = some (some (.int x), M) := den_e0 l_75_35
theorem l_75_36 : look (tab 75) 36 = some (.aload 4, 2, [], uu) := by decide +kernel
theorem e_75_36 : den cf 75 36 [v0, v1, v2, v3, v4] st M = if isRf v4 = true then den cf 75 38 [v0, v1, v2, v3, v4] (v4 :: st) M else none := den_g l_75_36 rfl
theorem l_75_38 : look (tab 75) 38 = some (.iload_n 2, 1, [], uu) := by decide +kernel
theorem e_75_38 : den cf 75 38 [v0, v1, .int x, v3, v4] st M = den cf 75 39 [v0, v1, .int x, v3, v4] (.int x :: st) M := den_go l_75_38 rfl
theorem l_75_39 : look (tab 75) 39 = some (.iload_n 3, 1, [], uu) := by decide +kernel
theorem e_75_39 : den cf 75 39 [v0, v1, v2, .int x, v4] st M = den cf 75 40 [v0, v1, v2, .int x, v4] (.int x :: st) M := den_go l_75_39 rfl
theorem l_75_40 : look (tab 75) 40 = some (.invokevirtual 63, 3, [3, 51, 3, 117, 118, 119, 27], uu) := by decide +kernel
theorem e_75_40 : den cf 75 40 L (w2 :: w1 :: .ref a :: st) M = if rcv M 3 [.ref a, w1, w2] = true ∧ st.length ≤ 4 then rK (cf 51 [.ref a, w1, w2] M) (fun v M' => den cf 75 43 L (pR v st) M') else none := den_iv [w1, w2] l_75_40 rfl
theorem l_75_43 : look (tab 75) 43 = some (.iconst 1, 1, [], .int (zI 1)) := by decide +kernel
theorem e_75_43 : den cf 75 43 L st M = den cf 75 44 L (.int (zI 1) :: st) M := den_go l_75_43 rfl
theorem l_75_44 : look (tab 75) 44 = some (.ireturn, 1, [0], uu) := by decide +kernel
theorem e_75_44 : den cf 75 44 L [.int x] M = some (some (.int x), M) := den_e0 l_75_44
/-! yX5_set -/
theorem l_76_0 : look (tab 76) 0 = some (.aload_n 0, 1, [], uu) := by decide +kernel
theorem e_76_0 : den cf 76 0 [.ref a, v1, v2, v3, v4, v5] st M = den cf 76 1 [.ref a, v1, v2, v3, v4, v5] (.ref a :: st) M := den_go l_76_0 rfl
theorem l_76_1 : look (tab 76) 1 = some (.iload_n 1, 1, [], uu) := by decide +kernel
theorem e_76_1 : den cf 76 1 [v0, .int x, v2, v3, v4, v5] st M = den cf 76 2 [v0, .int x, v2, v3, v4, v5] (.int x :: st) M := den_go l_76_1 rfl
theorem l_76_2 : look (tab 76) 2 = some (.invokevirtual 51, 3, [5, 130, 2, 106, 107, 108, 2], uu) := by decide +kernel
theorem e_76_2 : den cf 76 2 L (w1 :: .ref a :: st) M = if rcv M 5 [.ref a, w1] = true ∧ st.length ≤ 4 then rK (cf 130 [.ref a, w1] M) (fun v M' => den cf 76 5 L (pR v st) M') else none := den_iv [w1] l_76_2 rfl
theorem l_76_5 : look (tab 76) 5 = some (.astore 5, 2, [], uu) := by decide +kernel
theorem e_76_5 : den cf 76 5 [v0, v1, v2, v3, v4, v5] (v :: st) M = if isRf v = true then den cf 76 7 [v0, v1, v2, v3, kq v4, v] st M else none := den_as (k := 5) (v := v) l_76_5 rfl (Nat.le_of_ble_eq_true rfl)
theorem l_76_7 : look (tab 76) 7 = some (.aload 5, 2, [], uu) := by decide +kernel
theorem e_76_7 : den cf 76 7 [v0, v1, v2, v3, v4, v5] st M = if isRf v5 = true then den cf 76 9 [v0, v1, v2, v3, v4, v5] (v5 :: st) M else none := den_g l_76_7 rfl
theorem l_76_9 : look (tab 76) 9 = some (.ifnonnull 10, 3, [19], uu) := by decide +kernel
theorem e_76_9 : den cf 76 9 L (va_rf o :: st) M = oN o (den cf 76 12 L st M) (den cf 76 19 L st M) := den_nn l_76_9
theorem e_76_9_n : den cf 76 9 L (.null :: st) M = den cf 76 12 L st M := den_go l_76_9 rfl
theorem e_76_9_r : den cf 76 9 L (.ref a :: st) M = den cf 76 19 L st M := den_go l_76_9 rfl
theorem l_76_12 : look (tab 76) 12 = some (.aload_n 0, 1, [], uu) := by decide +kernel
theorem e_76_12 : den cf 76 12 [.ref a, v1, v2, v3, v4, v5] st M = den cf 76 13 [.ref a, v1, v2, v3, v4, v5] (.ref a :: st) M := den_go l_76_12 rfl
theorem l_76_13 : look (tab 76) 13 = some (.bipush (-2), 2, [], .int (zI (-2))) := by decide +kernel
theorem e_76_13 : den cf 76 13 L st M = den cf 76 15 L (.int (zI (-2)) :: st) M := den_go l_76_13 rfl
theorem l_76_15 : look (tab 76) 15 = some (.invokevirtual 59, 3, [5, 128, 2, 113, 114, 115, 2], uu) := by decide +kernel
theorem e_76_15 : den cf 76 15 L (w1 :: .ref a :: st) M = if rcv M 5 [.ref a, w1] = true ∧ st.length ≤ 4 then rK (cf 128 [.ref a, w1] M) (fun v M' => den cf 76 18 L (pR v st) M') else none := den_iv [w1] l_76_15 rfl
theorem l_76_18 : look (tab 76) 18 = some (.ireturn, 1, [0], uu) := by decide +kernel
theorem e_76_18 : den cf 76 18 L [.int x] M = some (some (.int x), M) := den_e0 l_76_18
theorem l_76_19 : look (tab 76) 19 = some (.aload 5, 2, [], uu) := by decide +kernel
theorem e_76_19 : den cf 76 19 [v0, v1, v2, v3, v4, v5] st M = if isRf v5 = true then den cf 76 21 [v0, v1, v2, v3, v4, v5] (v5 :: st) M else none := den_g l_76_19 rfl
theorem l_76_21 : look (tab 76) 21 = some (.getfield 67, 3, [3, 0, 141], uu) := by decide +kernel
theorem e_76_21 : den cf 76 21 L (.ref a :: st) M = oK (gfA (M.2.2 a) 3 0) (fun v => den cf 76 24 L (v :: st) M) := den_gf l_76_21
theorem l_76_24 : look (tab 76) 24 = some (.iconst 1, 1, [], .int (zI 1)) := by decide +kernel
theorem e_76_24 : den cf 76 24 L st M = den cf 76 25 L (.int (zI 1) :: st) M := den_go l_76_24 rfl
theorem l_76_25 : look (tab 76) 25 = some (.if_icmp .eq 13, 3, [38], uu) := by decide +kernel
theorem e_76_25 : den cf 76 25 L (.int y :: .int x :: st) M = if x = y then den cf 76 38 L st M else den cf 76 28 L st M := den_ic_eq l_76_25
theorem l_76_28 : look (tab 76) 28 = some (.aload_n 0, 1, [], uu) := by decide +kernel
theorem e_76_28 : den cf 76 28 [.ref a, v1, v2, v3, v4, v5] st M = den cf 76 29 [.ref a, v1, v2, v3, v4, v5] (.ref a :: st) M := den_go l_76_28 rfl
theorem l_76_29 : look (tab 76) 29 = some (.aload 5, 2, [], uu) := by decide +kernel
theorem e_76_29 : den cf 76 29 [v0, v1, v2, v3, v4, v5] st M = if isRf v5 = true then den cf 76 31 [v0, v1, v2, v3, v4, v5] (v5 :: st) M else none := den_g l_76_29 rfl
theorem l_76_31 : look (tab 76) 31 = some (.invokevirtual 71, 3, [3, 52, 1, 143, 144, 145, 27], uu) := by decide +kernel
theorem e_76_31 : den cf 76 31 L (.ref a :: st) M = if rcv M 3 [.ref a] = true ∧ st.length ≤ 4 then rK (cf 52 [.ref a] M) (fun v M' => den cf 76 34 L (pR v st) M') else none := den_iv [] l_76_31 rfl
theorem l_76_34 : look (tab 76) 34 = some (.invokevirtual 59, 3, [5, 128, 2, 113, 114, 115, 2], uu) := by decide +kernel
theorem e_76_34 : den cf 76 34 L (w1 :: .ref a :: st) M = if rcv M 5 [.ref a, w1] = true ∧ st.length ≤ 4 then rK (cf 128 [.ref a, w1] M) (fun v M' => den cf 76 37 L (pR v st) M') else none := den_iv [w1] l_76_34 rfl
theorem l_76_37 : look (tab 76) 37 = some (.ireturn, 1, [0], uu) := by decide +kernel
theorem e_76_37 : den cf 76 37 L [.int x] M = some (some (.int x), M) := den_e0 l_76_37
theorem l_76_38 : look (tab 76) 38 = some (.iload_n 2, 1, [], uu) := by decide +kernel
theorem e_76_38 : den cf 76 38 [v0, v1, .int x, v3, v4, v5] st M = den cf 76 39 [v0, v1, .int x, v3, v4, v5] (.int x :: st) M := den_go l_76_38 rfl
theorem l_76_39 : look (tab 76) 39 = some (.ifCond .lt 12, 3, [51], uu) := by decide +kernel
theorem e_76_39 : den cf 76 39 L (.int x :: st) M = if x < zI 0 then den cf 76 51 L st M else den cf 76 42 L st M := den_if_lt l_76_39
theorem l_76_42 : look (tab 76) 42 = some (.iload_n 2, 1, [], uu) := by decide +kernel
theorem e_76_42 : den cf 76 42 [v0, v1, .int x, v3, v4, v5] st M = den cf 76 43 [v0, v1, .int x, v3, v4, v5] (.int x :: st) M := den_go l_76_42 rfl
theorem l_76_43 : look (tab 76) 43 = some (.aload 5, 2, [], uu) := by decide +kernel
theorem e_76_43 : den cf 76 43 [v0, v1, v2, v3, v4, v5] st M = if isRf v5 = true then den cf 76 45 [v0, v1, v2, v3, v4, v5] (v5 :: st) M else none := den_g l_76_43 rfl
theorem l_76_45 : look (tab 76) 45 = some (.getfield 75, 3, [3, 3, 142], uu) := by decide +kernel
theorem e_76_45 : den cf 76 45 L (.ref a :: st) M = oK (gfA (M.2.2 a) 3 3) (fun v => den cf 76 48 L (v :: st) M) := den_gf l_76_45
theorem l_76_48 : look (tab 76) 48 = some (.if_icmp .lt 10, 3, [58], uu) := by decide +kernel
theorem e_76_48 : den cf 76 48 L (.int y :: .int x :: st) M = if x < y then den cf 76 58 L st M else den cf 76 51 L st M := den_ic_lt l_76_48
theorem l_76_51 : look (tab 76) 51 = some (.aload_n 0, 1, [], uu) := by decide +kernel
theorem e_76_51 : den cf 76 51 [.ref a, v1, v2, v3, v4, v5] st M = den cf 76 52 [.ref a, v1, v2, v3, v4, v5] (.ref a :: st) M := den_go l_76_51 rfl
theorem l_76_52 : look (tab 76) 52 = some (.bipush (-2), 2, [], .int (zI (-2))) := by decide +kernel
theorem e_76_52 : den cf 76 52 L st M = den cf 76 54 L (.int (zI (-2)) :: st) M := den_go l_76_52 rfl
theorem l_76_54 : look (tab 76) 54 = some (.invokevirtual 59, 3, [5, 128, 2, 113, 114, 115, 2], uu) := by decide +kernel
theorem e_76_54 : den cf 76 54 L (w1 :: .ref a :: st) M = if rcv M 5 [.ref a, w1] = true ∧ st.length ≤ 4 then rK (cf 128 [.ref a, w1] M) (fun v M' => den cf 76 57 L (pR v st) M') else none := den_iv [w1] l_76_54 rfl
theorem l_76_57 : look (tab 76) 57 = some (.ireturn, 1, [0], uu) := by decide +kernel
theorem e_76_57 : den cf 76 57 L [.int x] M = some (some (.int x), M) := den_e0 l_76_57
theorem l_76_58 : look (tab 76) 58 = some (.aload 5, 2, [], uu) := by decide +kernel
theorem e_76_58 : den cf 76 58 [v0, v1, v2, v3, v4, v5] st M = if isRf v5 = true then den cf 76 60 [v0, v1, v2, v3, v4, v5] (v5 :: st) M else none := den_g l_76_58 rfl
theorem l_76_60 : look (tab 76) 60 = some (.iload_n 2, 1, [], uu) := by decide +kernel
theorem e_76_60 : den cf 76 60 [v0, v1, .int x, v3, v4, v5] st M = den cf 76 61 [v0, v1, .int x, v3, v4, v5] (.int x :: st) M := den_go l_76_60 rfl
theorem l_76_61 : look (tab 76) 61 = some (.lload_n 3, 1, [], uu) := by decide +kernel
theorem e_76_61 : den cf 76 61 [v0, v1, v2, .long p, v4, v5] st M = den cf 76 62 [v0, v1, v2, .long p, v4, v5] (.long p :: st) M := den_go l_76_61 rfl
theorem l_76_62 : look (tab 76) 62 = some (.invokevirtual 78, 3, [3, 57, 3, 147, 148, 149, 27], uu) := by decide +kernel
theorem e_76_62 : den cf 76 62 L (w2 :: w1 :: .ref a :: st) M = if rcv M 3 [.ref a, w1, w2] = true ∧ st.length ≤ 4 then rK (cf 57 [.ref a, w1, w2] M) (fun v M' => den cf 76 65 L (pR v st) M') else none := den_iv [w1, w2] l_76_62 rfl
theorem l_76_65 : look (tab 76) 65 = some (.iconst 1, 1, [], .int (zI 1)) := by decide +kernel
theorem e_76_65 : den cf 76 65 L st M = den cf 76 66 L (.int (zI 1) :: st) M := den_go l_76_65 rfl
theorem l_76_66 : look (tab 76) 66 = some (.ireturn, 1, [0], uu) := by decide +kernel
theorem e_76_66 : den cf 76 66 L [.int x] M = some (some (.int x), M) := den_e0 l_76_66
/-! yX5_copy -/
theorem l_77_0 : look (tab 77) 0 = some (.aload_n 0, 1, [], uu) := by decide +kernel
theorem e_77_0 : den cf 77 0 [.ref a, v1, v2, v3, v4, v5, v6, v7, v8] st M = den cf 77 1 [.ref a, v1, v2, v3, v4, v5, v6, v7, v8] (.ref a :: st) M := den_go l_77_0 rfl
theorem l_77_1 : look (tab 77) 1 = some (.iload_n 1, 1, [], uu) := by decide +kernel
theorem e_77_1 : den cf 77 1 [v0, .int x, v2, v3, v4, v5, v6, v7, v8] st M = den cf 77 2 [v0, .int x, v2, v3, v4, v5, v6, v7, v8] (.int x :: st) M := den_go l_77_1 rfl
theorem l_77_2 : look (tab 77) 2 = some (.invokevirtual 51, 3, [5, 130, 2, 106, 107, 108, 2], uu) := by decide +kernel
theorem e_77_2 : den cf 77 2 L (w1 :: .ref a :: st) M = if rcv M 5 [.ref a, w1] = true ∧ st.length ≤ 4 then rK (cf 130 [.ref a, w1] M) (fun v M' => den cf 77 5 L (pR v st) M') else none := den_iv [w1] l_77_2 rfl
theorem l_77_5 : look (tab 77) 5 = some (.astore 6, 2, [], uu) := by decide +kernel
theorem e_77_5 : den cf 77 5 [v0, v1, v2, v3, v4, v5, v6, v7, v8] (v :: st) M = if isRf v = true then den cf 77 7 [v0, v1, v2, v3, v4, kq v5, v, v7, v8] st M else none := den_as (k := 6) (v := v) l_77_5 rfl (Nat.le_of_ble_eq_true rfl)
theorem l_77_7 : look (tab 77) 7 = some (.aload_n 0, 1, [], uu) := by decide +kernel
theorem e_77_7 : den cf 77 7 [.ref a, v1, v2, v3, v4, v5, v6, v7, v8] st M = den cf 77 8 [.ref a, v1, v2, v3, v4, v5, v6, v7, v8] (.ref a :: st) M := den_go l_77_7 rfl
theorem l_77_8 : look (tab 77) 8 = some (.iload_n 2, 1, [], uu) := by decide +kernel
theorem e_77_8 : den cf 77 8 [v0, v1, .int x, v3, v4, v5, v6, v7, v8] st M = den cf 77 9 [v0, v1, .int x, v3, v4, v5, v6, v7, v8] (.int x :: st) M := den_go l_77_8 rfl
theorem l_77_9 : look (tab 77) 9 = some (.invokevirtual 51, 3, [5, 130, 2, 106, 107, 108, 2], uu) := by decide +kernel
theorem e_77_9 : den cf 77 9 L (w1 :: .ref a :: st) M = if rcv M 5 [.ref a, w1] = true ∧ st.length ≤ 4 then rK (cf 130 [.ref a, w1] M) (fun v M' => den cf 77 12 L (pR v st) M') else none := den_iv [w1] l_77_9 rfl
theorem l_77_12 : look (tab 77) 12 = some (.astore 7, 2, [], uu) := by decide +kernel
theorem e_77_12 : den cf 77 12 [v0, v1, v2, v3, v4, v5, v6, v7, v8] (v :: st) M = if isRf v = true then den cf 77 14 [v0, v1, v2, v3, v4, v5, kq v6, v, v8] st M else none := den_as (k := 7) (v := v) l_77_12 rfl (Nat.le_of_ble_eq_true rfl)
theorem l_77_14 : look (tab 77) 14 = some (.aload 6, 2, [], uu) := by decide +kernel
theorem e_77_14 : den cf 77 14 [v0, v1, v2, v3, v4, v5, v6, v7, v8] st M = if isRf v6 = true then den cf 77 16 [v0, v1, v2, v3, v4, v5, v6, v7, v8] (v6 :: st) M else none := den_g l_77_14 rfl
theorem l_77_16 : look (tab 77) 16 = some (.ifnull 8, 3, [24], uu) := by decide +kernel
theorem e_77_16 : den cf 77 16 L (va_rf o :: st) M = oN o (den cf 77 24 L st M) (den cf 77 19 L st M) := den_nu l_77_16
theorem e_77_16_n : den cf 77 16 L (.null :: st) M = den cf 77 24 L st M := den_go l_77_16 rfl
theorem e_77_16_r : den cf 77 16 L (.ref a :: st) M = den cf 77 19 L st M := den_go l_77_16 rfl
theorem l_77_19 : look (tab 77) 19 = some (.aload 7, 2, [], uu) := by decide +kernel
theorem e_77_19 : den cf 77 19 [v0, v1, v2, v3, v4, v5, v6, v7, v8] st M = if isRf v7 = true then den cf 77 21 [v0, v1, v2, v3, v4, v5, v6, v7, v8] (v7 :: st) M else none := den_g l_77_19 rfl
theorem l_77_21 : look (tab 77) 21 = some (.ifnonnull 10, 3, [31], uu) := by decide +kernel
theorem e_77_21 : den cf 77 21 L (va_rf o :: st) M = oN o (den cf 77 24 L st M) (den cf 77 31 L st M) := den_nn l_77_21
theorem e_77_21_n : den cf 77 21 L (.null :: st) M = den cf 77 24 L st M := den_go l_77_21 rfl
theorem e_77_21_r : den cf 77 21 L (.ref a :: st) M = den cf 77 31 L st M := den_go l_77_21 rfl
theorem l_77_24 : look (tab 77) 24 = some (.aload_n 0, 1, [], uu) := by decide +kernel
theorem e_77_24 : den cf 77 24 [.ref a, v1, v2, v3, v4, v5, v6, v7, v8] st M = den cf 77 25 [.ref a, v1, v2, v3, v4, v5, v6, v7, v8] (.ref a :: st) M := den_go l_77_24 rfl
theorem l_77_25 : look (tab 77) 25 = some (.bipush (-2), 2, [], .int (zI (-2))) := by decide +kernel
theorem e_77_25 : den cf 77 25 L st M = den cf 77 27 L (.int (zI (-2)) :: st) M := den_go l_77_25 rfl
theorem l_77_27 : look (tab 77) 27 = some (.invokevirtual 59, 3, [5, 128, 2, 113, 114, 115, 2], uu) := by decide +kernel
theorem e_77_27 : den cf 77 27 L (w1 :: .ref a :: st) M = if rcv M 5 [.ref a, w1] = true ∧ st.length ≤ 4 then rK (cf 128 [.ref a, w1] M) (fun v M' => den cf 77 30 L (pR v st) M') else none := den_iv [w1] l_77_27 rfl
theorem l_77_30 : look (tab 77) 30 = some (.ireturn, 1, [0], uu) := by decide +kernel
theorem e_77_30 : den cf 77 30 L [.int x] M = some (some (.int x), M) := den_e0 l_77_30
theorem l_77_31 : look (tab 77) 31 = some (.aload 6, 2, [], uu) := by decide +kernel
theorem e_77_31 : den cf 77 31 [v0, v1, v2, v3, v4, v5, v6, v7, v8] st M = if isRf v6 = true then den cf 77 33 [v0, v1, v2, v3, v4, v5, v6, v7, v8] (v6 :: st) M else none := den_g l_77_31 rfl
theorem l_77_33 : look (tab 77) 33 = some (.getfield 67, 3, [3, 0, 141], uu) := by decide +kernel
theorem e_77_33 : den cf 77 33 L (.ref a :: st) M = oK (gfA (M.2.2 a) 3 0) (fun v => den cf 77 36 L (v :: st) M) := den_gf l_77_33
theorem l_77_36 : look (tab 77) 36 = some (.iconst 2, 1, [], .int (zI 2)) := by decide +kernel
theorem e_77_36 : den cf 77 36 L st M = den cf 77 37 L (.int (zI 2) :: st) M := den_go l_77_36 rfl
theorem l_77_37 : look (tab 77) 37 = some (.if_icmp .eq 12, 3, [49], uu) := by decide +kernel
theorem e_77_37 : den cf 77 37 L (.int y :: .int x :: st) M = if x = y then den cf 77 49 L st M else den cf 77 40 L st M := den_ic_eq l_77_37
theorem l_77_40 : look (tab 77) 40 = some (.aload 7, 2, [], uu) := by decide +kernel
theorem e_77_40 : den cf 77 40 [v0, v1, v2, v3, v4, v5, v6, v7, v8] st M = if isRf v7 = true then den cf 77 42 [v0, v1, v2, v3, v4, v5, v6, v7, v8] (v7 :: st) M else none := den_g l_77_40 rfl
theorem l_77_42 : look (tab 77) 42 = some (.getfield 67, 3, [3, 0, 141], uu) := by decide +kernel
theorem e_77_42 : den cf 77 42 L (.ref a :: st) M = oK (gfA (M.2.2 a) 3 0) (fun v => den cf 77 45 L (v :: st) M) := den_gf l_77_42
theorem l_77_45 : look (tab 77) 45 = some (.iconst 2, 1, [], .int (zI 2)) := by decide +kernel
theorem e_77_45 : den cf 77 45 L st M = den cf 77 46 L (.int (zI 2) :: st) M := den_go l_77_45 rfl
theorem l_77_46 : look (tab 77) 46 = some (.if_icmp .ne 10, 3, [56], uu) := by decide +kernel
theorem e_77_46 : den cf 77 46 L (.int y :: .int x :: st) M = if x = y then den cf 77 49 L st M else den cf 77 56 L st M := den_ic_ne l_77_46
theorem l_77_49 : look (tab 77) 49 = some (.aload_n 0, 1, [], uu) := by decide +kernel
theorem e_77_49 : den cf 77 49 [.ref a, v1, v2, v3, v4, v5, v6, v7, v8] st M = den cf 77 50 [.ref a, v1, v2, v3, v4, v5, v6, v7, v8] (.ref a :: st) M := den_go l_77_49 rfl
theorem l_77_50 : look (tab 77) 50 = some (.bipush (-3), 2, [], .int (zI (-3))) := by decide +kernel
theorem e_77_50 : den cf 77 50 L st M = den cf 77 52 L (.int (zI (-3)) :: st) M := den_go l_77_50 rfl
theorem l_77_52 : look (tab 77) 52 = some (.invokevirtual 59, 3, [5, 128, 2, 113, 114, 115, 2], uu) := by decide +kernel
theorem e_77_52 : den cf 77 52 L (w1 :: .ref a :: st) M = if rcv M 5 [.ref a, w1] = true ∧ st.length ≤ 4 then rK (cf 128 [.ref a, w1] M) (fun v M' => den cf 77 55 L (pR v st) M') else none := den_iv [w1] l_77_52 rfl
theorem l_77_55 : look (tab 77) 55 = some (.ireturn, 1, [0], uu) := by decide +kernel
theorem e_77_55 : den cf 77 55 L [.int x] M = some (some (.int x), M) := den_e0 l_77_55
theorem l_77_56 : look (tab 77) 56 = some (.aload 6, 2, [], uu) := by decide +kernel
theorem e_77_56 : den cf 77 56 [v0, v1, v2, v3, v4, v5, v6, v7, v8] st M = if isRf v6 = true then den cf 77 58 [v0, v1, v2, v3, v4, v5, v6, v7, v8] (v6 :: st) M else none := den_g l_77_56 rfl
theorem l_77_58 : look (tab 77) 58 = some (.getfield 67, 3, [3, 0, 141], uu) := by decide +kernel
theorem e_77_58 : den cf 77 58 L (.ref a :: st) M = oK (gfA (M.2.2 a) 3 0) (fun v => den cf 77 61 L (v :: st) M) := den_gf l_77_58
theorem l_77_61 : look (tab 77) 61 = some (.iconst 1, 1, [], .int (zI 1)) := by decide +kernel
theorem e_77_61 : den cf 77 61 L st M = den cf 77 62 L (.int (zI 1) :: st) M := den_go l_77_61 rfl
theorem l_77_62 : look (tab 77) 62 = some (.if_icmp .ne 16, 3, [78], uu) := by decide +kernel
theorem e_77_62 : den cf 77 62 L (.int y :: .int x :: st) M = if x = y then den cf 77 65 L st M else den cf 77 78 L st M := den_ic_ne l_77_62
theorem l_77_65 : look (tab 77) 65 = some (.aload 7, 2, [], uu) := by decide +kernel
theorem e_77_65 : den cf 77 65 [v0, v1, v2, v3, v4, v5, v6, v7, v8] st M = if isRf v7 = true then den cf 77 67 [v0, v1, v2, v3, v4, v5, v6, v7, v8] (v7 :: st) M else none := den_g l_77_65 rfl
theorem l_77_67 : look (tab 77) 67 = some (.getfield 67, 3, [3, 0, 141], uu) := by decide +kernel
theorem e_77_67 : den cf 77 67 L (.ref a :: st) M = oK (gfA (M.2.2 a) 3 0) (fun v => den cf 77 70 L (v :: st) M) := den_gf l_77_67
theorem l_77_70 : look (tab 77) 70 = some (.iconst 1, 1, [], .int (zI 1)) := by decide +kernel
theorem e_77_70 : den cf 77 70 L st M = den cf 77 71 L (.int (zI 1) :: st) M := den_go l_77_70 rfl
theorem l_77_71 : look (tab 77) 71 = some (.if_icmp .ne 7, 3, [78], uu) := by decide +kernel
theorem e_77_71 : den cf 77 71 L (.int y :: .int x :: st) M = if x = y then den cf 77 74 L st M else den cf 77 78 L st M := den_ic_ne l_77_71
theorem l_77_74 : look (tab 77) 74 = some (.iconst 1, 1, [], .int (zI 1)) := by decide +kernel
theorem e_77_74 : den cf 77 74 L st M = den cf 77 75 L (.int (zI 1) :: st) M := den_go l_77_74 rfl
theorem l_77_75 : look (tab 77) 75 = some (.goto 4, 3, [79], uu) := by decide +kernel
theorem e_77_75 : den cf 77 75 L st M = den cf 77 79 L st M := den_go l_77_75 rfl
theorem l_77_78 : look (tab 77) 78 = some (.iconst 0, 1, [], .int (zI 0)) := by decide +kernel
theorem e_77_78 : den cf 77 78 L st M = den cf 77 79 L (.int (zI 0) :: st) M := den_go l_77_78 rfl
theorem l_77_79 : look (tab 77) 79 = some (.istore 8, 2, [], uu) := by decide +kernel
theorem e_77_79 : den cf 77 79 [v0, v1, v2, v3, v4, v5, v6, v7, v8] (.int x :: st) M = den cf 77 81 [v0, v1, v2, v3, v4, v5, v6, kq v7, .int x] st M := den_st (k := 8) (v := .int x) l_77_79 rfl
theorem l_77_81 : look (tab 77) 81 = some (.iload 8, 2, [], uu) := by decide +kernel
theorem e_77_81 : den cf 77 81 [v0, v1, v2, v3, v4, v5, v6, v7, .int x] st M = den cf 77 83 [v0, v1, v2, v3, v4, v5, v6, v7, .int x] (.int x :: st) M := den_go l_77_81 rfl
theorem l_77_83 : look (tab 77) 83 = some (.ifCond .eq 23, 3, [106], uu) := by decide +kernel
theorem e_77_83 : den cf 77 83 L (.int x :: st) M = if x = zI 0 then den cf 77 106 L st M else den cf 77 86 L st M := den_if_eq l_77_83
theorem l_77_86 : look (tab 77) 86 = some (.aload 6, 2, [], uu) := by decide +kernel
theorem e_77_86 : den cf 77 86 [v0, v1, v2, v3, v4, v5, v6, v7, v8] st M = if isRf v6 = true then den cf 77 88 [v0, v1, v2, v3, v4, v5, v6, v7, v8] (v6 :: st) M else none := den_g l_77_86 rfl
theorem l_77_88 : look (tab 77) 88 = some (.getfield 82, 3, [3, 2, 170], uu) := by decide +kernel
theorem e_77_88 : den cf 77 88 L (.ref a :: st) M = oK (gfA (M.2.2 a) 3 2) (fun v => den cf 77 91 L (v :: st) M) := den_gf l_77_88
theorem l_77_91 : look (tab 77) 91 = some (.aload 7, 2, [], uu) := by decide +kernel
theorem e_77_91 : den cf 77 91 [v0, v1, v2, v3, v4, v5, v6, v7, v8] st M = if isRf v7 = true then den cf 77 93 [v0, v1, v2, v3, v4, v5, v6, v7, v8] (v7 :: st) M else none := den_g l_77_91 rfl
theorem l_77_93 : look (tab 77) 93 = some (.getfield 82, 3, [3, 2, 170], uu) := by decide +kernel
theorem e_77_93 : den cf 77 93 L (.ref a :: st) M = oK (gfA (M.2.2 a) 3 2) (fun v => den cf 77 96 L (v :: st) M) := den_gf l_77_93
theorem l_77_96 : look (tab 77) 96 = some (.if_icmp .eq 10, 3, [106], uu) := by decide +kernel
theorem e_77_96 : den cf 77 96 L (.int y :: .int x :: st) M = if x = y then den cf 77 106 L st M else den cf 77 99 L st M := den_ic_eq l_77_96
theorem l_77_99 : look (tab 77) 99 = some (.aload_n 0, 1, [], uu) := by decide +kernel
theorem e_77_99 : den cf 77 99 [.ref a, v1, v2, v3, v4, v5, v6, v7, v8] st M = den cf 77 100 [.ref a, v1, v2, v3, v4, v5, v6, v7, v8] (.ref a :: st) M := den_go l_77_99 rfl
theorem l_77_100 : look (tab 77) 100 = some (.bipush (-3), 2, [], .int (zI (-3))) := by decide +kernel
theorem e_77_100 : den cf 77 100 L st M = den cf 77 102 L (.int (zI (-3)) :: st) M := den_go l_77_100 rfl
theorem l_77_102 : look (tab 77) 102 = some (.invokevirtual 59, 3, [5, 128, 2, 113, 114, 115, 2], uu) := by decide +kernel
theorem e_77_102 : den cf 77 102 L (w1 :: .ref a :: st) M = if rcv M 5 [.ref a, w1] = true ∧ st.length ≤ 4 then rK (cf 128 [.ref a, w1] M) (fun v M' => den cf 77 105 L (pR v st) M') else none := den_iv [w1] l_77_102 rfl
theorem l_77_105 : look (tab 77) 105 = some (.ireturn, 1, [0], uu) := by decide +kernel
theorem e_77_105 : den cf 77 105 L [.int x] M = some (some (.int x), M) := den_e0 l_77_105
theorem l_77_106 : look (tab 77) 106 = some (.iload 8, 2, [], uu) := by decide +kernel
theorem e_77_106 : den cf 77 106 [v0, v1, v2, v3, v4, v5, v6, v7, .int x] st M = den cf 77 108 [v0, v1, v2, v3, v4, v5, v6, v7, .int x] (.int x :: st) M := den_go l_77_106 rfl
theorem l_77_108 : look (tab 77) 108 = some (.ifCond .ne 10, 3, [118], uu) := by decide +kernel
theorem e_77_108 : den cf 77 108 L (.int x :: st) M = if x = zI 0 then den cf 77 111 L st M else den cf 77 118 L st M := den_if_ne l_77_108
theorem l_77_111 : look (tab 77) 111 = some (.aload_n 0, 1, [], uu) := by decide +kernel
theorem e_77_111 : den cf 77 111 [.ref a, v1, v2, v3, v4, v5, v6, v7, v8] st M = den cf 77 112 [.ref a, v1, v2, v3, v4, v5, v6, v7, v8] (.ref a :: st) M := den_go l_77_111 rfl
theorem l_77_112 : look (tab 77) 112 = some (.bipush (-4), 2, [], .int (zI (-4))) := by decide +kernel
theorem e_77_112 : den cf 77 112 L st M = den cf 77 114 L (.int (zI (-4)) :: st) M := den_go l_77_112 rfl
theorem l_77_114 : look (tab 77) 114 = some (.invokevirtual 59, 3, [5, 128, 2, 113, 114, 115, 2], uu) := by decide +kernel
theorem e_77_114 : den cf 77 114 L (w1 :: .ref a :: st) M = if rcv M 5 [.ref a, w1] = true ∧ st.length ≤ 4 then rK (cf 128 [.ref a, w1] M) (fun v M' => den cf 77 117 L (pR v st) M') else none := den_iv [w1] l_77_114 rfl
theorem l_77_117 : look (tab 77) 117 = some (.ireturn, 1, [0], uu) := by decide +kernel
theorem e_77_117 : den cf 77 117 L [.int x] M = some (some (.int x), M) := den_e0 l_77_117
theorem l_77_118 : look (tab 77) 118 = some (.aload 6, 2, [], uu) := by decide +kernel
theorem e_77_118 : den cf 77 118 [v0, v1, v2, v3, v4, v5, v6, v7, v8] st M = if isRf v6 = true then den cf 77 120 [v0, v1, v2, v3, v4, v5, v6, v7, v8] (v6 :: st) M else none := den_g l_77_118 rfl
theorem l_77_120 : look (tab 77) 120 = some (.iload_n 3, 1, [], uu) := by decide +kernel
theorem e_77_120 : den cf 77 120 [v0, v1, v2, .int x, v4, v5, v6, v7, v8] st M = den cf 77 121 [v0, v1, v2, .int x, v4, v5, v6, v7, v8] (.int x :: st) M := den_go l_77_120 rfl
theorem l_77_121 : look (tab 77) 121 = some (.iload 5, 2, [], uu) := by decide +kernel
theorem e_77_121 : den cf 77 121 [v0, v1, v2, v3, v4, .int x, v6, v7, v8] st M = den cf 77 123 [v0, v1, v2, v3, v4, .int x, v6, v7, v8] (.int x :: st) M := den_go l_77_121 rfl
theorem l_77_123 : look (tab 77) 123 = some (.invokevirtual 85, 3, [3, 53, 3, 176, 177, 178, 27], uu) := by decide +kernel
theorem e_77_123 : den cf 77 123 L (w2 :: w1 :: .ref a :: st) M = if rcv M 3 [.ref a, w1, w2] = true ∧ st.length ≤ 4 then rK (cf 53 [.ref a, w1, w2] M) (fun v M' => den cf 77 126 L (pR v st) M') else none := den_iv [w1, w2] l_77_123 rfl
theorem l_77_126 : look (tab 77) 126 = some (.ifCond .eq 15, 3, [141], uu) := by decide +kernel
theorem e_77_126 : den cf 77 126 L (.int x :: st) M = if x = zI 0 then den cf 77 141 L st M else den cf 77 129 L st M := den_if_eq l_77_126
theorem l_77_129 : look (tab 77) 129 = some (.aload 7, 2, [], uu) := by decide +kernel
theorem e_77_129 : den cf 77 129 [v0, v1, v2, v3, v4, v5, v6, v7, v8] st M = if isRf v7 = true then den cf 77 131 [v0, v1, v2, v3, v4, v5, v6, v7, v8] (v7 :: st) M else none := den_g l_77_129 rfl
theorem l_77_131 : look (tab 77) 131 = some (.iload 4, 2, [], uu) := by decide +kernel
theorem e_77_131 : den cf 77 131 [v0, v1, v2, v3, .int x, v5, v6, v7, v8] st M = den cf 77 133 [v0, v1, v2, v3, .int x, v5, v6, v7, v8] (.int x :: st) M := den_go l_77_131 rfl
theorem l_77_133 : look (tab 77) 133 = some (.iload 5, 2, [], uu) := by decide +kernel
theorem e_77_133 : den cf 77 133 [v0, v1, v2, v3, v4, .int x, v6, v7, v8] st M = den cf 77 135 [v0, v1, v2, v3, v4, .int x, v6, v7, v8] (.int x :: st) M := den_go l_77_133 rfl
theorem l_77_135 : look (tab 77) 135 = some (.invokevirtual 85, 3, [3, 53, 3, 176, 177, 178, 27], uu) := by decide +kernel
theorem e_77_135 : den cf 77 135 L (w2 :: w1 :: .ref a :: st) M = if rcv M 3 [.ref a, w1, w2] = true ∧ st.length ≤ 4 then rK (cf 53 [.ref a, w1, w2] M) (fun v M' => den cf 77 138 L (pR v st) M') else none := den_iv [w1, w2] l_77_135 rfl
theorem l_77_138 : look (tab 77) 138 = some (.ifCond .ne 10, 3, [148], uu) := by decide +kernel
theorem e_77_138 : den cf 77 138 L (.int x :: st) M = if x = zI 0 then den cf 77 141 L st M else den cf 77 148 L st M := den_if_ne l_77_138
theorem l_77_141 : look (tab 77) 141 = some (.aload_n 0, 1, [], uu) := by decide +kernel
theorem e_77_141 : den cf 77 141 [.ref a, v1, v2, v3, v4, v5, v6, v7, v8] st M = den cf 77 142 [.ref a, v1, v2, v3, v4, v5, v6, v7, v8] (.ref a :: st) M := den_go l_77_141 rfl
theorem l_77_142 : look (tab 77) 142 = some (.bipush (-2), 2, [], .int (zI (-2))) := by decide +kernel
theorem e_77_142 : den cf 77 142 L st M = den cf 77 144 L (.int (zI (-2)) :: st) M := den_go l_77_142 rfl
theorem l_77_144 : look (tab 77) 144 = some (.invokevirtual 59, 3, [5, 128, 2, 113, 114, 115, 2], uu) := by decide +kernel
theorem e_77_144 : den cf 77 144 L (w1 :: .ref a :: st) M = if rcv M 5 [.ref a, w1] = true ∧ st.length ≤ 4 then rK (cf 128 [.ref a, w1] M) (fun v M' => den cf 77 147 L (pR v st) M') else none := den_iv [w1] l_77_144 rfl
theorem l_77_147 : look (tab 77) 147 = some (.ireturn, 1, [0], uu) := by decide +kernel
theorem e_77_147 : den cf 77 147 L [.int x] M = some (some (.int x), M) := den_e0 l_77_147
theorem l_77_148 : look (tab 77) 148 = some (.aload 6, 2, [], uu) := by decide +kernel
theorem e_77_148 : den cf 77 148 [v0, v1, v2, v3, v4, v5, v6, v7, v8] st M = if isRf v6 = true then den cf 77 150 [v0, v1, v2, v3, v4, v5, v6, v7, v8] (v6 :: st) M else none := den_g l_77_148 rfl
theorem l_77_150 : look (tab 77) 150 = some (.getfield 88, 3, [3, 4, 171], uu) := by decide +kernel
theorem e_77_150 : den cf 77 150 L (.ref a :: st) M = oK (gfA (M.2.2 a) 3 4) (fun v => den cf 77 153 L (v :: st) M) := den_gf l_77_150
theorem l_77_153 : look (tab 77) 153 = some (.iload_n 3, 1, [], uu) := by decide +kernel
theorem e_77_153 : den cf 77 153 [v0, v1, v2, .int x, v4, v5, v6, v7, v8] st M = den cf 77 154 [v0, v1, v2, .int x, v4, v5, v6, v7, v8] (.int x :: st) M := den_go l_77_153 rfl
theorem l_77_154 : look (tab 77) 154 = some (.aload 7, 2, [], uu) := by decide +kernel
theorem e_77_154 : den cf 77 154 [v0, v1, v2, v3, v4, v5, v6, v7, v8] st M = if isRf v7 = true then den cf 77 156 [v0, v1, v2, v3, v4, v5, v6, v7, v8] (v7 :: st) M else none := den_g l_77_154 rfl
theorem l_77_156 : look (tab 77) 156 = some (.getfield 88, 3, [3, 4, 171], uu) := by decide +kernel
theorem e_77_156 : den cf 77 156 L (.ref a :: st) M = oK (gfA (M.2.2 a) 3 4) (fun v => den cf 77 159 L (v :: st) M) := den_gf l_77_156
theorem l_77_159 : look (tab 77) 159 = some (.iload 4, 2, [], uu) := by decide +kernel
theorem e_77_159 : den cf 77 159 [v0, v1, v2, v3, .int x, v5, v6, v7, v8] st M = den cf 77 161 [v0, v1, v2, v3, .int x, v5, v6, v7, v8] (.int x :: st) M := den_go l_77_159 rfl
theorem l_77_161 : look (tab 77) 161 = some (.iload 5, 2, [], uu) := by decide +kernel
theorem e_77_161 : den cf 77 161 [v0, v1, v2, v3, v4, .int x, v6, v7, v8] st M = den cf 77 163 [v0, v1, v2, v3, v4, .int x, v6, v7, v8] (.int x :: st) M := den_go l_77_161 rfl
theorem l_77_163 : look (tab 77) 163 = some (.invokestatic 92, 3, [0, 172, 173, 174, 175], uu) := by decide +kernel
theorem l_77_166 : look (tab 77) 166 = some (.iload 5, 2, [], uu) := by decide +kernel
theorem e_77_166 : den cf 77 166 [v0, v1, v2, v3, v4, .int x, v6, v7, v8] st M = den cf 77 168 [v0, v1, v2, v3, v4, .int x, v6, v7, v8] (.int x :: st) M := den_go l_77_166 rfl
theorem l_77_168 : look (tab 77) 168 = some (.ireturn, 1, [0], uu) := by decide +kernel
theorem e_77_168 : den cf 77 168 L [.int x] M = some (some (.int x), M) := den_e0 l_77_168
/-! yX5_element -/
theorem l_78_0 : look (tab 78) 0 = some (.aload_n 0, 1, [], uu) := by decide +kernel
theorem e_78_0 : den cf 78 0 [.ref a, v1, v2, v3] st M = den cf 78 1 [.ref a, v1, v2, v3] (.ref a :: st) M := den_go l_78_0 rfl
theorem l_78_1 : look (tab 78) 1 = some (.iload_n 1, 1, [], uu) := by decide +kernel
theorem e_78_1 : den cf 78 1 [v0, .int x, v2, v3] st M = den cf 78 2 [v0, .int x, v2, v3] (.int x :: st) M := den_go l_78_1 rfl
theorem l_78_2 : look (tab 78) 2 = some (.invokevirtual 51, 3, [5, 130, 2, 106, 107, 108, 2], uu) := by decide +kernel
theorem e_78_2 : den cf 78 2 L (w1 :: .ref a :: st) M = if rcv M 5 [.ref a, w1] = true ∧ st.length ≤ 4 then rK (cf 130 [.ref a, w1] M) (fun v M' => den cf 78 5 L (pR v st) M') else none := den_iv [w1] l_78_2 rfl
theorem l_78_5 : look (tab 78) 5 = some (.astore_n 3, 1, [], uu) := by decide +kernel
theorem e_78_5 : den cf 78 5 [v0, v1, v2, v3] (v :: st) M = if isRf v = true then den cf 78 6 [v0, v1, kq v2, v] st M else none := den_as (k := 3) (v := v) l_78_5 rfl (Nat.le_of_ble_eq_true rfl)
theorem l_78_6 : look (tab 78) 6 = some (.aload_n 3, 1, [], uu) := by decide +kernel
theorem e_78_6 : den cf 78 6 [v0, v1, v2, v3] st M = if isRf v3 = true then den cf 78 7 [v0, v1, v2, v3] (v3 :: st) M else none := den_g l_78_6 rfl
theorem l_78_7 : look (tab 78) 7 = some (.ifnonnull 7, 3, [14], uu) := by decide +kernel
theorem e_78_7 : den cf 78 7 L (va_rf o :: st) M = oN o (den cf 78 10 L st M) (den cf 78 14 L st M) := den_nn l_78_7
theorem e_78_7_n : den cf 78 7 L (.null :: st) M = den cf 78 10 L st M := den_go l_78_7 rfl
theorem e_78_7_r : den cf 78 7 L (.ref a :: st) M = den cf 78 14 L st M := den_go l_78_7 rfl
theorem l_78_10 : look (tab 78) 10 = some (.lconst 0, 1, [], .long (zJ 0)) := by decide +kernel
theorem e_78_10 : den cf 78 10 L st M = den cf 78 11 L (.long (zJ 0) :: st) M := den_go l_78_10 rfl
theorem l_78_11 : look (tab 78) 11 = some (.goto 8, 3, [19], uu) := by decide +kernel
theorem e_78_11 : den cf 78 11 L st M = den cf 78 19 L st M := den_go l_78_11 rfl
theorem l_78_14 : look (tab 78) 14 = some (.aload_n 3, 1, [], uu) := by decide +kernel
theorem e_78_14 : den cf 78 14 [v0, v1, v2, v3] st M = if isRf v3 = true then den cf 78 15 [v0, v1, v2, v3] (v3 :: st) M else none := den_g l_78_14 rfl
theorem l_78_15 : look (tab 78) 15 = some (.iload_n 2, 1, [], uu) := by decide +kernel
theorem e_78_15 : den cf 78 15 [v0, v1, .int x, v3] st M = den cf 78 16 [v0, v1, .int x, v3] (.int x :: st) M := den_go l_78_15 rfl
theorem l_78_16 : look (tab 78) 16 = some (.invokevirtual 98, 3, [3, 56, 2, 188, 189, 190, 27], uu) := by decide +kernel
theorem e_78_16 : den cf 78 16 L (w1 :: .ref a :: st) M = if rcv M 3 [.ref a, w1] = true ∧ st.length ≤ 4 then rK (cf 56 [.ref a, w1] M) (fun v M' => den cf 78 19 L (pR v st) M') else none := den_iv [w1] l_78_16 rfl
theorem l_78_19 : look (tab 78) 19 = some (.lreturn, 1, [], uu) := by decide +kernel
theorem e_78_19 : den cf 78 19 L [.long p] M = some (some (.long p), M) := den_e2 l_78_19
/-! yX5_holds -/
theorem l_79_0 : look (tab 79) 0 = some (.aload_n 0, 1, [], uu) := by decide +kernel
theorem e_79_0 : den cf 79 0 [.ref a, v1, v2] st M = den cf 79 1 [.ref a, v1, v2] (.ref a :: st) M := den_go l_79_0 rfl
theorem l_79_1 : look (tab 79) 1 = some (.iload_n 1, 1, [], uu) := by decide +kernel
theorem e_79_1 : den cf 79 1 [v0, .int x, v2] st M = den cf 79 2 [v0, .int x, v2] (.int x :: st) M := den_go l_79_1 rfl
theorem l_79_2 : look (tab 79) 2 = some (.invokevirtual 51, 3, [5, 130, 2, 106, 107, 108, 2], uu) := by decide +kernel
theorem e_79_2 : den cf 79 2 L (w1 :: .ref a :: st) M = if rcv M 5 [.ref a, w1] = true ∧ st.length ≤ 4 then rK (cf 130 [.ref a, w1] M) (fun v M' => den cf 79 5 L (pR v st) M') else none := den_iv [w1] l_79_2 rfl
theorem l_79_5 : look (tab 79) 5 = some (.astore_n 2, 1, [], uu) := by decide +kernel
theorem e_79_5 : den cf 79 5 [v0, v1, v2] (v :: st) M = if isRf v = true then den cf 79 6 [v0, kq v1, v] st M else none := den_as (k := 2) (v := v) l_79_5 rfl (Nat.le_of_ble_eq_true rfl)
theorem l_79_6 : look (tab 79) 6 = some (.aload_n 2, 1, [], uu) := by decide +kernel
theorem e_79_6 : den cf 79 6 [v0, v1, v2] st M = if isRf v2 = true then den cf 79 7 [v0, v1, v2] (v2 :: st) M else none := den_g l_79_6 rfl
theorem l_79_7 : look (tab 79) 7 = some (.ifnull 10, 3, [17], uu) := by decide +kernel
theorem e_79_7 : den cf 79 7 L (va_rf o :: st) M = oN o (den cf 79 17 L st M) (den cf 79 10 L st M) := den_nu l_79_7
theorem e_79_7_n : den cf 79 7 L (.null :: st) M = den cf 79 17 L st M := den_go l_79_7 rfl
theorem e_79_7_r : den cf 79 7 L (.ref a :: st) M = den cf 79 10 L st M := den_go l_79_7 rfl
theorem l_79_10 : look (tab 79) 10 = some (.aload_n 2, 1, [], uu) := by decide +kernel
theorem e_79_10 : den cf 79 10 [v0, v1, v2] st M = if isRf v2 = true then den cf 79 11 [v0, v1, v2] (v2 :: st) M else none := den_g l_79_10 rfl
theorem l_79_11 : look (tab 79) 11 = some (.getfield 67, 3, [3, 0, 141], uu) := by decide +kernel
theorem e_79_11 : den cf 79 11 L (.ref a :: st) M = oK (gfA (M.2.2 a) 3 0) (fun v => den cf 79 14 L (v :: st) M) := den_gf l_79_11
theorem l_79_14 : look (tab 79) 14 = some (.ifCond .ne 5, 3, [19], uu) := by decide +kernel
theorem e_79_14 : den cf 79 14 L (.int x :: st) M = if x = zI 0 then den cf 79 17 L st M else den cf 79 19 L st M := den_if_ne l_79_14
theorem l_79_17 : look (tab 79) 17 = some (.iconst (-1), 1, [], .int (zI (-1))) := by decide +kernel
theorem e_79_17 : den cf 79 17 L st M = den cf 79 18 L (.int (zI (-1)) :: st) M := den_go l_79_17 rfl
theorem l_79_18 : look (tab 79) 18 = some (.ireturn, 1, [0], uu) := by decide +kernel
theorem e_79_18 : den cf 79 18 L [.int x] M = some (some (.int x), M) := den_e0 l_79_18
theorem l_79_19 : look (tab 79) 19 = some (.aload_n 2, 1, [], uu) := by decide +kernel
theorem e_79_19 : den cf 79 19 [v0, v1, v2] st M = if isRf v2 = true then den cf 79 20 [v0, v1, v2] (v2 :: st) M else none := den_g l_79_19 rfl
theorem l_79_20 : look (tab 79) 20 = some (.getfield 67, 3, [3, 0, 141], uu) := by decide +kernel
theorem e_79_20 : den cf 79 20 L (.ref a :: st) M = oK (gfA (M.2.2 a) 3 0) (fun v => den cf 79 23 L (v :: st) M) := den_gf l_79_20
theorem l_79_23 : look (tab 79) 23 = some (.iconst 1, 1, [], .int (zI 1)) := by decide +kernel
theorem e_79_23 : den cf 79 23 L st M = den cf 79 24 L (.int (zI 1) :: st) M := den_go l_79_23 rfl
theorem l_79_24 : look (tab 79) 24 = some (.if_icmp .ne 10, 3, [34], uu) := by decide +kernel
theorem e_79_24 : den cf 79 24 L (.int y :: .int x :: st) M = if x = y then den cf 79 27 L st M else den cf 79 34 L st M := den_ic_ne l_79_24
theorem l_79_27 : look (tab 79) 27 = some (.aload_n 2, 1, [], uu) := by decide +kernel
theorem e_79_27 : den cf 79 27 [v0, v1, v2] st M = if isRf v2 = true then den cf 79 28 [v0, v1, v2] (v2 :: st) M else none := den_g l_79_27 rfl
theorem l_79_28 : look (tab 79) 28 = some (.getfield 82, 3, [3, 2, 170], uu) := by decide +kernel
theorem e_79_28 : den cf 79 28 L (.ref a :: st) M = oK (gfA (M.2.2 a) 3 2) (fun v => den cf 79 31 L (v :: st) M) := den_gf l_79_28
theorem l_79_31 : look (tab 79) 31 = some (.goto 10, 3, [41], uu) := by decide +kernel
theorem e_79_31 : den cf 79 31 L st M = den cf 79 41 L st M := den_go l_79_31 rfl
theorem l_79_34 : look (tab 79) 34 = some (.bipush 10, 2, [], .int (zI 10)) := by decide +kernel
theorem e_79_34 : den cf 79 34 L st M = den cf 79 36 L (.int (zI 10) :: st) M := den_go l_79_34 rfl
theorem l_79_36 : look (tab 79) 36 = some (.aload_n 2, 1, [], uu) := by decide +kernel
theorem e_79_36 : den cf 79 36 [v0, v1, v2] st M = if isRf v2 = true then den cf 79 37 [v0, v1, v2] (v2 :: st) M else none := den_g l_79_36 rfl
theorem l_79_37 : look (tab 79) 37 = some (.getfield 102, 3, [3, 1, 200], uu) := by decide +kernel
theorem e_79_37 : den cf 79 37 L (.ref a :: st) M = oK (gfA (M.2.2 a) 3 1) (fun v => den cf 79 40 L (v :: st) M) := den_gf l_79_37
theorem l_79_40 : look (tab 79) 40 = some (.iadd, 1, [], uu) := by decide +kernel
theorem e_79_40 : den cf 79 40 L (.int y :: .int x :: st) M = den cf 79 41 L (.int (x + y) :: st) M := den_go l_79_40 rfl
theorem l_79_41 : look (tab 79) 41 = some (.ireturn, 1, [0], uu) := by decide +kernel
theorem e_79_41 : den cf 79 41 L [.int x] M = some (some (.int x), M) := den_e0 l_79_41
/-! yX5_show -/
theorem l_80_0 : look (tab 80) 0 = some (.aload_n 0, 1, [], uu) := by decide +kernel
theorem e_80_0 : den cf 80 0 [.ref a, v1, v2, v3] st M = den cf 80 1 [.ref a, v1, v2, v3] (.ref a :: st) M := den_go l_80_0 rfl
theorem l_80_1 : look (tab 80) 1 = some (.iload_n 1, 1, [], uu) := by decide +kernel
theorem e_80_1 : den cf 80 1 [v0, .int x, v2, v3] st M = den cf 80 2 [v0, .int x, v2, v3] (.int x :: st) M := den_go l_80_1 rfl
theorem l_80_2 : look (tab 80) 2 = some (.invokevirtual 51, 3, [5, 130, 2, 106, 107, 108, 2], uu) := by decide +kernel
theorem e_80_2 : den cf 80 2 L (w1 :: .ref a :: st) M = if rcv M 5 [.ref a, w1] = true ∧ st.length ≤ 4 then rK (cf 130 [.ref a, w1] M) (fun v M' => den cf 80 5 L (pR v st) M') else none := den_iv [w1] l_80_2 rfl
theorem l_80_5 : look (tab 80) 5 = some (.astore_n 3, 1, [], uu) := by decide +kernel
theorem e_80_5 : den cf 80 5 [v0, v1, v2, v3] (v :: st) M = if isRf v = true then den cf 80 6 [v0, v1, kq v2, v] st M else none := den_as (k := 3) (v := v) l_80_5 rfl (Nat.le_of_ble_eq_true rfl)
theorem l_80_6 : look (tab 80) 6 = some (.aload_n 3, 1, [], uu) := by decide +kernel
theorem e_80_6 : den cf 80 6 [v0, v1, v2, v3] st M = if isRf v3 = true then den cf 80 7 [v0, v1, v2, v3] (v3 :: st) M else none := den_g l_80_6 rfl
theorem l_80_7 : look (tab 80) 7 = some (.ifnull 19, 3, [26], uu) := by decide +kernel
theorem e_80_7 : den cf 80 7 L (va_rf o :: st) M = oN o (den cf 80 26 L st M) (den cf 80 10 L st M) := den_nu l_80_7
theorem e_80_7_n : den cf 80 7 L (.null :: st) M = den cf 80 26 L st M := den_go l_80_7 rfl
theorem e_80_7_r : den cf 80 7 L (.ref a :: st) M = den cf 80 10 L st M := den_go l_80_7 rfl
theorem l_80_10 : look (tab 80) 10 = some (.iload_n 2, 1, [], uu) := by decide +kernel
theorem e_80_10 : den cf 80 10 [v0, v1, .int x, v3] st M = den cf 80 11 [v0, v1, .int x, v3] (.int x :: st) M := den_go l_80_10 rfl
theorem l_80_11 : look (tab 80) 11 = some (.iconst (-1), 1, [], .int (zI (-1))) := by decide +kernel
theorem e_80_11 : den cf 80 11 L st M = den cf 80 12 L (.int (zI (-1)) :: st) M := den_go l_80_11 rfl
theorem l_80_12 : look (tab 80) 12 = some (.if_icmp .eq 21, 3, [33], uu) := by decide +kernel
theorem e_80_12 : den cf 80 12 L (.int y :: .int x :: st) M = if x = y then den cf 80 33 L st M else den cf 80 15 L st M := den_ic_eq l_80_12
theorem l_80_15 : look (tab 80) 15 = some (.aload_n 0, 1, [], uu) := by decide +kernel
theorem e_80_15 : den cf 80 15 [.ref a, v1, v2, v3] st M = den cf 80 16 [.ref a, v1, v2, v3] (.ref a :: st) M := den_go l_80_15 rfl
theorem l_80_16 : look (tab 80) 16 = some (.getfield 10, 3, [5, 0, 16], uu) := by decide +kernel
theorem e_80_16 : den cf 80 16 L (.ref a :: st) M = oK (gfA (M.2.2 a) 5 0) (fun v => den cf 80 19 L (v :: st) M) := den_gf l_80_16
theorem l_80_19 : look (tab 80) 19 = some (.iload_n 2, 1, [], uu) := by decide +kernel
theorem e_80_19 : den cf 80 19 [v0, v1, .int x, v3] st M = den cf 80 20 [v0, v1, .int x, v3] (.int x :: st) M := den_go l_80_19 rfl
theorem l_80_20 : look (tab 80) 20 = some (.invokevirtual 105, 3, [2, 24, 2, 209, 210, 211, 15], uu) := by decide +kernel
theorem e_80_20 : den cf 80 20 L (w1 :: .ref a :: st) M = if rcv M 2 [.ref a, w1] = true ∧ st.length ≤ 4 then rK (cf 24 [.ref a, w1] M) (fun v M' => den cf 80 23 L (pR v st) M') else none := den_iv [w1] l_80_20 rfl
theorem l_80_23 : look (tab 80) 23 = some (.ifnonnull 10, 3, [33], uu) := by decide +kernel
theorem e_80_23 : den cf 80 23 L (va_rf o :: st) M = oN o (den cf 80 26 L st M) (den cf 80 33 L st M) := den_nn l_80_23
theorem e_80_23_n : den cf 80 23 L (.null :: st) M = den cf 80 26 L st M := den_go l_80_23 rfl
theorem e_80_23_r : den cf 80 23 L (.ref a :: st) M = den cf 80 33 L st M := den_go l_80_23 rfl
theorem l_80_26 : look (tab 80) 26 = some (.aload_n 0, 1, [], uu) := by decide +kernel
theorem e_80_26 : den cf 80 26 [.ref a, v1, v2, v3] st M = den cf 80 27 [.ref a, v1, v2, v3] (.ref a :: st) M := den_go l_80_26 rfl
theorem l_80_27 : look (tab 80) 27 = some (.bipush (-2), 2, [], .int (zI (-2))) := by decide +kernel
theorem e_80_27 : den cf 80 27 L st M = den cf 80 29 L (.int (zI (-2)) :: st) M := den_go l_80_27 rfl
theorem l_80_29 : look (tab 80) 29 = some (.invokevirtual 59, 3, [5, 128, 2, 113, 114, 115, 2], uu) := by decide +kernel
theorem e_80_29 : den cf 80 29 L (w1 :: .ref a :: st) M = if rcv M 5 [.ref a, w1] = true ∧ st.length ≤ 4 then rK (cf 128 [.ref a, w1] M) (fun v M' => den cf 80 32 L (pR v st) M') else none := den_iv [w1] l_80_29 rfl
theorem l_80_32 : look (tab 80) 32 = some (.ireturn, 1, [0], uu) := by decide +kernel
theorem e_80_32 : den cf 80 32 L [.int x] M = some (some (.int x), M) := den_e0 l_80_32
theorem l_80_33 : look (tab 80) 33 = some (.iload_n 2, 1, [], uu) := by decide +kernel
theorem e_80_33 : den cf 80 33 [v0, v1, .int x, v3] st M = den cf 80 34 [v0, v1, .int x, v3] (.int x :: st) M := den_go l_80_33 rfl
theorem l_80_34 : look (tab 80) 34 = some (.iconst (-1), 1, [], .int (zI (-1))) := by decide +kernel
theorem e_80_34 : den cf 80 34 L st M = den cf 80 35 L (.int (zI (-1)) :: st) M := den_go l_80_34 rfl
theorem l_80_35 : look (tab 80) 35 = some (.if_icmp .ne 10, 3, [45], uu) := by decide +kernel
theorem e_80_35 : den cf 80 35 L (.int y :: .int x :: st) M = if x = y then den cf 80 38 L st M else den cf 80 45 L st M := den_ic_ne l_80_35
theorem l_80_38 : look (tab 80) 38 = some (.aload_n 3, 1, [], uu) := by decide +kernel
theorem e_80_38 : den cf 80 38 [v0, v1, v2, v3] st M = if isRf v3 = true then den cf 80 39 [v0, v1, v2, v3] (v3 :: st) M else none := den_g l_80_38 rfl
theorem l_80_39 : look (tab 80) 39 = some (.invokevirtual 109, 3, [3, 49, 1, 213, 214, 215, 27], uu) := by decide +kernel
theorem e_80_39 : den cf 80 39 L (.ref a :: st) M = if rcv M 3 [.ref a] = true ∧ st.length ≤ 4 then rK (cf 49 [.ref a] M) (fun v M' => den cf 80 42 L (pR v st) M') else none := den_iv [] l_80_39 rfl
theorem l_80_42 : look (tab 80) 42 = some (.goto 8, 3, [50], uu) := by decide +kernel
theorem e_80_42 : den cf 80 42 L st M = den cf 80 50 L st M := den_go l_80_42 rfl
theorem l_80_45 : look (tab 80) 45 = some (.aload_n 3, 1, [], uu) := by decide +kernel
theorem e_80_45 : den cf 80 45 [v0, v1, v2, v3] st M = if isRf v3 = true then den cf 80 46 [v0, v1, v2, v3] (v3 :: st) M else none := den_g l_80_45 rfl
theorem l_80_46 : look (tab 80) 46 = some (.iload_n 2, 1, [], uu) := by decide +kernel
theorem e_80_46 : den cf 80 46 [v0, v1, .int x, v3] st M = den cf 80 47 [v0, v1, .int x, v3] (.int x :: st) M := den_go l_80_46 rfl
theorem l_80_47 : look (tab 80) 47 = some (.invokevirtual 112, 3, [3, 50, 2, 217, 218, 219, 27], uu) := by decide +kernel
theorem e_80_47 : den cf 80 47 L (w1 :: .ref a :: st) M = if rcv M 3 [.ref a, w1] = true ∧ st.length ≤ 4 then rK (cf 50 [.ref a, w1] M) (fun v M' => den cf 80 50 L (pR v st) M') else none := den_iv [w1] l_80_47 rfl
theorem l_80_50 : look (tab 80) 50 = some (.iconst 1, 1, [], .int (zI 1)) := by decide +kernel
theorem e_80_50 : den cf 80 50 L st M = den cf 80 51 L (.int (zI 1) :: st) M := den_go l_80_50 rfl
theorem l_80_51 : look (tab 80) 51 = some (.ireturn, 1, [0], uu) := by decide +kernel
theorem e_80_51 : den cf 80 51 L [.int x] M = some (some (.int x), M) := den_e0 l_80_51
/-! yX5_says -/
theorem l_81_0 : look (tab 81) 0 = some (.aload_n 0, 1, [], uu) := by decide +kernel
theorem e_81_0 : den cf 81 0 [.ref a, v1, v2, v3, v4, v5] st M = den cf 81 1 [.ref a, v1, v2, v3, v4, v5] (.ref a :: st) M := den_go l_81_0 rfl
theorem l_81_1 : look (tab 81) 1 = some (.iload_n 1, 1, [], uu) := by decide +kernel
theorem e_81_1 : den cf 81 1 [v0, .int x, v2, v3, v4, v5] st M = den cf 81 2 [v0, .int x, v2, v3, v4, v5] (.int x :: st) M := den_go l_81_1 rfl
theorem l_81_2 : look (tab 81) 2 = some (.invokevirtual 51, 3, [5, 130, 2, 106, 107, 108, 2], uu) := by decide +kernel
theorem e_81_2 : den cf 81 2 L (w1 :: .ref a :: st) M = if rcv M 5 [.ref a, w1] = true ∧ st.length ≤ 4 then rK (cf 130 [.ref a, w1] M) (fun v M' => den cf 81 5 L (pR v st) M') else none := den_iv [w1] l_81_2 rfl
theorem l_81_5 : look (tab 81) 5 = some (.astore_n 3, 1, [], uu) := by decide +kernel
theorem e_81_5 : den cf 81 5 [v0, v1, v2, v3, v4, v5] (v :: st) M = if isRf v = true then den cf 81 6 [v0, v1, kq v2, v, v4, v5] st M else none := den_as (k := 3) (v := v) l_81_5 rfl (Nat.le_of_ble_eq_true rfl)
theorem l_81_6 : look (tab 81) 6 = some (.aload_n 3, 1, [], uu) := by decide +kernel
theorem e_81_6 : den cf 81 6 [v0, v1, v2, v3, v4, v5] st M = if isRf v3 = true then den cf 81 7 [v0, v1, v2, v3, v4, v5] (v3 :: st) M else none := den_g l_81_6 rfl
theorem l_81_7 : look (tab 81) 7 = some (.ifnull 11, 3, [18], uu) := by decide +kernel
theorem e_81_7 : den cf 81 7 L (va_rf o :: st) M = oN o (den cf 81 18 L st M) (den cf 81 10 L st M) := den_nu l_81_7
theorem e_81_7_n : den cf 81 7 L (.null :: st) M = den cf 81 18 L st M := den_go l_81_7 rfl
theorem e_81_7_r : den cf 81 7 L (.ref a :: st) M = den cf 81 10 L st M := den_go l_81_7 rfl
theorem l_81_10 : look (tab 81) 10 = some (.iload_n 2, 1, [], uu) := by decide +kernel
theorem e_81_10 : den cf 81 10 [v0, v1, .int x, v3, v4, v5] st M = den cf 81 11 [v0, v1, .int x, v3, v4, v5] (.int x :: st) M := den_go l_81_10 rfl
theorem l_81_11 : look (tab 81) 11 = some (.iconst 5, 1, [], .int (zI 5)) := by decide +kernel
theorem e_81_11 : den cf 81 11 L st M = den cf 81 12 L (.int (zI 5) :: st) M := den_go l_81_11 rfl
theorem l_81_12 : look (tab 81) 12 = some (.invokestatic 55, 3, [1, 129, 2, 110, 111, 2], uu) := by decide +kernel
theorem e_81_12 : den cf 81 12 L (w2 :: w1 :: st) M = if st.length ≤ 4 then rK (cf 129 [w1, w2] M) (fun v M' => den cf 81 15 L (pR v st) M') else none := den_ist [w1, w2] l_81_12 rfl
theorem l_81_15 : look (tab 81) 15 = some (.ifCond .ne 10, 3, [25], uu) := by decide +kernel
theorem e_81_15 : den cf 81 15 L (.int x :: st) M = if x = zI 0 then den cf 81 18 L st M else den cf 81 25 L st M := den_if_ne l_81_15
theorem l_81_18 : look (tab 81) 18 = some (.aload_n 0, 1, [], uu) := by decide +kernel
theorem e_81_18 : den cf 81 18 [.ref a, v1, v2, v3, v4, v5] st M = den cf 81 19 [.ref a, v1, v2, v3, v4, v5] (.ref a :: st) M := den_go l_81_18 rfl
theorem l_81_19 : look (tab 81) 19 = some (.bipush (-2), 2, [], .int (zI (-2))) := by decide +kernel
theorem e_81_19 : den cf 81 19 L st M = den cf 81 21 L (.int (zI (-2)) :: st) M := den_go l_81_19 rfl
theorem l_81_21 : look (tab 81) 21 = some (.invokevirtual 59, 3, [5, 128, 2, 113, 114, 115, 2], uu) := by decide +kernel
theorem e_81_21 : den cf 81 21 L (w1 :: .ref a :: st) M = if rcv M 5 [.ref a, w1] = true ∧ st.length ≤ 4 then rK (cf 128 [.ref a, w1] M) (fun v M' => den cf 81 24 L (pR v st) M') else none := den_iv [w1] l_81_21 rfl
theorem l_81_24 : look (tab 81) 24 = some (.ireturn, 1, [0], uu) := by decide +kernel
theorem e_81_24 : den cf 81 24 L [.int x] M = some (some (.int x), M) := den_e0 l_81_24
theorem l_81_25 : look (tab 81) 25 = some (.aload_n 3, 1, [], uu) := by decide +kernel
theorem e_81_25 : den cf 81 25 [v0, v1, v2, v3, v4, v5] st M = if isRf v3 = true then den cf 81 26 [v0, v1, v2, v3, v4, v5] (v3 :: st) M else none := den_g l_81_25 rfl
theorem l_81_26 : look (tab 81) 26 = some (.getfield 67, 3, [3, 0, 141], uu) := by decide +kernel
theorem e_81_26 : den cf 81 26 L (.ref a :: st) M = oK (gfA (M.2.2 a) 3 0) (fun v => den cf 81 29 L (v :: st) M) := den_gf l_81_26
theorem l_81_29 : look (tab 81) 29 = some (.iconst 1, 1, [], .int (zI 1)) := by decide +kernel
theorem e_81_29 : den cf 81 29 L st M = den cf 81 30 L (.int (zI 1) :: st) M := den_go l_81_29 rfl
theorem l_81_30 : look (tab 81) 30 = some (.if_icmp .ne 10, 3, [40], uu) := by decide +kernel
theorem e_81_30 : den cf 81 30 L (.int y :: .int x :: st) M = if x = y then den cf 81 33 L st M else den cf 81 40 L st M := den_ic_ne l_81_30
theorem l_81_33 : look (tab 81) 33 = some (.aload_n 0, 1, [], uu) := by decide +kernel
theorem e_81_33 : den cf 81 33 [.ref a, v1, v2, v3, v4, v5] st M = den cf 81 34 [.ref a, v1, v2, v3, v4, v5] (.ref a :: st) M := den_go l_81_33 rfl
theorem l_81_34 : look (tab 81) 34 = some (.bipush (-3), 2, [], .int (zI (-3))) := by decide +kernel
theorem e_81_34 : den cf 81 34 L st M = den cf 81 36 L (.int (zI (-3)) :: st) M := den_go l_81_34 rfl
theorem l_81_36 : look (tab 81) 36 = some (.invokevirtual 59, 3, [5, 128, 2, 113, 114, 115, 2], uu) := by decide +kernel
theorem e_81_36 : den cf 81 36 L (w1 :: .ref a :: st) M = if rcv M 5 [.ref a, w1] = true ∧ st.length ≤ 4 then rK (cf 128 [.ref a, w1] M) (fun v M' => den cf 81 39 L (pR v st) M') else none := den_iv [w1] l_81_36 rfl
theorem l_81_39 : look (tab 81) 39 = some (.ireturn, 1, [0], uu) := by decide +kernel
theorem e_81_39 : den cf 81 39 L [.int x] M = some (some (.int x), M) := den_e0 l_81_39
theorem l_81_40 : look (tab 81) 40 = some (.aload_n 3, 1, [], uu) := by decide +kernel
theorem e_81_40 : den cf 81 40 [v0, v1, v2, v3, v4, v5] st M = if isRf v3 = true then den cf 81 41 [v0, v1, v2, v3, v4, v5] (v3 :: st) M else none := den_g l_81_40 rfl
theorem l_81_41 : look (tab 81) 41 = some (.getfield 67, 3, [3, 0, 141], uu) := by decide +kernel
theorem e_81_41 : den cf 81 41 L (.ref a :: st) M = oK (gfA (M.2.2 a) 3 0) (fun v => den cf 81 44 L (v :: st) M) := den_gf l_81_41
theorem l_81_44 : look (tab 81) 44 = some (.iconst 2, 1, [], .int (zI 2)) := by decide +kernel
theorem e_81_44 : den cf 81 44 L st M = den cf 81 45 L (.int (zI 2) :: st) M := den_go l_81_44 rfl
theorem l_81_45 : look (tab 81) 45 = some (.if_icmp .ne 17, 3, [62], uu) := by decide +kernel
theorem e_81_45 : den cf 81 45 L (.int y :: .int x :: st) M = if x = y then den cf 81 48 L st M else den cf 81 62 L st M := den_ic_ne l_81_45
theorem l_81_48 : look (tab 81) 48 = some (.aload_n 0, 1, [], uu) := by decide +kernel
theorem e_81_48 : den cf 81 48 [.ref a, v1, v2, v3, v4, v5] st M = den cf 81 49 [.ref a, v1, v2, v3, v4, v5] (.ref a :: st) M := den_go l_81_48 rfl
theorem l_81_49 : look (tab 81) 49 = some (.getfield 10, 3, [5, 0, 16], uu) := by decide +kernel
theorem e_81_49 : den cf 81 49 L (.ref a :: st) M = oK (gfA (M.2.2 a) 5 0) (fun v => den cf 81 52 L (v :: st) M) := den_gf l_81_49
theorem l_81_52 : look (tab 81) 52 = some (.aload_n 3, 1, [], uu) := by decide +kernel
theorem e_81_52 : den cf 81 52 [v0, v1, v2, v3, v4, v5] st M = if isRf v3 = true then den cf 81 53 [v0, v1, v2, v3, v4, v5] (v3 :: st) M else none := den_g l_81_52 rfl
theorem l_81_53 : look (tab 81) 53 = some (.getfield 102, 3, [3, 1, 200], uu) := by decide +kernel
theorem e_81_53 : den cf 81 53 L (.ref a :: st) M = oK (gfA (M.2.2 a) 3 1) (fun v => den cf 81 56 L (v :: st) M) := den_gf l_81_53
theorem l_81_56 : look (tab 81) 56 = some (.invokevirtual 105, 3, [2, 24, 2, 209, 210, 211, 15], uu) := by decide +kernel
theorem e_81_56 : den cf 81 56 L (w1 :: .ref a :: st) M = if rcv M 2 [.ref a, w1] = true ∧ st.length ≤ 4 then rK (cf 24 [.ref a, w1] M) (fun v M' => den cf 81 59 L (pR v st) M') else none := den_iv [w1] l_81_56 rfl
theorem l_81_59 : look (tab 81) 59 = some (.goto 4, 3, [63], uu) := by decide +kernel
theorem e_81_59 : den cf 81 59 L st M = den cf 81 63 L st M := den_go l_81_59 rfl
theorem l_81_62 : look (tab 81) 62 = some (.aconst_null, 1, [], uu) := by decide +kernel
theorem e_81_62 : den cf 81 62 L st M = den cf 81 63 L (.null :: st) M := den_go l_81_62 rfl
theorem l_81_63 : look (tab 81) 63 = some (.astore 4, 2, [], uu) := by decide +kernel
theorem e_81_63 : den cf 81 63 [v0, v1, v2, v3, v4, v5] (v :: st) M = if isRf v = true then den cf 81 65 [v0, v1, v2, kq v3, v, v5] st M else none := den_as (k := 4) (v := v) l_81_63 rfl (Nat.le_of_ble_eq_true rfl)
theorem l_81_65 : look (tab 81) 65 = some (.aload 4, 2, [], uu) := by decide +kernel
theorem e_81_65 : den cf 81 65 [v0, v1, v2, v3, v4, v5] st M = if isRf v4 = true then den cf 81 67 [v0, v1, v2, v3, v4, v5] (v4 :: st) M else none := den_g l_81_65 rfl
theorem l_81_67 : look (tab 81) 67 = some (.ifnonnull 10, 3, [77], uu) := by decide +kernel
theorem e_81_67 : den cf 81 67 L (va_rf o :: st) M = oN o (den cf 81 70 L st M) (den cf 81 77 L st M) := den_nn l_81_67
theorem e_81_67_n : den cf 81 67 L (.null :: st) M = den cf 81 70 L st M := den_go l_81_67 rfl
theorem e_81_67_r : den cf 81 67 L (.ref a :: st) M = den cf 81 77 L st M := den_go l_81_67 rfl
theorem l_81_70 : look (tab 81) 70 = some (.aload_n 0, 1, [], uu) := by decide +kernel
theorem e_81_70 : den cf 81 70 [.ref a, v1, v2, v3, v4, v5] st M = den cf 81 71 [.ref a, v1, v2, v3, v4, v5] (.ref a :: st) M := den_go l_81_70 rfl
theorem l_81_71 : look (tab 81) 71 = some (.bipush (-4), 2, [], .int (zI (-4))) := by decide +kernel
theorem e_81_71 : den cf 81 71 L st M = den cf 81 73 L (.int (zI (-4)) :: st) M := den_go l_81_71 rfl
theorem l_81_73 : look (tab 81) 73 = some (.invokevirtual 59, 3, [5, 128, 2, 113, 114, 115, 2], uu) := by decide +kernel
theorem e_81_73 : den cf 81 73 L (w1 :: .ref a :: st) M = if rcv M 5 [.ref a, w1] = true ∧ st.length ≤ 4 then rK (cf 128 [.ref a, w1] M) (fun v M' => den cf 81 76 L (pR v st) M') else none := den_iv [w1] l_81_73 rfl
theorem l_81_76 : look (tab 81) 76 = some (.ireturn, 1, [0], uu) := by decide +kernel
theorem e_81_76 : den cf 81 76 L [.int x] M = some (some (.int x), M) := den_e0 l_81_76
theorem l_81_77 : look (tab 81) 77 = some (.aload 4, 2, [], uu) := by decide +kernel
theorem e_81_77 : den cf 81 77 [v0, v1, v2, v3, v4, v5] st M = if isRf v4 = true then den cf 81 79 [v0, v1, v2, v3, v4, v5] (v4 :: st) M else none := den_g l_81_77 rfl
theorem l_81_79 : look (tab 81) 79 = some (.getfield 116, 3, [1, 2, 235], uu) := by decide +kernel
theorem e_81_79 : den cf 81 79 L (.ref a :: st) M = oK (gfA (M.2.2 a) 1 2) (fun v => den cf 81 82 L (v :: st) M) := den_gf l_81_79
theorem l_81_82 : look (tab 81) 82 = some (.iload_n 2, 1, [], uu) := by decide +kernel
theorem e_81_82 : den cf 81 82 [v0, v1, .int x, v3, v4, v5] st M = den cf 81 83 [v0, v1, .int x, v3, v4, v5] (.int x :: st) M := den_go l_81_82 rfl
theorem l_81_83 : look (tab 81) 83 = some (.invokestatic 121, 3, [1, 132, 2, 238, 239, 2], uu) := by decide +kernel
theorem e_81_83 : den cf 81 83 L (w2 :: w1 :: st) M = if st.length ≤ 4 then rK (cf 132 [w1, w2] M) (fun v M' => den cf 81 86 L (pR v st) M') else none := den_ist [w1, w2] l_81_83 rfl
theorem l_81_86 : look (tab 81) 86 = some (.ifCond .ne 10, 3, [96], uu) := by decide +kernel
theorem e_81_86 : den cf 81 86 L (.int x :: st) M = if x = zI 0 then den cf 81 89 L st M else den cf 81 96 L st M := den_if_ne l_81_86
theorem l_81_89 : look (tab 81) 89 = some (.aload_n 0, 1, [], uu) := by decide +kernel
theorem e_81_89 : den cf 81 89 [.ref a, v1, v2, v3, v4, v5] st M = den cf 81 90 [.ref a, v1, v2, v3, v4, v5] (.ref a :: st) M := den_go l_81_89 rfl
theorem l_81_90 : look (tab 81) 90 = some (.bipush (-3), 2, [], .int (zI (-3))) := by decide +kernel
theorem e_81_90 : den cf 81 90 L st M = den cf 81 92 L (.int (zI (-3)) :: st) M := den_go l_81_90 rfl
theorem l_81_92 : look (tab 81) 92 = some (.invokevirtual 59, 3, [5, 128, 2, 113, 114, 115, 2], uu) := by decide +kernel
theorem e_81_92 : den cf 81 92 L (w1 :: .ref a :: st) M = if rcv M 5 [.ref a, w1] = true ∧ st.length ≤ 4 then rK (cf 128 [.ref a, w1] M) (fun v M' => den cf 81 95 L (pR v st) M') else none := den_iv [w1] l_81_92 rfl
theorem l_81_95 : look (tab 81) 95 = some (.ireturn, 1, [0], uu) := by decide +kernel
theorem e_81_95 : den cf 81 95 L [.int x] M = some (some (.int x), M) := den_e0 l_81_95
theorem l_81_96 : look (tab 81) 96 = some (.iload_n 2, 1, [], uu) := by decide +kernel
theorem e_81_96 : den cf 81 96 [v0, v1, .int x, v3, v4, v5] st M = den cf 81 97 [v0, v1, .int x, v3, v4, v5] (.int x :: st) M := den_go l_81_96 rfl
theorem l_81_97 : look (tab 81) 97 = some (.ifCond .ne 9, 3, [106], uu) := by decide +kernel
theorem e_81_97 : den cf 81 97 L (.int x :: st) M = if x = zI 0 then den cf 81 100 L st M else den cf 81 106 L st M := den_if_ne l_81_97
theorem l_81_100 : look (tab 81) 100 = some (.aload 4, 2, [], uu) := by decide +kernel
theorem e_81_100 : den cf 81 100 [v0, v1, v2, v3, v4, v5] st M = if isRf v4 = true then den cf 81 102 [v0, v1, v2, v3, v4, v5] (v4 :: st) M else none := den_g l_81_100 rfl
theorem l_81_102 : look (tab 81) 102 = some (.getfield 124, 3, [1, 5, 236], uu) := by decide +kernel
theorem e_81_102 : den cf 81 102 L (.ref a :: st) M = oK (gfA (M.2.2 a) 1 5) (fun v => den cf 81 105 L (v :: st) M) := den_gf l_81_102
theorem l_81_105 : look (tab 81) 105 = some (.ireturn, 1, [0], uu) := by decide +kernel
theorem e_81_105 : den cf 81 105 L [.int x] M = some (some (.int x), M) := den_e0 l_81_105
theorem l_81_106 : look (tab 81) 106 = some (.aload 4, 2, [], uu) := by decide +kernel
theorem e_81_106 : den cf 81 106 [v0, v1, v2, v3, v4, v5] st M = if isRf v4 = true then den cf 81 108 [v0, v1, v2, v3, v4, v5] (v4 :: st) M else none := den_g l_81_106 rfl
theorem l_81_108 : look (tab 81) 108 = some (.getfield 127, 3, [1, 6, 237], uu) := by decide +kernel
theorem e_81_108 : den cf 81 108 L (.ref a :: st) M = oK (gfA (M.2.2 a) 1 6) (fun v => den cf 81 111 L (v :: st) M) := den_gf l_81_108
theorem l_81_111 : look (tab 81) 111 = some (.ifnonnull 5, 3, [116], uu) := by decide +kernel
theorem e_81_111 : den cf 81 111 L (va_rf o :: st) M = oN o (den cf 81 114 L st M) (den cf 81 116 L st M) := den_nn l_81_111
theorem e_81_111_n : den cf 81 111 L (.null :: st) M = den cf 81 114 L st M := den_go l_81_111 rfl
theorem e_81_111_r : den cf 81 111 L (.ref a :: st) M = den cf 81 116 L st M := den_go l_81_111 rfl
theorem l_81_114 : look (tab 81) 114 = some (.iconst 0, 1, [], .int (zI 0)) := by decide +kernel
theorem e_81_114 : den cf 81 114 L st M = den cf 81 115 L (.int (zI 0) :: st) M := den_go l_81_114 rfl
theorem l_81_115 : look (tab 81) 115 = some (.ireturn, 1, [0], uu) := by decide +kernel
theorem e_81_115 : den cf 81 115 L [.int x] M = some (some (.int x), M) := den_e0 l_81_115
theorem l_81_116 : look (tab 81) 116 = some (.iload_n 2, 1, [], uu) := by decide +kernel
theorem e_81_116 : den cf 81 116 [v0, v1, .int x, v3, v4, v5] st M = den cf 81 117 [v0, v1, .int x, v3, v4, v5] (.int x :: st) M := den_go l_81_116 rfl
theorem l_81_117 : look (tab 81) 117 = some (.iconst 2, 1, [], .int (zI 2)) := by decide +kernel
theorem e_81_117 : den cf 81 117 L st M = den cf 81 118 L (.int (zI 2) :: st) M := den_go l_81_117 rfl
theorem l_81_118 : look (tab 81) 118 = some (.if_icmp .eq 8, 3, [126], uu) := by decide +kernel
theorem e_81_118 : den cf 81 118 L (.int y :: .int x :: st) M = if x = y then den cf 81 126 L st M else den cf 81 121 L st M := den_ic_eq l_81_118
theorem l_81_121 : look (tab 81) 121 = some (.iload_n 2, 1, [], uu) := by decide +kernel
theorem e_81_121 : den cf 81 121 [v0, v1, .int x, v3, v4, v5] st M = den cf 81 122 [v0, v1, .int x, v3, v4, v5] (.int x :: st) M := den_go l_81_121 rfl
theorem l_81_122 : look (tab 81) 122 = some (.iconst 4, 1, [], .int (zI 4)) := by decide +kernel
theorem e_81_122 : den cf 81 122 L st M = den cf 81 123 L (.int (zI 4) :: st) M := den_go l_81_122 rfl
theorem l_81_123 : look (tab 81) 123 = some (.if_icmp .ne 7, 3, [130], uu) := by decide +kernel
theorem e_81_123 : den cf 81 123 L (.int y :: .int x :: st) M = if x = y then den cf 81 126 L st M else den cf 81 130 L st M := den_ic_ne l_81_123
theorem l_81_126 : look (tab 81) 126 = some (.iconst 1, 1, [], .int (zI 1)) := by decide +kernel
theorem e_81_126 : den cf 81 126 L st M = den cf 81 127 L (.int (zI 1) :: st) M := den_go l_81_126 rfl
theorem l_81_127 : look (tab 81) 127 = some (.goto 4, 3, [131], uu) := by decide +kernel
theorem e_81_127 : den cf 81 127 L st M = den cf 81 131 L st M := den_go l_81_127 rfl
theorem l_81_130 : look (tab 81) 130 = some (.iconst 0, 1, [], .int (zI 0)) := by decide +kernel
theorem e_81_130 : den cf 81 130 L st M = den cf 81 131 L (.int (zI 0) :: st) M := den_go l_81_130 rfl
theorem l_81_131 : look (tab 81) 131 = some (.istore 5, 2, [], uu) := by decide +kernel
theorem e_81_131 : den cf 81 131 [v0, v1, v2, v3, v4, v5] (.int x :: st) M = den cf 81 133 [v0, v1, v2, v3, kq v4, .int x] st M := den_st (k := 5) (v := .int x) l_81_131 rfl
theorem l_81_133 : look (tab 81) 133 = some (.iload 5, 2, [], uu) := by decide +kernel
theorem e_81_133 : den cf 81 133 [v0, v1, v2, v3, v4, .int x] st M = den cf 81 135 [v0, v1, v2, v3, v4, .int x] (.int x :: st) M := den_go l_81_133 rfl
theorem l_81_135 : look (tab 81) 135 = some (.ifCond .eq 20, 3, [155], uu) := by decide +kernel
theorem e_81_135 : den cf 81 135 L (.int x :: st) M = if x = zI 0 then den cf 81 155 L st M else den cf 81 138 L st M := den_if_eq l_81_135
theorem l_81_138 : look (tab 81) 138 = some (.aload_n 0, 1, [], uu) := by decide +kernel
theorem e_81_138 : den cf 81 138 [.ref a, v1, v2, v3, v4, v5] st M = den cf 81 139 [.ref a, v1, v2, v3, v4, v5] (.ref a :: st) M := den_go l_81_138 rfl
theorem l_81_139 : look (tab 81) 139 = some (.getfield 10, 3, [5, 0, 16], uu) := by decide +kernel
theorem e_81_139 : den cf 81 139 L (.ref a :: st) M = oK (gfA (M.2.2 a) 5 0) (fun v => den cf 81 142 L (v :: st) M) := den_gf l_81_139
theorem l_81_142 : look (tab 81) 142 = some (.aload 4, 2, [], uu) := by decide +kernel
theorem e_81_142 : den cf 81 142 [v0, v1, v2, v3, v4, v5] st M = if isRf v4 = true then den cf 81 144 [v0, v1, v2, v3, v4, v5] (v4 :: st) M else none := den_g l_81_142 rfl
theorem l_81_144 : look (tab 81) 144 = some (.aload 4, 2, [], uu) := by decide +kernel
theorem e_81_144 : den cf 81 144 [v0, v1, v2, v3, v4, v5] st M = if isRf v4 = true then den cf 81 146 [v0, v1, v2, v3, v4, v5] (v4 :: st) M else none := den_g l_81_144 rfl
theorem l_81_146 : look (tab 81) 146 = some (.getfield 127, 3, [1, 6, 237], uu) := by decide +kernel
theorem e_81_146 : den cf 81 146 L (.ref a :: st) M = oK (gfA (M.2.2 a) 1 6) (fun v => den cf 81 149 L (v :: st) M) := den_gf l_81_146
theorem l_81_149 : look (tab 81) 149 = some (.invokevirtual 131, 3, [2, 27, 3, 241, 242, 243, 15], uu) := by decide +kernel
theorem e_81_149 : den cf 81 149 L (w2 :: w1 :: .ref a :: st) M = if rcv M 2 [.ref a, w1, w2] = true ∧ st.length ≤ 4 then rK (cf 27 [.ref a, w1, w2] M) (fun v M' => den cf 81 152 L (pR v st) M') else none := den_iv [w1, w2] l_81_149 rfl
theorem l_81_152 : look (tab 81) 152 = some (.goto 17, 3, [169], uu) := by decide +kernel
theorem e_81_152 : den cf 81 152 L st M = den cf 81 169 L st M := den_go l_81_152 rfl
theorem l_81_155 : look (tab 81) 155 = some (.aload_n 0, 1, [], uu) := by decide +kernel
theorem e_81_155 : den cf 81 155 [.ref a, v1, v2, v3, v4, v5] st M = den cf 81 156 [.ref a, v1, v2, v3, v4, v5] (.ref a :: st) M := den_go l_81_155 rfl
theorem l_81_156 : look (tab 81) 156 = some (.getfield 10, 3, [5, 0, 16], uu) := by decide +kernel
theorem e_81_156 : den cf 81 156 L (.ref a :: st) M = oK (gfA (M.2.2 a) 5 0) (fun v => den cf 81 159 L (v :: st) M) := den_gf l_81_156
theorem l_81_159 : look (tab 81) 159 = some (.aload 4, 2, [], uu) := by decide +kernel
theorem e_81_159 : den cf 81 159 [v0, v1, v2, v3, v4, v5] st M = if isRf v4 = true then den cf 81 161 [v0, v1, v2, v3, v4, v5] (v4 :: st) M else none := den_g l_81_159 rfl
theorem l_81_161 : look (tab 81) 161 = some (.aload 4, 2, [], uu) := by decide +kernel
theorem e_81_161 : den cf 81 161 [v0, v1, v2, v3, v4, v5] st M = if isRf v4 = true then den cf 81 163 [v0, v1, v2, v3, v4, v5] (v4 :: st) M else none := den_g l_81_161 rfl
theorem l_81_163 : look (tab 81) 163 = some (.getfield 127, 3, [1, 6, 237], uu) := by decide +kernel
theorem e_81_163 : den cf 81 163 L (.ref a :: st) M = oK (gfA (M.2.2 a) 1 6) (fun v => den cf 81 166 L (v :: st) M) := den_gf l_81_163
theorem l_81_166 : look (tab 81) 166 = some (.invokevirtual 135, 3, [2, 29, 3, 272, 273, 274, 15], uu) := by decide +kernel
theorem e_81_166 : den cf 81 166 L (w2 :: w1 :: .ref a :: st) M = if rcv M 2 [.ref a, w1, w2] = true ∧ st.length ≤ 4 then rK (cf 29 [.ref a, w1, w2] M) (fun v M' => den cf 81 169 L (pR v st) M') else none := den_iv [w1, w2] l_81_166 rfl
theorem l_81_169 : look (tab 81) 169 = some (.ireturn, 1, [0], uu) := by decide +kernel
theorem e_81_169 : den cf 81 169 L [.int x] M = some (some (.int x), M) := den_e0 l_81_169
/-! yX5_pupil -/
theorem l_82_0 : look (tab 82) 0 = some (.iload_n 1, 1, [], uu) := by decide +kernel
theorem e_82_0 : den cf 82 0 [v0, .int x, v2, v3] st M = den cf 82 1 [v0, .int x, v2, v3] (.int x :: st) M := den_go l_82_0 rfl
theorem l_82_1 : look (tab 82) 1 = some (.iconst 5, 1, [], .int (zI 5)) := by decide +kernel
theorem e_82_1 : den cf 82 1 L st M = den cf 82 2 L (.int (zI 5) :: st) M := den_go l_82_1 rfl
theorem l_82_2 : look (tab 82) 2 = some (.invokestatic 55, 3, [1, 129, 2, 110, 111, 2], uu) := by decide +kernel
theorem e_82_2 : den cf 82 2 L (w2 :: w1 :: st) M = if st.length ≤ 4 then rK (cf 129 [w1, w2] M) (fun v M' => den cf 82 5 L (pR v st) M') else none := den_ist [w1, w2] l_82_2 rfl
theorem l_82_5 : look (tab 82) 5 = some (.ifCond .eq 20, 3, [25], uu) := by decide +kernel
theorem e_82_5 : den cf 82 5 L (.int x :: st) M = if x = zI 0 then den cf 82 25 L st M else den cf 82 8 L st M := den_if_eq l_82_5
theorem l_82_8 : look (tab 82) 8 = some (.iload_n 2, 1, [], uu) := by decide +kernel
theorem e_82_8 : den cf 82 8 [v0, v1, .int x, v3] st M = den cf 82 9 [v0, v1, .int x, v3] (.int x :: st) M := den_go l_82_8 rfl
theorem l_82_9 : look (tab 82) 9 = some (.bipush 9, 2, [], .int (zI 9)) := by decide +kernel
theorem e_82_9 : den cf 82 9 L st M = den cf 82 11 L (.int (zI 9) :: st) M := den_go l_82_9 rfl
theorem l_82_11 : look (tab 82) 11 = some (.invokestatic 55, 3, [1, 129, 2, 110, 111, 2], uu) := by decide +kernel
theorem e_82_11 : den cf 82 11 L (w2 :: w1 :: st) M = if st.length ≤ 4 then rK (cf 129 [w1, w2] M) (fun v M' => den cf 82 14 L (pR v st) M') else none := den_ist [w1, w2] l_82_11 rfl
theorem l_82_14 : look (tab 82) 14 = some (.ifCond .eq 11, 3, [25], uu) := by decide +kernel
theorem e_82_14 : den cf 82 14 L (.int x :: st) M = if x = zI 0 then den cf 82 25 L st M else den cf 82 17 L st M := den_if_eq l_82_14
theorem l_82_17 : look (tab 82) 17 = some (.iload_n 3, 1, [], uu) := by decide +kernel
theorem e_82_17 : den cf 82 17 [v0, v1, v2, .int x] st M = den cf 82 18 [v0, v1, v2, .int x] (.int x :: st) M := den_go l_82_17 rfl
theorem l_82_18 : look (tab 82) 18 = some (.iconst 1, 1, [], .int (zI 1)) := by decide +kernel
theorem e_82_18 : den cf 82 18 L st M = den cf 82 19 L (.int (zI 1) :: st) M := den_go l_82_18 rfl
theorem l_82_19 : look (tab 82) 19 = some (.invokestatic 55, 3, [1, 129, 2, 110, 111, 2], uu) := by decide +kernel
theorem e_82_19 : den cf 82 19 L (w2 :: w1 :: st) M = if st.length ≤ 4 then rK (cf 129 [w1, w2] M) (fun v M' => den cf 82 22 L (pR v st) M') else none := den_ist [w1, w2] l_82_19 rfl
theorem l_82_22 : look (tab 82) 22 = some (.ifCond .ne 10, 3, [32], uu) := by decide +kernel
theorem e_82_22 : den cf 82 22 L (.int x :: st) M = if x = zI 0 then den cf 82 25 L st M else den cf 82 32 L st M := den_if_ne l_82_22
theorem l_82_25 : look (tab 82) 25 = some (.aload_n 0, 1, [], uu) := by decide +kernel
theorem e_82_25 : den cf 82 25 [.ref a, v1, v2, v3] st M = den cf 82 26 [.ref a, v1, v2, v3] (.ref a :: st) M := den_go l_82_25 rfl
theorem l_82_26 : look (tab 82) 26 = some (.bipush (-2), 2, [], .int (zI (-2))) := by decide +kernel
theorem e_82_26 : den cf 82 26 L st M = den cf 82 28 L (.int (zI (-2)) :: st) M := den_go l_82_26 rfl
theorem l_82_28 : look (tab 82) 28 = some (.invokevirtual 59, 3, [5, 128, 2, 113, 114, 115, 2], uu) := by decide +kernel
theorem e_82_28 : den cf 82 28 L (w1 :: .ref a :: st) M = if rcv M 5 [.ref a, w1] = true ∧ st.length ≤ 4 then rK (cf 128 [.ref a, w1] M) (fun v M' => den cf 82 31 L (pR v st) M') else none := den_iv [w1] l_82_28 rfl
theorem l_82_31 : look (tab 82) 31 = some (.ireturn, 1, [0], uu) := by decide +kernel
theorem e_82_31 : den cf 82 31 L [.int x] M = some (some (.int x), M) := den_e0 l_82_31
theorem l_82_32 : look (tab 82) 32 = some (.aload_n 0, 1, [], uu) := by decide +kernel
theorem e_82_32 : den cf 82 32 [.ref a, v1, v2, v3] st M = den cf 82 33 [.ref a, v1, v2, v3] (.ref a :: st) M := den_go l_82_32 rfl
theorem l_82_33 : look (tab 82) 33 = some (.getfield 10, 3, [5, 0, 16], uu) := by decide +kernel
theorem e_82_33 : den cf 82 33 L (.ref a :: st) M = oK (gfA (M.2.2 a) 5 0) (fun v => den cf 82 36 L (v :: st) M) := den_gf l_82_33
theorem l_82_36 : look (tab 82) 36 = some (.getfield 138, 3, [2, 1, 303], uu) := by decide +kernel
theorem e_82_36 : den cf 82 36 L (.ref a :: st) M = oK (gfA (M.2.2 a) 2 1) (fun v => den cf 82 39 L (v :: st) M) := den_gf l_82_36
theorem l_82_39 : look (tab 82) 39 = some (.bipush 12, 2, [], .int (zI 12)) := by decide +kernel
theorem e_82_39 : den cf 82 39 L st M = den cf 82 41 L (.int (zI 12) :: st) M := den_go l_82_39 rfl
theorem l_82_41 : look (tab 82) 41 = some (.if_icmp .lt 10, 3, [51], uu) := by decide +kernel
theorem e_82_41 : den cf 82 41 L (.int y :: .int x :: st) M = if x < y then den cf 82 51 L st M else den cf 82 44 L st M := den_ic_lt l_82_41
theorem l_82_44 : look (tab 82) 44 = some (.aload_n 0, 1, [], uu) := by decide +kernel
theorem e_82_44 : den cf 82 44 [.ref a, v1, v2, v3] st M = den cf 82 45 [.ref a, v1, v2, v3] (.ref a :: st) M := den_go l_82_44 rfl
theorem l_82_45 : look (tab 82) 45 = some (.bipush (-6), 2, [], .int (zI (-6))) := by decide +kernel
theorem e_82_45 : den cf 82 45 L st M = den cf 82 47 L (.int (zI (-6)) :: st) M := den_go l_82_45 rfl
theorem l_82_47 : look (tab 82) 47 = some (.invokevirtual 59, 3, [5, 128, 2, 113, 114, 115, 2], uu) := by decide +kernel
theorem e_82_47 : den cf 82 47 L (w1 :: .ref a :: st) M = if rcv M 5 [.ref a, w1] = true ∧ st.length ≤ 4 then rK (cf 128 [.ref a, w1] M) (fun v M' => den cf 82 50 L (pR v st) M') else none := den_iv [w1] l_82_47 rfl
theorem l_82_50 : look (tab 82) 50 = some (.ireturn, 1, [0], uu) := by decide +kernel
theorem e_82_50 : den cf 82 50 L [.int x] M = some (some (.int x), M) := den_e0 l_82_50
theorem l_82_51 : look (tab 82) 51 = some (.aload_n 0, 1, [], uu) := by decide +kernel
theorem e_82_51 : den cf 82 51 [.ref a, v1, v2, v3] st M = den cf 82 52 [.ref a, v1, v2, v3] (.ref a :: st) M := den_go l_82_51 rfl
theorem l_82_52 : look (tab 82) 52 = some (.getfield 10, 3, [5, 0, 16], uu) := by decide +kernel
theorem e_82_52 : den cf 82 52 L (.ref a :: st) M = oK (gfA (M.2.2 a) 5 0) (fun v => den cf 82 55 L (v :: st) M) := den_gf l_82_52
theorem l_82_55 : look (tab 82) 55 = some (.iload_n 1, 1, [], uu) := by decide +kernel
theorem e_82_55 : den cf 82 55 [v0, .int x, v2, v3] st M = den cf 82 56 [v0, .int x, v2, v3] (.int x :: st) M := den_go l_82_55 rfl
theorem l_82_56 : look (tab 82) 56 = some (.iload_n 2, 1, [], uu) := by decide +kernel
theorem e_82_56 : den cf 82 56 [v0, v1, .int x, v3] st M = den cf 82 57 [v0, v1, .int x, v3] (.int x :: st) M := den_go l_82_56 rfl
theorem l_82_57 : look (tab 82) 57 = some (.iload_n 3, 1, [], uu) := by decide +kernel
theorem e_82_57 : den cf 82 57 [v0, v1, v2, .int x] st M = den cf 82 58 [v0, v1, v2, .int x] (.int x :: st) M := den_go l_82_57 rfl
theorem l_82_58 : look (tab 82) 58 = some (.invokevirtual 141, 3, [2, 25, 4, 304, 305, 306, 15], uu) := by decide +kernel
theorem e_82_58 : den cf 82 58 L (w3 :: w2 :: w1 :: .ref a :: st) M = if rcv M 2 [.ref a, w1, w2, w3] = true ∧ st.length ≤ 4 then rK (cf 25 [.ref a, w1, w2, w3] M) (fun v M' => den cf 82 61 L (pR v st) M') else none := den_iv [w1, w2, w3] l_82_58 rfl
theorem l_82_61 : look (tab 82) 61 = some (.ireturn, 1, [0], uu) := by decide +kernel
theorem e_82_61 : den cf 82 61 L [.int x] M = some (some (.int x), M) := den_e0 l_82_61
/-! yX5_likes -/
theorem l_83_0 : look (tab 83) 0 = some (.aload_n 0, 1, [], uu) := by decide +kernel
theorem e_83_0 : den cf 83 0 [.ref a, v1, v2, v3, v4, v5] st M = den cf 83 1 [.ref a, v1, v2, v3, v4, v5] (.ref a :: st) M := den_go l_83_0 rfl
theorem l_83_1 : look (tab 83) 1 = some (.getfield 10, 3, [5, 0, 16], uu) := by decide +kernel
theorem e_83_1 : den cf 83 1 L (.ref a :: st) M = oK (gfA (M.2.2 a) 5 0) (fun v => den cf 83 4 L (v :: st) M) := den_gf l_83_1
theorem l_83_4 : look (tab 83) 4 = some (.iload_n 1, 1, [], uu) := by decide +kernel
theorem e_83_4 : den cf 83 4 [v0, .int x, v2, v3, v4, v5] st M = den cf 83 5 [v0, .int x, v2, v3, v4, v5] (.int x :: st) M := den_go l_83_4 rfl
theorem l_83_5 : look (tab 83) 5 = some (.invokevirtual 105, 3, [2, 24, 2, 209, 210, 211, 15], uu) := by decide +kernel
theorem e_83_5 : den cf 83 5 L (w1 :: .ref a :: st) M = if rcv M 2 [.ref a, w1] = true ∧ st.length ≤ 4 then rK (cf 24 [.ref a, w1] M) (fun v M' => den cf 83 8 L (pR v st) M') else none := den_iv [w1] l_83_5 rfl
theorem l_83_8 : look (tab 83) 8 = some (.astore 4, 2, [], uu) := by decide +kernel
theorem e_83_8 : den cf 83 8 [v0, v1, v2, v3, v4, v5] (v :: st) M = if isRf v = true then den cf 83 10 [v0, v1, v2, kq v3, v, v5] st M else none := den_as (k := 4) (v := v) l_83_8 rfl (Nat.le_of_ble_eq_true rfl)
theorem l_83_10 : look (tab 83) 10 = some (.aload 4, 2, [], uu) := by decide +kernel
theorem e_83_10 : den cf 83 10 [v0, v1, v2, v3, v4, v5] st M = if isRf v4 = true then den cf 83 12 [v0, v1, v2, v3, v4, v5] (v4 :: st) M else none := den_g l_83_10 rfl
theorem l_83_12 : look (tab 83) 12 = some (.ifnull 12, 3, [24], uu) := by decide +kernel
theorem e_83_12 : den cf 83 12 L (va_rf o :: st) M = oN o (den cf 83 24 L st M) (den cf 83 15 L st M) := den_nu l_83_12
theorem e_83_12_n : den cf 83 12 L (.null :: st) M = den cf 83 24 L st M := den_go l_83_12 rfl
theorem e_83_12_r : den cf 83 12 L (.ref a :: st) M = den cf 83 15 L st M := den_go l_83_12 rfl
theorem l_83_15 : look (tab 83) 15 = some (.iload_n 2, 1, [], uu) := by decide +kernel
theorem e_83_15 : den cf 83 15 [v0, v1, .int x, v3, v4, v5] st M = den cf 83 16 [v0, v1, .int x, v3, v4, v5] (.int x :: st) M := den_go l_83_15 rfl
theorem l_83_16 : look (tab 83) 16 = some (.bipush 7, 2, [], .int (zI 7)) := by decide +kernel
theorem e_83_16 : den cf 83 16 L st M = den cf 83 18 L (.int (zI 7) :: st) M := den_go l_83_16 rfl
theorem l_83_18 : look (tab 83) 18 = some (.invokestatic 55, 3, [1, 129, 2, 110, 111, 2], uu) := by decide +kernel
theorem e_83_18 : den cf 83 18 L (w2 :: w1 :: st) M = if st.length ≤ 4 then rK (cf 129 [w1, w2] M) (fun v M' => den cf 83 21 L (pR v st) M') else none := den_ist [w1, w2] l_83_18 rfl
theorem l_83_21 : look (tab 83) 21 = some (.ifCond .ne 10, 3, [31], uu) := by decide +kernel
theorem e_83_21 : den cf 83 21 L (.int x :: st) M = if x = zI 0 then den cf 83 24 L st M else den cf 83 31 L st M := den_if_ne l_83_21
theorem l_83_24 : look (tab 83) 24 = some (.aload_n 0, 1, [], uu) := by decide +kernel
theorem e_83_24 : den cf 83 24 [.ref a, v1, v2, v3, v4, v5] st M = den cf 83 25 [.ref a, v1, v2, v3, v4, v5] (.ref a :: st) M := den_go l_83_24 rfl
theorem l_83_25 : look (tab 83) 25 = some (.bipush (-2), 2, [], .int (zI (-2))) := by decide +kernel
theorem e_83_25 : den cf 83 25 L st M = den cf 83 27 L (.int (zI (-2)) :: st) M := den_go l_83_25 rfl
theorem l_83_27 : look (tab 83) 27 = some (.invokevirtual 59, 3, [5, 128, 2, 113, 114, 115, 2], uu) := by decide +kernel
theorem e_83_27 : den cf 83 27 L (w1 :: .ref a :: st) M = if rcv M 5 [.ref a, w1] = true ∧ st.length ≤ 4 then rK (cf 128 [.ref a, w1] M) (fun v M' => den cf 83 30 L (pR v st) M') else none := den_iv [w1] l_83_27 rfl
theorem l_83_30 : look (tab 83) 30 = some (.ireturn, 1, [0], uu) := by decide +kernel
theorem e_83_30 : den cf 83 30 L [.int x] M = some (some (.int x), M) := den_e0 l_83_30
theorem l_83_31 : look (tab 83) 31 = some (.aload 4, 2, [], uu) := by decide +kernel
theorem e_83_31 : den cf 83 31 [v0, v1, v2, v3, v4, v5] st M = if isRf v4 = true then den cf 83 33 [v0, v1, v2, v3, v4, v5] (v4 :: st) M else none := den_g l_83_31 rfl
theorem l_83_33 : look (tab 83) 33 = some (.getfield 124, 3, [1, 5, 236], uu) := by decide +kernel
theorem e_83_33 : den cf 83 33 L (.ref a :: st) M = oK (gfA (M.2.2 a) 1 5) (fun v => den cf 83 36 L (v :: st) M) := den_gf l_83_33
theorem l_83_36 : look (tab 83) 36 = some (.iload_n 2, 1, [], uu) := by decide +kernel
theorem e_83_36 : den cf 83 36 [v0, v1, .int x, v3, v4, v5] st M = den cf 83 37 [v0, v1, .int x, v3, v4, v5] (.int x :: st) M := den_go l_83_36 rfl
theorem l_83_37 : look (tab 83) 37 = some (.ishr, 1, [], uu) := by decide +kernel
theorem e_83_37 : den cf 83 37 L (.int y :: .int x :: st) M = den cf 83 38 L (.int (x >>> (y &&& 31)) :: st) M := den_go l_83_37 rfl
theorem l_83_38 : look (tab 83) 38 = some (.iconst 1, 1, [], .int (zI 1)) := by decide +kernel
theorem e_83_38 : den cf 83 38 L st M = den cf 83 39 L (.int (zI 1) :: st) M := den_go l_83_38 rfl
theorem l_83_39 : look (tab 83) 39 = some (.iand, 1, [], uu) := by decide +kernel
theorem e_83_39 : den cf 83 39 L (.int y :: .int x :: st) M = den cf 83 40 L (.int (x &&& y) :: st) M := den_go l_83_39 rfl
theorem l_83_40 : look (tab 83) 40 = some (.istore 5, 2, [], uu) := by decide +kernel
theorem e_83_40 : den cf 83 40 [v0, v1, v2, v3, v4, v5] (.int x :: st) M = den cf 83 42 [v0, v1, v2, v3, kq v4, .int x] st M := den_st (k := 5) (v := .int x) l_83_40 rfl
theorem l_83_42 : look (tab 83) 42 = some (.aload 4, 2, [], uu) := by decide +kernel
theorem e_83_42 : den cf 83 42 [v0, v1, v2, v3, v4, v5] st M = if isRf v4 = true then den cf 83 44 [v0, v1, v2, v3, v4, v5] (v4 :: st) M else none := den_g l_83_42 rfl
theorem l_83_44 : look (tab 83) 44 = some (.iload_n 3, 1, [], uu) := by decide +kernel
theorem e_83_44 : den cf 83 44 [v0, v1, v2, .int x, v4, v5] st M = den cf 83 45 [v0, v1, v2, .int x, v4, v5] (.int x :: st) M := den_go l_83_44 rfl
theorem l_83_45 : look (tab 83) 45 = some (.ifCond .eq 15, 3, [60], uu) := by decide +kernel
theorem e_83_45 : den cf 83 45 L (.int x :: st) M = if x = zI 0 then den cf 83 60 L st M else den cf 83 48 L st M := den_if_eq l_83_45
theorem l_83_48 : look (tab 83) 48 = some (.aload 4, 2, [], uu) := by decide +kernel
theorem e_83_48 : den cf 83 48 [v0, v1, v2, v3, v4, v5] st M = if isRf v4 = true then den cf 83 50 [v0, v1, v2, v3, v4, v5] (v4 :: st) M else none := den_g l_83_48 rfl
theorem l_83_50 : look (tab 83) 50 = some (.getfield 124, 3, [1, 5, 236], uu) := by decide +kernel
theorem e_83_50 : den cf 83 50 L (.ref a :: st) M = oK (gfA (M.2.2 a) 1 5) (fun v => den cf 83 53 L (v :: st) M) := den_gf l_83_50
theorem l_83_53 : look (tab 83) 53 = some (.iconst 1, 1, [], .int (zI 1)) := by decide +kernel
theorem e_83_53 : den cf 83 53 L st M = den cf 83 54 L (.int (zI 1) :: st) M := den_go l_83_53 rfl
theorem l_83_54 : look (tab 83) 54 = some (.iload_n 2, 1, [], uu) := by decide +kernel
theorem e_83_54 : den cf 83 54 [v0, v1, .int x, v3, v4, v5] st M = den cf 83 55 [v0, v1, .int x, v3, v4, v5] (.int x :: st) M := den_go l_83_54 rfl
theorem l_83_55 : look (tab 83) 55 = some (.ishl, 1, [], uu) := by decide +kernel
theorem e_83_55 : den cf 83 55 L (.int y :: .int x :: st) M = den cf 83 56 L (.int (x <<< (y &&& 31)) :: st) M := den_go l_83_55 rfl
theorem l_83_56 : look (tab 83) 56 = some (.ior, 1, [], uu) := by decide +kernel
theorem e_83_56 : den cf 83 56 L (.int y :: .int x :: st) M = den cf 83 57 L (.int (x ||| y) :: st) M := den_go l_83_56 rfl
theorem l_83_57 : look (tab 83) 57 = some (.goto 14, 3, [71], uu) := by decide +kernel
theorem e_83_57 : den cf 83 57 L st M = den cf 83 71 L st M := den_go l_83_57 rfl
theorem l_83_60 : look (tab 83) 60 = some (.aload 4, 2, [], uu) := by decide +kernel
theorem e_83_60 : den cf 83 60 [v0, v1, v2, v3, v4, v5] st M = if isRf v4 = true then den cf 83 62 [v0, v1, v2, v3, v4, v5] (v4 :: st) M else none := den_g l_83_60 rfl
theorem l_83_62 : look (tab 83) 62 = some (.getfield 124, 3, [1, 5, 236], uu) := by decide +kernel
theorem e_83_62 : den cf 83 62 L (.ref a :: st) M = oK (gfA (M.2.2 a) 1 5) (fun v => den cf 83 65 L (v :: st) M) := den_gf l_83_62
theorem l_83_65 : look (tab 83) 65 = some (.iconst 1, 1, [], .int (zI 1)) := by decide +kernel
theorem e_83_65 : den cf 83 65 L st M = den cf 83 66 L (.int (zI 1) :: st) M := den_go l_83_65 rfl
theorem l_83_66 : look (tab 83) 66 = some (.iload_n 2, 1, [], uu) := by decide +kernel
theorem e_83_66 : den cf 83 66 [v0, v1, .int x, v3, v4, v5] st M = den cf 83 67 [v0, v1, .int x, v3, v4, v5] (.int x :: st) M := den_go l_83_66 rfl
theorem l_83_67 : look (tab 83) 67 = some (.ishl, 1, [], uu) := by decide +kernel
theorem e_83_67 : den cf 83 67 L (.int y :: .int x :: st) M = den cf 83 68 L (.int (x <<< (y &&& 31)) :: st) M := den_go l_83_67 rfl
theorem l_83_68 : look (tab 83) 68 = some (.iconst (-1), 1, [], .int (zI (-1))) := by decide +kernel
theorem e_83_68 : den cf 83 68 L st M = den cf 83 69 L (.int (zI (-1)) :: st) M := den_go l_83_68 rfl
theorem l_83_69 : look (tab 83) 69 = some (.ixor, 1, [], uu) := by decide +kernel
theorem e_83_69 : den cf 83 69 L (.int y :: .int x :: st) M = den cf 83 70 L (.int (x ^^^ y) :: st) M := den_go l_83_69 rfl
theorem l_83_70 : look (tab 83) 70 = some (.iand, 1, [], uu) := by decide +kernel
theorem e_83_70 : den cf 83 70 L (.int y :: .int x :: st) M = den cf 83 71 L (.int (x &&& y) :: st) M := den_go l_83_70 rfl
theorem l_83_71 : look (tab 83) 71 = some (.putfield 124, 3, [1, 5, 0, 236, 0], uu) := by decide +kernel
theorem e_83_71 : den cf 83 71 L (.int x :: .ref a :: st) M = oK (pfA (M.2.2 a) 1 5 (.int x)) (fun c => den cf 83 74 L st (mU M a c)) := den_pf0 l_83_71
theorem l_83_74 : look (tab 83) 74 = some (.iload 5, 2, [], uu) := by decide +kernel
theorem e_83_74 : den cf 83 74 [v0, v1, v2, v3, v4, .int x] st M = den cf 83 76 [v0, v1, v2, v3, v4, .int x] (.int x :: st) M := den_go l_83_74 rfl
theorem l_83_76 : look (tab 83) 76 = some (.ireturn, 1, [0], uu) := by decide +kernel
theorem e_83_76 : den cf 83 76 L [.int x] M = some (some (.int x), M) := den_e0 l_83_76
/-! yX5_pair -/
theorem l_84_0 : look (tab 84) 0 = some (.aload_n 0, 1, [], uu) := by decide +kernel
theorem e_84_0 : den cf 84 0 [.ref a, v1, v2, v3, v4] st M = den cf 84 1 [.ref a, v1, v2, v3, v4] (.ref a :: st) M := den_go l_84_0 rfl
theorem l_84_1 : look (tab 84) 1 = some (.getfield 10, 3, [5, 0, 16], uu) := by decide +kernel
theorem e_84_1 : den cf 84 1 L (.ref a :: st) M = oK (gfA (M.2.2 a) 5 0) (fun v => den cf 84 4 L (v :: st) M) := den_gf l_84_1
theorem l_84_4 : look (tab 84) 4 = some (.iload_n 1, 1, [], uu) := by decide +kernel
theorem e_84_4 : den cf 84 4 [v0, .int x, v2, v3, v4] st M = den cf 84 5 [v0, .int x, v2, v3, v4] (.int x :: st) M := den_go l_84_4 rfl
theorem l_84_5 : look (tab 84) 5 = some (.invokevirtual 105, 3, [2, 24, 2, 209, 210, 211, 15], uu) := by decide +kernel
theorem e_84_5 : den cf 84 5 L (w1 :: .ref a :: st) M = if rcv M 2 [.ref a, w1] = true ∧ st.length ≤ 4 then rK (cf 24 [.ref a, w1] M) (fun v M' => den cf 84 8 L (pR v st) M') else none := den_iv [w1] l_84_5 rfl
theorem l_84_8 : look (tab 84) 8 = some (.astore_n 3, 1, [], uu) := by decide +kernel
theorem e_84_8 : den cf 84 8 [v0, v1, v2, v3, v4] (v :: st) M = if isRf v = true then den cf 84 9 [v0, v1, kq v2, v, v4] st M else none := den_as (k := 3) (v := v) l_84_8 rfl (Nat.le_of_ble_eq_true rfl)
theorem l_84_9 : look (tab 84) 9 = some (.aload_n 0, 1, [], uu) := by decide +kernel
theorem e_84_9 : den cf 84 9 [.ref a, v1, v2, v3, v4] st M = den cf 84 10 [.ref a, v1, v2, v3, v4] (.ref a :: st) M := den_go l_84_9 rfl
theorem l_84_10 : look (tab 84) 10 = some (.getfield 10, 3, [5, 0, 16], uu) := by decide +kernel
theorem e_84_10 : den cf 84 10 L (.ref a :: st) M = oK (gfA (M.2.2 a) 5 0) (fun v => den cf 84 13 L (v :: st) M) := den_gf l_84_10
theorem l_84_13 : look (tab 84) 13 = some (.iload_n 2, 1, [], uu) := by decide +kernel
theorem e_84_13 : den cf 84 13 [v0, v1, .int x, v3, v4] st M = den cf 84 14 [v0, v1, .int x, v3, v4] (.int x :: st) M := den_go l_84_13 rfl
theorem l_84_14 : look (tab 84) 14 = some (.invokevirtual 105, 3, [2, 24, 2, 209, 210, 211, 15], uu) := by decide +kernel
theorem e_84_14 : den cf 84 14 L (w1 :: .ref a :: st) M = if rcv M 2 [.ref a, w1] = true ∧ st.length ≤ 4 then rK (cf 24 [.ref a, w1] M) (fun v M' => den cf 84 17 L (pR v st) M') else none := den_iv [w1] l_84_14 rfl
theorem l_84_17 : look (tab 84) 17 = some (.astore 4, 2, [], uu) := by decide +kernel
theorem e_84_17 : den cf 84 17 [v0, v1, v2, v3, v4] (v :: st) M = if isRf v = true then den cf 84 19 [v0, v1, v2, kq v3, v] st M else none := den_as (k := 4) (v := v) l_84_17 rfl (Nat.le_of_ble_eq_true rfl)
theorem l_84_19 : look (tab 84) 19 = some (.aload_n 3, 1, [], uu) := by decide +kernel
theorem e_84_19 : den cf 84 19 [v0, v1, v2, v3, v4] st M = if isRf v3 = true then den cf 84 20 [v0, v1, v2, v3, v4] (v3 :: st) M else none := den_g l_84_19 rfl
theorem l_84_20 : look (tab 84) 20 = some (.ifnull 8, 3, [28], uu) := by decide +kernel
theorem e_84_20 : den cf 84 20 L (va_rf o :: st) M = oN o (den cf 84 28 L st M) (den cf 84 23 L st M) := den_nu l_84_20
theorem e_84_20_n : den cf 84 20 L (.null :: st) M = den cf 84 28 L st M := den_go l_84_20 rfl
theorem e_84_20_r : den cf 84 20 L (.ref a :: st) M = den cf 84 23 L st M := den_go l_84_20 rfl
theorem l_84_23 : look (tab 84) 23 = some (.aload 4, 2, [], uu) := by decide +kernel
theorem e_84_23 : den cf 84 23 [v0, v1, v2, v3, v4] st M = if isRf v4 = true then den cf 84 25 [v0, v1, v2, v3, v4] (v4 :: st) M else none := den_g l_84_23 rfl
theorem l_84_25 : look (tab 84) 25 = some (.ifnonnull 10, 3, [35], uu) := by decide +kernel
theorem e_84_25 : den cf 84 25 L (va_rf o :: st) M = oN o (den cf 84 28 L st M) (den cf 84 35 L st M) := den_nn l_84_25
theorem e_84_25_n : den cf 84 25 L (.null :: st) M = den cf 84 28 L st M := den_go l_84_25 rfl
theorem e_84_25_r : den cf 84 25 L (.ref a :: st) M = den cf 84 35 L st M := den_go l_84_25 rfl
theorem l_84_28 : look (tab 84) 28 = some (.aload_n 0, 1, [], uu) := by decide +kernel
theorem e_84_28 : den cf 84 28 [.ref a, v1, v2, v3, v4] st M = den cf 84 29 [.ref a, v1, v2, v3, v4] (.ref a :: st) M := den_go l_84_28 rfl
theorem l_84_29 : look (tab 84) 29 = some (.bipush (-2), 2, [], .int (zI (-2))) := by decide +kernel
theorem e_84_29 : den cf 84 29 L st M = den cf 84 31 L (.int (zI (-2)) :: st) M := den_go l_84_29 rfl
theorem l_84_31 : look (tab 84) 31 = some (.invokevirtual 59, 3, [5, 128, 2, 113, 114, 115, 2], uu) := by decide +kernel
theorem e_84_31 : den cf 84 31 L (w1 :: .ref a :: st) M = if rcv M 5 [.ref a, w1] = true ∧ st.length ≤ 4 then rK (cf 128 [.ref a, w1] M) (fun v M' => den cf 84 34 L (pR v st) M') else none := den_iv [w1] l_84_31 rfl
theorem l_84_34 : look (tab 84) 34 = some (.ireturn, 1, [0], uu) := by decide +kernel
theorem e_84_34 : den cf 84 34 L [.int x] M = some (some (.int x), M) := den_e0 l_84_34
theorem l_84_35 : look (tab 84) 35 = some (.aload_n 3, 1, [], uu) := by decide +kernel
theorem e_84_35 : den cf 84 35 [v0, v1, v2, v3, v4] st M = if isRf v3 = true then den cf 84 36 [v0, v1, v2, v3, v4] (v3 :: st) M else none := den_g l_84_35 rfl
theorem l_84_36 : look (tab 84) 36 = some (.iconst 0, 1, [], .int (zI 0)) := by decide +kernel
theorem e_84_36 : den cf 84 36 L st M = den cf 84 37 L (.int (zI 0) :: st) M := den_go l_84_36 rfl
theorem l_84_37 : look (tab 84) 37 = some (.invokevirtual 145, 3, [1, 15, 2, 345, 346, 347, 41], uu) := by decide +kernel
theorem e_84_37 : den cf 84 37 L (w1 :: .ref a :: st) M = if rcv M 1 [.ref a, w1] = true ∧ st.length ≤ 4 then rK (cf 15 [.ref a, w1] M) (fun v M' => den cf 84 40 L (pR v st) M') else none := den_iv [w1] l_84_37 rfl
theorem l_84_40 : look (tab 84) 40 = some (.ifCond .eq 12, 3, [52], uu) := by decide +kernel
theorem e_84_40 : den cf 84 40 L (.int x :: st) M = if x = zI 0 then den cf 84 52 L st M else den cf 84 43 L st M := den_if_eq l_84_40
theorem l_84_43 : look (tab 84) 43 = some (.aload 4, 2, [], uu) := by decide +kernel
theorem e_84_43 : den cf 84 43 [v0, v1, v2, v3, v4] st M = if isRf v4 = true then den cf 84 45 [v0, v1, v2, v3, v4] (v4 :: st) M else none := den_g l_84_43 rfl
theorem l_84_45 : look (tab 84) 45 = some (.iconst 1, 1, [], .int (zI 1)) := by decide +kernel
theorem e_84_45 : den cf 84 45 L st M = den cf 84 46 L (.int (zI 1) :: st) M := den_go l_84_45 rfl
theorem l_84_46 : look (tab 84) 46 = some (.invokevirtual 145, 3, [1, 15, 2, 345, 346, 347, 41], uu) := by decide +kernel
theorem e_84_46 : den cf 84 46 L (w1 :: .ref a :: st) M = if rcv M 1 [.ref a, w1] = true ∧ st.length ≤ 4 then rK (cf 15 [.ref a, w1] M) (fun v M' => den cf 84 49 L (pR v st) M') else none := den_iv [w1] l_84_46 rfl
theorem l_84_49 : look (tab 84) 49 = some (.ifCond .ne 10, 3, [59], uu) := by decide +kernel
theorem e_84_49 : den cf 84 49 L (.int x :: st) M = if x = zI 0 then den cf 84 52 L st M else den cf 84 59 L st M := den_if_ne l_84_49
theorem l_84_52 : look (tab 84) 52 = some (.aload_n 0, 1, [], uu) := by decide +kernel
theorem e_84_52 : den cf 84 52 [.ref a, v1, v2, v3, v4] st M = den cf 84 53 [.ref a, v1, v2, v3, v4] (.ref a :: st) M := den_go l_84_52 rfl
theorem l_84_53 : look (tab 84) 53 = some (.bipush (-5), 2, [], .int (zI (-5))) := by decide +kernel
theorem e_84_53 : den cf 84 53 L st M = den cf 84 55 L (.int (zI (-5)) :: st) M := den_go l_84_53 rfl
theorem l_84_55 : look (tab 84) 55 = some (.invokevirtual 59, 3, [5, 128, 2, 113, 114, 115, 2], uu) := by decide +kernel
theorem e_84_55 : den cf 84 55 L (w1 :: .ref a :: st) M = if rcv M 5 [.ref a, w1] = true ∧ st.length ≤ 4 then rK (cf 128 [.ref a, w1] M) (fun v M' => den cf 84 58 L (pR v st) M') else none := den_iv [w1] l_84_55 rfl
theorem l_84_58 : look (tab 84) 58 = some (.ireturn, 1, [0], uu) := by decide +kernel
theorem e_84_58 : den cf 84 58 L [.int x] M = some (some (.int x), M) := den_e0 l_84_58
theorem l_84_59 : look (tab 84) 59 = some (.aload_n 3, 1, [], uu) := by decide +kernel
theorem e_84_59 : den cf 84 59 [v0, v1, v2, v3, v4] st M = if isRf v3 = true then den cf 84 60 [v0, v1, v2, v3, v4] (v3 :: st) M else none := den_g l_84_59 rfl
theorem l_84_60 : look (tab 84) 60 = some (.aload 4, 2, [], uu) := by decide +kernel
theorem e_84_60 : den cf 84 60 [v0, v1, v2, v3, v4] st M = if isRf v4 = true then den cf 84 62 [v0, v1, v2, v3, v4] (v4 :: st) M else none := den_g l_84_60 rfl
theorem l_84_62 : look (tab 84) 62 = some (.invokevirtual 149, 3, [1, 17, 2, 349, 350, 351, 41], uu) := by decide +kernel
theorem e_84_62 : den cf 84 62 L (w1 :: .ref a :: st) M = if rcv M 1 [.ref a, w1] = true ∧ st.length ≤ 4 then rK (cf 17 [.ref a, w1] M) (fun v M' => den cf 84 65 L (pR v st) M') else none := den_iv [w1] l_84_62 rfl
theorem l_84_65 : look (tab 84) 65 = some (.aload_n 3, 1, [], uu) := by decide +kernel
theorem e_84_65 : den cf 84 65 [v0, v1, v2, v3, v4] st M = if isRf v3 = true then den cf 84 66 [v0, v1, v2, v3, v4] (v3 :: st) M else none := den_g l_84_65 rfl
theorem l_84_66 : look (tab 84) 66 = some (.aload 4, 2, [], uu) := by decide +kernel
theorem e_84_66 : den cf 84 66 [v0, v1, v2, v3, v4] st M = if isRf v4 = true then den cf 84 68 [v0, v1, v2, v3, v4] (v4 :: st) M else none := den_g l_84_66 rfl
theorem l_84_68 : look (tab 84) 68 = some (.invokevirtual 153, 3, [1, 20, 2, 353, 261, 262, 41], uu) := by decide +kernel
theorem e_84_68 : den cf 84 68 L (w1 :: .ref a :: st) M = if rcv M 1 [.ref a, w1] = true ∧ st.length ≤ 4 then rK (cf 20 [.ref a, w1] M) (fun v M' => den cf 84 71 L (pR v st) M') else none := den_iv [w1] l_84_68 rfl
theorem l_84_71 : look (tab 84) 71 = some (.ireturn, 1, [0], uu) := by decide +kernel
theorem e_84_71 : den cf 84 71 L [.int x] M = some (some (.int x), M) := den_e0 l_84_71
/-! yX5_part -/
theorem l_85_0 : look (tab 85) 0 = some (.aload_n 0, 1, [], uu) := by decide +kernel
theorem e_85_0 : den cf 85 0 [.ref a, v1, v2, v3] st M = den cf 85 1 [.ref a, v1, v2, v3] (.ref a :: st) M := den_go l_85_0 rfl
theorem l_85_1 : look (tab 85) 1 = some (.getfield 10, 3, [5, 0, 16], uu) := by decide +kernel
theorem e_85_1 : den cf 85 1 L (.ref a :: st) M = oK (gfA (M.2.2 a) 5 0) (fun v => den cf 85 4 L (v :: st) M) := den_gf l_85_1
theorem l_85_4 : look (tab 85) 4 = some (.iload_n 1, 1, [], uu) := by decide +kernel
theorem e_85_4 : den cf 85 4 [v0, .int x, v2, v3] st M = den cf 85 5 [v0, .int x, v2, v3] (.int x :: st) M := den_go l_85_4 rfl
theorem l_85_5 : look (tab 85) 5 = some (.invokevirtual 105, 3, [2, 24, 2, 209, 210, 211, 15], uu) := by decide +kernel
theorem e_85_5 : den cf 85 5 L (w1 :: .ref a :: st) M = if rcv M 2 [.ref a, w1] = true ∧ st.length ≤ 4 then rK (cf 24 [.ref a, w1] M) (fun v M' => den cf 85 8 L (pR v st) M') else none := den_iv [w1] l_85_5 rfl
theorem l_85_8 : look (tab 85) 8 = some (.astore_n 2, 1, [], uu) := by decide +kernel
theorem e_85_8 : den cf 85 8 [v0, v1, v2, v3] (v :: st) M = if isRf v = true then den cf 85 9 [v0, kq v1, v, v3] st M else none := den_as (k := 2) (v := v) l_85_8 rfl (Nat.le_of_ble_eq_true rfl)
theorem l_85_9 : look (tab 85) 9 = some (.aload_n 2, 1, [], uu) := by decide +kernel
theorem e_85_9 : den cf 85 9 [v0, v1, v2, v3] st M = if isRf v2 = true then den cf 85 10 [v0, v1, v2, v3] (v2 :: st) M else none := den_g l_85_9 rfl
theorem l_85_10 : look (tab 85) 10 = some (.ifnonnull 10, 3, [20], uu) := by decide +kernel
theorem e_85_10 : den cf 85 10 L (va_rf o :: st) M = oN o (den cf 85 13 L st M) (den cf 85 20 L st M) := den_nn l_85_10
theorem e_85_10_n : den cf 85 10 L (.null :: st) M = den cf 85 13 L st M := den_go l_85_10 rfl
theorem e_85_10_r : den cf 85 10 L (.ref a :: st) M = den cf 85 20 L st M := den_go l_85_10 rfl
theorem l_85_13 : look (tab 85) 13 = some (.aload_n 0, 1, [], uu) := by decide +kernel
theorem e_85_13 : den cf 85 13 [.ref a, v1, v2, v3] st M = den cf 85 14 [.ref a, v1, v2, v3] (.ref a :: st) M := den_go l_85_13 rfl
theorem l_85_14 : look (tab 85) 14 = some (.bipush (-2), 2, [], .int (zI (-2))) := by decide +kernel
theorem e_85_14 : den cf 85 14 L st M = den cf 85 16 L (.int (zI (-2)) :: st) M := den_go l_85_14 rfl
theorem l_85_16 : look (tab 85) 16 = some (.invokevirtual 59, 3, [5, 128, 2, 113, 114, 115, 2], uu) := by decide +kernel
theorem e_85_16 : den cf 85 16 L (w1 :: .ref a :: st) M = if rcv M 5 [.ref a, w1] = true ∧ st.length ≤ 4 then rK (cf 128 [.ref a, w1] M) (fun v M' => den cf 85 19 L (pR v st) M') else none := den_iv [w1] l_85_16 rfl
theorem l_85_19 : look (tab 85) 19 = some (.ireturn, 1, [0], uu) := by decide +kernel
theorem e_85_19 : den cf 85 19 L [.int x] M = some (some (.int x), M) := den_e0 l_85_19
theorem l_85_20 : look (tab 85) 20 = some (.aload_n 2, 1, [], uu) := by decide +kernel
theorem e_85_20 : den cf 85 20 [v0, v1, v2, v3] st M = if isRf v2 = true then den cf 85 21 [v0, v1, v2, v3] (v2 :: st) M else none := den_g l_85_20 rfl
theorem l_85_21 : look (tab 85) 21 = some (.getfield 127, 3, [1, 6, 237], uu) := by decide +kernel
theorem e_85_21 : den cf 85 21 L (.ref a :: st) M = oK (gfA (M.2.2 a) 1 6) (fun v => den cf 85 24 L (v :: st) M) := den_gf l_85_21
theorem l_85_24 : look (tab 85) 24 = some (.astore_n 3, 1, [], uu) := by decide +kernel
theorem e_85_24 : den cf 85 24 [v0, v1, v2, v3] (v :: st) M = if isRf v = true then den cf 85 25 [v0, v1, kq v2, v] st M else none := den_as (k := 3) (v := v) l_85_24 rfl (Nat.le_of_ble_eq_true rfl)
theorem l_85_25 : look (tab 85) 25 = some (.aload_n 3, 1, [], uu) := by decide +kernel
theorem e_85_25 : den cf 85 25 [v0, v1, v2, v3] st M = if isRf v3 = true then den cf 85 26 [v0, v1, v2, v3] (v3 :: st) M else none := den_g l_85_25 rfl
theorem l_85_26 : look (tab 85) 26 = some (.ifnonnull 10, 3, [36], uu) := by decide +kernel
theorem e_85_26 : den cf 85 26 L (va_rf o :: st) M = oN o (den cf 85 29 L st M) (den cf 85 36 L st M) := den_nn l_85_26
theorem e_85_26_n : den cf 85 26 L (.null :: st) M = den cf 85 29 L st M := den_go l_85_26 rfl
theorem e_85_26_r : den cf 85 26 L (.ref a :: st) M = den cf 85 36 L st M := den_go l_85_26 rfl
theorem l_85_29 : look (tab 85) 29 = some (.aload_n 0, 1, [], uu) := by decide +kernel
theorem e_85_29 : den cf 85 29 [.ref a, v1, v2, v3] st M = den cf 85 30 [.ref a, v1, v2, v3] (.ref a :: st) M := den_go l_85_29 rfl
theorem l_85_30 : look (tab 85) 30 = some (.bipush (-5), 2, [], .int (zI (-5))) := by decide +kernel
theorem e_85_30 : den cf 85 30 L st M = den cf 85 32 L (.int (zI (-5)) :: st) M := den_go l_85_30 rfl
theorem l_85_32 : look (tab 85) 32 = some (.invokevirtual 59, 3, [5, 128, 2, 113, 114, 115, 2], uu) := by decide +kernel
theorem e_85_32 : den cf 85 32 L (w1 :: .ref a :: st) M = if rcv M 5 [.ref a, w1] = true ∧ st.length ≤ 4 then rK (cf 128 [.ref a, w1] M) (fun v M' => den cf 85 35 L (pR v st) M') else none := den_iv [w1] l_85_32 rfl
theorem l_85_35 : look (tab 85) 35 = some (.ireturn, 1, [0], uu) := by decide +kernel
theorem e_85_35 : den cf 85 35 L [.int x] M = some (some (.int x), M) := den_e0 l_85_35
theorem l_85_36 : look (tab 85) 36 = some (.aload_n 2, 1, [], uu) := by decide +kernel
theorem e_85_36 : den cf 85 36 [v0, v1, v2, v3] st M = if isRf v2 = true then den cf 85 37 [v0, v1, v2, v3] (v2 :: st) M else none := den_g l_85_36 rfl
theorem l_85_37 : look (tab 85) 37 = some (.invokevirtual 157, 3, [1, 18, 1, 375, 376, 377, 41], uu) := by decide +kernel
theorem e_85_37 : den cf 85 37 L (.ref a :: st) M = if rcv M 1 [.ref a] = true ∧ st.length ≤ 4 then rK (cf 18 [.ref a] M) (fun v M' => den cf 85 40 L (pR v st) M') else none := den_iv [] l_85_37 rfl
theorem l_85_40 : look (tab 85) 40 = some (.aload_n 3, 1, [], uu) := by decide +kernel
theorem e_85_40 : den cf 85 40 [v0, v1, v2, v3] st M = if isRf v3 = true then den cf 85 41 [v0, v1, v2, v3] (v3 :: st) M else none := den_g l_85_40 rfl
theorem l_85_41 : look (tab 85) 41 = some (.getfield 160, 3, [1, 0, 374], uu) := by decide +kernel
theorem e_85_41 : den cf 85 41 L (.ref a :: st) M = oK (gfA (M.2.2 a) 1 0) (fun v => den cf 85 44 L (v :: st) M) := den_gf l_85_41
theorem l_85_44 : look (tab 85) 44 = some (.ireturn, 1, [0], uu) := by decide +kernel
theorem e_85_44 : den cf 85 44 L [.int x] M = some (some (.int x), M) := den_e0 l_85_44
/-! yX5_ask -/
theorem l_86_0 : look (tab 86) 0 = some (.iload_n 1, 1, [], uu) := by decide +kernel
theorem e_86_0 : den cf 86 0 [v0, .int x, v2, v3, v4] st M = den cf 86 1 [v0, .int x, v2, v3, v4] (.int x :: st) M := den_go l_86_0 rfl
theorem l_86_1 : look (tab 86) 1 = some (.ifCond .ne 8, 3, [9], uu) := by decide +kernel
theorem e_86_1 : den cf 86 1 L (.int x :: st) M = if x = zI 0 then den cf 86 4 L st M else den cf 86 9 L st M := den_if_ne l_86_1
theorem l_86_4 : look (tab 86) 4 = some (.bipush 12, 2, [], .int (zI 12)) := by decide +kernel
theorem e_86_4 : den cf 86 4 L st M = den cf 86 6 L (.int (zI 12) :: st) M := den_go l_86_4 rfl
theorem l_86_6 : look (tab 86) 6 = some (.goto 14, 3, [20], uu) := by decide +kernel
theorem e_86_6 : den cf 86 6 L st M = den cf 86 20 L st M := den_go l_86_6 rfl
theorem l_86_9 : look (tab 86) 9 = some (.iload_n 1, 1, [], uu) := by decide +kernel
theorem e_86_9 : den cf 86 9 [v0, .int x, v2, v3, v4] st M = den cf 86 10 [v0, .int x, v2, v3, v4] (.int x :: st) M := den_go l_86_9 rfl
theorem l_86_10 : look (tab 86) 10 = some (.iconst 1, 1, [], .int (zI 1)) := by decide +kernel
theorem e_86_10 : den cf 86 10 L st M = den cf 86 11 L (.int (zI 1) :: st) M := den_go l_86_10 rfl
theorem l_86_11 : look (tab 86) 11 = some (.if_icmp .ne 8, 3, [19], uu) := by decide +kernel
theorem e_86_11 : den cf 86 11 L (.int y :: .int x :: st) M = if x = y then den cf 86 14 L st M else den cf 86 19 L st M := den_ic_ne l_86_11
theorem l_86_14 : look (tab 86) 14 = some (.bipush 9, 2, [], .int (zI 9)) := by decide +kernel
theorem e_86_14 : den cf 86 14 L st M = den cf 86 16 L (.int (zI 9) :: st) M := den_go l_86_14 rfl
theorem l_86_16 : look (tab 86) 16 = some (.goto 4, 3, [20], uu) := by decide +kernel
theorem e_86_16 : den cf 86 16 L st M = den cf 86 20 L st M := den_go l_86_16 rfl
theorem l_86_19 : look (tab 86) 19 = some (.iconst 1, 1, [], .int (zI 1)) := by decide +kernel
theorem e_86_19 : den cf 86 19 L st M = den cf 86 20 L (.int (zI 1) :: st) M := den_go l_86_19 rfl
theorem l_86_20 : look (tab 86) 20 = some (.istore_n 3, 1, [], uu) := by decide +kernel
theorem e_86_20 : den cf 86 20 [v0, v1, v2, v3, v4] (.int x :: st) M = den cf 86 21 [v0, v1, kq v2, .int x, v4] st M := den_st (k := 3) (v := .int x) l_86_20 rfl
theorem l_86_21 : look (tab 86) 21 = some (.iload_n 1, 1, [], uu) := by decide +kernel
theorem e_86_21 : den cf 86 21 [v0, .int x, v2, v3, v4] st M = den cf 86 22 [v0, .int x, v2, v3, v4] (.int x :: st) M := den_go l_86_21 rfl
theorem l_86_22 : look (tab 86) 22 = some (.iconst 2, 1, [], .int (zI 2)) := by decide +kernel
theorem e_86_22 : den cf 86 22 L st M = den cf 86 23 L (.int (zI 2) :: st) M := den_go l_86_22 rfl
theorem l_86_23 : look (tab 86) 23 = some (.invokestatic 55, 3, [1, 129, 2, 110, 111, 2], uu) := by decide +kernel
theorem e_86_23 : den cf 86 23 L (w2 :: w1 :: st) M = if st.length ≤ 4 then rK (cf 129 [w1, w2] M) (fun v M' => den cf 86 26 L (pR v st) M') else none := den_ist [w1, w2] l_86_23 rfl
theorem l_86_26 : look (tab 86) 26 = some (.ifCond .eq 11, 3, [37], uu) := by decide +kernel
theorem e_86_26 : den cf 86 26 L (.int x :: st) M = if x = zI 0 then den cf 86 37 L st M else den cf 86 29 L st M := den_if_eq l_86_26
theorem l_86_29 : look (tab 86) 29 = some (.iload_n 2, 1, [], uu) := by decide +kernel
theorem e_86_29 : den cf 86 29 [v0, v1, .int x, v3, v4] st M = den cf 86 30 [v0, v1, .int x, v3, v4] (.int x :: st) M := den_go l_86_29 rfl
theorem l_86_30 : look (tab 86) 30 = some (.iload_n 3, 1, [], uu) := by decide +kernel
theorem e_86_30 : den cf 86 30 [v0, v1, v2, .int x, v4] st M = den cf 86 31 [v0, v1, v2, .int x, v4] (.int x :: st) M := den_go l_86_30 rfl
theorem l_86_31 : look (tab 86) 31 = some (.invokestatic 55, 3, [1, 129, 2, 110, 111, 2], uu) := by decide +kernel
theorem e_86_31 : den cf 86 31 L (w2 :: w1 :: st) M = if st.length ≤ 4 then rK (cf 129 [w1, w2] M) (fun v M' => den cf 86 34 L (pR v st) M') else none := den_ist [w1, w2] l_86_31 rfl
theorem l_86_34 : look (tab 86) 34 = some (.ifCond .ne 10, 3, [44], uu) := by decide +kernel
theorem e_86_34 : den cf 86 34 L (.int x :: st) M = if x = zI 0 then den cf 86 37 L st M else den cf 86 44 L st M := den_if_ne l_86_34
theorem l_86_37 : look (tab 86) 37 = some (.aload_n 0, 1, [], uu) := by decide +kernel
theorem e_86_37 : den cf 86 37 [.ref a, v1, v2, v3, v4] st M = den cf 86 38 [.ref a, v1, v2, v3, v4] (.ref a :: st) M := den_go l_86_37 rfl
theorem l_86_38 : look (tab 86) 38 = some (.bipush (-2), 2, [], .int (zI (-2))) := by decide +kernel
theorem e_86_38 : den cf 86 38 L st M = den cf 86 40 L (.int (zI (-2)) :: st) M := den_go l_86_38 rfl
theorem l_86_40 : look (tab 86) 40 = some (.invokevirtual 59, 3, [5, 128, 2, 113, 114, 115, 2], uu) := by decide +kernel
theorem e_86_40 : den cf 86 40 L (w1 :: .ref a :: st) M = if rcv M 5 [.ref a, w1] = true ∧ st.length ≤ 4 then rK (cf 128 [.ref a, w1] M) (fun v M' => den cf 86 43 L (pR v st) M') else none := den_iv [w1] l_86_40 rfl
theorem l_86_43 : look (tab 86) 43 = some (.ireturn, 1, [0], uu) := by decide +kernel
theorem e_86_43 : den cf 86 43 L [.int x] M = some (some (.int x), M) := den_e0 l_86_43
theorem l_86_44 : look (tab 86) 44 = some (.iload_n 1, 1, [], uu) := by decide +kernel
theorem e_86_44 : den cf 86 44 [v0, .int x, v2, v3, v4] st M = den cf 86 45 [v0, .int x, v2, v3, v4] (.int x :: st) M := den_go l_86_44 rfl
theorem l_86_45 : look (tab 86) 45 = some (.ifCond .ne 23, 3, [68], uu) := by decide +kernel
theorem e_86_45 : den cf 86 45 L (.int x :: st) M = if x = zI 0 then den cf 86 48 L st M else den cf 86 68 L st M := den_if_ne l_86_45
theorem l_86_48 : look (tab 86) 48 = some (.aload_n 0, 1, [], uu) := by decide +kernel
theorem e_86_48 : den cf 86 48 [.ref a, v1, v2, v3, v4] st M = den cf 86 49 [.ref a, v1, v2, v3, v4] (.ref a :: st) M := den_go l_86_48 rfl
theorem l_86_49 : look (tab 86) 49 = some (.getfield 10, 3, [5, 0, 16], uu) := by decide +kernel
theorem e_86_49 : den cf 86 49 L (.ref a :: st) M = oK (gfA (M.2.2 a) 5 0) (fun v => den cf 86 52 L (v :: st) M) := den_gf l_86_49
theorem l_86_52 : look (tab 86) 52 = some (.getfield 161, 3, [2, 2, 391], uu) := by decide +kernel
theorem e_86_52 : den cf 86 52 L (.ref a :: st) M = oK (gfA (M.2.2 a) 2 2) (fun v => den cf 86 55 L (v :: st) M) := den_gf l_86_52
theorem l_86_55 : look (tab 86) 55 = some (.istore 4, 2, [], uu) := by decide +kernel
theorem e_86_55 : den cf 86 55 [v0, v1, v2, v3, v4] (.int x :: st) M = den cf 86 57 [v0, v1, v2, kq v3, .int x] st M := den_st (k := 4) (v := .int x) l_86_55 rfl
theorem l_86_57 : look (tab 86) 57 = some (.aload_n 0, 1, [], uu) := by decide +kernel
theorem e_86_57 : den cf 86 57 [.ref a, v1, v2, v3, v4] st M = den cf 86 58 [.ref a, v1, v2, v3, v4] (.ref a :: st) M := den_go l_86_57 rfl
theorem l_86_58 : look (tab 86) 58 = some (.getfield 10, 3, [5, 0, 16], uu) := by decide +kernel
theorem e_86_58 : den cf 86 58 L (.ref a :: st) M = oK (gfA (M.2.2 a) 5 0) (fun v => den cf 86 61 L (v :: st) M) := den_gf l_86_58
theorem l_86_61 : look (tab 86) 61 = some (.iload_n 2, 1, [], uu) := by decide +kernel
theorem e_86_61 : den cf 86 61 [v0, v1, .int x, v3, v4] st M = den cf 86 62 [v0, v1, .int x, v3, v4] (.int x :: st) M := den_go l_86_61 rfl
theorem l_86_62 : look (tab 86) 62 = some (.putfield 161, 3, [2, 2, 0, 391, 0], uu) := by decide +kernel
theorem e_86_62 : den cf 86 62 L (.int x :: .ref a :: st) M = oK (pfA (M.2.2 a) 2 2 (.int x)) (fun c => den cf 86 65 L st (mU M a c)) := den_pf0 l_86_62
theorem l_86_65 : look (tab 86) 65 = some (.goto 45, 3, [110], uu) := by decide +kernel
theorem e_86_65 : den cf 86 65 L st M = den cf 86 110 L st M := den_go l_86_65 rfl
theorem l_86_68 : look (tab 86) 68 = some (.iload_n 1, 1, [], uu) := by decide +kernel
theorem e_86_68 : den cf 86 68 [v0, .int x, v2, v3, v4] st M = den cf 86 69 [v0, .int x, v2, v3, v4] (.int x :: st) M := den_go l_86_68 rfl
theorem l_86_69 : look (tab 86) 69 = some (.iconst 1, 1, [], .int (zI 1)) := by decide +kernel
theorem e_86_69 : den cf 86 69 L st M = den cf 86 70 L (.int (zI 1) :: st) M := den_go l_86_69 rfl
theorem l_86_70 : look (tab 86) 70 = some (.if_icmp .ne 23, 3, [93], uu) := by decide +kernel
theorem e_86_70 : den cf 86 70 L (.int y :: .int x :: st) M = if x = y then den cf 86 73 L st M else den cf 86 93 L st M := den_ic_ne l_86_70
theorem l_86_73 : look (tab 86) 73 = some (.aload_n 0, 1, [], uu) := by decide +kernel
theorem e_86_73 : den cf 86 73 [.ref a, v1, v2, v3, v4] st M = den cf 86 74 [.ref a, v1, v2, v3, v4] (.ref a :: st) M := den_go l_86_73 rfl
theorem l_86_74 : look (tab 86) 74 = some (.getfield 10, 3, [5, 0, 16], uu) := by decide +kernel
theorem e_86_74 : den cf 86 74 L (.ref a :: st) M = oK (gfA (M.2.2 a) 5 0) (fun v => den cf 86 77 L (v :: st) M) := den_gf l_86_74
theorem l_86_77 : look (tab 86) 77 = some (.getfield 164, 3, [2, 3, 392], uu) := by decide +kernel
theorem e_86_77 : den cf 86 77 L (.ref a :: st) M = oK (gfA (M.2.2 a) 2 3) (fun v => den cf 86 80 L (v :: st) M) := den_gf l_86_77
theorem l_86_80 : look (tab 86) 80 = some (.istore 4, 2, [], uu) := by decide +kernel
theorem e_86_80 : den cf 86 80 [v0, v1, v2, v3, v4] (.int x :: st) M = den cf 86 82 [v0, v1, v2, kq v3, .int x] st M := den_st (k := 4) (v := .int x) l_86_80 rfl
theorem l_86_82 : look (tab 86) 82 = some (.aload_n 0, 1, [], uu) := by decide +kernel
theorem e_86_82 : den cf 86 82 [.ref a, v1, v2, v3, v4] st M = den cf 86 83 [.ref a, v1, v2, v3, v4] (.ref a :: st) M := den_go l_86_82 rfl
theorem l_86_83 : look (tab 86) 83 = some (.getfield 10, 3, [5, 0, 16], uu) := by decide +kernel
theorem e_86_83 : den cf 86 83 L (.ref a :: st) M = oK (gfA (M.2.2 a) 5 0) (fun v => den cf 86 86 L (v :: st) M) := den_gf l_86_83
theorem l_86_86 : look (tab 86) 86 = some (.iload_n 2, 1, [], uu) := by decide +kernel
theorem e_86_86 : den cf 86 86 [v0, v1, .int x, v3, v4] st M = den cf 86 87 [v0, v1, .int x, v3, v4] (.int x :: st) M := den_go l_86_86 rfl
theorem l_86_87 : look (tab 86) 87 = some (.putfield 164, 3, [2, 3, 0, 392, 0], uu) := by decide +kernel
theorem e_86_87 : den cf 86 87 L (.int x :: .ref a :: st) M = oK (pfA (M.2.2 a) 2 3 (.int x)) (fun c => den cf 86 90 L st (mU M a c)) := den_pf0 l_86_87
theorem l_86_90 : look (tab 86) 90 = some (.goto 20, 3, [110], uu) := by decide +kernel
theorem e_86_90 : den cf 86 90 L st M = den cf 86 110 L st M := den_go l_86_90 rfl
theorem l_86_93 : look (tab 86) 93 = some (.aload_n 0, 1, [], uu) := by decide +kernel
theorem e_86_93 : den cf 86 93 [.ref a, v1, v2, v3, v4] st M = den cf 86 94 [.ref a, v1, v2, v3, v4] (.ref a :: st) M := den_go l_86_93 rfl
theorem l_86_94 : look (tab 86) 94 = some (.getfield 10, 3, [5, 0, 16], uu) := by decide +kernel
theorem e_86_94 : den cf 86 94 L (.ref a :: st) M = oK (gfA (M.2.2 a) 5 0) (fun v => den cf 86 97 L (v :: st) M) := den_gf l_86_94
theorem l_86_97 : look (tab 86) 97 = some (.getfield 167, 3, [2, 4, 393], uu) := by decide +kernel
theorem e_86_97 : den cf 86 97 L (.ref a :: st) M = oK (gfA (M.2.2 a) 2 4) (fun v => den cf 86 100 L (v :: st) M) := den_gf l_86_97
theorem l_86_100 : look (tab 86) 100 = some (.istore 4, 2, [], uu) := by decide +kernel
theorem e_86_100 : den cf 86 100 [v0, v1, v2, v3, v4] (.int x :: st) M = den cf 86 102 [v0, v1, v2, kq v3, .int x] st M := den_st (k := 4) (v := .int x) l_86_100 rfl
theorem l_86_102 : look (tab 86) 102 = some (.aload_n 0, 1, [], uu) := by decide +kernel
theorem e_86_102 : den cf 86 102 [.ref a, v1, v2, v3, v4] st M = den cf 86 103 [.ref a, v1, v2, v3, v4] (.ref a :: st) M := den_go l_86_102 rfl
theorem l_86_103 : look (tab 86) 103 = some (.getfield 10, 3, [5, 0, 16], uu) := by decide +kernel
theorem e_86_103 : den cf 86 103 L (.ref a :: st) M = oK (gfA (M.2.2 a) 5 0) (fun v => den cf 86 106 L (v :: st) M) := den_gf l_86_103
theorem l_86_106 : look (tab 86) 106 = some (.iload_n 2, 1, [], uu) := by decide +kernel
theorem e_86_106 : den cf 86 106 [v0, v1, .int x, v3, v4] st M = den cf 86 107 [v0, v1, .int x, v3, v4] (.int x :: st) M := den_go l_86_106 rfl
theorem l_86_107 : look (tab 86) 107 = some (.putfield 167, 3, [2, 4, 0, 393, 0], uu) := by decide +kernel
theorem e_86_107 : den cf 86 107 L (.int x :: .ref a :: st) M = oK (pfA (M.2.2 a) 2 4 (.int x)) (fun c => den cf 86 110 L st (mU M a c)) := den_pf0 l_86_107
theorem l_86_110 : look (tab 86) 110 = some (.iload 4, 2, [], uu) := by decide +kernel
theorem e_86_110 : den cf 86 110 [v0, v1, v2, v3, .int x] st M = den cf 86 112 [v0, v1, v2, v3, .int x] (.int x :: st) M := den_go l_86_110 rfl
theorem l_86_112 : look (tab 86) 112 = some (.ireturn, 1, [0], uu) := by decide +kernel
theorem e_86_112 : den cf 86 112 L [.int x] M = some (some (.int x), M) := den_e0 l_86_112
/-! yX5_feed -/
theorem l_87_0 : look (tab 87) 0 = some (.iload_n 1, 1, [], uu) := by decide +kernel
theorem e_87_0 : den cf 87 0 [v0, .int x] st M = den cf 87 1 [v0, .int x] (.int x :: st) M := den_go l_87_0 rfl
theorem l_87_1 : look (tab 87) 1 = some (.sipush 255, 3, [], .int (zI 255)) := by decide +kernel
theorem e_87_1 : den cf 87 1 L st M = den cf 87 4 L (.int (zI 255) :: st) M := den_go l_87_1 rfl
theorem l_87_4 : look (tab 87) 4 = some (.invokestatic 55, 3, [1, 129, 2, 110, 111, 2], uu) := by decide +kernel
theorem e_87_4 : den cf 87 4 L (w2 :: w1 :: st) M = if st.length ≤ 4 then rK (cf 129 [w1, w2] M) (fun v M' => den cf 87 7 L (pR v st) M') else none := den_ist [w1, w2] l_87_4 rfl
theorem l_87_7 : look (tab 87) 7 = some (.ifCond .ne 10, 3, [17], uu) := by decide +kernel
theorem e_87_7 : den cf 87 7 L (.int x :: st) M = if x = zI 0 then den cf 87 10 L st M else den cf 87 17 L st M := den_if_ne l_87_7
theorem l_87_10 : look (tab 87) 10 = some (.aload_n 0, 1, [], uu) := by decide +kernel
theorem e_87_10 : den cf 87 10 [.ref a, v1] st M = den cf 87 11 [.ref a, v1] (.ref a :: st) M := den_go l_87_10 rfl
theorem l_87_11 : look (tab 87) 11 = some (.bipush (-2), 2, [], .int (zI (-2))) := by decide +kernel
theorem e_87_11 : den cf 87 11 L st M = den cf 87 13 L (.int (zI (-2)) :: st) M := den_go l_87_11 rfl
theorem l_87_13 : look (tab 87) 13 = some (.invokevirtual 59, 3, [5, 128, 2, 113, 114, 115, 2], uu) := by decide +kernel
theorem e_87_13 : den cf 87 13 L (w1 :: .ref a :: st) M = if rcv M 5 [.ref a, w1] = true ∧ st.length ≤ 4 then rK (cf 128 [.ref a, w1] M) (fun v M' => den cf 87 16 L (pR v st) M') else none := den_iv [w1] l_87_13 rfl
theorem l_87_16 : look (tab 87) 16 = some (.ireturn, 1, [0], uu) := by decide +kernel
theorem e_87_16 : den cf 87 16 L [.int x] M = some (some (.int x), M) := den_e0 l_87_16
theorem l_87_17 : look (tab 87) 17 = some (.aload_n 0, 1, [], uu) := by decide +kernel
theorem e_87_17 : den cf 87 17 [.ref a, v1] st M = den cf 87 18 [.ref a, v1] (.ref a :: st) M := den_go l_87_17 rfl
theorem l_87_18 : look (tab 87) 18 = some (.getfield 43, 3, [5, 6, 31], uu) := by decide +kernel
theorem e_87_18 : den cf 87 18 L (.ref a :: st) M = oK (gfA (M.2.2 a) 5 6) (fun v => den cf 87 21 L (v :: st) M) := den_gf l_87_18
theorem l_87_21 : look (tab 87) 21 = some (.getfield 170, 3, [4, 1, 404], uu) := by decide +kernel
theorem e_87_21 : den cf 87 21 L (.ref a :: st) M = oK (gfA (M.2.2 a) 4 1) (fun v => den cf 87 24 L (v :: st) M) := den_gf l_87_21
theorem l_87_24 : look (tab 87) 24 = some (.sipush 250, 3, [], .int (zI 250)) := by decide +kernel
theorem e_87_24 : den cf 87 24 L st M = den cf 87 27 L (.int (zI 250) :: st) M := den_go l_87_24 rfl
theorem l_87_27 : look (tab 87) 27 = some (.if_icmp .lt 10, 3, [37], uu) := by decide +kernel
theorem e_87_27 : den cf 87 27 L (.int y :: .int x :: st) M = if x < y then den cf 87 37 L st M else den cf 87 30 L st M := den_ic_lt l_87_27
theorem l_87_30 : look (tab 87) 30 = some (.aload_n 0, 1, [], uu) := by decide +kernel
theorem e_87_30 : den cf 87 30 [.ref a, v1] st M = den cf 87 31 [.ref a, v1] (.ref a :: st) M := den_go l_87_30 rfl
theorem l_87_31 : look (tab 87) 31 = some (.bipush (-6), 2, [], .int (zI (-6))) := by decide +kernel
theorem e_87_31 : den cf 87 31 L st M = den cf 87 33 L (.int (zI (-6)) :: st) M := den_go l_87_31 rfl
theorem l_87_33 : look (tab 87) 33 = some (.invokevirtual 59, 3, [5, 128, 2, 113, 114, 115, 2], uu) := by decide +kernel
theorem e_87_33 : den cf 87 33 L (w1 :: .ref a :: st) M = if rcv M 5 [.ref a, w1] = true ∧ st.length ≤ 4 then rK (cf 128 [.ref a, w1] M) (fun v M' => den cf 87 36 L (pR v st) M') else none := den_iv [w1] l_87_33 rfl
theorem l_87_36 : look (tab 87) 36 = some (.ireturn, 1, [0], uu) := by decide +kernel
theorem e_87_36 : den cf 87 36 L [.int x] M = some (some (.int x), M) := den_e0 l_87_36
theorem l_87_37 : look (tab 87) 37 = some (.aload_n 0, 1, [], uu) := by decide +kernel
theorem e_87_37 : den cf 87 37 [.ref a, v1] st M = den cf 87 38 [.ref a, v1] (.ref a :: st) M := den_go l_87_37 rfl
theorem l_87_38 : look (tab 87) 38 = some (.getfield 43, 3, [5, 6, 31], uu) := by decide +kernel
theorem e_87_38 : den cf 87 38 L (.ref a :: st) M = oK (gfA (M.2.2 a) 5 6) (fun v => den cf 87 41 L (v :: st) M) := den_gf l_87_38
theorem l_87_41 : look (tab 87) 41 = some (.iload_n 1, 1, [], uu) := by decide +kernel
theorem e_87_41 : den cf 87 41 [v0, .int x] st M = den cf 87 42 [v0, .int x] (.int x :: st) M := den_go l_87_41 rfl
theorem l_87_42 : look (tab 87) 42 = some (.invokevirtual 171, 3, [4, 60, 2, 405, 406, 407, 30], uu) := by decide +kernel
theorem e_87_42 : den cf 87 42 L (w1 :: .ref a :: st) M = if rcv M 4 [.ref a, w1] = true ∧ st.length ≤ 4 then rK (cf 60 [.ref a, w1] M) (fun v M' => den cf 87 45 L (pR v st) M') else none := den_iv [w1] l_87_42 rfl
theorem l_87_45 : look (tab 87) 45 = some (.aload_n 0, 1, [], uu) := by decide +kernel
theorem e_87_45 : den cf 87 45 [.ref a, v1] st M = den cf 87 46 [.ref a, v1] (.ref a :: st) M := den_go l_87_45 rfl
theorem l_87_46 : look (tab 87) 46 = some (.getfield 43, 3, [5, 6, 31], uu) := by decide +kernel
theorem e_87_46 : den cf 87 46 L (.ref a :: st) M = oK (gfA (M.2.2 a) 5 6) (fun v => den cf 87 49 L (v :: st) M) := den_gf l_87_46
theorem l_87_49 : look (tab 87) 49 = some (.getfield 170, 3, [4, 1, 404], uu) := by decide +kernel
theorem e_87_49 : den cf 87 49 L (.ref a :: st) M = oK (gfA (M.2.2 a) 4 1) (fun v => den cf 87 52 L (v :: st) M) := den_gf l_87_49
theorem l_87_52 : look (tab 87) 52 = some (.ireturn, 1, [0], uu) := by decide +kernel
theorem e_87_52 : den cf 87 52 L [.int x] M = some (some (.int x), M) := den_e0 l_87_52
/-! yX5_wipe -/
theorem l_88_0 : look (tab 88) 0 = some (.aload_n 0, 1, [], uu) := by decide +kernel
theorem e_88_0 : den cf 88 0 [.ref a, v1] st M = den cf 88 1 [.ref a, v1] (.ref a :: st) M := den_go l_88_0 rfl
theorem l_88_1 : look (tab 88) 1 = some (.getfield 43, 3, [5, 6, 31], uu) := by decide +kernel
theorem e_88_1 : den cf 88 1 L (.ref a :: st) M = oK (gfA (M.2.2 a) 5 6) (fun v => den cf 88 4 L (v :: st) M) := den_gf l_88_1
theorem l_88_4 : look (tab 88) 4 = some (.getfield 170, 3, [4, 1, 404], uu) := by decide +kernel
theorem e_88_4 : den cf 88 4 L (.ref a :: st) M = oK (gfA (M.2.2 a) 4 1) (fun v => den cf 88 7 L (v :: st) M) := den_gf l_88_4
theorem l_88_7 : look (tab 88) 7 = some (.istore_n 1, 1, [], uu) := by decide +kernel
theorem e_88_7 : den cf 88 7 [v0, v1] (.int x :: st) M = den cf 88 8 [kq v0, .int x] st M := den_st (k := 1) (v := .int x) l_88_7 rfl
theorem l_88_8 : look (tab 88) 8 = some (.aload_n 0, 1, [], uu) := by decide +kernel
theorem e_88_8 : den cf 88 8 [.ref a, v1] st M = den cf 88 9 [.ref a, v1] (.ref a :: st) M := den_go l_88_8 rfl
theorem l_88_9 : look (tab 88) 9 = some (.getfield 43, 3, [5, 6, 31], uu) := by decide +kernel
theorem e_88_9 : den cf 88 9 L (.ref a :: st) M = oK (gfA (M.2.2 a) 5 6) (fun v => den cf 88 12 L (v :: st) M) := den_gf l_88_9
theorem l_88_12 : look (tab 88) 12 = some (.iconst 0, 1, [], .int (zI 0)) := by decide +kernel
theorem e_88_12 : den cf 88 12 L st M = den cf 88 13 L (.int (zI 0) :: st) M := den_go l_88_12 rfl
theorem l_88_13 : look (tab 88) 13 = some (.putfield 170, 3, [4, 1, 0, 404, 0], uu) := by decide +kernel
theorem e_88_13 : den cf 88 13 L (.int x :: .ref a :: st) M = oK (pfA (M.2.2 a) 4 1 (.int x)) (fun c => den cf 88 16 L st (mU M a c)) := den_pf0 l_88_13
theorem l_88_16 : look (tab 88) 16 = some (.iload_n 1, 1, [], uu) := by decide +kernel
theorem e_88_16 : den cf 88 16 [v0, .int x] st M = den cf 88 17 [v0, .int x] (.int x :: st) M := den_go l_88_16 rfl
theorem l_88_17 : look (tab 88) 17 = some (.ireturn, 1, [0], uu) := by decide +kernel
theorem e_88_17 : den cf 88 17 L [.int x] M = some (some (.int x), M) := den_e0 l_88_17
