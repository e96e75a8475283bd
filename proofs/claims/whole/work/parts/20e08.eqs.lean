variable {cf : Nat → List Value → AM → Option AR} {L st : List Value} {M : AM} {x y : Int32} {p q : Int64} {a b : Nat} {v w : Value} {o : Option Nat} {v0 v1 v2 v3 v4 v5 v6 v7 v8 v9 v10 v11 v12 v13 v14 v15 v16 v17 v18 v19 v20 w1 w2 w3 w4 w5 w6 : Value}
/-! yX6_copy -/
theorem l_144_0 : look (tab 144) 0 = some (.iload_n 1, 1, [], uu) := by decide +kernel
theorem e_144_0 : den cf 144 0 [v0, .int x, v2, v3, v4, v5, v6] st M = den cf 144 1 [v0, .int x, v2, v3, v4, v5, v6] (.int x :: st) M := den_go l_144_0 rfl
theorem l_144_1 : look (tab 144) 1 = some (.i2l, 1, [], uu) := by decide +kernel
theorem e_144_1 : den cf 144 1 L (.int x :: st) M = den cf 144 2 L (.long x.toInt64 :: st) M := den_go l_144_1 rfl
theorem l_144_2 : look (tab 144) 2 = some (.lconst 0, 1, [], .long (zJ 0)) := by decide +kernel
theorem e_144_2 : den cf 144 2 L st M = den cf 144 3 L (.long (zJ 0) :: st) M := den_go l_144_2 rfl
theorem l_144_3 : look (tab 144) 3 = some (.ldc2_w 87, 3, [127], .long (zJ 7)) := by decide +kernel
theorem e_144_3 : den cf 144 3 L st M = den cf 144 6 L (.long (zJ 7) :: st) M := den_go l_144_3 rfl
theorem l_144_6 : look (tab 144) 6 = some (.invokestatic 83, 3, [1, 137, 3, 130, 131, 5], uu) := by decide +kernel
theorem e_144_6 : den cf 144 6 L (w3 :: w2 :: w1 :: st) M = if st.length ≤ 4 then rK (cf 137 [w1, w2, w3] M) (fun v M' => den cf 144 9 L (pR v st) M') else none := den_ist [w1, w2, w3] l_144_6 rfl
theorem l_144_9 : look (tab 144) 9 = some (.ifCond .eq 15, 3, [24], uu) := by decide +kernel
theorem e_144_9 : den cf 144 9 L (.int x :: st) M = if x = zI 0 then den cf 144 24 L st M else den cf 144 12 L st M := den_if_eq l_144_9
theorem l_144_12 : look (tab 144) 12 = some (.iload_n 2, 1, [], uu) := by decide +kernel
theorem e_144_12 : den cf 144 12 [v0, v1, .int x, v3, v4, v5, v6] st M = den cf 144 13 [v0, v1, .int x, v3, v4, v5, v6] (.int x :: st) M := den_go l_144_12 rfl
theorem l_144_13 : look (tab 144) 13 = some (.i2l, 1, [], uu) := by decide +kernel
theorem e_144_13 : den cf 144 13 L (.int x :: st) M = den cf 144 14 L (.long x.toInt64 :: st) M := den_go l_144_13 rfl
theorem l_144_14 : look (tab 144) 14 = some (.lconst 0, 1, [], .long (zJ 0)) := by decide +kernel
theorem e_144_14 : den cf 144 14 L st M = den cf 144 15 L (.long (zJ 0) :: st) M := den_go l_144_14 rfl
theorem l_144_15 : look (tab 144) 15 = some (.ldc2_w 87, 3, [127], .long (zJ 7)) := by decide +kernel
theorem e_144_15 : den cf 144 15 L st M = den cf 144 18 L (.long (zJ 7) :: st) M := den_go l_144_15 rfl
theorem l_144_18 : look (tab 144) 18 = some (.invokestatic 83, 3, [1, 137, 3, 130, 131, 5], uu) := by decide +kernel
theorem e_144_18 : den cf 144 18 L (w3 :: w2 :: w1 :: st) M = if st.length ≤ 4 then rK (cf 137 [w1, w2, w3] M) (fun v M' => den cf 144 21 L (pR v st) M') else none := den_ist [w1, w2, w3] l_144_18 rfl
theorem l_144_21 : look (tab 144) 21 = some (.ifCond .ne 10, 3, [31], uu) := by decide +kernel
theorem e_144_21 : den cf 144 21 L (.int x :: st) M = if x = zI 0 then den cf 144 24 L st M else den cf 144 31 L st M := den_if_ne l_144_21
theorem l_144_24 : look (tab 144) 24 = some (.aload_n 0, 1, [], uu) := by decide +kernel
theorem e_144_24 : den cf 144 24 [.ref a, v1, v2, v3, v4, v5, v6] st M = den cf 144 25 [.ref a, v1, v2, v3, v4, v5, v6] (.ref a :: st) M := den_go l_144_24 rfl
theorem l_144_25 : look (tab 144) 25 = some (.bipush (-2), 2, [], .int (zI (-2))) := by decide +kernel
theorem e_144_25 : den cf 144 25 L st M = den cf 144 27 L (.int (zI (-2)) :: st) M := den_go l_144_25 rfl
theorem l_144_27 : look (tab 144) 27 = some (.invokevirtual 93, 3, [6, 136, 2, 133, 134, 135, 5], uu) := by decide +kernel
theorem e_144_27 : den cf 144 27 L (w1 :: .ref a :: st) M = if rcv M 6 [.ref a, w1] = true ∧ st.length ≤ 4 then rK (cf 136 [.ref a, w1] M) (fun v M' => den cf 144 30 L (pR v st) M') else none := den_iv [w1] l_144_27 rfl
theorem l_144_30 : look (tab 144) 30 = some (.ireturn, 1, [0], uu) := by decide +kernel
theorem e_144_30 : den cf 144 30 L [.int x] M = some (some (.int x), M) := den_e0 l_144_30
theorem l_144_31 : look (tab 144) 31 = some (.aload_n 0, 1, [], uu) := by decide +kernel
theorem e_144_31 : den cf 144 31 [.ref a, v1, v2, v3, v4, v5, v6] st M = den cf 144 32 [.ref a, v1, v2, v3, v4, v5, v6] (.ref a :: st) M := den_go l_144_31 rfl
theorem l_144_32 : look (tab 144) 32 = some (.getfield 7, 3, [6, 0, 79], uu) := by decide +kernel
theorem e_144_32 : den cf 144 32 L (.ref a :: st) M = oK (gfA (M.2.2 a) 6 0) (fun v => den cf 144 35 L (v :: st) M) := den_gf l_144_32
theorem l_144_35 : look (tab 144) 35 = some (.iload_n 1, 1, [], uu) := by decide +kernel
theorem e_144_35 : den cf 144 35 [v0, .int x, v2, v3, v4, v5, v6] st M = den cf 144 36 [v0, .int x, v2, v3, v4, v5, v6] (.int x :: st) M := den_go l_144_35 rfl
theorem l_144_36 : look (tab 144) 36 = some (.iaload, 1, [], uu) := by decide +kernel
theorem e_144_36 : den cf 144 36 L (.int x :: .ref a :: st) M = oK (ldI (M.2.2 a) x) (fun v => den cf 144 37 L (v :: st) M) := den_al (g := ldI) l_144_36 rfl
theorem l_144_37 : look (tab 144) 37 = some (.iconst 2, 1, [], .int (zI 2)) := by decide +kernel
theorem e_144_37 : den cf 144 37 L st M = den cf 144 38 L (.int (zI 2) :: st) M := den_go l_144_37 rfl
theorem l_144_38 : look (tab 144) 38 = some (.if_icmp .eq 48, 3, [86], uu) := by decide +kernel
theorem e_144_38 : den cf 144 38 L (.int y :: .int x :: st) M = if x = y then den cf 144 86 L st M else den cf 144 41 L st M := den_ic_eq l_144_38
theorem l_144_41 : look (tab 144) 41 = some (.aload_n 0, 1, [], uu) := by decide +kernel
theorem e_144_41 : den cf 144 41 [.ref a, v1, v2, v3, v4, v5, v6] st M = den cf 144 42 [.ref a, v1, v2, v3, v4, v5, v6] (.ref a :: st) M := den_go l_144_41 rfl
theorem l_144_42 : look (tab 144) 42 = some (.getfield 7, 3, [6, 0, 79], uu) := by decide +kernel
theorem e_144_42 : den cf 144 42 L (.ref a :: st) M = oK (gfA (M.2.2 a) 6 0) (fun v => den cf 144 45 L (v :: st) M) := den_gf l_144_42
theorem l_144_45 : look (tab 144) 45 = some (.iload_n 2, 1, [], uu) := by decide +kernel
theorem e_144_45 : den cf 144 45 [v0, v1, .int x, v3, v4, v5, v6] st M = den cf 144 46 [v0, v1, .int x, v3, v4, v5, v6] (.int x :: st) M := den_go l_144_45 rfl
theorem l_144_46 : look (tab 144) 46 = some (.iaload, 1, [], uu) := by decide +kernel
theorem e_144_46 : den cf 144 46 L (.int x :: .ref a :: st) M = oK (ldI (M.2.2 a) x) (fun v => den cf 144 47 L (v :: st) M) := den_al (g := ldI) l_144_46 rfl
theorem l_144_47 : look (tab 144) 47 = some (.iconst 2, 1, [], .int (zI 2)) := by decide +kernel
theorem e_144_47 : den cf 144 47 L st M = den cf 144 48 L (.int (zI 2) :: st) M := den_go l_144_47 rfl
theorem l_144_48 : look (tab 144) 48 = some (.if_icmp .eq 38, 3, [86], uu) := by decide +kernel
theorem e_144_48 : den cf 144 48 L (.int y :: .int x :: st) M = if x = y then den cf 144 86 L st M else den cf 144 51 L st M := den_ic_eq l_144_48
theorem l_144_51 : look (tab 144) 51 = some (.aload_n 0, 1, [], uu) := by decide +kernel
theorem e_144_51 : den cf 144 51 [.ref a, v1, v2, v3, v4, v5, v6] st M = den cf 144 52 [.ref a, v1, v2, v3, v4, v5, v6] (.ref a :: st) M := den_go l_144_51 rfl
theorem l_144_52 : look (tab 144) 52 = some (.getfield 7, 3, [6, 0, 79], uu) := by decide +kernel
theorem e_144_52 : den cf 144 52 L (.ref a :: st) M = oK (gfA (M.2.2 a) 6 0) (fun v => den cf 144 55 L (v :: st) M) := den_gf l_144_52
theorem l_144_55 : look (tab 144) 55 = some (.iload_n 1, 1, [], uu) := by decide +kernel
theorem e_144_55 : den cf 144 55 [v0, .int x, v2, v3, v4, v5, v6] st M = den cf 144 56 [v0, .int x, v2, v3, v4, v5, v6] (.int x :: st) M := den_go l_144_55 rfl
theorem l_144_56 : look (tab 144) 56 = some (.iaload, 1, [], uu) := by decide +kernel
theorem e_144_56 : den cf 144 56 L (.int x :: .ref a :: st) M = oK (ldI (M.2.2 a) x) (fun v => den cf 144 57 L (v :: st) M) := den_al (g := ldI) l_144_56 rfl
theorem l_144_57 : look (tab 144) 57 = some (.iconst 1, 1, [], .int (zI 1)) := by decide +kernel
theorem e_144_57 : den cf 144 57 L st M = den cf 144 58 L (.int (zI 1) :: st) M := den_go l_144_57 rfl
theorem l_144_58 : look (tab 144) 58 = some (.if_icmp .ne 35, 3, [93], uu) := by decide +kernel
theorem e_144_58 : den cf 144 58 L (.int y :: .int x :: st) M = if x = y then den cf 144 61 L st M else den cf 144 93 L st M := den_ic_ne l_144_58
theorem l_144_61 : look (tab 144) 61 = some (.aload_n 0, 1, [], uu) := by decide +kernel
theorem e_144_61 : den cf 144 61 [.ref a, v1, v2, v3, v4, v5, v6] st M = den cf 144 62 [.ref a, v1, v2, v3, v4, v5, v6] (.ref a :: st) M := den_go l_144_61 rfl
theorem l_144_62 : look (tab 144) 62 = some (.getfield 7, 3, [6, 0, 79], uu) := by decide +kernel
theorem e_144_62 : den cf 144 62 L (.ref a :: st) M = oK (gfA (M.2.2 a) 6 0) (fun v => den cf 144 65 L (v :: st) M) := den_gf l_144_62
theorem l_144_65 : look (tab 144) 65 = some (.iload_n 2, 1, [], uu) := by decide +kernel
theorem e_144_65 : den cf 144 65 [v0, v1, .int x, v3, v4, v5, v6] st M = den cf 144 66 [v0, v1, .int x, v3, v4, v5, v6] (.int x :: st) M := den_go l_144_65 rfl
theorem l_144_66 : look (tab 144) 66 = some (.iaload, 1, [], uu) := by decide +kernel
theorem e_144_66 : den cf 144 66 L (.int x :: .ref a :: st) M = oK (ldI (M.2.2 a) x) (fun v => den cf 144 67 L (v :: st) M) := den_al (g := ldI) l_144_66 rfl
theorem l_144_67 : look (tab 144) 67 = some (.iconst 1, 1, [], .int (zI 1)) := by decide +kernel
theorem e_144_67 : den cf 144 67 L st M = den cf 144 68 L (.int (zI 1) :: st) M := den_go l_144_67 rfl
theorem l_144_68 : look (tab 144) 68 = some (.if_icmp .ne 25, 3, [93], uu) := by decide +kernel
theorem e_144_68 : den cf 144 68 L (.int y :: .int x :: st) M = if x = y then den cf 144 71 L st M else den cf 144 93 L st M := den_ic_ne l_144_68
theorem l_144_71 : look (tab 144) 71 = some (.aload_n 0, 1, [], uu) := by decide +kernel
theorem e_144_71 : den cf 144 71 [.ref a, v1, v2, v3, v4, v5, v6] st M = den cf 144 72 [.ref a, v1, v2, v3, v4, v5, v6] (.ref a :: st) M := den_go l_144_71 rfl
theorem l_144_72 : look (tab 144) 72 = some (.getfield 13, 3, [6, 1, 80], uu) := by decide +kernel
theorem e_144_72 : den cf 144 72 L (.ref a :: st) M = oK (gfA (M.2.2 a) 6 1) (fun v => den cf 144 75 L (v :: st) M) := den_gf l_144_72
theorem l_144_75 : look (tab 144) 75 = some (.iload_n 1, 1, [], uu) := by decide +kernel
theorem e_144_75 : den cf 144 75 [v0, .int x, v2, v3, v4, v5, v6] st M = den cf 144 76 [v0, .int x, v2, v3, v4, v5, v6] (.int x :: st) M := den_go l_144_75 rfl
theorem l_144_76 : look (tab 144) 76 = some (.iaload, 1, [], uu) := by decide +kernel
theorem e_144_76 : den cf 144 76 L (.int x :: .ref a :: st) M = oK (ldI (M.2.2 a) x) (fun v => den cf 144 77 L (v :: st) M) := den_al (g := ldI) l_144_76 rfl
theorem l_144_77 : look (tab 144) 77 = some (.aload_n 0, 1, [], uu) := by decide +kernel
theorem e_144_77 : den cf 144 77 [.ref a, v1, v2, v3, v4, v5, v6] st M = den cf 144 78 [.ref a, v1, v2, v3, v4, v5, v6] (.ref a :: st) M := den_go l_144_77 rfl
theorem l_144_78 : look (tab 144) 78 = some (.getfield 13, 3, [6, 1, 80], uu) := by decide +kernel
theorem e_144_78 : den cf 144 78 L (.ref a :: st) M = oK (gfA (M.2.2 a) 6 1) (fun v => den cf 144 81 L (v :: st) M) := den_gf l_144_78
theorem l_144_81 : look (tab 144) 81 = some (.iload_n 2, 1, [], uu) := by decide +kernel
theorem e_144_81 : den cf 144 81 [v0, v1, .int x, v3, v4, v5, v6] st M = den cf 144 82 [v0, v1, .int x, v3, v4, v5, v6] (.int x :: st) M := den_go l_144_81 rfl
theorem l_144_82 : look (tab 144) 82 = some (.iaload, 1, [], uu) := by decide +kernel
theorem e_144_82 : den cf 144 82 L (.int x :: .ref a :: st) M = oK (ldI (M.2.2 a) x) (fun v => den cf 144 83 L (v :: st) M) := den_al (g := ldI) l_144_82 rfl
theorem l_144_83 : look (tab 144) 83 = some (.if_icmp .eq 10, 3, [93], uu) := by decide +kernel
theorem e_144_83 : den cf 144 83 L (.int y :: .int x :: st) M = if x = y then den cf 144 93 L st M else den cf 144 86 L st M := den_ic_eq l_144_83
theorem l_144_86 : look (tab 144) 86 = some (.aload_n 0, 1, [], uu) := by decide +kernel
theorem e_144_86 : den cf 144 86 [.ref a, v1, v2, v3, v4, v5, v6] st M = den cf 144 87 [.ref a, v1, v2, v3, v4, v5, v6] (.ref a :: st) M := den_go l_144_86 rfl
theorem l_144_87 : look (tab 144) 87 = some (.bipush (-3), 2, [], .int (zI (-3))) := by decide +kernel
theorem e_144_87 : den cf 144 87 L st M = den cf 144 89 L (.int (zI (-3)) :: st) M := den_go l_144_87 rfl
theorem l_144_89 : look (tab 144) 89 = some (.invokevirtual 93, 3, [6, 136, 2, 133, 134, 135, 5], uu) := by decide +kernel
theorem e_144_89 : den cf 144 89 L (w1 :: .ref a :: st) M = if rcv M 6 [.ref a, w1] = true ∧ st.length ≤ 4 then rK (cf 136 [.ref a, w1] M) (fun v M' => den cf 144 92 L (pR v st) M') else none := den_iv [w1] l_144_89 rfl
theorem l_144_92 : look (tab 144) 92 = some (.ireturn, 1, [0], uu) := by decide +kernel
theorem e_144_92 : den cf 144 92 L [.int x] M = some (some (.int x), M) := den_e0 l_144_92
theorem l_144_93 : look (tab 144) 93 = some (.aload_n 0, 1, [], uu) := by decide +kernel
theorem e_144_93 : den cf 144 93 [.ref a, v1, v2, v3, v4, v5, v6] st M = den cf 144 94 [.ref a, v1, v2, v3, v4, v5, v6] (.ref a :: st) M := den_go l_144_93 rfl
theorem l_144_94 : look (tab 144) 94 = some (.getfield 7, 3, [6, 0, 79], uu) := by decide +kernel
theorem e_144_94 : den cf 144 94 L (.ref a :: st) M = oK (gfA (M.2.2 a) 6 0) (fun v => den cf 144 97 L (v :: st) M) := den_gf l_144_94
theorem l_144_97 : look (tab 144) 97 = some (.iload_n 1, 1, [], uu) := by decide +kernel
theorem e_144_97 : den cf 144 97 [v0, .int x, v2, v3, v4, v5, v6] st M = den cf 144 98 [v0, .int x, v2, v3, v4, v5, v6] (.int x :: st) M := den_go l_144_97 rfl
theorem l_144_98 : look (tab 144) 98 = some (.iaload, 1, [], uu) := by decide +kernel
theorem e_144_98 : den cf 144 98 L (.int x :: .ref a :: st) M = oK (ldI (M.2.2 a) x) (fun v => den cf 144 99 L (v :: st) M) := den_al (g := ldI) l_144_98 rfl
theorem l_144_99 : look (tab 144) 99 = some (.ifCond .eq 12, 3, [111], uu) := by decide +kernel
theorem e_144_99 : den cf 144 99 L (.int x :: st) M = if x = zI 0 then den cf 144 111 L st M else den cf 144 102 L st M := den_if_eq l_144_99
theorem l_144_102 : look (tab 144) 102 = some (.aload_n 0, 1, [], uu) := by decide +kernel
theorem e_144_102 : den cf 144 102 [.ref a, v1, v2, v3, v4, v5, v6] st M = den cf 144 103 [.ref a, v1, v2, v3, v4, v5, v6] (.ref a :: st) M := den_go l_144_102 rfl
theorem l_144_103 : look (tab 144) 103 = some (.getfield 7, 3, [6, 0, 79], uu) := by decide +kernel
theorem e_144_103 : den cf 144 103 L (.ref a :: st) M = oK (gfA (M.2.2 a) 6 0) (fun v => den cf 144 106 L (v :: st) M) := den_gf l_144_103
theorem l_144_106 : look (tab 144) 106 = some (.iload_n 2, 1, [], uu) := by decide +kernel
theorem e_144_106 : den cf 144 106 [v0, v1, .int x, v3, v4, v5, v6] st M = den cf 144 107 [v0, v1, .int x, v3, v4, v5, v6] (.int x :: st) M := den_go l_144_106 rfl
theorem l_144_107 : look (tab 144) 107 = some (.iaload, 1, [], uu) := by decide +kernel
theorem e_144_107 : den cf 144 107 L (.int x :: .ref a :: st) M = oK (ldI (M.2.2 a) x) (fun v => den cf 144 108 L (v :: st) M) := den_al (g := ldI) l_144_107 rfl
theorem l_144_108 : look (tab 144) 108 = some (.ifCond .ne 10, 3, [118], uu) := by decide +kernel
theorem e_144_108 : den cf 144 108 L (.int x :: st) M = if x = zI 0 then den cf 144 111 L st M else den cf 144 118 L st M := den_if_ne l_144_108
theorem l_144_111 : look (tab 144) 111 = some (.aload_n 0, 1, [], uu) := by decide +kernel
theorem e_144_111 : den cf 144 111 [.ref a, v1, v2, v3, v4, v5, v6] st M = den cf 144 112 [.ref a, v1, v2, v3, v4, v5, v6] (.ref a :: st) M := den_go l_144_111 rfl
theorem l_144_112 : look (tab 144) 112 = some (.bipush (-4), 2, [], .int (zI (-4))) := by decide +kernel
theorem e_144_112 : den cf 144 112 L st M = den cf 144 114 L (.int (zI (-4)) :: st) M := den_go l_144_112 rfl
theorem l_144_114 : look (tab 144) 114 = some (.invokevirtual 93, 3, [6, 136, 2, 133, 134, 135, 5], uu) := by decide +kernel
theorem e_144_114 : den cf 144 114 L (w1 :: .ref a :: st) M = if rcv M 6 [.ref a, w1] = true ∧ st.length ≤ 4 then rK (cf 136 [.ref a, w1] M) (fun v M' => den cf 144 117 L (pR v st) M') else none := den_iv [w1] l_144_114 rfl
theorem l_144_117 : look (tab 144) 117 = some (.ireturn, 1, [0], uu) := by decide +kernel
theorem e_144_117 : den cf 144 117 L [.int x] M = some (some (.int x), M) := den_e0 l_144_117
theorem l_144_118 : look (tab 144) 118 = some (.iload 5, 2, [], uu) := by decide +kernel
theorem e_144_118 : den cf 144 118 [v0, v1, v2, v3, v4, .int x, v6] st M = den cf 144 120 [v0, v1, v2, v3, v4, .int x, v6] (.int x :: st) M := den_go l_144_118 rfl
theorem l_144_120 : look (tab 144) 120 = some (.ifCond .lt 61, 3, [181], uu) := by decide +kernel
theorem e_144_120 : den cf 144 120 L (.int x :: st) M = if x < zI 0 then den cf 144 181 L st M else den cf 144 123 L st M := den_if_lt l_144_120
theorem l_144_123 : look (tab 144) 123 = some (.iload_n 3, 1, [], uu) := by decide +kernel
theorem e_144_123 : den cf 144 123 [v0, v1, v2, .int x, v4, v5, v6] st M = den cf 144 124 [v0, v1, v2, .int x, v4, v5, v6] (.int x :: st) M := den_go l_144_123 rfl
theorem l_144_124 : look (tab 144) 124 = some (.ifCond .lt 57, 3, [181], uu) := by decide +kernel
theorem e_144_124 : den cf 144 124 L (.int x :: st) M = if x < zI 0 then den cf 144 181 L st M else den cf 144 127 L st M := den_if_lt l_144_124
theorem l_144_127 : look (tab 144) 127 = some (.iload 4, 2, [], uu) := by decide +kernel
theorem e_144_127 : den cf 144 127 [v0, v1, v2, v3, .int x, v5, v6] st M = den cf 144 129 [v0, v1, v2, v3, .int x, v5, v6] (.int x :: st) M := den_go l_144_127 rfl
theorem l_144_129 : look (tab 144) 129 = some (.ifCond .lt 52, 3, [181], uu) := by decide +kernel
theorem e_144_129 : den cf 144 129 L (.int x :: st) M = if x < zI 0 then den cf 144 181 L st M else den cf 144 132 L st M := den_if_lt l_144_129
theorem l_144_132 : look (tab 144) 132 = some (.iload 5, 2, [], uu) := by decide +kernel
theorem e_144_132 : den cf 144 132 [v0, v1, v2, v3, v4, .int x, v6] st M = den cf 144 134 [v0, v1, v2, v3, v4, .int x, v6] (.int x :: st) M := den_go l_144_132 rfl
theorem l_144_134 : look (tab 144) 134 = some (.aload_n 0, 1, [], uu) := by decide +kernel
theorem e_144_134 : den cf 144 134 [.ref a, v1, v2, v3, v4, v5, v6] st M = den cf 144 135 [.ref a, v1, v2, v3, v4, v5, v6] (.ref a :: st) M := den_go l_144_134 rfl
theorem l_144_135 : look (tab 144) 135 = some (.getfield 16, 3, [6, 2, 81], uu) := by decide +kernel
theorem e_144_135 : den cf 144 135 L (.ref a :: st) M = oK (gfA (M.2.2 a) 6 2) (fun v => den cf 144 138 L (v :: st) M) := den_gf l_144_135
theorem l_144_138 : look (tab 144) 138 = some (.iload_n 1, 1, [], uu) := by decide +kernel
theorem e_144_138 : den cf 144 138 [v0, .int x, v2, v3, v4, v5, v6] st M = den cf 144 139 [v0, .int x, v2, v3, v4, v5, v6] (.int x :: st) M := den_go l_144_138 rfl
theorem l_144_139 : look (tab 144) 139 = some (.iaload, 1, [], uu) := by decide +kernel
theorem e_144_139 : den cf 144 139 L (.int x :: .ref a :: st) M = oK (ldI (M.2.2 a) x) (fun v => den cf 144 140 L (v :: st) M) := den_al (g := ldI) l_144_139 rfl
theorem l_144_140 : look (tab 144) 140 = some (.if_icmp .gt 41, 3, [181], uu) := by decide +kernel
theorem e_144_140 : den cf 144 140 L (.int y :: .int x :: st) M = if y < x then den cf 144 181 L st M else den cf 144 143 L st M := den_ic_gt l_144_140
theorem l_144_143 : look (tab 144) 143 = some (.iload 5, 2, [], uu) := by decide +kernel
theorem e_144_143 : den cf 144 143 [v0, v1, v2, v3, v4, .int x, v6] st M = den cf 144 145 [v0, v1, v2, v3, v4, .int x, v6] (.int x :: st) M := den_go l_144_143 rfl
theorem l_144_145 : look (tab 144) 145 = some (.aload_n 0, 1, [], uu) := by decide +kernel
theorem e_144_145 : den cf 144 145 [.ref a, v1, v2, v3, v4, v5, v6] st M = den cf 144 146 [.ref a, v1, v2, v3, v4, v5, v6] (.ref a :: st) M := den_go l_144_145 rfl
theorem l_144_146 : look (tab 144) 146 = some (.getfield 16, 3, [6, 2, 81], uu) := by decide +kernel
theorem e_144_146 : den cf 144 146 L (.ref a :: st) M = oK (gfA (M.2.2 a) 6 2) (fun v => den cf 144 149 L (v :: st) M) := den_gf l_144_146
theorem l_144_149 : look (tab 144) 149 = some (.iload_n 2, 1, [], uu) := by decide +kernel
theorem e_144_149 : den cf 144 149 [v0, v1, .int x, v3, v4, v5, v6] st M = den cf 144 150 [v0, v1, .int x, v3, v4, v5, v6] (.int x :: st) M := den_go l_144_149 rfl
theorem l_144_150 : look (tab 144) 150 = some (.iaload, 1, [], uu) := by decide +kernel
theorem e_144_150 : den cf 144 150 L (.int x :: .ref a :: st) M = oK (ldI (M.2.2 a) x) (fun v => den cf 144 151 L (v :: st) M) := den_al (g := ldI) l_144_150 rfl
theorem l_144_151 : look (tab 144) 151 = some (.if_icmp .gt 30, 3, [181], uu) := by decide +kernel
theorem e_144_151 : den cf 144 151 L (.int y :: .int x :: st) M = if y < x then den cf 144 181 L st M else den cf 144 154 L st M := den_ic_gt l_144_151
theorem l_144_154 : look (tab 144) 154 = some (.iload_n 3, 1, [], uu) := by decide +kernel
theorem e_144_154 : den cf 144 154 [v0, v1, v2, .int x, v4, v5, v6] st M = den cf 144 155 [v0, v1, v2, .int x, v4, v5, v6] (.int x :: st) M := den_go l_144_154 rfl
theorem l_144_155 : look (tab 144) 155 = some (.aload_n 0, 1, [], uu) := by decide +kernel
theorem e_144_155 : den cf 144 155 [.ref a, v1, v2, v3, v4, v5, v6] st M = den cf 144 156 [.ref a, v1, v2, v3, v4, v5, v6] (.ref a :: st) M := den_go l_144_155 rfl
theorem l_144_156 : look (tab 144) 156 = some (.getfield 16, 3, [6, 2, 81], uu) := by decide +kernel
theorem e_144_156 : den cf 144 156 L (.ref a :: st) M = oK (gfA (M.2.2 a) 6 2) (fun v => den cf 144 159 L (v :: st) M) := den_gf l_144_156
theorem l_144_159 : look (tab 144) 159 = some (.iload_n 1, 1, [], uu) := by decide +kernel
theorem e_144_159 : den cf 144 159 [v0, .int x, v2, v3, v4, v5, v6] st M = den cf 144 160 [v0, .int x, v2, v3, v4, v5, v6] (.int x :: st) M := den_go l_144_159 rfl
theorem l_144_160 : look (tab 144) 160 = some (.iaload, 1, [], uu) := by decide +kernel
theorem e_144_160 : den cf 144 160 L (.int x :: .ref a :: st) M = oK (ldI (M.2.2 a) x) (fun v => den cf 144 161 L (v :: st) M) := den_al (g := ldI) l_144_160 rfl
theorem l_144_161 : look (tab 144) 161 = some (.iload 5, 2, [], uu) := by decide +kernel
theorem e_144_161 : den cf 144 161 [v0, v1, v2, v3, v4, .int x, v6] st M = den cf 144 163 [v0, v1, v2, v3, v4, .int x, v6] (.int x :: st) M := den_go l_144_161 rfl
theorem l_144_163 : look (tab 144) 163 = some (.isub, 1, [], uu) := by decide +kernel
theorem e_144_163 : den cf 144 163 L (.int y :: .int x :: st) M = den cf 144 164 L (.int (x - y) :: st) M := den_go l_144_163 rfl
theorem l_144_164 : look (tab 144) 164 = some (.if_icmp .gt 17, 3, [181], uu) := by decide +kernel
theorem e_144_164 : den cf 144 164 L (.int y :: .int x :: st) M = if y < x then den cf 144 181 L st M else den cf 144 167 L st M := den_ic_gt l_144_164
theorem l_144_167 : look (tab 144) 167 = some (.iload 4, 2, [], uu) := by decide +kernel
theorem e_144_167 : den cf 144 167 [v0, v1, v2, v3, .int x, v5, v6] st M = den cf 144 169 [v0, v1, v2, v3, .int x, v5, v6] (.int x :: st) M := den_go l_144_167 rfl
theorem l_144_169 : look (tab 144) 169 = some (.aload_n 0, 1, [], uu) := by decide +kernel
theorem e_144_169 : den cf 144 169 [.ref a, v1, v2, v3, v4, v5, v6] st M = den cf 144 170 [.ref a, v1, v2, v3, v4, v5, v6] (.ref a :: st) M := den_go l_144_169 rfl
theorem l_144_170 : look (tab 144) 170 = some (.getfield 16, 3, [6, 2, 81], uu) := by decide +kernel
theorem e_144_170 : den cf 144 170 L (.ref a :: st) M = oK (gfA (M.2.2 a) 6 2) (fun v => den cf 144 173 L (v :: st) M) := den_gf l_144_170
theorem l_144_173 : look (tab 144) 173 = some (.iload_n 2, 1, [], uu) := by decide +kernel
theorem e_144_173 : den cf 144 173 [v0, v1, .int x, v3, v4, v5, v6] st M = den cf 144 174 [v0, v1, .int x, v3, v4, v5, v6] (.int x :: st) M := den_go l_144_173 rfl
theorem l_144_174 : look (tab 144) 174 = some (.iaload, 1, [], uu) := by decide +kernel
theorem e_144_174 : den cf 144 174 L (.int x :: .ref a :: st) M = oK (ldI (M.2.2 a) x) (fun v => den cf 144 175 L (v :: st) M) := den_al (g := ldI) l_144_174 rfl
theorem l_144_175 : look (tab 144) 175 = some (.iload 5, 2, [], uu) := by decide +kernel
theorem e_144_175 : den cf 144 175 [v0, v1, v2, v3, v4, .int x, v6] st M = den cf 144 177 [v0, v1, v2, v3, v4, .int x, v6] (.int x :: st) M := den_go l_144_175 rfl
theorem l_144_177 : look (tab 144) 177 = some (.isub, 1, [], uu) := by decide +kernel
theorem e_144_177 : den cf 144 177 L (.int y :: .int x :: st) M = den cf 144 178 L (.int (x - y) :: st) M := den_go l_144_177 rfl
theorem l_144_178 : look (tab 144) 178 = some (.if_icmp .le 10, 3, [188], uu) := by decide +kernel
theorem e_144_178 : den cf 144 178 L (.int y :: .int x :: st) M = if y < x then den cf 144 181 L st M else den cf 144 188 L st M := den_ic_le l_144_178
theorem l_144_181 : look (tab 144) 181 = some (.aload_n 0, 1, [], uu) := by decide +kernel
theorem e_144_181 : den cf 144 181 [.ref a, v1, v2, v3, v4, v5, v6] st M = den cf 144 182 [.ref a, v1, v2, v3, v4, v5, v6] (.ref a :: st) M := den_go l_144_181 rfl
theorem l_144_182 : look (tab 144) 182 = some (.bipush (-2), 2, [], .int (zI (-2))) := by decide +kernel
theorem e_144_182 : den cf 144 182 L st M = den cf 144 184 L (.int (zI (-2)) :: st) M := den_go l_144_182 rfl
theorem l_144_184 : look (tab 144) 184 = some (.invokevirtual 93, 3, [6, 136, 2, 133, 134, 135, 5], uu) := by decide +kernel
theorem e_144_184 : den cf 144 184 L (w1 :: .ref a :: st) M = if rcv M 6 [.ref a, w1] = true ∧ st.length ≤ 4 then rK (cf 136 [.ref a, w1] M) (fun v M' => den cf 144 187 L (pR v st) M') else none := den_iv [w1] l_144_184 rfl
theorem l_144_187 : look (tab 144) 187 = some (.ireturn, 1, [0], uu) := by decide +kernel
theorem e_144_187 : den cf 144 187 L [.int x] M = some (some (.int x), M) := den_e0 l_144_187
theorem l_144_188 : look (tab 144) 188 = some (.iconst 0, 1, [], .int (zI 0)) := by decide +kernel
theorem e_144_188 : den cf 144 188 L st M = den cf 144 189 L (.int (zI 0) :: st) M := den_go l_144_188 rfl
theorem l_144_189 : look (tab 144) 189 = some (.istore 6, 2, [], uu) := by decide +kernel
theorem e_144_189 : den cf 144 189 [v0, v1, v2, v3, v4, v5, v6] (.int x :: st) M = den cf 144 191 [v0, v1, v2, v3, v4, kq v5, .int x] st M := den_st (k := 6) (v := .int x) l_144_189 rfl
theorem l_144_191 : look (tab 144) 191 = some (.iload 6, 2, [], uu) := by decide +kernel
theorem e_144_191 : den cf 144 191 [v0, v1, v2, v3, v4, v5, .int x] st M = den cf 144 193 [v0, v1, v2, v3, v4, v5, .int x] (.int x :: st) M := den_go l_144_191 rfl
theorem l_144_193 : look (tab 144) 193 = some (.iload 5, 2, [], uu) := by decide +kernel
theorem e_144_193 : den cf 144 193 [v0, v1, v2, v3, v4, .int x, v6] st M = den cf 144 195 [v0, v1, v2, v3, v4, .int x, v6] (.int x :: st) M := den_go l_144_193 rfl
theorem l_144_195 : look (tab 144) 195 = some (.if_icmp .ge 27, 3, [222], uu) := by decide +kernel
theorem e_144_195 : den cf 144 195 L (.int y :: .int x :: st) M = if x < y then den cf 144 198 L st M else den cf 144 222 L st M := den_ic_ge l_144_195
theorem l_144_198 : look (tab 144) 198 = some (.aload_n 0, 1, [], uu) := by decide +kernel
theorem e_144_198 : den cf 144 198 [.ref a, v1, v2, v3, v4, v5, v6] st M = den cf 144 199 [.ref a, v1, v2, v3, v4, v5, v6] (.ref a :: st) M := den_go l_144_198 rfl
theorem l_144_199 : look (tab 144) 199 = some (.getfield 24, 3, [6, 4, 84], uu) := by decide +kernel
theorem e_144_199 : den cf 144 199 L (.ref a :: st) M = oK (gfA (M.2.2 a) 6 4) (fun v => den cf 144 202 L (v :: st) M) := den_gf l_144_199
theorem l_144_202 : look (tab 144) 202 = some (.iload 6, 2, [], uu) := by decide +kernel
theorem e_144_202 : den cf 144 202 [v0, v1, v2, v3, v4, v5, .int x] st M = den cf 144 204 [v0, v1, v2, v3, v4, v5, .int x] (.int x :: st) M := den_go l_144_202 rfl
theorem l_144_204 : look (tab 144) 204 = some (.aload_n 0, 1, [], uu) := by decide +kernel
theorem e_144_204 : den cf 144 204 [.ref a, v1, v2, v3, v4, v5, v6] st M = den cf 144 205 [.ref a, v1, v2, v3, v4, v5, v6] (.ref a :: st) M := den_go l_144_204 rfl
theorem l_144_205 : look (tab 144) 205 = some (.getfield 21, 3, [6, 3, 83], uu) := by decide +kernel
theorem e_144_205 : den cf 144 205 L (.ref a :: st) M = oK (gfA (M.2.2 a) 6 3) (fun v => den cf 144 208 L (v :: st) M) := den_gf l_144_205
theorem l_144_208 : look (tab 144) 208 = some (.iload_n 1, 1, [], uu) := by decide +kernel
theorem e_144_208 : den cf 144 208 [v0, .int x, v2, v3, v4, v5, v6] st M = den cf 144 209 [v0, .int x, v2, v3, v4, v5, v6] (.int x :: st) M := den_go l_144_208 rfl
theorem l_144_209 : look (tab 144) 209 = some (.aaload, 1, [], uu) := by decide +kernel
theorem e_144_209 : den cf 144 209 L (.int x :: .ref a :: st) M = oK (ldQ (M.2.2 a) x) (fun v => den cf 144 210 L (v :: st) M) := den_al (g := ldQ) l_144_209 rfl
theorem l_144_210 : look (tab 144) 210 = some (.iload_n 3, 1, [], uu) := by decide +kernel
theorem e_144_210 : den cf 144 210 [v0, v1, v2, .int x, v4, v5, v6] st M = den cf 144 211 [v0, v1, v2, .int x, v4, v5, v6] (.int x :: st) M := den_go l_144_210 rfl
theorem l_144_211 : look (tab 144) 211 = some (.iload 6, 2, [], uu) := by decide +kernel
theorem e_144_211 : den cf 144 211 [v0, v1, v2, v3, v4, v5, .int x] st M = den cf 144 213 [v0, v1, v2, v3, v4, v5, .int x] (.int x :: st) M := den_go l_144_211 rfl
theorem l_144_213 : look (tab 144) 213 = some (.iadd, 1, [], uu) := by decide +kernel
theorem e_144_213 : den cf 144 213 L (.int y :: .int x :: st) M = den cf 144 214 L (.int (x + y) :: st) M := den_go l_144_213 rfl
theorem l_144_214 : look (tab 144) 214 = some (.laload, 1, [], uu) := by decide +kernel
theorem e_144_214 : den cf 144 214 L (.int x :: .ref a :: st) M = oK (ldJ (M.2.2 a) x) (fun v => den cf 144 215 L (v :: st) M) := den_al (g := ldJ) l_144_214 rfl
theorem l_144_215 : look (tab 144) 215 = some (.lastore, 1, [], uu) := by decide +kernel
theorem e_144_215 : den cf 144 215 L (.long p :: .int y :: .ref a :: st) M = oK (stJ (M.2.2 a) y p) (fun c => den cf 144 216 L st (mU M a c)) := den_js l_144_215
theorem l_144_216 : look (tab 144) 216 = some (.iinc 6 1, 3, [], .int (zI 1)) := by decide +kernel
theorem e_144_216 : den cf 144 216 [v0, v1, v2, v3, v4, v5, .int x] st M = den cf 144 219 [v0, v1, v2, v3, v4, kq v5, .int (x + (zI 1))] st M := den_st (k := 6) (v := .int (x + (zI 1))) l_144_216 rfl
theorem l_144_219 : look (tab 144) 219 = some (.goto (-28), 3, [191], uu) := by decide +kernel
theorem e_144_219 : den cf 144 219 L st M = den cf 144 191 L st M := den_go l_144_219 rfl
theorem l_144_222 : look (tab 144) 222 = some (.iconst 0, 1, [], .int (zI 0)) := by decide +kernel
theorem e_144_222 : den cf 144 222 L st M = den cf 144 223 L (.int (zI 0) :: st) M := den_go l_144_222 rfl
theorem l_144_223 : look (tab 144) 223 = some (.istore 6, 2, [], uu) := by decide +kernel
theorem e_144_223 : den cf 144 223 [v0, v1, v2, v3, v4, v5, v6] (.int x :: st) M = den cf 144 225 [v0, v1, v2, v3, v4, kq v5, .int x] st M := den_st (k := 6) (v := .int x) l_144_223 rfl
theorem l_144_225 : look (tab 144) 225 = some (.iload 6, 2, [], uu) := by decide +kernel
theorem e_144_225 : den cf 144 225 [v0, v1, v2, v3, v4, v5, .int x] st M = den cf 144 227 [v0, v1, v2, v3, v4, v5, .int x] (.int x :: st) M := den_go l_144_225 rfl
theorem l_144_227 : look (tab 144) 227 = some (.iload 5, 2, [], uu) := by decide +kernel
theorem e_144_227 : den cf 144 227 [v0, v1, v2, v3, v4, .int x, v6] st M = den cf 144 229 [v0, v1, v2, v3, v4, .int x, v6] (.int x :: st) M := den_go l_144_227 rfl
theorem l_144_229 : look (tab 144) 229 = some (.if_icmp .ge 28, 3, [257], uu) := by decide +kernel
theorem e_144_229 : den cf 144 229 L (.int y :: .int x :: st) M = if x < y then den cf 144 232 L st M else den cf 144 257 L st M := den_ic_ge l_144_229
theorem l_144_232 : look (tab 144) 232 = some (.aload_n 0, 1, [], uu) := by decide +kernel
theorem e_144_232 : den cf 144 232 [.ref a, v1, v2, v3, v4, v5, v6] st M = den cf 144 233 [.ref a, v1, v2, v3, v4, v5, v6] (.ref a :: st) M := den_go l_144_232 rfl
theorem l_144_233 : look (tab 144) 233 = some (.getfield 21, 3, [6, 3, 83], uu) := by decide +kernel
theorem e_144_233 : den cf 144 233 L (.ref a :: st) M = oK (gfA (M.2.2 a) 6 3) (fun v => den cf 144 236 L (v :: st) M) := den_gf l_144_233
theorem l_144_236 : look (tab 144) 236 = some (.iload_n 2, 1, [], uu) := by decide +kernel
theorem e_144_236 : den cf 144 236 [v0, v1, .int x, v3, v4, v5, v6] st M = den cf 144 237 [v0, v1, .int x, v3, v4, v5, v6] (.int x :: st) M := den_go l_144_236 rfl
theorem l_144_237 : look (tab 144) 237 = some (.aaload, 1, [], uu) := by decide +kernel
theorem e_144_237 : den cf 144 237 L (.int x :: .ref a :: st) M = oK (ldQ (M.2.2 a) x) (fun v => den cf 144 238 L (v :: st) M) := den_al (g := ldQ) l_144_237 rfl
theorem l_144_238 : look (tab 144) 238 = some (.iload 4, 2, [], uu) := by decide +kernel
theorem e_144_238 : den cf 144 238 [v0, v1, v2, v3, .int x, v5, v6] st M = den cf 144 240 [v0, v1, v2, v3, .int x, v5, v6] (.int x :: st) M := den_go l_144_238 rfl
theorem l_144_240 : look (tab 144) 240 = some (.iload 6, 2, [], uu) := by decide +kernel
theorem e_144_240 : den cf 144 240 [v0, v1, v2, v3, v4, v5, .int x] st M = den cf 144 242 [v0, v1, v2, v3, v4, v5, .int x] (.int x :: st) M := den_go l_144_240 rfl
theorem l_144_242 : look (tab 144) 242 = some (.iadd, 1, [], uu) := by decide +kernel
theorem e_144_242 : den cf 144 242 L (.int y :: .int x :: st) M = den cf 144 243 L (.int (x + y) :: st) M := den_go l_144_242 rfl
theorem l_144_243 : look (tab 144) 243 = some (.aload_n 0, 1, [], uu) := by decide +kernel
theorem e_144_243 : den cf 144 243 [.ref a, v1, v2, v3, v4, v5, v6] st M = den cf 144 244 [.ref a, v1, v2, v3, v4, v5, v6] (.ref a :: st) M := den_go l_144_243 rfl
theorem l_144_244 : look (tab 144) 244 = some (.getfield 24, 3, [6, 4, 84], uu) := by decide +kernel
theorem e_144_244 : den cf 144 244 L (.ref a :: st) M = oK (gfA (M.2.2 a) 6 4) (fun v => den cf 144 247 L (v :: st) M) := den_gf l_144_244
theorem l_144_247 : look (tab 144) 247 = some (.iload 6, 2, [], uu) := by decide +kernel
theorem e_144_247 : den cf 144 247 [v0, v1, v2, v3, v4, v5, .int x] st M = den cf 144 249 [v0, v1, v2, v3, v4, v5, .int x] (.int x :: st) M := den_go l_144_247 rfl
theorem l_144_249 : look (tab 144) 249 = some (.laload, 1, [], uu) := by decide +kernel
theorem e_144_249 : den cf 144 249 L (.int x :: .ref a :: st) M = oK (ldJ (M.2.2 a) x) (fun v => den cf 144 250 L (v :: st) M) := den_al (g := ldJ) l_144_249 rfl
theorem l_144_250 : look (tab 144) 250 = some (.lastore, 1, [], uu) := by decide +kernel
theorem e_144_250 : den cf 144 250 L (.long p :: .int y :: .ref a :: st) M = oK (stJ (M.2.2 a) y p) (fun c => den cf 144 251 L st (mU M a c)) := den_js l_144_250
theorem l_144_251 : look (tab 144) 251 = some (.iinc 6 1, 3, [], .int (zI 1)) := by decide +kernel
theorem e_144_251 : den cf 144 251 [v0, v1, v2, v3, v4, v5, .int x] st M = den cf 144 254 [v0, v1, v2, v3, v4, kq v5, .int (x + (zI 1))] st M := den_st (k := 6) (v := .int (x + (zI 1))) l_144_251 rfl
theorem l_144_254 : look (tab 144) 254 = some (.goto (-29), 3, [225], uu) := by decide +kernel
theorem e_144_254 : den cf 144 254 L st M = den cf 144 225 L st M := den_go l_144_254 rfl
theorem l_144_257 : look (tab 144) 257 = some (.iload 5, 2, [], uu) := by decide +kernel
theorem e_144_257 : den cf 144 257 [v0, v1, v2, v3, v4, .int x, v6] st M = den cf 144 259 [v0, v1, v2, v3, v4, .int x, v6] (.int x :: st) M := den_go l_144_257 rfl
theorem l_144_259 : look (tab 144) 259 = some (.ireturn, 1, [0], uu) := by decide +kernel
theorem e_144_259 : den cf 144 259 L [.int x] M = some (some (.int x), M) := den_e0 l_144_259
/-! yX6_element -/
theorem l_145_0 : look (tab 145) 0 = some (.iload_n 1, 1, [], uu) := by decide +kernel
theorem e_145_0 : den cf 145 0 [v0, .int x, v2] st M = den cf 145 1 [v0, .int x, v2] (.int x :: st) M := den_go l_145_0 rfl
theorem l_145_1 : look (tab 145) 1 = some (.i2l, 1, [], uu) := by decide +kernel
theorem e_145_1 : den cf 145 1 L (.int x :: st) M = den cf 145 2 L (.long x.toInt64 :: st) M := den_go l_145_1 rfl
theorem l_145_2 : look (tab 145) 2 = some (.lconst 0, 1, [], .long (zJ 0)) := by decide +kernel
theorem e_145_2 : den cf 145 2 L st M = den cf 145 3 L (.long (zJ 0) :: st) M := den_go l_145_2 rfl
theorem l_145_3 : look (tab 145) 3 = some (.ldc2_w 87, 3, [127], .long (zJ 7)) := by decide +kernel
theorem e_145_3 : den cf 145 3 L st M = den cf 145 6 L (.long (zJ 7) :: st) M := den_go l_145_3 rfl
theorem l_145_6 : look (tab 145) 6 = some (.invokestatic 83, 3, [1, 137, 3, 130, 131, 5], uu) := by decide +kernel
theorem e_145_6 : den cf 145 6 L (w3 :: w2 :: w1 :: st) M = if st.length ≤ 4 then rK (cf 137 [w1, w2, w3] M) (fun v M' => den cf 145 9 L (pR v st) M') else none := den_ist [w1, w2, w3] l_145_6 rfl
theorem l_145_9 : look (tab 145) 9 = some (.ifCond .eq 42, 3, [51], uu) := by decide +kernel
theorem e_145_9 : den cf 145 9 L (.int x :: st) M = if x = zI 0 then den cf 145 51 L st M else den cf 145 12 L st M := den_if_eq l_145_9
theorem l_145_12 : look (tab 145) 12 = some (.aload_n 0, 1, [], uu) := by decide +kernel
theorem e_145_12 : den cf 145 12 [.ref a, v1, v2] st M = den cf 145 13 [.ref a, v1, v2] (.ref a :: st) M := den_go l_145_12 rfl
theorem l_145_13 : look (tab 145) 13 = some (.getfield 7, 3, [6, 0, 79], uu) := by decide +kernel
theorem e_145_13 : den cf 145 13 L (.ref a :: st) M = oK (gfA (M.2.2 a) 6 0) (fun v => den cf 145 16 L (v :: st) M) := den_gf l_145_13
theorem l_145_16 : look (tab 145) 16 = some (.iload_n 1, 1, [], uu) := by decide +kernel
theorem e_145_16 : den cf 145 16 [v0, .int x, v2] st M = den cf 145 17 [v0, .int x, v2] (.int x :: st) M := den_go l_145_16 rfl
theorem l_145_17 : look (tab 145) 17 = some (.iaload, 1, [], uu) := by decide +kernel
theorem e_145_17 : den cf 145 17 L (.int x :: .ref a :: st) M = oK (ldI (M.2.2 a) x) (fun v => den cf 145 18 L (v :: st) M) := den_al (g := ldI) l_145_17 rfl
theorem l_145_18 : look (tab 145) 18 = some (.iconst 1, 1, [], .int (zI 1)) := by decide +kernel
theorem e_145_18 : den cf 145 18 L st M = den cf 145 19 L (.int (zI 1) :: st) M := den_go l_145_18 rfl
theorem l_145_19 : look (tab 145) 19 = some (.if_icmp .ne 32, 3, [51], uu) := by decide +kernel
theorem e_145_19 : den cf 145 19 L (.int y :: .int x :: st) M = if x = y then den cf 145 22 L st M else den cf 145 51 L st M := den_ic_ne l_145_19
theorem l_145_22 : look (tab 145) 22 = some (.iload_n 2, 1, [], uu) := by decide +kernel
theorem e_145_22 : den cf 145 22 [v0, v1, .int x] st M = den cf 145 23 [v0, v1, .int x] (.int x :: st) M := den_go l_145_22 rfl
theorem l_145_23 : look (tab 145) 23 = some (.i2l, 1, [], uu) := by decide +kernel
theorem e_145_23 : den cf 145 23 L (.int x :: st) M = den cf 145 24 L (.long x.toInt64 :: st) M := den_go l_145_23 rfl
theorem l_145_24 : look (tab 145) 24 = some (.lconst 0, 1, [], .long (zJ 0)) := by decide +kernel
theorem e_145_24 : den cf 145 24 L st M = den cf 145 25 L (.long (zJ 0) :: st) M := den_go l_145_24 rfl
theorem l_145_25 : look (tab 145) 25 = some (.aload_n 0, 1, [], uu) := by decide +kernel
theorem e_145_25 : den cf 145 25 [.ref a, v1, v2] st M = den cf 145 26 [.ref a, v1, v2] (.ref a :: st) M := den_go l_145_25 rfl
theorem l_145_26 : look (tab 145) 26 = some (.getfield 16, 3, [6, 2, 81], uu) := by decide +kernel
theorem e_145_26 : den cf 145 26 L (.ref a :: st) M = oK (gfA (M.2.2 a) 6 2) (fun v => den cf 145 29 L (v :: st) M) := den_gf l_145_26
theorem l_145_29 : look (tab 145) 29 = some (.iload_n 1, 1, [], uu) := by decide +kernel
theorem e_145_29 : den cf 145 29 [v0, .int x, v2] st M = den cf 145 30 [v0, .int x, v2] (.int x :: st) M := den_go l_145_29 rfl
theorem l_145_30 : look (tab 145) 30 = some (.iaload, 1, [], uu) := by decide +kernel
theorem e_145_30 : den cf 145 30 L (.int x :: .ref a :: st) M = oK (ldI (M.2.2 a) x) (fun v => den cf 145 31 L (v :: st) M) := den_al (g := ldI) l_145_30 rfl
theorem l_145_31 : look (tab 145) 31 = some (.iconst 1, 1, [], .int (zI 1)) := by decide +kernel
theorem e_145_31 : den cf 145 31 L st M = den cf 145 32 L (.int (zI 1) :: st) M := den_go l_145_31 rfl
theorem l_145_32 : look (tab 145) 32 = some (.isub, 1, [], uu) := by decide +kernel
theorem e_145_32 : den cf 145 32 L (.int y :: .int x :: st) M = den cf 145 33 L (.int (x - y) :: st) M := den_go l_145_32 rfl
theorem l_145_33 : look (tab 145) 33 = some (.i2l, 1, [], uu) := by decide +kernel
theorem e_145_33 : den cf 145 33 L (.int x :: st) M = den cf 145 34 L (.long x.toInt64 :: st) M := den_go l_145_33 rfl
theorem l_145_34 : look (tab 145) 34 = some (.invokestatic 83, 3, [1, 137, 3, 130, 131, 5], uu) := by decide +kernel
theorem e_145_34 : den cf 145 34 L (w3 :: w2 :: w1 :: st) M = if st.length ≤ 4 then rK (cf 137 [w1, w2, w3] M) (fun v M' => den cf 145 37 L (pR v st) M') else none := den_ist [w1, w2, w3] l_145_34 rfl
theorem l_145_37 : look (tab 145) 37 = some (.ifCond .eq 14, 3, [51], uu) := by decide +kernel
theorem e_145_37 : den cf 145 37 L (.int x :: st) M = if x = zI 0 then den cf 145 51 L st M else den cf 145 40 L st M := den_if_eq l_145_37
theorem l_145_40 : look (tab 145) 40 = some (.aload_n 0, 1, [], uu) := by decide +kernel
theorem e_145_40 : den cf 145 40 [.ref a, v1, v2] st M = den cf 145 41 [.ref a, v1, v2] (.ref a :: st) M := den_go l_145_40 rfl
theorem l_145_41 : look (tab 145) 41 = some (.getfield 21, 3, [6, 3, 83], uu) := by decide +kernel
theorem e_145_41 : den cf 145 41 L (.ref a :: st) M = oK (gfA (M.2.2 a) 6 3) (fun v => den cf 145 44 L (v :: st) M) := den_gf l_145_41
theorem l_145_44 : look (tab 145) 44 = some (.iload_n 1, 1, [], uu) := by decide +kernel
theorem e_145_44 : den cf 145 44 [v0, .int x, v2] st M = den cf 145 45 [v0, .int x, v2] (.int x :: st) M := den_go l_145_44 rfl
theorem l_145_45 : look (tab 145) 45 = some (.aaload, 1, [], uu) := by decide +kernel
theorem e_145_45 : den cf 145 45 L (.int x :: .ref a :: st) M = oK (ldQ (M.2.2 a) x) (fun v => den cf 145 46 L (v :: st) M) := den_al (g := ldQ) l_145_45 rfl
theorem l_145_46 : look (tab 145) 46 = some (.iload_n 2, 1, [], uu) := by decide +kernel
theorem e_145_46 : den cf 145 46 [v0, v1, .int x] st M = den cf 145 47 [v0, v1, .int x] (.int x :: st) M := den_go l_145_46 rfl
theorem l_145_47 : look (tab 145) 47 = some (.laload, 1, [], uu) := by decide +kernel
theorem e_145_47 : den cf 145 47 L (.int x :: .ref a :: st) M = oK (ldJ (M.2.2 a) x) (fun v => den cf 145 48 L (v :: st) M) := den_al (g := ldJ) l_145_47 rfl
theorem l_145_48 : look (tab 145) 48 = some (.goto 4, 3, [52], uu) := by decide +kernel
theorem e_145_48 : den cf 145 48 L st M = den cf 145 52 L st M := den_go l_145_48 rfl
theorem l_145_51 : look (tab 145) 51 = some (.lconst 0, 1, [], .long (zJ 0)) := by decide +kernel
theorem e_145_51 : den cf 145 51 L st M = den cf 145 52 L (.long (zJ 0) :: st) M := den_go l_145_51 rfl
theorem l_145_52 : look (tab 145) 52 = some (.lreturn, 1, [], uu) := by decide +kernel
theorem e_145_52 : den cf 145 52 L [.long p] M = some (some (.long p), M) := den_e2 l_145_52
/-! yX6_holds -/
theorem l_146_0 : look (tab 146) 0 = some (.iload_n 1, 1, [], uu) := by decide +kernel
theorem e_146_0 : den cf 146 0 [v0, .int x] st M = den cf 146 1 [v0, .int x] (.int x :: st) M := den_go l_146_0 rfl
theorem l_146_1 : look (tab 146) 1 = some (.i2l, 1, [], uu) := by decide +kernel
theorem e_146_1 : den cf 146 1 L (.int x :: st) M = den cf 146 2 L (.long x.toInt64 :: st) M := den_go l_146_1 rfl
theorem l_146_2 : look (tab 146) 2 = some (.lconst 0, 1, [], .long (zJ 0)) := by decide +kernel
theorem e_146_2 : den cf 146 2 L st M = den cf 146 3 L (.long (zJ 0) :: st) M := den_go l_146_2 rfl
theorem l_146_3 : look (tab 146) 3 = some (.ldc2_w 87, 3, [127], .long (zJ 7)) := by decide +kernel
theorem e_146_3 : den cf 146 3 L st M = den cf 146 6 L (.long (zJ 7) :: st) M := den_go l_146_3 rfl
theorem l_146_6 : look (tab 146) 6 = some (.invokestatic 83, 3, [1, 137, 3, 130, 131, 5], uu) := by decide +kernel
theorem e_146_6 : den cf 146 6 L (w3 :: w2 :: w1 :: st) M = if st.length ≤ 4 then rK (cf 137 [w1, w2, w3] M) (fun v M' => den cf 146 9 L (pR v st) M') else none := den_ist [w1, w2, w3] l_146_6 rfl
theorem l_146_9 : look (tab 146) 9 = some (.ifCond .eq 12, 3, [21], uu) := by decide +kernel
theorem e_146_9 : den cf 146 9 L (.int x :: st) M = if x = zI 0 then den cf 146 21 L st M else den cf 146 12 L st M := den_if_eq l_146_9
theorem l_146_12 : look (tab 146) 12 = some (.aload_n 0, 1, [], uu) := by decide +kernel
theorem e_146_12 : den cf 146 12 [.ref a, v1] st M = den cf 146 13 [.ref a, v1] (.ref a :: st) M := den_go l_146_12 rfl
theorem l_146_13 : look (tab 146) 13 = some (.getfield 7, 3, [6, 0, 79], uu) := by decide +kernel
theorem e_146_13 : den cf 146 13 L (.ref a :: st) M = oK (gfA (M.2.2 a) 6 0) (fun v => den cf 146 16 L (v :: st) M) := den_gf l_146_13
theorem l_146_16 : look (tab 146) 16 = some (.iload_n 1, 1, [], uu) := by decide +kernel
theorem e_146_16 : den cf 146 16 [v0, .int x] st M = den cf 146 17 [v0, .int x] (.int x :: st) M := den_go l_146_16 rfl
theorem l_146_17 : look (tab 146) 17 = some (.iaload, 1, [], uu) := by decide +kernel
theorem e_146_17 : den cf 146 17 L (.int x :: .ref a :: st) M = oK (ldI (M.2.2 a) x) (fun v => den cf 146 18 L (v :: st) M) := den_al (g := ldI) l_146_17 rfl
theorem l_146_18 : look (tab 146) 18 = some (.ifCond .ne 5, 3, [23], uu) := by decide +kernel
theorem e_146_18 : den cf 146 18 L (.int x :: st) M = if x = zI 0 then den cf 146 21 L st M else den cf 146 23 L st M := den_if_ne l_146_18
theorem l_146_21 : look (tab 146) 21 = some (.iconst (-1), 1, [], .int (zI (-1))) := by decide +kernel
theorem e_146_21 : den cf 146 21 L st M = den cf 146 22 L (.int (zI (-1)) :: st) M := den_go l_146_21 rfl
theorem l_146_22 : look (tab 146) 22 = some (.ireturn, 1, [0], uu) := by decide +kernel
theorem e_146_22 : den cf 146 22 L [.int x] M = some (some (.int x), M) := den_e0 l_146_22
theorem l_146_23 : look (tab 146) 23 = some (.aload_n 0, 1, [], uu) := by decide +kernel
theorem e_146_23 : den cf 146 23 [.ref a, v1] st M = den cf 146 24 [.ref a, v1] (.ref a :: st) M := den_go l_146_23 rfl
theorem l_146_24 : look (tab 146) 24 = some (.getfield 7, 3, [6, 0, 79], uu) := by decide +kernel
theorem e_146_24 : den cf 146 24 L (.ref a :: st) M = oK (gfA (M.2.2 a) 6 0) (fun v => den cf 146 27 L (v :: st) M) := den_gf l_146_24
theorem l_146_27 : look (tab 146) 27 = some (.iload_n 1, 1, [], uu) := by decide +kernel
theorem e_146_27 : den cf 146 27 [v0, .int x] st M = den cf 146 28 [v0, .int x] (.int x :: st) M := den_go l_146_27 rfl
theorem l_146_28 : look (tab 146) 28 = some (.iaload, 1, [], uu) := by decide +kernel
theorem e_146_28 : den cf 146 28 L (.int x :: .ref a :: st) M = oK (ldI (M.2.2 a) x) (fun v => den cf 146 29 L (v :: st) M) := den_al (g := ldI) l_146_28 rfl
theorem l_146_29 : look (tab 146) 29 = some (.iconst 1, 1, [], .int (zI 1)) := by decide +kernel
theorem e_146_29 : den cf 146 29 L st M = den cf 146 30 L (.int (zI 1) :: st) M := den_go l_146_29 rfl
theorem l_146_30 : look (tab 146) 30 = some (.if_icmp .ne 12, 3, [42], uu) := by decide +kernel
theorem e_146_30 : den cf 146 30 L (.int y :: .int x :: st) M = if x = y then den cf 146 33 L st M else den cf 146 42 L st M := den_ic_ne l_146_30
theorem l_146_33 : look (tab 146) 33 = some (.aload_n 0, 1, [], uu) := by decide +kernel
theorem e_146_33 : den cf 146 33 [.ref a, v1] st M = den cf 146 34 [.ref a, v1] (.ref a :: st) M := den_go l_146_33 rfl
theorem l_146_34 : look (tab 146) 34 = some (.getfield 13, 3, [6, 1, 80], uu) := by decide +kernel
theorem e_146_34 : den cf 146 34 L (.ref a :: st) M = oK (gfA (M.2.2 a) 6 1) (fun v => den cf 146 37 L (v :: st) M) := den_gf l_146_34
theorem l_146_37 : look (tab 146) 37 = some (.iload_n 1, 1, [], uu) := by decide +kernel
theorem e_146_37 : den cf 146 37 [v0, .int x] st M = den cf 146 38 [v0, .int x] (.int x :: st) M := den_go l_146_37 rfl
theorem l_146_38 : look (tab 146) 38 = some (.iaload, 1, [], uu) := by decide +kernel
theorem e_146_38 : den cf 146 38 L (.int x :: .ref a :: st) M = oK (ldI (M.2.2 a) x) (fun v => den cf 146 39 L (v :: st) M) := den_al (g := ldI) l_146_38 rfl
theorem l_146_39 : look (tab 146) 39 = some (.goto 12, 3, [51], uu) := by decide +kernel
theorem e_146_39 : den cf 146 39 L st M = den cf 146 51 L st M := den_go l_146_39 rfl
theorem l_146_42 : look (tab 146) 42 = some (.bipush 10, 2, [], .int (zI 10)) := by decide +kernel
theorem e_146_42 : den cf 146 42 L st M = den cf 146 44 L (.int (zI 10) :: st) M := den_go l_146_42 rfl
theorem l_146_44 : look (tab 146) 44 = some (.aload_n 0, 1, [], uu) := by decide +kernel
theorem e_146_44 : den cf 146 44 [.ref a, v1] st M = den cf 146 45 [.ref a, v1] (.ref a :: st) M := den_go l_146_44 rfl
theorem l_146_45 : look (tab 146) 45 = some (.getfield 28, 3, [6, 5, 85], uu) := by decide +kernel
theorem e_146_45 : den cf 146 45 L (.ref a :: st) M = oK (gfA (M.2.2 a) 6 5) (fun v => den cf 146 48 L (v :: st) M) := den_gf l_146_45
theorem l_146_48 : look (tab 146) 48 = some (.iload_n 1, 1, [], uu) := by decide +kernel
theorem e_146_48 : den cf 146 48 [v0, .int x] st M = den cf 146 49 [v0, .int x] (.int x :: st) M := den_go l_146_48 rfl
theorem l_146_49 : look (tab 146) 49 = some (.iaload, 1, [], uu) := by decide +kernel
theorem e_146_49 : den cf 146 49 L (.int x :: .ref a :: st) M = oK (ldI (M.2.2 a) x) (fun v => den cf 146 50 L (v :: st) M) := den_al (g := ldI) l_146_49 rfl
theorem l_146_50 : look (tab 146) 50 = some (.iadd, 1, [], uu) := by decide +kernel
theorem e_146_50 : den cf 146 50 L (.int y :: .int x :: st) M = den cf 146 51 L (.int (x + y) :: st) M := den_go l_146_50 rfl
theorem l_146_51 : look (tab 146) 51 = some (.ireturn, 1, [0], uu) := by decide +kernel
theorem e_146_51 : den cf 146 51 L [.int x] M = some (some (.int x), M) := den_e0 l_146_51
/-! yX6_show -/
theorem l_147_0 : look (tab 147) 0 = some (.iload_n 1, 1, [], uu) := by decide +kernel
theorem e_147_0 : den cf 147 0 [v0, .int x, v2] st M = den cf 147 1 [v0, .int x, v2] (.int x :: st) M := den_go l_147_0 rfl
theorem l_147_1 : look (tab 147) 1 = some (.i2l, 1, [], uu) := by decide +kernel
theorem e_147_1 : den cf 147 1 L (.int x :: st) M = den cf 147 2 L (.long x.toInt64 :: st) M := den_go l_147_1 rfl
theorem l_147_2 : look (tab 147) 2 = some (.lconst 0, 1, [], .long (zJ 0)) := by decide +kernel
theorem e_147_2 : den cf 147 2 L st M = den cf 147 3 L (.long (zJ 0) :: st) M := den_go l_147_2 rfl
theorem l_147_3 : look (tab 147) 3 = some (.ldc2_w 87, 3, [127], .long (zJ 7)) := by decide +kernel
theorem e_147_3 : den cf 147 3 L st M = den cf 147 6 L (.long (zJ 7) :: st) M := den_go l_147_3 rfl
theorem l_147_6 : look (tab 147) 6 = some (.invokestatic 83, 3, [1, 137, 3, 130, 131, 5], uu) := by decide +kernel
theorem e_147_6 : den cf 147 6 L (w3 :: w2 :: w1 :: st) M = if st.length ≤ 4 then rK (cf 137 [w1, w2, w3] M) (fun v M' => den cf 147 9 L (pR v st) M') else none := den_ist [w1, w2, w3] l_147_6 rfl
theorem l_147_9 : look (tab 147) 9 = some (.ifCond .eq 16, 3, [25], uu) := by decide +kernel
theorem e_147_9 : den cf 147 9 L (.int x :: st) M = if x = zI 0 then den cf 147 25 L st M else den cf 147 12 L st M := den_if_eq l_147_9
theorem l_147_12 : look (tab 147) 12 = some (.iload_n 2, 1, [], uu) := by decide +kernel
theorem e_147_12 : den cf 147 12 [v0, v1, .int x] st M = den cf 147 13 [v0, v1, .int x] (.int x :: st) M := den_go l_147_12 rfl
theorem l_147_13 : look (tab 147) 13 = some (.iconst (-1), 1, [], .int (zI (-1))) := by decide +kernel
theorem e_147_13 : den cf 147 13 L st M = den cf 147 14 L (.int (zI (-1)) :: st) M := den_go l_147_13 rfl
theorem l_147_14 : look (tab 147) 14 = some (.if_icmp .eq 18, 3, [32], uu) := by decide +kernel
theorem e_147_14 : den cf 147 14 L (.int y :: .int x :: st) M = if x = y then den cf 147 32 L st M else den cf 147 17 L st M := den_ic_eq l_147_14
theorem l_147_17 : look (tab 147) 17 = some (.aload_n 0, 1, [], uu) := by decide +kernel
theorem e_147_17 : den cf 147 17 [.ref a, v1, v2] st M = den cf 147 18 [.ref a, v1, v2] (.ref a :: st) M := den_go l_147_17 rfl
theorem l_147_18 : look (tab 147) 18 = some (.iload_n 2, 1, [], uu) := by decide +kernel
theorem e_147_18 : den cf 147 18 [v0, v1, .int x] st M = den cf 147 19 [v0, v1, .int x] (.int x :: st) M := den_go l_147_18 rfl
theorem l_147_19 : look (tab 147) 19 = some (.invokevirtual 104, 3, [6, 138, 2, 226, 227, 228, 5], uu) := by decide +kernel
theorem e_147_19 : den cf 147 19 L (w1 :: .ref a :: st) M = if rcv M 6 [.ref a, w1] = true ∧ st.length ≤ 4 then rK (cf 138 [.ref a, w1] M) (fun v M' => den cf 147 22 L (pR v st) M') else none := den_iv [w1] l_147_19 rfl
theorem l_147_22 : look (tab 147) 22 = some (.ifCond .ne 10, 3, [32], uu) := by decide +kernel
theorem e_147_22 : den cf 147 22 L (.int x :: st) M = if x = zI 0 then den cf 147 25 L st M else den cf 147 32 L st M := den_if_ne l_147_22
theorem l_147_25 : look (tab 147) 25 = some (.aload_n 0, 1, [], uu) := by decide +kernel
theorem e_147_25 : den cf 147 25 [.ref a, v1, v2] st M = den cf 147 26 [.ref a, v1, v2] (.ref a :: st) M := den_go l_147_25 rfl
theorem l_147_26 : look (tab 147) 26 = some (.bipush (-2), 2, [], .int (zI (-2))) := by decide +kernel
theorem e_147_26 : den cf 147 26 L st M = den cf 147 28 L (.int (zI (-2)) :: st) M := den_go l_147_26 rfl
theorem l_147_28 : look (tab 147) 28 = some (.invokevirtual 93, 3, [6, 136, 2, 133, 134, 135, 5], uu) := by decide +kernel
theorem e_147_28 : den cf 147 28 L (w1 :: .ref a :: st) M = if rcv M 6 [.ref a, w1] = true ∧ st.length ≤ 4 then rK (cf 136 [.ref a, w1] M) (fun v M' => den cf 147 31 L (pR v st) M') else none := den_iv [w1] l_147_28 rfl
theorem l_147_31 : look (tab 147) 31 = some (.ireturn, 1, [0], uu) := by decide +kernel
theorem e_147_31 : den cf 147 31 L [.int x] M = some (some (.int x), M) := den_e0 l_147_31
theorem l_147_32 : look (tab 147) 32 = some (.aload_n 0, 1, [], uu) := by decide +kernel
theorem e_147_32 : den cf 147 32 [.ref a, v1, v2] st M = den cf 147 33 [.ref a, v1, v2] (.ref a :: st) M := den_go l_147_32 rfl
theorem l_147_33 : look (tab 147) 33 = some (.getfield 7, 3, [6, 0, 79], uu) := by decide +kernel
theorem e_147_33 : den cf 147 33 L (.ref a :: st) M = oK (gfA (M.2.2 a) 6 0) (fun v => den cf 147 36 L (v :: st) M) := den_gf l_147_33
theorem l_147_36 : look (tab 147) 36 = some (.iload_n 1, 1, [], uu) := by decide +kernel
theorem e_147_36 : den cf 147 36 [v0, .int x, v2] st M = den cf 147 37 [v0, .int x, v2] (.int x :: st) M := den_go l_147_36 rfl
theorem l_147_37 : look (tab 147) 37 = some (.iload_n 2, 1, [], uu) := by decide +kernel
theorem e_147_37 : den cf 147 37 [v0, v1, .int x] st M = den cf 147 38 [v0, v1, .int x] (.int x :: st) M := den_go l_147_37 rfl
theorem l_147_38 : look (tab 147) 38 = some (.iconst (-1), 1, [], .int (zI (-1))) := by decide +kernel
theorem e_147_38 : den cf 147 38 L st M = den cf 147 39 L (.int (zI (-1)) :: st) M := den_go l_147_38 rfl
theorem l_147_39 : look (tab 147) 39 = some (.if_icmp .ne 7, 3, [46], uu) := by decide +kernel
theorem e_147_39 : den cf 147 39 L (.int y :: .int x :: st) M = if x = y then den cf 147 42 L st M else den cf 147 46 L st M := den_ic_ne l_147_39
theorem l_147_42 : look (tab 147) 42 = some (.iconst 0, 1, [], .int (zI 0)) := by decide +kernel
theorem e_147_42 : den cf 147 42 L st M = den cf 147 43 L (.int (zI 0) :: st) M := den_go l_147_42 rfl
theorem l_147_43 : look (tab 147) 43 = some (.goto 4, 3, [47], uu) := by decide +kernel
theorem e_147_43 : den cf 147 43 L st M = den cf 147 47 L st M := den_go l_147_43 rfl
theorem l_147_46 : look (tab 147) 46 = some (.iconst 2, 1, [], .int (zI 2)) := by decide +kernel
theorem e_147_46 : den cf 147 46 L st M = den cf 147 47 L (.int (zI 2) :: st) M := den_go l_147_46 rfl
theorem l_147_47 : look (tab 147) 47 = some (.iastore, 1, [], uu) := by decide +kernel
theorem e_147_47 : den cf 147 47 L (.int x :: .int y :: .ref a :: st) M = oK (stI (M.2.2 a) y x) (fun c => den cf 147 48 L st (mU M a c)) := den_is l_147_47
theorem l_147_48 : look (tab 147) 48 = some (.aload_n 0, 1, [], uu) := by decide +kernel
theorem e_147_48 : den cf 147 48 [.ref a, v1, v2] st M = den cf 147 49 [.ref a, v1, v2] (.ref a :: st) M := den_go l_147_48 rfl
theorem l_147_49 : look (tab 147) 49 = some (.getfield 28, 3, [6, 5, 85], uu) := by decide +kernel
theorem e_147_49 : den cf 147 49 L (.ref a :: st) M = oK (gfA (M.2.2 a) 6 5) (fun v => den cf 147 52 L (v :: st) M) := den_gf l_147_49
theorem l_147_52 : look (tab 147) 52 = some (.iload_n 1, 1, [], uu) := by decide +kernel
theorem e_147_52 : den cf 147 52 [v0, .int x, v2] st M = den cf 147 53 [v0, .int x, v2] (.int x :: st) M := den_go l_147_52 rfl
theorem l_147_53 : look (tab 147) 53 = some (.iload_n 2, 1, [], uu) := by decide +kernel
theorem e_147_53 : den cf 147 53 [v0, v1, .int x] st M = den cf 147 54 [v0, v1, .int x] (.int x :: st) M := den_go l_147_53 rfl
theorem l_147_54 : look (tab 147) 54 = some (.iastore, 1, [], uu) := by decide +kernel
theorem e_147_54 : den cf 147 54 L (.int x :: .int y :: .ref a :: st) M = oK (stI (M.2.2 a) y x) (fun c => den cf 147 55 L st (mU M a c)) := den_is l_147_54
theorem l_147_55 : look (tab 147) 55 = some (.iconst 1, 1, [], .int (zI 1)) := by decide +kernel
theorem e_147_55 : den cf 147 55 L st M = den cf 147 56 L (.int (zI 1) :: st) M := den_go l_147_55 rfl
theorem l_147_56 : look (tab 147) 56 = some (.ireturn, 1, [0], uu) := by decide +kernel
theorem e_147_56 : den cf 147 56 L [.int x] M = some (some (.int x), M) := den_e0 l_147_56
/-! yX6_isUnder -/
theorem l_148_0 : look (tab 148) 0 = some (.iload_n 1, 1, [], uu) := by decide +kernel
theorem e_148_0 : den cf 148 0 [v0, .int x] st M = den cf 148 1 [v0, .int x] (.int x :: st) M := den_go l_148_0 rfl
theorem l_148_1 : look (tab 148) 1 = some (.ifCond .eq 28, 3, [29], uu) := by decide +kernel
theorem e_148_1 : den cf 148 1 L (.int x :: st) M = if x = zI 0 then den cf 148 29 L st M else den cf 148 4 L st M := den_if_eq l_148_1
theorem l_148_4 : look (tab 148) 4 = some (.iload_n 0, 1, [], uu) := by decide +kernel
theorem e_148_4 : den cf 148 4 [.int x, v1] st M = den cf 148 5 [.int x, v1] (.int x :: st) M := den_go l_148_4 rfl
theorem l_148_5 : look (tab 148) 5 = some (.iload_n 1, 1, [], uu) := by decide +kernel
theorem e_148_5 : den cf 148 5 [v0, .int x] st M = den cf 148 6 [v0, .int x] (.int x :: st) M := den_go l_148_5 rfl
theorem l_148_6 : look (tab 148) 6 = some (.if_icmp .eq 23, 3, [29], uu) := by decide +kernel
theorem e_148_6 : den cf 148 6 L (.int y :: .int x :: st) M = if x = y then den cf 148 29 L st M else den cf 148 9 L st M := den_ic_eq l_148_6
theorem l_148_9 : look (tab 148) 9 = some (.iload_n 1, 1, [], uu) := by decide +kernel
theorem e_148_9 : den cf 148 9 [v0, .int x] st M = den cf 148 10 [v0, .int x] (.int x :: st) M := den_go l_148_9 rfl
theorem l_148_10 : look (tab 148) 10 = some (.iconst 1, 1, [], .int (zI 1)) := by decide +kernel
theorem e_148_10 : den cf 148 10 L st M = den cf 148 11 L (.int (zI 1) :: st) M := den_go l_148_10 rfl
theorem l_148_11 : look (tab 148) 11 = some (.if_icmp .ne 8, 3, [19], uu) := by decide +kernel
theorem e_148_11 : den cf 148 11 L (.int y :: .int x :: st) M = if x = y then den cf 148 14 L st M else den cf 148 19 L st M := den_ic_ne l_148_11
theorem l_148_14 : look (tab 148) 14 = some (.iload_n 0, 1, [], uu) := by decide +kernel
theorem e_148_14 : den cf 148 14 [.int x, v1] st M = den cf 148 15 [.int x, v1] (.int x :: st) M := den_go l_148_14 rfl
theorem l_148_15 : look (tab 148) 15 = some (.iconst 3, 1, [], .int (zI 3)) := by decide +kernel
theorem e_148_15 : den cf 148 15 L st M = den cf 148 16 L (.int (zI 3) :: st) M := den_go l_148_15 rfl
theorem l_148_16 : look (tab 148) 16 = some (.if_icmp .eq 13, 3, [29], uu) := by decide +kernel
theorem e_148_16 : den cf 148 16 L (.int y :: .int x :: st) M = if x = y then den cf 148 29 L st M else den cf 148 19 L st M := den_ic_eq l_148_16
theorem l_148_19 : look (tab 148) 19 = some (.iload_n 1, 1, [], uu) := by decide +kernel
theorem e_148_19 : den cf 148 19 [v0, .int x] st M = den cf 148 20 [v0, .int x] (.int x :: st) M := den_go l_148_19 rfl
theorem l_148_20 : look (tab 148) 20 = some (.iconst 2, 1, [], .int (zI 2)) := by decide +kernel
theorem e_148_20 : den cf 148 20 L st M = den cf 148 21 L (.int (zI 2) :: st) M := den_go l_148_20 rfl
theorem l_148_21 : look (tab 148) 21 = some (.if_icmp .ne 12, 3, [33], uu) := by decide +kernel
theorem e_148_21 : den cf 148 21 L (.int y :: .int x :: st) M = if x = y then den cf 148 24 L st M else den cf 148 33 L st M := den_ic_ne l_148_21
theorem l_148_24 : look (tab 148) 24 = some (.iload_n 0, 1, [], uu) := by decide +kernel
theorem e_148_24 : den cf 148 24 [.int x, v1] st M = den cf 148 25 [.int x, v1] (.int x :: st) M := den_go l_148_24 rfl
theorem l_148_25 : look (tab 148) 25 = some (.iconst 4, 1, [], .int (zI 4)) := by decide +kernel
theorem e_148_25 : den cf 148 25 L st M = den cf 148 26 L (.int (zI 4) :: st) M := den_go l_148_25 rfl
theorem l_148_26 : look (tab 148) 26 = some (.if_icmp .ne 7, 3, [33], uu) := by decide +kernel
theorem e_148_26 : den cf 148 26 L (.int y :: .int x :: st) M = if x = y then den cf 148 29 L st M else den cf 148 33 L st M := den_ic_ne l_148_26
theorem l_148_29 : look (tab 148) 29 = some (.iconst 1, 1, [], .int (zI 1)) := by decide +kernel
theorem e_148_29 : den cf 148 29 L st M = den cf 148 30 L (.int (zI 1) :: st) M := den_go l_148_29 rfl
theorem l_148_30 : look (tab 148) 30 = some (.goto 4, 3, [34], uu) := by decide +kernel
theorem e_148_30 : den cf 148 30 L st M = den cf 148 34 L st M := den_go l_148_30 rfl
theorem l_148_33 : look (tab 148) 33 = some (.iconst 0, 1, [], .int (zI 0)) := by decide +kernel
theorem e_148_33 : den cf 148 33 L st M = den cf 148 34 L (.int (zI 0) :: st) M := den_go l_148_33 rfl
theorem l_148_34 : look (tab 148) 34 = some (.ireturn, 1, [1], uu) := by decide +kernel
theorem e_148_34 : den cf 148 34 L [.int x] M = if x = zI 0 ∨ x = zI 1 then some (some (.int x), M) else none := den_e1 l_148_34
/-! yX6_says -/
theorem l_149_0 : look (tab 149) 0 = some (.iload_n 1, 1, [], uu) := by decide +kernel
theorem e_149_0 : den cf 149 0 [v0, .int x, v2, v3] st M = den cf 149 1 [v0, .int x, v2, v3] (.int x :: st) M := den_go l_149_0 rfl
theorem l_149_1 : look (tab 149) 1 = some (.i2l, 1, [], uu) := by decide +kernel
theorem e_149_1 : den cf 149 1 L (.int x :: st) M = den cf 149 2 L (.long x.toInt64 :: st) M := den_go l_149_1 rfl
theorem l_149_2 : look (tab 149) 2 = some (.lconst 0, 1, [], .long (zJ 0)) := by decide +kernel
theorem e_149_2 : den cf 149 2 L st M = den cf 149 3 L (.long (zJ 0) :: st) M := den_go l_149_2 rfl
theorem l_149_3 : look (tab 149) 3 = some (.ldc2_w 87, 3, [127], .long (zJ 7)) := by decide +kernel
theorem e_149_3 : den cf 149 3 L st M = den cf 149 6 L (.long (zJ 7) :: st) M := den_go l_149_3 rfl
theorem l_149_6 : look (tab 149) 6 = some (.invokestatic 83, 3, [1, 137, 3, 130, 131, 5], uu) := by decide +kernel
theorem e_149_6 : den cf 149 6 L (w3 :: w2 :: w1 :: st) M = if st.length ≤ 4 then rK (cf 137 [w1, w2, w3] M) (fun v M' => den cf 149 9 L (pR v st) M') else none := den_ist [w1, w2, w3] l_149_6 rfl
theorem l_149_9 : look (tab 149) 9 = some (.ifCond .eq 15, 3, [24], uu) := by decide +kernel
theorem e_149_9 : den cf 149 9 L (.int x :: st) M = if x = zI 0 then den cf 149 24 L st M else den cf 149 12 L st M := den_if_eq l_149_9
theorem l_149_12 : look (tab 149) 12 = some (.iload_n 2, 1, [], uu) := by decide +kernel
theorem e_149_12 : den cf 149 12 [v0, v1, .int x, v3] st M = den cf 149 13 [v0, v1, .int x, v3] (.int x :: st) M := den_go l_149_12 rfl
theorem l_149_13 : look (tab 149) 13 = some (.i2l, 1, [], uu) := by decide +kernel
theorem e_149_13 : den cf 149 13 L (.int x :: st) M = den cf 149 14 L (.long x.toInt64 :: st) M := den_go l_149_13 rfl
theorem l_149_14 : look (tab 149) 14 = some (.lconst 0, 1, [], .long (zJ 0)) := by decide +kernel
theorem e_149_14 : den cf 149 14 L st M = den cf 149 15 L (.long (zJ 0) :: st) M := den_go l_149_14 rfl
theorem l_149_15 : look (tab 149) 15 = some (.ldc2_w 108, 3, [280], .long (zJ 5)) := by decide +kernel
theorem e_149_15 : den cf 149 15 L st M = den cf 149 18 L (.long (zJ 5) :: st) M := den_go l_149_15 rfl
theorem l_149_18 : look (tab 149) 18 = some (.invokestatic 83, 3, [1, 137, 3, 130, 131, 5], uu) := by decide +kernel
theorem e_149_18 : den cf 149 18 L (w3 :: w2 :: w1 :: st) M = if st.length ≤ 4 then rK (cf 137 [w1, w2, w3] M) (fun v M' => den cf 149 21 L (pR v st) M') else none := den_ist [w1, w2, w3] l_149_18 rfl
theorem l_149_21 : look (tab 149) 21 = some (.ifCond .ne 10, 3, [31], uu) := by decide +kernel
theorem e_149_21 : den cf 149 21 L (.int x :: st) M = if x = zI 0 then den cf 149 24 L st M else den cf 149 31 L st M := den_if_ne l_149_21
theorem l_149_24 : look (tab 149) 24 = some (.aload_n 0, 1, [], uu) := by decide +kernel
theorem e_149_24 : den cf 149 24 [.ref a, v1, v2, v3] st M = den cf 149 25 [.ref a, v1, v2, v3] (.ref a :: st) M := den_go l_149_24 rfl
theorem l_149_25 : look (tab 149) 25 = some (.bipush (-2), 2, [], .int (zI (-2))) := by decide +kernel
theorem e_149_25 : den cf 149 25 L st M = den cf 149 27 L (.int (zI (-2)) :: st) M := den_go l_149_25 rfl
theorem l_149_27 : look (tab 149) 27 = some (.invokevirtual 93, 3, [6, 136, 2, 133, 134, 135, 5], uu) := by decide +kernel
theorem e_149_27 : den cf 149 27 L (w1 :: .ref a :: st) M = if rcv M 6 [.ref a, w1] = true ∧ st.length ≤ 4 then rK (cf 136 [.ref a, w1] M) (fun v M' => den cf 149 30 L (pR v st) M') else none := den_iv [w1] l_149_27 rfl
theorem l_149_30 : look (tab 149) 30 = some (.ireturn, 1, [0], uu) := by decide +kernel
theorem e_149_30 : den cf 149 30 L [.int x] M = some (some (.int x), M) := den_e0 l_149_30
theorem l_149_31 : look (tab 149) 31 = some (.aload_n 0, 1, [], uu) := by decide +kernel
theorem e_149_31 : den cf 149 31 [.ref a, v1, v2, v3] st M = den cf 149 32 [.ref a, v1, v2, v3] (.ref a :: st) M := den_go l_149_31 rfl
theorem l_149_32 : look (tab 149) 32 = some (.getfield 7, 3, [6, 0, 79], uu) := by decide +kernel
theorem e_149_32 : den cf 149 32 L (.ref a :: st) M = oK (gfA (M.2.2 a) 6 0) (fun v => den cf 149 35 L (v :: st) M) := den_gf l_149_32
theorem l_149_35 : look (tab 149) 35 = some (.iload_n 1, 1, [], uu) := by decide +kernel
theorem e_149_35 : den cf 149 35 [v0, .int x, v2, v3] st M = den cf 149 36 [v0, .int x, v2, v3] (.int x :: st) M := den_go l_149_35 rfl
theorem l_149_36 : look (tab 149) 36 = some (.iaload, 1, [], uu) := by decide +kernel
theorem e_149_36 : den cf 149 36 L (.int x :: .ref a :: st) M = oK (ldI (M.2.2 a) x) (fun v => den cf 149 37 L (v :: st) M) := den_al (g := ldI) l_149_36 rfl
theorem l_149_37 : look (tab 149) 37 = some (.iconst 1, 1, [], .int (zI 1)) := by decide +kernel
theorem e_149_37 : den cf 149 37 L st M = den cf 149 38 L (.int (zI 1) :: st) M := den_go l_149_37 rfl
theorem l_149_38 : look (tab 149) 38 = some (.if_icmp .eq 31, 3, [69], uu) := by decide +kernel
theorem e_149_38 : den cf 149 38 L (.int y :: .int x :: st) M = if x = y then den cf 149 69 L st M else den cf 149 41 L st M := den_ic_eq l_149_38
theorem l_149_41 : look (tab 149) 41 = some (.aload_n 0, 1, [], uu) := by decide +kernel
theorem e_149_41 : den cf 149 41 [.ref a, v1, v2, v3] st M = den cf 149 42 [.ref a, v1, v2, v3] (.ref a :: st) M := den_go l_149_41 rfl
theorem l_149_42 : look (tab 149) 42 = some (.getfield 7, 3, [6, 0, 79], uu) := by decide +kernel
theorem e_149_42 : den cf 149 42 L (.ref a :: st) M = oK (gfA (M.2.2 a) 6 0) (fun v => den cf 149 45 L (v :: st) M) := den_gf l_149_42
theorem l_149_45 : look (tab 149) 45 = some (.iload_n 1, 1, [], uu) := by decide +kernel
theorem e_149_45 : den cf 149 45 [v0, .int x, v2, v3] st M = den cf 149 46 [v0, .int x, v2, v3] (.int x :: st) M := den_go l_149_45 rfl
theorem l_149_46 : look (tab 149) 46 = some (.iaload, 1, [], uu) := by decide +kernel
theorem e_149_46 : den cf 149 46 L (.int x :: .ref a :: st) M = oK (ldI (M.2.2 a) x) (fun v => den cf 149 47 L (v :: st) M) := den_al (g := ldI) l_149_46 rfl
theorem l_149_47 : look (tab 149) 47 = some (.iconst 2, 1, [], .int (zI 2)) := by decide +kernel
theorem e_149_47 : den cf 149 47 L st M = den cf 149 48 L (.int (zI 2) :: st) M := den_go l_149_47 rfl
theorem l_149_48 : look (tab 149) 48 = some (.if_icmp .ne 28, 3, [76], uu) := by decide +kernel
theorem e_149_48 : den cf 149 48 L (.int y :: .int x :: st) M = if x = y then den cf 149 51 L st M else den cf 149 76 L st M := den_ic_ne l_149_48
theorem l_149_51 : look (tab 149) 51 = some (.aload_n 0, 1, [], uu) := by decide +kernel
theorem e_149_51 : den cf 149 51 [.ref a, v1, v2, v3] st M = den cf 149 52 [.ref a, v1, v2, v3] (.ref a :: st) M := den_go l_149_51 rfl
theorem l_149_52 : look (tab 149) 52 = some (.getfield 37, 3, [6, 10, 88], uu) := by decide +kernel
theorem e_149_52 : den cf 149 52 L (.ref a :: st) M = oK (gfA (M.2.2 a) 6 10) (fun v => den cf 149 55 L (v :: st) M) := den_gf l_149_52
theorem l_149_55 : look (tab 149) 55 = some (.aload_n 0, 1, [], uu) := by decide +kernel
theorem e_149_55 : den cf 149 55 [.ref a, v1, v2, v3] st M = den cf 149 56 [.ref a, v1, v2, v3] (.ref a :: st) M := den_go l_149_55 rfl
theorem l_149_56 : look (tab 149) 56 = some (.getfield 28, 3, [6, 5, 85], uu) := by decide +kernel
theorem e_149_56 : den cf 149 56 L (.ref a :: st) M = oK (gfA (M.2.2 a) 6 5) (fun v => den cf 149 59 L (v :: st) M) := den_gf l_149_56
theorem l_149_59 : look (tab 149) 59 = some (.iload_n 1, 1, [], uu) := by decide +kernel
theorem e_149_59 : den cf 149 59 [v0, .int x, v2, v3] st M = den cf 149 60 [v0, .int x, v2, v3] (.int x :: st) M := den_go l_149_59 rfl
theorem l_149_60 : look (tab 149) 60 = some (.iaload, 1, [], uu) := by decide +kernel
theorem e_149_60 : den cf 149 60 L (.int x :: .ref a :: st) M = oK (ldI (M.2.2 a) x) (fun v => den cf 149 61 L (v :: st) M) := den_al (g := ldI) l_149_60 rfl
theorem l_149_61 : look (tab 149) 61 = some (.iaload, 1, [], uu) := by decide +kernel
theorem e_149_61 : den cf 149 61 L (.int x :: .ref a :: st) M = oK (ldI (M.2.2 a) x) (fun v => den cf 149 62 L (v :: st) M) := den_al (g := ldI) l_149_61 rfl
theorem l_149_62 : look (tab 149) 62 = some (.iload_n 2, 1, [], uu) := by decide +kernel
theorem e_149_62 : den cf 149 62 [v0, v1, .int x, v3] st M = den cf 149 63 [v0, v1, .int x, v3] (.int x :: st) M := den_go l_149_62 rfl
theorem l_149_63 : look (tab 149) 63 = some (.invokestatic 110, 3, [1, 148, 2, 281, 282, 5], uu) := by decide +kernel
theorem e_149_63 : den cf 149 63 L (w2 :: w1 :: st) M = if st.length ≤ 4 then rK (cf 148 [w1, w2] M) (fun v M' => den cf 149 66 L (pR v st) M') else none := den_ist [w1, w2] l_149_63 rfl
theorem l_149_66 : look (tab 149) 66 = some (.ifCond .ne 10, 3, [76], uu) := by decide +kernel
theorem e_149_66 : den cf 149 66 L (.int x :: st) M = if x = zI 0 then den cf 149 69 L st M else den cf 149 76 L st M := den_if_ne l_149_66
theorem l_149_69 : look (tab 149) 69 = some (.aload_n 0, 1, [], uu) := by decide +kernel
theorem e_149_69 : den cf 149 69 [.ref a, v1, v2, v3] st M = den cf 149 70 [.ref a, v1, v2, v3] (.ref a :: st) M := den_go l_149_69 rfl
theorem l_149_70 : look (tab 149) 70 = some (.bipush (-3), 2, [], .int (zI (-3))) := by decide +kernel
theorem e_149_70 : den cf 149 70 L st M = den cf 149 72 L (.int (zI (-3)) :: st) M := den_go l_149_70 rfl
theorem l_149_72 : look (tab 149) 72 = some (.invokevirtual 93, 3, [6, 136, 2, 133, 134, 135, 5], uu) := by decide +kernel
theorem e_149_72 : den cf 149 72 L (w1 :: .ref a :: st) M = if rcv M 6 [.ref a, w1] = true ∧ st.length ≤ 4 then rK (cf 136 [.ref a, w1] M) (fun v M' => den cf 149 75 L (pR v st) M') else none := den_iv [w1] l_149_72 rfl
theorem l_149_75 : look (tab 149) 75 = some (.ireturn, 1, [0], uu) := by decide +kernel
theorem e_149_75 : den cf 149 75 L [.int x] M = some (some (.int x), M) := den_e0 l_149_75
theorem l_149_76 : look (tab 149) 76 = some (.aload_n 0, 1, [], uu) := by decide +kernel
theorem e_149_76 : den cf 149 76 [.ref a, v1, v2, v3] st M = den cf 149 77 [.ref a, v1, v2, v3] (.ref a :: st) M := den_go l_149_76 rfl
theorem l_149_77 : look (tab 149) 77 = some (.getfield 7, 3, [6, 0, 79], uu) := by decide +kernel
theorem e_149_77 : den cf 149 77 L (.ref a :: st) M = oK (gfA (M.2.2 a) 6 0) (fun v => den cf 149 80 L (v :: st) M) := den_gf l_149_77
theorem l_149_80 : look (tab 149) 80 = some (.iload_n 1, 1, [], uu) := by decide +kernel
theorem e_149_80 : den cf 149 80 [v0, .int x, v2, v3] st M = den cf 149 81 [v0, .int x, v2, v3] (.int x :: st) M := den_go l_149_80 rfl
theorem l_149_81 : look (tab 149) 81 = some (.iaload, 1, [], uu) := by decide +kernel
theorem e_149_81 : den cf 149 81 L (.int x :: .ref a :: st) M = oK (ldI (M.2.2 a) x) (fun v => den cf 149 82 L (v :: st) M) := den_al (g := ldI) l_149_81 rfl
theorem l_149_82 : look (tab 149) 82 = some (.ifCond .ne 10, 3, [92], uu) := by decide +kernel
theorem e_149_82 : den cf 149 82 L (.int x :: st) M = if x = zI 0 then den cf 149 85 L st M else den cf 149 92 L st M := den_if_ne l_149_82
theorem l_149_85 : look (tab 149) 85 = some (.aload_n 0, 1, [], uu) := by decide +kernel
theorem e_149_85 : den cf 149 85 [.ref a, v1, v2, v3] st M = den cf 149 86 [.ref a, v1, v2, v3] (.ref a :: st) M := den_go l_149_85 rfl
theorem l_149_86 : look (tab 149) 86 = some (.bipush (-4), 2, [], .int (zI (-4))) := by decide +kernel
theorem e_149_86 : den cf 149 86 L st M = den cf 149 88 L (.int (zI (-4)) :: st) M := den_go l_149_86 rfl
theorem l_149_88 : look (tab 149) 88 = some (.invokevirtual 93, 3, [6, 136, 2, 133, 134, 135, 5], uu) := by decide +kernel
theorem e_149_88 : den cf 149 88 L (w1 :: .ref a :: st) M = if rcv M 6 [.ref a, w1] = true ∧ st.length ≤ 4 then rK (cf 136 [.ref a, w1] M) (fun v M' => den cf 149 91 L (pR v st) M') else none := den_iv [w1] l_149_88 rfl
theorem l_149_91 : look (tab 149) 91 = some (.ireturn, 1, [0], uu) := by decide +kernel
theorem e_149_91 : den cf 149 91 L [.int x] M = some (some (.int x), M) := den_e0 l_149_91
theorem l_149_92 : look (tab 149) 92 = some (.aload_n 0, 1, [], uu) := by decide +kernel
theorem e_149_92 : den cf 149 92 [.ref a, v1, v2, v3] st M = den cf 149 93 [.ref a, v1, v2, v3] (.ref a :: st) M := den_go l_149_92 rfl
theorem l_149_93 : look (tab 149) 93 = some (.getfield 28, 3, [6, 5, 85], uu) := by decide +kernel
theorem e_149_93 : den cf 149 93 L (.ref a :: st) M = oK (gfA (M.2.2 a) 6 5) (fun v => den cf 149 96 L (v :: st) M) := den_gf l_149_93
theorem l_149_96 : look (tab 149) 96 = some (.iload_n 1, 1, [], uu) := by decide +kernel
theorem e_149_96 : den cf 149 96 [v0, .int x, v2, v3] st M = den cf 149 97 [v0, .int x, v2, v3] (.int x :: st) M := den_go l_149_96 rfl
theorem l_149_97 : look (tab 149) 97 = some (.iaload, 1, [], uu) := by decide +kernel
theorem e_149_97 : den cf 149 97 L (.int x :: .ref a :: st) M = oK (ldI (M.2.2 a) x) (fun v => den cf 149 98 L (v :: st) M) := den_al (g := ldI) l_149_97 rfl
theorem l_149_98 : look (tab 149) 98 = some (.istore_n 3, 1, [], uu) := by decide +kernel
theorem e_149_98 : den cf 149 98 [v0, v1, v2, v3] (.int x :: st) M = den cf 149 99 [v0, v1, kq v2, .int x] st M := den_st (k := 3) (v := .int x) l_149_98 rfl
theorem l_149_99 : look (tab 149) 99 = some (.iload_n 2, 1, [], uu) := by decide +kernel
theorem e_149_99 : den cf 149 99 [v0, v1, .int x, v3] st M = den cf 149 100 [v0, v1, .int x, v3] (.int x :: st) M := den_go l_149_99 rfl
theorem l_149_100 : look (tab 149) 100 = some (.ifCond .ne 10, 3, [110], uu) := by decide +kernel
theorem e_149_100 : den cf 149 100 L (.int x :: st) M = if x = zI 0 then den cf 149 103 L st M else den cf 149 110 L st M := den_if_ne l_149_100
theorem l_149_103 : look (tab 149) 103 = some (.aload_n 0, 1, [], uu) := by decide +kernel
theorem e_149_103 : den cf 149 103 [.ref a, v1, v2, v3] st M = den cf 149 104 [.ref a, v1, v2, v3] (.ref a :: st) M := den_go l_149_103 rfl
theorem l_149_104 : look (tab 149) 104 = some (.getfield 46, 3, [6, 13, 91], uu) := by decide +kernel
theorem e_149_104 : den cf 149 104 L (.ref a :: st) M = oK (gfA (M.2.2 a) 6 13) (fun v => den cf 149 107 L (v :: st) M) := den_gf l_149_104
theorem l_149_107 : look (tab 149) 107 = some (.iload_n 3, 1, [], uu) := by decide +kernel
theorem e_149_107 : den cf 149 107 [v0, v1, v2, .int x] st M = den cf 149 108 [v0, v1, v2, .int x] (.int x :: st) M := den_go l_149_107 rfl
theorem l_149_108 : look (tab 149) 108 = some (.iaload, 1, [], uu) := by decide +kernel
theorem e_149_108 : den cf 149 108 L (.int x :: .ref a :: st) M = oK (ldI (M.2.2 a) x) (fun v => den cf 149 109 L (v :: st) M) := den_al (g := ldI) l_149_108 rfl
theorem l_149_109 : look (tab 149) 109 = some (.ireturn, 1, [0], uu) := by decide +kernel
theorem e_149_109 : den cf 149 109 L [.int x] M = some (some (.int x), M) := den_e0 l_149_109
theorem l_149_110 : look (tab 149) 110 = some (.aload_n 0, 1, [], uu) := by decide +kernel
theorem e_149_110 : den cf 149 110 [.ref a, v1, v2, v3] st M = den cf 149 111 [.ref a, v1, v2, v3] (.ref a :: st) M := den_go l_149_110 rfl
theorem l_149_111 : look (tab 149) 111 = some (.getfield 49, 3, [6, 14, 92], uu) := by decide +kernel
theorem e_149_111 : den cf 149 111 L (.ref a :: st) M = oK (gfA (M.2.2 a) 6 14) (fun v => den cf 149 114 L (v :: st) M) := den_gf l_149_111
theorem l_149_114 : look (tab 149) 114 = some (.iload_n 3, 1, [], uu) := by decide +kernel
theorem e_149_114 : den cf 149 114 [v0, v1, v2, .int x] st M = den cf 149 115 [v0, v1, v2, .int x] (.int x :: st) M := den_go l_149_114 rfl
theorem l_149_115 : look (tab 149) 115 = some (.iaload, 1, [], uu) := by decide +kernel
theorem e_149_115 : den cf 149 115 L (.int x :: .ref a :: st) M = oK (ldI (M.2.2 a) x) (fun v => den cf 149 116 L (v :: st) M) := den_al (g := ldI) l_149_115 rfl
theorem l_149_116 : look (tab 149) 116 = some (.iconst (-1), 1, [], .int (zI (-1))) := by decide +kernel
theorem e_149_116 : den cf 149 116 L st M = den cf 149 117 L (.int (zI (-1)) :: st) M := den_go l_149_116 rfl
theorem l_149_117 : look (tab 149) 117 = some (.if_icmp .ne 5, 3, [122], uu) := by decide +kernel
theorem e_149_117 : den cf 149 117 L (.int y :: .int x :: st) M = if x = y then den cf 149 120 L st M else den cf 149 122 L st M := den_ic_ne l_149_117
theorem l_149_120 : look (tab 149) 120 = some (.iconst 0, 1, [], .int (zI 0)) := by decide +kernel
theorem e_149_120 : den cf 149 120 L st M = den cf 149 121 L (.int (zI 0) :: st) M := den_go l_149_120 rfl
theorem l_149_121 : look (tab 149) 121 = some (.ireturn, 1, [0], uu) := by decide +kernel
theorem e_149_121 : den cf 149 121 L [.int x] M = some (some (.int x), M) := den_e0 l_149_121
theorem l_149_122 : look (tab 149) 122 = some (.iload_n 2, 1, [], uu) := by decide +kernel
theorem e_149_122 : den cf 149 122 [v0, v1, .int x, v3] st M = den cf 149 123 [v0, v1, .int x, v3] (.int x :: st) M := den_go l_149_122 rfl
theorem l_149_123 : look (tab 149) 123 = some (.iconst 2, 1, [], .int (zI 2)) := by decide +kernel
theorem e_149_123 : den cf 149 123 L st M = den cf 149 124 L (.int (zI 2) :: st) M := den_go l_149_123 rfl
theorem l_149_124 : look (tab 149) 124 = some (.if_icmp .eq 8, 3, [132], uu) := by decide +kernel
theorem e_149_124 : den cf 149 124 L (.int y :: .int x :: st) M = if x = y then den cf 149 132 L st M else den cf 149 127 L st M := den_ic_eq l_149_124
theorem l_149_127 : look (tab 149) 127 = some (.iload_n 2, 1, [], uu) := by decide +kernel
theorem e_149_127 : den cf 149 127 [v0, v1, .int x, v3] st M = den cf 149 128 [v0, v1, .int x, v3] (.int x :: st) M := den_go l_149_127 rfl
theorem l_149_128 : look (tab 149) 128 = some (.iconst 4, 1, [], .int (zI 4)) := by decide +kernel
theorem e_149_128 : den cf 149 128 L st M = den cf 149 129 L (.int (zI 4) :: st) M := den_go l_149_128 rfl
theorem l_149_129 : look (tab 149) 129 = some (.if_icmp .ne 17, 3, [146], uu) := by decide +kernel
theorem e_149_129 : den cf 149 129 L (.int y :: .int x :: st) M = if x = y then den cf 149 132 L st M else den cf 149 146 L st M := den_ic_ne l_149_129
theorem l_149_132 : look (tab 149) 132 = some (.aload_n 0, 1, [], uu) := by decide +kernel
theorem e_149_132 : den cf 149 132 [.ref a, v1, v2, v3] st M = den cf 149 133 [.ref a, v1, v2, v3] (.ref a :: st) M := den_go l_149_132 rfl
theorem l_149_133 : look (tab 149) 133 = some (.iload_n 3, 1, [], uu) := by decide +kernel
theorem e_149_133 : den cf 149 133 [v0, v1, v2, .int x] st M = den cf 149 134 [v0, v1, v2, .int x] (.int x :: st) M := den_go l_149_133 rfl
theorem l_149_134 : look (tab 149) 134 = some (.aload_n 0, 1, [], uu) := by decide +kernel
theorem e_149_134 : den cf 149 134 [.ref a, v1, v2, v3] st M = den cf 149 135 [.ref a, v1, v2, v3] (.ref a :: st) M := den_go l_149_134 rfl
theorem l_149_135 : look (tab 149) 135 = some (.getfield 37, 3, [6, 10, 88], uu) := by decide +kernel
theorem e_149_135 : den cf 149 135 L (.ref a :: st) M = oK (gfA (M.2.2 a) 6 10) (fun v => den cf 149 138 L (v :: st) M) := den_gf l_149_135
theorem l_149_138 : look (tab 149) 138 = some (.iload_n 3, 1, [], uu) := by decide +kernel
theorem e_149_138 : den cf 149 138 [v0, v1, v2, .int x] st M = den cf 149 139 [v0, v1, v2, .int x] (.int x :: st) M := den_go l_149_138 rfl
theorem l_149_139 : look (tab 149) 139 = some (.iaload, 1, [], uu) := by decide +kernel
theorem e_149_139 : den cf 149 139 L (.int x :: .ref a :: st) M = oK (ldI (M.2.2 a) x) (fun v => den cf 149 140 L (v :: st) M) := den_al (g := ldI) l_149_139 rfl
theorem l_149_140 : look (tab 149) 140 = some (.invokevirtual 114, 3, [6, 177, 3, 284, 285, 286, 5], uu) := by decide +kernel
theorem e_149_140 : den cf 149 140 L (w2 :: w1 :: .ref a :: st) M = if rcv M 6 [.ref a, w1, w2] = true ∧ st.length ≤ 4 then rK (cf 177 [.ref a, w1, w2] M) (fun v M' => den cf 149 143 L (pR v st) M') else none := den_iv [w1, w2] l_149_140 rfl
theorem l_149_143 : look (tab 149) 143 = some (.goto 14, 3, [157], uu) := by decide +kernel
theorem e_149_143 : den cf 149 143 L st M = den cf 149 157 L st M := den_go l_149_143 rfl
theorem l_149_146 : look (tab 149) 146 = some (.aload_n 0, 1, [], uu) := by decide +kernel
theorem e_149_146 : den cf 149 146 [.ref a, v1, v2, v3] st M = den cf 149 147 [.ref a, v1, v2, v3] (.ref a :: st) M := den_go l_149_146 rfl
theorem l_149_147 : look (tab 149) 147 = some (.iload_n 3, 1, [], uu) := by decide +kernel
theorem e_149_147 : den cf 149 147 [v0, v1, v2, .int x] st M = den cf 149 148 [v0, v1, v2, .int x] (.int x :: st) M := den_go l_149_147 rfl
theorem l_149_148 : look (tab 149) 148 = some (.aload_n 0, 1, [], uu) := by decide +kernel
theorem e_149_148 : den cf 149 148 [.ref a, v1, v2, v3] st M = den cf 149 149 [.ref a, v1, v2, v3] (.ref a :: st) M := den_go l_149_148 rfl
theorem l_149_149 : look (tab 149) 149 = some (.getfield 37, 3, [6, 10, 88], uu) := by decide +kernel
theorem e_149_149 : den cf 149 149 L (.ref a :: st) M = oK (gfA (M.2.2 a) 6 10) (fun v => den cf 149 152 L (v :: st) M) := den_gf l_149_149
theorem l_149_152 : look (tab 149) 152 = some (.iload_n 3, 1, [], uu) := by decide +kernel
theorem e_149_152 : den cf 149 152 [v0, v1, v2, .int x] st M = den cf 149 153 [v0, v1, v2, .int x] (.int x :: st) M := den_go l_149_152 rfl
theorem l_149_153 : look (tab 149) 153 = some (.iaload, 1, [], uu) := by decide +kernel
theorem e_149_153 : den cf 149 153 L (.int x :: .ref a :: st) M = oK (ldI (M.2.2 a) x) (fun v => den cf 149 154 L (v :: st) M) := den_al (g := ldI) l_149_153 rfl
theorem l_149_154 : look (tab 149) 154 = some (.invokevirtual 118, 3, [6, 178, 3, 295, 296, 297, 5], uu) := by decide +kernel
theorem e_149_154 : den cf 149 154 L (w2 :: w1 :: .ref a :: st) M = if rcv M 6 [.ref a, w1, w2] = true ∧ st.length ≤ 4 then rK (cf 178 [.ref a, w1, w2] M) (fun v M' => den cf 149 157 L (pR v st) M') else none := den_iv [w1, w2] l_149_154 rfl
theorem l_149_157 : look (tab 149) 157 = some (.ireturn, 1, [0], uu) := by decide +kernel
theorem e_149_157 : den cf 149 157 L [.int x] M = some (some (.int x), M) := den_e0 l_149_157
/-! yX6_addPupil -/
theorem l_150_0 : look (tab 150) 0 = some (.aload_n 0, 1, [], uu) := by decide +kernel
theorem e_150_0 : den cf 150 0 [.ref a, v1, v2, v3] st M = den cf 150 1 [.ref a, v1, v2, v3] (.ref a :: st) M := den_go l_150_0 rfl
theorem l_150_1 : look (tab 150) 1 = some (.getfield 37, 3, [6, 10, 88], uu) := by decide +kernel
theorem e_150_1 : den cf 150 1 L (.ref a :: st) M = oK (gfA (M.2.2 a) 6 10) (fun v => den cf 150 4 L (v :: st) M) := den_gf l_150_1
theorem l_150_4 : look (tab 150) 4 = some (.aload_n 0, 1, [], uu) := by decide +kernel
theorem e_150_4 : den cf 150 4 [.ref a, v1, v2, v3] st M = den cf 150 5 [.ref a, v1, v2, v3] (.ref a :: st) M := den_go l_150_4 rfl
theorem l_150_5 : look (tab 150) 5 = some (.getfield 80, 3, [6, 9, 230], uu) := by decide +kernel
theorem e_150_5 : den cf 150 5 L (.ref a :: st) M = oK (gfA (M.2.2 a) 6 9) (fun v => den cf 150 8 L (v :: st) M) := den_gf l_150_5
theorem l_150_8 : look (tab 150) 8 = some (.iload_n 1, 1, [], uu) := by decide +kernel
theorem e_150_8 : den cf 150 8 [v0, .int x, v2, v3] st M = den cf 150 9 [v0, .int x, v2, v3] (.int x :: st) M := den_go l_150_8 rfl
theorem l_150_9 : look (tab 150) 9 = some (.iastore, 1, [], uu) := by decide +kernel
theorem e_150_9 : den cf 150 9 L (.int x :: .int y :: .ref a :: st) M = oK (stI (M.2.2 a) y x) (fun c => den cf 150 10 L st (mU M a c)) := den_is l_150_9
theorem l_150_10 : look (tab 150) 10 = some (.aload_n 0, 1, [], uu) := by decide +kernel
theorem e_150_10 : den cf 150 10 [.ref a, v1, v2, v3] st M = den cf 150 11 [.ref a, v1, v2, v3] (.ref a :: st) M := den_go l_150_10 rfl
theorem l_150_11 : look (tab 150) 11 = some (.getfield 40, 3, [6, 11, 89], uu) := by decide +kernel
theorem e_150_11 : den cf 150 11 L (.ref a :: st) M = oK (gfA (M.2.2 a) 6 11) (fun v => den cf 150 14 L (v :: st) M) := den_gf l_150_11
theorem l_150_14 : look (tab 150) 14 = some (.aload_n 0, 1, [], uu) := by decide +kernel
theorem e_150_14 : den cf 150 14 [.ref a, v1, v2, v3] st M = den cf 150 15 [.ref a, v1, v2, v3] (.ref a :: st) M := den_go l_150_14 rfl
theorem l_150_15 : look (tab 150) 15 = some (.getfield 80, 3, [6, 9, 230], uu) := by decide +kernel
theorem e_150_15 : den cf 150 15 L (.ref a :: st) M = oK (gfA (M.2.2 a) 6 9) (fun v => den cf 150 18 L (v :: st) M) := den_gf l_150_15
theorem l_150_18 : look (tab 150) 18 = some (.iload_n 2, 1, [], uu) := by decide +kernel
theorem e_150_18 : den cf 150 18 [v0, v1, .int x, v3] st M = den cf 150 19 [v0, v1, .int x, v3] (.int x :: st) M := den_go l_150_18 rfl
theorem l_150_19 : look (tab 150) 19 = some (.iastore, 1, [], uu) := by decide +kernel
theorem e_150_19 : den cf 150 19 L (.int x :: .int y :: .ref a :: st) M = oK (stI (M.2.2 a) y x) (fun c => den cf 150 20 L st (mU M a c)) := den_is l_150_19
theorem l_150_20 : look (tab 150) 20 = some (.aload_n 0, 1, [], uu) := by decide +kernel
theorem e_150_20 : den cf 150 20 [.ref a, v1, v2, v3] st M = den cf 150 21 [.ref a, v1, v2, v3] (.ref a :: st) M := den_go l_150_20 rfl
theorem l_150_21 : look (tab 150) 21 = some (.getfield 43, 3, [6, 12, 90], uu) := by decide +kernel
theorem e_150_21 : den cf 150 21 L (.ref a :: st) M = oK (gfA (M.2.2 a) 6 12) (fun v => den cf 150 24 L (v :: st) M) := den_gf l_150_21
theorem l_150_24 : look (tab 150) 24 = some (.aload_n 0, 1, [], uu) := by decide +kernel
theorem e_150_24 : den cf 150 24 [.ref a, v1, v2, v3] st M = den cf 150 25 [.ref a, v1, v2, v3] (.ref a :: st) M := den_go l_150_24 rfl
theorem l_150_25 : look (tab 150) 25 = some (.getfield 80, 3, [6, 9, 230], uu) := by decide +kernel
theorem e_150_25 : den cf 150 25 L (.ref a :: st) M = oK (gfA (M.2.2 a) 6 9) (fun v => den cf 150 28 L (v :: st) M) := den_gf l_150_25
theorem l_150_28 : look (tab 150) 28 = some (.iload_n 3, 1, [], uu) := by decide +kernel
theorem e_150_28 : den cf 150 28 [v0, v1, v2, .int x] st M = den cf 150 29 [v0, v1, v2, .int x] (.int x :: st) M := den_go l_150_28 rfl
theorem l_150_29 : look (tab 150) 29 = some (.iastore, 1, [], uu) := by decide +kernel
theorem e_150_29 : den cf 150 29 L (.int x :: .int y :: .ref a :: st) M = oK (stI (M.2.2 a) y x) (fun c => den cf 150 30 L st (mU M a c)) := den_is l_150_29
theorem l_150_30 : look (tab 150) 30 = some (.aload_n 0, 1, [], uu) := by decide +kernel
theorem e_150_30 : den cf 150 30 [.ref a, v1, v2, v3] st M = den cf 150 31 [.ref a, v1, v2, v3] (.ref a :: st) M := den_go l_150_30 rfl
theorem l_150_31 : look (tab 150) 31 = some (.getfield 46, 3, [6, 13, 91], uu) := by decide +kernel
theorem e_150_31 : den cf 150 31 L (.ref a :: st) M = oK (gfA (M.2.2 a) 6 13) (fun v => den cf 150 34 L (v :: st) M) := den_gf l_150_31
theorem l_150_34 : look (tab 150) 34 = some (.aload_n 0, 1, [], uu) := by decide +kernel
theorem e_150_34 : den cf 150 34 [.ref a, v1, v2, v3] st M = den cf 150 35 [.ref a, v1, v2, v3] (.ref a :: st) M := den_go l_150_34 rfl
theorem l_150_35 : look (tab 150) 35 = some (.getfield 80, 3, [6, 9, 230], uu) := by decide +kernel
theorem e_150_35 : den cf 150 35 L (.ref a :: st) M = oK (gfA (M.2.2 a) 6 9) (fun v => den cf 150 38 L (v :: st) M) := den_gf l_150_35
theorem l_150_38 : look (tab 150) 38 = some (.iconst 0, 1, [], .int (zI 0)) := by decide +kernel
theorem e_150_38 : den cf 150 38 L st M = den cf 150 39 L (.int (zI 0) :: st) M := den_go l_150_38 rfl
theorem l_150_39 : look (tab 150) 39 = some (.iastore, 1, [], uu) := by decide +kernel
theorem e_150_39 : den cf 150 39 L (.int x :: .int y :: .ref a :: st) M = oK (stI (M.2.2 a) y x) (fun c => den cf 150 40 L st (mU M a c)) := den_is l_150_39
theorem l_150_40 : look (tab 150) 40 = some (.aload_n 0, 1, [], uu) := by decide +kernel
theorem e_150_40 : den cf 150 40 [.ref a, v1, v2, v3] st M = den cf 150 41 [.ref a, v1, v2, v3] (.ref a :: st) M := den_go l_150_40 rfl
theorem l_150_41 : look (tab 150) 41 = some (.getfield 49, 3, [6, 14, 92], uu) := by decide +kernel
theorem e_150_41 : den cf 150 41 L (.ref a :: st) M = oK (gfA (M.2.2 a) 6 14) (fun v => den cf 150 44 L (v :: st) M) := den_gf l_150_41
theorem l_150_44 : look (tab 150) 44 = some (.aload_n 0, 1, [], uu) := by decide +kernel
theorem e_150_44 : den cf 150 44 [.ref a, v1, v2, v3] st M = den cf 150 45 [.ref a, v1, v2, v3] (.ref a :: st) M := den_go l_150_44 rfl
theorem l_150_45 : look (tab 150) 45 = some (.getfield 80, 3, [6, 9, 230], uu) := by decide +kernel
theorem e_150_45 : den cf 150 45 L (.ref a :: st) M = oK (gfA (M.2.2 a) 6 9) (fun v => den cf 150 48 L (v :: st) M) := den_gf l_150_45
theorem l_150_48 : look (tab 150) 48 = some (.iconst (-1), 1, [], .int (zI (-1))) := by decide +kernel
theorem e_150_48 : den cf 150 48 L st M = den cf 150 49 L (.int (zI (-1)) :: st) M := den_go l_150_48 rfl
theorem l_150_49 : look (tab 150) 49 = some (.iastore, 1, [], uu) := by decide +kernel
theorem e_150_49 : den cf 150 49 L (.int x :: .int y :: .ref a :: st) M = oK (stI (M.2.2 a) y x) (fun c => den cf 150 50 L st (mU M a c)) := den_is l_150_49
theorem l_150_50 : look (tab 150) 50 = some (.aload_n 0, 1, [], uu) := by decide +kernel
theorem e_150_50 : den cf 150 50 [.ref a, v1, v2, v3] st M = den cf 150 51 [.ref a, v1, v2, v3] (.ref a :: st) M := den_go l_150_50 rfl
theorem l_150_51 : look (tab 150) 51 = some (.getfield 52, 3, [6, 15, 93], uu) := by decide +kernel
theorem e_150_51 : den cf 150 51 L (.ref a :: st) M = oK (gfA (M.2.2 a) 6 15) (fun v => den cf 150 54 L (v :: st) M) := den_gf l_150_51
theorem l_150_54 : look (tab 150) 54 = some (.aload_n 0, 1, [], uu) := by decide +kernel
theorem e_150_54 : den cf 150 54 [.ref a, v1, v2, v3] st M = den cf 150 55 [.ref a, v1, v2, v3] (.ref a :: st) M := den_go l_150_54 rfl
theorem l_150_55 : look (tab 150) 55 = some (.getfield 80, 3, [6, 9, 230], uu) := by decide +kernel
theorem e_150_55 : den cf 150 55 L (.ref a :: st) M = oK (gfA (M.2.2 a) 6 9) (fun v => den cf 150 58 L (v :: st) M) := den_gf l_150_55
theorem l_150_58 : look (tab 150) 58 = some (.iconst 0, 1, [], .int (zI 0)) := by decide +kernel
theorem e_150_58 : den cf 150 58 L st M = den cf 150 59 L (.int (zI 0) :: st) M := den_go l_150_58 rfl
theorem l_150_59 : look (tab 150) 59 = some (.iastore, 1, [], uu) := by decide +kernel
theorem e_150_59 : den cf 150 59 L (.int x :: .int y :: .ref a :: st) M = oK (stI (M.2.2 a) y x) (fun c => den cf 150 60 L st (mU M a c)) := den_is l_150_59
theorem l_150_60 : look (tab 150) 60 = some (.aload_n 0, 1, [], uu) := by decide +kernel
theorem e_150_60 : den cf 150 60 [.ref a, v1, v2, v3] st M = den cf 150 61 [.ref a, v1, v2, v3] (.ref a :: st) M := den_go l_150_60 rfl
theorem l_150_61 : look (tab 150) 61 = some (.getfield 55, 3, [6, 16, 94], uu) := by decide +kernel
theorem e_150_61 : den cf 150 61 L (.ref a :: st) M = oK (gfA (M.2.2 a) 6 16) (fun v => den cf 150 64 L (v :: st) M) := den_gf l_150_61
theorem l_150_64 : look (tab 150) 64 = some (.aload_n 0, 1, [], uu) := by decide +kernel
theorem e_150_64 : den cf 150 64 [.ref a, v1, v2, v3] st M = den cf 150 65 [.ref a, v1, v2, v3] (.ref a :: st) M := den_go l_150_64 rfl
theorem l_150_65 : look (tab 150) 65 = some (.getfield 80, 3, [6, 9, 230], uu) := by decide +kernel
theorem e_150_65 : den cf 150 65 L (.ref a :: st) M = oK (gfA (M.2.2 a) 6 9) (fun v => den cf 150 68 L (v :: st) M) := den_gf l_150_65
theorem l_150_68 : look (tab 150) 68 = some (.iconst 0, 1, [], .int (zI 0)) := by decide +kernel
theorem e_150_68 : den cf 150 68 L st M = den cf 150 69 L (.int (zI 0) :: st) M := den_go l_150_68 rfl
theorem l_150_69 : look (tab 150) 69 = some (.iastore, 1, [], uu) := by decide +kernel
theorem e_150_69 : den cf 150 69 L (.int x :: .int y :: .ref a :: st) M = oK (stI (M.2.2 a) y x) (fun c => den cf 150 70 L st (mU M a c)) := den_is l_150_69
theorem l_150_70 : look (tab 150) 70 = some (.aload_n 0, 1, [], uu) := by decide +kernel
theorem e_150_70 : den cf 150 70 [.ref a, v1, v2, v3] st M = den cf 150 71 [.ref a, v1, v2, v3] (.ref a :: st) M := den_go l_150_70 rfl
theorem l_150_71 : look (tab 150) 71 = some (.getfield 58, 3, [6, 17, 95], uu) := by decide +kernel
theorem e_150_71 : den cf 150 71 L (.ref a :: st) M = oK (gfA (M.2.2 a) 6 17) (fun v => den cf 150 74 L (v :: st) M) := den_gf l_150_71
theorem l_150_74 : look (tab 150) 74 = some (.aload_n 0, 1, [], uu) := by decide +kernel
theorem e_150_74 : den cf 150 74 [.ref a, v1, v2, v3] st M = den cf 150 75 [.ref a, v1, v2, v3] (.ref a :: st) M := den_go l_150_74 rfl
theorem l_150_75 : look (tab 150) 75 = some (.getfield 80, 3, [6, 9, 230], uu) := by decide +kernel
theorem e_150_75 : den cf 150 75 L (.ref a :: st) M = oK (gfA (M.2.2 a) 6 9) (fun v => den cf 150 78 L (v :: st) M) := den_gf l_150_75
theorem l_150_78 : look (tab 150) 78 = some (.iconst 0, 1, [], .int (zI 0)) := by decide +kernel
theorem e_150_78 : den cf 150 78 L st M = den cf 150 79 L (.int (zI 0) :: st) M := den_go l_150_78 rfl
theorem l_150_79 : look (tab 150) 79 = some (.iastore, 1, [], uu) := by decide +kernel
theorem e_150_79 : den cf 150 79 L (.int x :: .int y :: .ref a :: st) M = oK (stI (M.2.2 a) y x) (fun c => den cf 150 80 L st (mU M a c)) := den_is l_150_79
theorem l_150_80 : look (tab 150) 80 = some (.aload_n 0, 1, [], uu) := by decide +kernel
theorem e_150_80 : den cf 150 80 [.ref a, v1, v2, v3] st M = den cf 150 81 [.ref a, v1, v2, v3] (.ref a :: st) M := den_go l_150_80 rfl
theorem l_150_81 : look (tab 150) 81 = some (.dup, 1, [], uu) := by decide +kernel
theorem e_150_81 : den cf 150 81 L (.ref a :: st) M = den cf 150 82 L (.ref a :: .ref a :: st) M := den_go l_150_81 rfl
theorem e_150_81_i : den cf 150 81 L (.int x :: st) M = den cf 150 82 L (.int x :: .int x :: st) M := den_go l_150_81 rfl
theorem l_150_82 : look (tab 150) 82 = some (.getfield 80, 3, [6, 9, 230], uu) := by decide +kernel
theorem e_150_82 : den cf 150 82 L (.ref a :: st) M = oK (gfA (M.2.2 a) 6 9) (fun v => den cf 150 85 L (v :: st) M) := den_gf l_150_82
theorem l_150_85 : look (tab 150) 85 = some (.iconst 1, 1, [], .int (zI 1)) := by decide +kernel
theorem e_150_85 : den cf 150 85 L st M = den cf 150 86 L (.int (zI 1) :: st) M := den_go l_150_85 rfl
theorem l_150_86 : look (tab 150) 86 = some (.iadd, 1, [], uu) := by decide +kernel
theorem e_150_86 : den cf 150 86 L (.int y :: .int x :: st) M = den cf 150 87 L (.int (x + y) :: st) M := den_go l_150_86 rfl
theorem l_150_87 : look (tab 150) 87 = some (.putfield 80, 3, [6, 9, 0, 230, 0], uu) := by decide +kernel
theorem e_150_87 : den cf 150 87 L (.int x :: .ref a :: st) M = oK (pfA (M.2.2 a) 6 9 (.int x)) (fun c => den cf 150 90 L st (mU M a c)) := den_pf0 l_150_87
theorem l_150_90 : look (tab 150) 90 = some (.return_, 1, [], uu) := by decide +kernel
theorem e_150_90 : den cf 150 90 L [] M = some (none, M) := den_e4 l_150_90
/-! yX6_pupil -/
theorem l_151_0 : look (tab 151) 0 = some (.iload_n 1, 1, [], uu) := by decide +kernel
theorem e_151_0 : den cf 151 0 [v0, .int x, v2, v3] st M = den cf 151 1 [v0, .int x, v2, v3] (.int x :: st) M := den_go l_151_0 rfl
theorem l_151_1 : look (tab 151) 1 = some (.i2l, 1, [], uu) := by decide +kernel
theorem e_151_1 : den cf 151 1 L (.int x :: st) M = den cf 151 2 L (.long x.toInt64 :: st) M := den_go l_151_1 rfl
theorem l_151_2 : look (tab 151) 2 = some (.lconst 0, 1, [], .long (zJ 0)) := by decide +kernel
theorem e_151_2 : den cf 151 2 L st M = den cf 151 3 L (.long (zJ 0) :: st) M := den_go l_151_2 rfl
theorem l_151_3 : look (tab 151) 3 = some (.ldc2_w 108, 3, [280], .long (zJ 5)) := by decide +kernel
theorem e_151_3 : den cf 151 3 L st M = den cf 151 6 L (.long (zJ 5) :: st) M := den_go l_151_3 rfl
theorem l_151_6 : look (tab 151) 6 = some (.invokestatic 83, 3, [1, 137, 3, 130, 131, 5], uu) := by decide +kernel
theorem e_151_6 : den cf 151 6 L (w3 :: w2 :: w1 :: st) M = if st.length ≤ 4 then rK (cf 137 [w1, w2, w3] M) (fun v M' => den cf 151 9 L (pR v st) M') else none := den_ist [w1, w2, w3] l_151_6 rfl
theorem l_151_9 : look (tab 151) 9 = some (.ifCond .eq 25, 3, [34], uu) := by decide +kernel
theorem e_151_9 : den cf 151 9 L (.int x :: st) M = if x = zI 0 then den cf 151 34 L st M else den cf 151 12 L st M := den_if_eq l_151_9
theorem l_151_12 : look (tab 151) 12 = some (.iload_n 2, 1, [], uu) := by decide +kernel
theorem e_151_12 : den cf 151 12 [v0, v1, .int x, v3] st M = den cf 151 13 [v0, v1, .int x, v3] (.int x :: st) M := den_go l_151_12 rfl
theorem l_151_13 : look (tab 151) 13 = some (.i2l, 1, [], uu) := by decide +kernel
theorem e_151_13 : den cf 151 13 L (.int x :: st) M = den cf 151 14 L (.long x.toInt64 :: st) M := den_go l_151_13 rfl
theorem l_151_14 : look (tab 151) 14 = some (.lconst 0, 1, [], .long (zJ 0)) := by decide +kernel
theorem e_151_14 : den cf 151 14 L st M = den cf 151 15 L (.long (zJ 0) :: st) M := den_go l_151_14 rfl
theorem l_151_15 : look (tab 151) 15 = some (.ldc2_w 121, 3, [328], .long (zJ 9)) := by decide +kernel
theorem e_151_15 : den cf 151 15 L st M = den cf 151 18 L (.long (zJ 9) :: st) M := den_go l_151_15 rfl
theorem l_151_18 : look (tab 151) 18 = some (.invokestatic 83, 3, [1, 137, 3, 130, 131, 5], uu) := by decide +kernel
theorem e_151_18 : den cf 151 18 L (w3 :: w2 :: w1 :: st) M = if st.length ≤ 4 then rK (cf 137 [w1, w2, w3] M) (fun v M' => den cf 151 21 L (pR v st) M') else none := den_ist [w1, w2, w3] l_151_18 rfl
theorem l_151_21 : look (tab 151) 21 = some (.ifCond .eq 13, 3, [34], uu) := by decide +kernel
theorem e_151_21 : den cf 151 21 L (.int x :: st) M = if x = zI 0 then den cf 151 34 L st M else den cf 151 24 L st M := den_if_eq l_151_21
theorem l_151_24 : look (tab 151) 24 = some (.iload_n 3, 1, [], uu) := by decide +kernel
theorem e_151_24 : den cf 151 24 [v0, v1, v2, .int x] st M = den cf 151 25 [v0, v1, v2, .int x] (.int x :: st) M := den_go l_151_24 rfl
theorem l_151_25 : look (tab 151) 25 = some (.i2l, 1, [], uu) := by decide +kernel
theorem e_151_25 : den cf 151 25 L (.int x :: st) M = den cf 151 26 L (.long x.toInt64 :: st) M := den_go l_151_25 rfl
theorem l_151_26 : look (tab 151) 26 = some (.lconst 0, 1, [], .long (zJ 0)) := by decide +kernel
theorem e_151_26 : den cf 151 26 L st M = den cf 151 27 L (.long (zJ 0) :: st) M := den_go l_151_26 rfl
theorem l_151_27 : look (tab 151) 27 = some (.lconst 1, 1, [], .long (zJ 1)) := by decide +kernel
theorem e_151_27 : den cf 151 27 L st M = den cf 151 28 L (.long (zJ 1) :: st) M := den_go l_151_27 rfl
theorem l_151_28 : look (tab 151) 28 = some (.invokestatic 83, 3, [1, 137, 3, 130, 131, 5], uu) := by decide +kernel
theorem e_151_28 : den cf 151 28 L (w3 :: w2 :: w1 :: st) M = if st.length ≤ 4 then rK (cf 137 [w1, w2, w3] M) (fun v M' => den cf 151 31 L (pR v st) M') else none := den_ist [w1, w2, w3] l_151_28 rfl
theorem l_151_31 : look (tab 151) 31 = some (.ifCond .ne 10, 3, [41], uu) := by decide +kernel
theorem e_151_31 : den cf 151 31 L (.int x :: st) M = if x = zI 0 then den cf 151 34 L st M else den cf 151 41 L st M := den_if_ne l_151_31
theorem l_151_34 : look (tab 151) 34 = some (.aload_n 0, 1, [], uu) := by decide +kernel
theorem e_151_34 : den cf 151 34 [.ref a, v1, v2, v3] st M = den cf 151 35 [.ref a, v1, v2, v3] (.ref a :: st) M := den_go l_151_34 rfl
theorem l_151_35 : look (tab 151) 35 = some (.bipush (-2), 2, [], .int (zI (-2))) := by decide +kernel
theorem e_151_35 : den cf 151 35 L st M = den cf 151 37 L (.int (zI (-2)) :: st) M := den_go l_151_35 rfl
theorem l_151_37 : look (tab 151) 37 = some (.invokevirtual 93, 3, [6, 136, 2, 133, 134, 135, 5], uu) := by decide +kernel
theorem e_151_37 : den cf 151 37 L (w1 :: .ref a :: st) M = if rcv M 6 [.ref a, w1] = true ∧ st.length ≤ 4 then rK (cf 136 [.ref a, w1] M) (fun v M' => den cf 151 40 L (pR v st) M') else none := den_iv [w1] l_151_37 rfl
theorem l_151_40 : look (tab 151) 40 = some (.ireturn, 1, [0], uu) := by decide +kernel
theorem e_151_40 : den cf 151 40 L [.int x] M = some (some (.int x), M) := den_e0 l_151_40
theorem l_151_41 : look (tab 151) 41 = some (.aload_n 0, 1, [], uu) := by decide +kernel
theorem e_151_41 : den cf 151 41 [.ref a, v1, v2, v3] st M = den cf 151 42 [.ref a, v1, v2, v3] (.ref a :: st) M := den_go l_151_41 rfl
theorem l_151_42 : look (tab 151) 42 = some (.getfield 80, 3, [6, 9, 230], uu) := by decide +kernel
theorem e_151_42 : den cf 151 42 L (.ref a :: st) M = oK (gfA (M.2.2 a) 6 9) (fun v => den cf 151 45 L (v :: st) M) := den_gf l_151_42
theorem l_151_45 : look (tab 151) 45 = some (.bipush 12, 2, [], .int (zI 12)) := by decide +kernel
theorem e_151_45 : den cf 151 45 L st M = den cf 151 47 L (.int (zI 12) :: st) M := den_go l_151_45 rfl
theorem l_151_47 : look (tab 151) 47 = some (.if_icmp .ne 10, 3, [57], uu) := by decide +kernel
theorem e_151_47 : den cf 151 47 L (.int y :: .int x :: st) M = if x = y then den cf 151 50 L st M else den cf 151 57 L st M := den_ic_ne l_151_47
theorem l_151_50 : look (tab 151) 50 = some (.aload_n 0, 1, [], uu) := by decide +kernel
theorem e_151_50 : den cf 151 50 [.ref a, v1, v2, v3] st M = den cf 151 51 [.ref a, v1, v2, v3] (.ref a :: st) M := den_go l_151_50 rfl
theorem l_151_51 : look (tab 151) 51 = some (.bipush (-6), 2, [], .int (zI (-6))) := by decide +kernel
theorem e_151_51 : den cf 151 51 L st M = den cf 151 53 L (.int (zI (-6)) :: st) M := den_go l_151_51 rfl
theorem l_151_53 : look (tab 151) 53 = some (.invokevirtual 93, 3, [6, 136, 2, 133, 134, 135, 5], uu) := by decide +kernel
theorem e_151_53 : den cf 151 53 L (w1 :: .ref a :: st) M = if rcv M 6 [.ref a, w1] = true ∧ st.length ≤ 4 then rK (cf 136 [.ref a, w1] M) (fun v M' => den cf 151 56 L (pR v st) M') else none := den_iv [w1] l_151_53 rfl
theorem l_151_56 : look (tab 151) 56 = some (.ireturn, 1, [0], uu) := by decide +kernel
theorem e_151_56 : den cf 151 56 L [.int x] M = some (some (.int x), M) := den_e0 l_151_56
theorem l_151_57 : look (tab 151) 57 = some (.aload_n 0, 1, [], uu) := by decide +kernel
theorem e_151_57 : den cf 151 57 [.ref a, v1, v2, v3] st M = den cf 151 58 [.ref a, v1, v2, v3] (.ref a :: st) M := den_go l_151_57 rfl
theorem l_151_58 : look (tab 151) 58 = some (.iload_n 1, 1, [], uu) := by decide +kernel
theorem e_151_58 : den cf 151 58 [v0, .int x, v2, v3] st M = den cf 151 59 [v0, .int x, v2, v3] (.int x :: st) M := den_go l_151_58 rfl
theorem l_151_59 : look (tab 151) 59 = some (.iload_n 2, 1, [], uu) := by decide +kernel
theorem e_151_59 : den cf 151 59 [v0, v1, .int x, v3] st M = den cf 151 60 [v0, v1, .int x, v3] (.int x :: st) M := den_go l_151_59 rfl
theorem l_151_60 : look (tab 151) 60 = some (.iload_n 3, 1, [], uu) := by decide +kernel
theorem e_151_60 : den cf 151 60 [v0, v1, v2, .int x] st M = den cf 151 61 [v0, v1, v2, .int x] (.int x :: st) M := den_go l_151_60 rfl
theorem l_151_61 : look (tab 151) 61 = some (.invokevirtual 123, 3, [6, 150, 4, 329, 330, 331, 5], uu) := by decide +kernel
theorem e_151_61 : den cf 151 61 L (w3 :: w2 :: w1 :: .ref a :: st) M = if rcv M 6 [.ref a, w1, w2, w3] = true ∧ st.length ≤ 4 then rK (cf 150 [.ref a, w1, w2, w3] M) (fun v M' => den cf 151 64 L (pR v st) M') else none := den_iv [w1, w2, w3] l_151_61 rfl
theorem l_151_64 : look (tab 151) 64 = some (.aload_n 0, 1, [], uu) := by decide +kernel
theorem e_151_64 : den cf 151 64 [.ref a, v1, v2, v3] st M = den cf 151 65 [.ref a, v1, v2, v3] (.ref a :: st) M := den_go l_151_64 rfl
theorem l_151_65 : look (tab 151) 65 = some (.getfield 80, 3, [6, 9, 230], uu) := by decide +kernel
theorem e_151_65 : den cf 151 65 L (.ref a :: st) M = oK (gfA (M.2.2 a) 6 9) (fun v => den cf 151 68 L (v :: st) M) := den_gf l_151_65
theorem l_151_68 : look (tab 151) 68 = some (.iconst 1, 1, [], .int (zI 1)) := by decide +kernel
theorem e_151_68 : den cf 151 68 L st M = den cf 151 69 L (.int (zI 1) :: st) M := den_go l_151_68 rfl
theorem l_151_69 : look (tab 151) 69 = some (.isub, 1, [], uu) := by decide +kernel
theorem e_151_69 : den cf 151 69 L (.int y :: .int x :: st) M = den cf 151 70 L (.int (x - y) :: st) M := den_go l_151_69 rfl
theorem l_151_70 : look (tab 151) 70 = some (.ireturn, 1, [0], uu) := by decide +kernel
theorem e_151_70 : den cf 151 70 L [.int x] M = some (some (.int x), M) := den_e0 l_151_70
/-! yX6_likes -/
theorem l_152_0 : look (tab 152) 0 = some (.aload_n 0, 1, [], uu) := by decide +kernel
theorem e_152_0 : den cf 152 0 [.ref a, v1, v2, v3, v4] st M = den cf 152 1 [.ref a, v1, v2, v3, v4] (.ref a :: st) M := den_go l_152_0 rfl
theorem l_152_1 : look (tab 152) 1 = some (.iload_n 1, 1, [], uu) := by decide +kernel
theorem e_152_1 : den cf 152 1 [v0, .int x, v2, v3, v4] st M = den cf 152 2 [v0, .int x, v2, v3, v4] (.int x :: st) M := den_go l_152_1 rfl
theorem l_152_2 : look (tab 152) 2 = some (.invokevirtual 104, 3, [6, 138, 2, 226, 227, 228, 5], uu) := by decide +kernel
theorem e_152_2 : den cf 152 2 L (w1 :: .ref a :: st) M = if rcv M 6 [.ref a, w1] = true ∧ st.length ≤ 4 then rK (cf 138 [.ref a, w1] M) (fun v M' => den cf 152 5 L (pR v st) M') else none := den_iv [w1] l_152_2 rfl
theorem l_152_5 : look (tab 152) 5 = some (.ifCond .eq 15, 3, [20], uu) := by decide +kernel
theorem e_152_5 : den cf 152 5 L (.int x :: st) M = if x = zI 0 then den cf 152 20 L st M else den cf 152 8 L st M := den_if_eq l_152_5
theorem l_152_8 : look (tab 152) 8 = some (.iload_n 2, 1, [], uu) := by decide +kernel
theorem e_152_8 : den cf 152 8 [v0, v1, .int x, v3, v4] st M = den cf 152 9 [v0, v1, .int x, v3, v4] (.int x :: st) M := den_go l_152_8 rfl
theorem l_152_9 : look (tab 152) 9 = some (.i2l, 1, [], uu) := by decide +kernel
theorem e_152_9 : den cf 152 9 L (.int x :: st) M = den cf 152 10 L (.long x.toInt64 :: st) M := den_go l_152_9 rfl
theorem l_152_10 : look (tab 152) 10 = some (.lconst 0, 1, [], .long (zJ 0)) := by decide +kernel
theorem e_152_10 : den cf 152 10 L st M = den cf 152 11 L (.long (zJ 0) :: st) M := den_go l_152_10 rfl
theorem l_152_11 : look (tab 152) 11 = some (.ldc2_w 87, 3, [127], .long (zJ 7)) := by decide +kernel
theorem e_152_11 : den cf 152 11 L st M = den cf 152 14 L (.long (zJ 7) :: st) M := den_go l_152_11 rfl
theorem l_152_14 : look (tab 152) 14 = some (.invokestatic 83, 3, [1, 137, 3, 130, 131, 5], uu) := by decide +kernel
theorem e_152_14 : den cf 152 14 L (w3 :: w2 :: w1 :: st) M = if st.length ≤ 4 then rK (cf 137 [w1, w2, w3] M) (fun v M' => den cf 152 17 L (pR v st) M') else none := den_ist [w1, w2, w3] l_152_14 rfl
theorem l_152_17 : look (tab 152) 17 = some (.ifCond .ne 10, 3, [27], uu) := by decide +kernel
theorem e_152_17 : den cf 152 17 L (.int x :: st) M = if x = zI 0 then den cf 152 20 L st M else den cf 152 27 L st M := den_if_ne l_152_17
theorem l_152_20 : look (tab 152) 20 = some (.aload_n 0, 1, [], uu) := by decide +kernel
theorem e_152_20 : den cf 152 20 [.ref a, v1, v2, v3, v4] st M = den cf 152 21 [.ref a, v1, v2, v3, v4] (.ref a :: st) M := den_go l_152_20 rfl
theorem l_152_21 : look (tab 152) 21 = some (.bipush (-2), 2, [], .int (zI (-2))) := by decide +kernel
theorem e_152_21 : den cf 152 21 L st M = den cf 152 23 L (.int (zI (-2)) :: st) M := den_go l_152_21 rfl
theorem l_152_23 : look (tab 152) 23 = some (.invokevirtual 93, 3, [6, 136, 2, 133, 134, 135, 5], uu) := by decide +kernel
theorem e_152_23 : den cf 152 23 L (w1 :: .ref a :: st) M = if rcv M 6 [.ref a, w1] = true ∧ st.length ≤ 4 then rK (cf 136 [.ref a, w1] M) (fun v M' => den cf 152 26 L (pR v st) M') else none := den_iv [w1] l_152_23 rfl
theorem l_152_26 : look (tab 152) 26 = some (.ireturn, 1, [0], uu) := by decide +kernel
theorem e_152_26 : den cf 152 26 L [.int x] M = some (some (.int x), M) := den_e0 l_152_26
theorem l_152_27 : look (tab 152) 27 = some (.aload_n 0, 1, [], uu) := by decide +kernel
theorem e_152_27 : den cf 152 27 [.ref a, v1, v2, v3, v4] st M = den cf 152 28 [.ref a, v1, v2, v3, v4] (.ref a :: st) M := den_go l_152_27 rfl
theorem l_152_28 : look (tab 152) 28 = some (.getfield 46, 3, [6, 13, 91], uu) := by decide +kernel
theorem e_152_28 : den cf 152 28 L (.ref a :: st) M = oK (gfA (M.2.2 a) 6 13) (fun v => den cf 152 31 L (v :: st) M) := den_gf l_152_28
theorem l_152_31 : look (tab 152) 31 = some (.iload_n 1, 1, [], uu) := by decide +kernel
theorem e_152_31 : den cf 152 31 [v0, .int x, v2, v3, v4] st M = den cf 152 32 [v0, .int x, v2, v3, v4] (.int x :: st) M := den_go l_152_31 rfl
theorem l_152_32 : look (tab 152) 32 = some (.iaload, 1, [], uu) := by decide +kernel
theorem e_152_32 : den cf 152 32 L (.int x :: .ref a :: st) M = oK (ldI (M.2.2 a) x) (fun v => den cf 152 33 L (v :: st) M) := den_al (g := ldI) l_152_32 rfl
theorem l_152_33 : look (tab 152) 33 = some (.iload_n 2, 1, [], uu) := by decide +kernel
theorem e_152_33 : den cf 152 33 [v0, v1, .int x, v3, v4] st M = den cf 152 34 [v0, v1, .int x, v3, v4] (.int x :: st) M := den_go l_152_33 rfl
theorem l_152_34 : look (tab 152) 34 = some (.ishr, 1, [], uu) := by decide +kernel
theorem e_152_34 : den cf 152 34 L (.int y :: .int x :: st) M = den cf 152 35 L (.int (x >>> (y &&& 31)) :: st) M := den_go l_152_34 rfl
theorem l_152_35 : look (tab 152) 35 = some (.iconst 1, 1, [], .int (zI 1)) := by decide +kernel
theorem e_152_35 : den cf 152 35 L st M = den cf 152 36 L (.int (zI 1) :: st) M := den_go l_152_35 rfl
theorem l_152_36 : look (tab 152) 36 = some (.iand, 1, [], uu) := by decide +kernel
theorem e_152_36 : den cf 152 36 L (.int y :: .int x :: st) M = den cf 152 37 L (.int (x &&& y) :: st) M := den_go l_152_36 rfl
theorem l_152_37 : look (tab 152) 37 = some (.istore 4, 2, [], uu) := by decide +kernel
theorem e_152_37 : den cf 152 37 [v0, v1, v2, v3, v4] (.int x :: st) M = den cf 152 39 [v0, v1, v2, kq v3, .int x] st M := den_st (k := 4) (v := .int x) l_152_37 rfl
theorem l_152_39 : look (tab 152) 39 = some (.aload_n 0, 1, [], uu) := by decide +kernel
theorem e_152_39 : den cf 152 39 [.ref a, v1, v2, v3, v4] st M = den cf 152 40 [.ref a, v1, v2, v3, v4] (.ref a :: st) M := den_go l_152_39 rfl
theorem l_152_40 : look (tab 152) 40 = some (.getfield 46, 3, [6, 13, 91], uu) := by decide +kernel
theorem e_152_40 : den cf 152 40 L (.ref a :: st) M = oK (gfA (M.2.2 a) 6 13) (fun v => den cf 152 43 L (v :: st) M) := den_gf l_152_40
theorem l_152_43 : look (tab 152) 43 = some (.iload_n 1, 1, [], uu) := by decide +kernel
theorem e_152_43 : den cf 152 43 [v0, .int x, v2, v3, v4] st M = den cf 152 44 [v0, .int x, v2, v3, v4] (.int x :: st) M := den_go l_152_43 rfl
theorem l_152_44 : look (tab 152) 44 = some (.iload_n 3, 1, [], uu) := by decide +kernel
theorem e_152_44 : den cf 152 44 [v0, v1, v2, .int x, v4] st M = den cf 152 45 [v0, v1, v2, .int x, v4] (.int x :: st) M := den_go l_152_44 rfl
theorem l_152_45 : look (tab 152) 45 = some (.ifCond .eq 16, 3, [61], uu) := by decide +kernel
theorem e_152_45 : den cf 152 45 L (.int x :: st) M = if x = zI 0 then den cf 152 61 L st M else den cf 152 48 L st M := den_if_eq l_152_45
theorem l_152_48 : look (tab 152) 48 = some (.aload_n 0, 1, [], uu) := by decide +kernel
theorem e_152_48 : den cf 152 48 [.ref a, v1, v2, v3, v4] st M = den cf 152 49 [.ref a, v1, v2, v3, v4] (.ref a :: st) M := den_go l_152_48 rfl
theorem l_152_49 : look (tab 152) 49 = some (.getfield 46, 3, [6, 13, 91], uu) := by decide +kernel
theorem e_152_49 : den cf 152 49 L (.ref a :: st) M = oK (gfA (M.2.2 a) 6 13) (fun v => den cf 152 52 L (v :: st) M) := den_gf l_152_49
theorem l_152_52 : look (tab 152) 52 = some (.iload_n 1, 1, [], uu) := by decide +kernel
theorem e_152_52 : den cf 152 52 [v0, .int x, v2, v3, v4] st M = den cf 152 53 [v0, .int x, v2, v3, v4] (.int x :: st) M := den_go l_152_52 rfl
theorem l_152_53 : look (tab 152) 53 = some (.iaload, 1, [], uu) := by decide +kernel
theorem e_152_53 : den cf 152 53 L (.int x :: .ref a :: st) M = oK (ldI (M.2.2 a) x) (fun v => den cf 152 54 L (v :: st) M) := den_al (g := ldI) l_152_53 rfl
theorem l_152_54 : look (tab 152) 54 = some (.iconst 1, 1, [], .int (zI 1)) := by decide +kernel
theorem e_152_54 : den cf 152 54 L st M = den cf 152 55 L (.int (zI 1) :: st) M := den_go l_152_54 rfl
theorem l_152_55 : look (tab 152) 55 = some (.iload_n 2, 1, [], uu) := by decide +kernel
theorem e_152_55 : den cf 152 55 [v0, v1, .int x, v3, v4] st M = den cf 152 56 [v0, v1, .int x, v3, v4] (.int x :: st) M := den_go l_152_55 rfl
theorem l_152_56 : look (tab 152) 56 = some (.ishl, 1, [], uu) := by decide +kernel
theorem e_152_56 : den cf 152 56 L (.int y :: .int x :: st) M = den cf 152 57 L (.int (x <<< (y &&& 31)) :: st) M := den_go l_152_56 rfl
theorem l_152_57 : look (tab 152) 57 = some (.ior, 1, [], uu) := by decide +kernel
theorem e_152_57 : den cf 152 57 L (.int y :: .int x :: st) M = den cf 152 58 L (.int (x ||| y) :: st) M := den_go l_152_57 rfl
theorem l_152_58 : look (tab 152) 58 = some (.goto 15, 3, [73], uu) := by decide +kernel
theorem e_152_58 : den cf 152 58 L st M = den cf 152 73 L st M := den_go l_152_58 rfl
theorem l_152_61 : look (tab 152) 61 = some (.aload_n 0, 1, [], uu) := by decide +kernel
theorem e_152_61 : den cf 152 61 [.ref a, v1, v2, v3, v4] st M = den cf 152 62 [.ref a, v1, v2, v3, v4] (.ref a :: st) M := den_go l_152_61 rfl
theorem l_152_62 : look (tab 152) 62 = some (.getfield 46, 3, [6, 13, 91], uu) := by decide +kernel
theorem e_152_62 : den cf 152 62 L (.ref a :: st) M = oK (gfA (M.2.2 a) 6 13) (fun v => den cf 152 65 L (v :: st) M) := den_gf l_152_62
theorem l_152_65 : look (tab 152) 65 = some (.iload_n 1, 1, [], uu) := by decide +kernel
theorem e_152_65 : den cf 152 65 [v0, .int x, v2, v3, v4] st M = den cf 152 66 [v0, .int x, v2, v3, v4] (.int x :: st) M := den_go l_152_65 rfl
theorem l_152_66 : look (tab 152) 66 = some (.iaload, 1, [], uu) := by decide +kernel
theorem e_152_66 : den cf 152 66 L (.int x :: .ref a :: st) M = oK (ldI (M.2.2 a) x) (fun v => den cf 152 67 L (v :: st) M) := den_al (g := ldI) l_152_66 rfl
theorem l_152_67 : look (tab 152) 67 = some (.iconst 1, 1, [], .int (zI 1)) := by decide +kernel
theorem e_152_67 : den cf 152 67 L st M = den cf 152 68 L (.int (zI 1) :: st) M := den_go l_152_67 rfl
theorem l_152_68 : look (tab 152) 68 = some (.iload_n 2, 1, [], uu) := by decide +kernel
theorem e_152_68 : den cf 152 68 [v0, v1, .int x, v3, v4] st M = den cf 152 69 [v0, v1, .int x, v3, v4] (.int x :: st) M := den_go l_152_68 rfl
theorem l_152_69 : look (tab 152) 69 = some (.ishl, 1, [], uu) := by decide +kernel
theorem e_152_69 : den cf 152 69 L (.int y :: .int x :: st) M = den cf 152 70 L (.int (x <<< (y &&& 31)) :: st) M := den_go l_152_69 rfl
theorem l_152_70 : look (tab 152) 70 = some (.iconst (-1), 1, [], .int (zI (-1))) := by decide +kernel
theorem e_152_70 : den cf 152 70 L st M = den cf 152 71 L (.int (zI (-1)) :: st) M := den_go l_152_70 rfl
theorem l_152_71 : look (tab 152) 71 = some (.ixor, 1, [], uu) := by decide +kernel
theorem e_152_71 : den cf 152 71 L (.int y :: .int x :: st) M = den cf 152 72 L (.int (x ^^^ y) :: st) M := den_go l_152_71 rfl
theorem l_152_72 : look (tab 152) 72 = some (.iand, 1, [], uu) := by decide +kernel
theorem e_152_72 : den cf 152 72 L (.int y :: .int x :: st) M = den cf 152 73 L (.int (x &&& y) :: st) M := den_go l_152_72 rfl
theorem l_152_73 : look (tab 152) 73 = some (.iastore, 1, [], uu) := by decide +kernel
theorem e_152_73 : den cf 152 73 L (.int x :: .int y :: .ref a :: st) M = oK (stI (M.2.2 a) y x) (fun c => den cf 152 74 L st (mU M a c)) := den_is l_152_73
theorem l_152_74 : look (tab 152) 74 = some (.iload 4, 2, [], uu) := by decide +kernel
theorem e_152_74 : den cf 152 74 [v0, v1, v2, v3, .int x] st M = den cf 152 76 [v0, v1, v2, v3, .int x] (.int x :: st) M := den_go l_152_74 rfl
theorem l_152_76 : look (tab 152) 76 = some (.ireturn, 1, [0], uu) := by decide +kernel
theorem e_152_76 : den cf 152 76 L [.int x] M = some (some (.int x), M) := den_e0 l_152_76
/-! yX6_commonOf -/
theorem l_153_0 : look (tab 153) 0 = some (.aload_n 0, 1, [], uu) := by decide +kernel
theorem e_153_0 : den cf 153 0 [.ref a, v1, v2] st M = den cf 153 1 [.ref a, v1, v2] (.ref a :: st) M := den_go l_153_0 rfl
theorem l_153_1 : look (tab 153) 1 = some (.getfield 46, 3, [6, 13, 91], uu) := by decide +kernel
theorem e_153_1 : den cf 153 1 L (.ref a :: st) M = oK (gfA (M.2.2 a) 6 13) (fun v => den cf 153 4 L (v :: st) M) := den_gf l_153_1
theorem l_153_4 : look (tab 153) 4 = some (.iload_n 1, 1, [], uu) := by decide +kernel
theorem e_153_4 : den cf 153 4 [v0, .int x, v2] st M = den cf 153 5 [v0, .int x, v2] (.int x :: st) M := den_go l_153_4 rfl
theorem l_153_5 : look (tab 153) 5 = some (.iaload, 1, [], uu) := by decide +kernel
theorem e_153_5 : den cf 153 5 L (.int x :: .ref a :: st) M = oK (ldI (M.2.2 a) x) (fun v => den cf 153 6 L (v :: st) M) := den_al (g := ldI) l_153_5 rfl
theorem l_153_6 : look (tab 153) 6 = some (.aload_n 0, 1, [], uu) := by decide +kernel
theorem e_153_6 : den cf 153 6 [.ref a, v1, v2] st M = den cf 153 7 [.ref a, v1, v2] (.ref a :: st) M := den_go l_153_6 rfl
theorem l_153_7 : look (tab 153) 7 = some (.getfield 46, 3, [6, 13, 91], uu) := by decide +kernel
theorem e_153_7 : den cf 153 7 L (.ref a :: st) M = oK (gfA (M.2.2 a) 6 13) (fun v => den cf 153 10 L (v :: st) M) := den_gf l_153_7
theorem l_153_10 : look (tab 153) 10 = some (.iload_n 2, 1, [], uu) := by decide +kernel
theorem e_153_10 : den cf 153 10 [v0, v1, .int x] st M = den cf 153 11 [v0, v1, .int x] (.int x :: st) M := den_go l_153_10 rfl
theorem l_153_11 : look (tab 153) 11 = some (.iaload, 1, [], uu) := by decide +kernel
theorem e_153_11 : den cf 153 11 L (.int x :: .ref a :: st) M = oK (ldI (M.2.2 a) x) (fun v => den cf 153 12 L (v :: st) M) := den_al (g := ldI) l_153_11 rfl
theorem l_153_12 : look (tab 153) 12 = some (.iand, 1, [], uu) := by decide +kernel
theorem e_153_12 : den cf 153 12 L (.int y :: .int x :: st) M = den cf 153 13 L (.int (x &&& y) :: st) M := den_go l_153_12 rfl
theorem l_153_13 : look (tab 153) 13 = some (.invokestatic 127, 3, [1, 139, 1, 292, 293, 5], uu) := by decide +kernel
theorem e_153_13 : den cf 153 13 L (w1 :: st) M = if st.length ≤ 4 then rK (cf 139 [w1] M) (fun v M' => den cf 153 16 L (pR v st) M') else none := den_ist [w1] l_153_13 rfl
theorem l_153_16 : look (tab 153) 16 = some (.ireturn, 1, [0], uu) := by decide +kernel
theorem e_153_16 : den cf 153 16 L [.int x] M = some (some (.int x), M) := den_e0 l_153_16
/-! yX6_begins -/
theorem l_154_0 : look (tab 154) 0 = some (.aload_n 0, 1, [], uu) := by decide +kernel
theorem e_154_0 : den cf 154 0 [.ref a, v1, v2, v3] st M = den cf 154 1 [.ref a, v1, v2, v3] (.ref a :: st) M := den_go l_154_0 rfl
theorem l_154_1 : look (tab 154) 1 = some (.getfield 49, 3, [6, 14, 92], uu) := by decide +kernel
theorem e_154_1 : den cf 154 1 L (.ref a :: st) M = oK (gfA (M.2.2 a) 6 14) (fun v => den cf 154 4 L (v :: st) M) := den_gf l_154_1
theorem l_154_4 : look (tab 154) 4 = some (.iload_n 1, 1, [], uu) := by decide +kernel
theorem e_154_4 : den cf 154 4 [v0, .int x, v2, v3] st M = den cf 154 5 [v0, .int x, v2, v3] (.int x :: st) M := den_go l_154_4 rfl
theorem l_154_5 : look (tab 154) 5 = some (.iload_n 2, 1, [], uu) := by decide +kernel
theorem e_154_5 : den cf 154 5 [v0, v1, .int x, v3] st M = den cf 154 6 [v0, v1, .int x, v3] (.int x :: st) M := den_go l_154_5 rfl
theorem l_154_6 : look (tab 154) 6 = some (.iastore, 1, [], uu) := by decide +kernel
theorem e_154_6 : den cf 154 6 L (.int x :: .int y :: .ref a :: st) M = oK (stI (M.2.2 a) y x) (fun c => den cf 154 7 L st (mU M a c)) := den_is l_154_6
theorem l_154_7 : look (tab 154) 7 = some (.aload_n 0, 1, [], uu) := by decide +kernel
theorem e_154_7 : den cf 154 7 [.ref a, v1, v2, v3] st M = den cf 154 8 [.ref a, v1, v2, v3] (.ref a :: st) M := den_go l_154_7 rfl
theorem l_154_8 : look (tab 154) 8 = some (.getfield 52, 3, [6, 15, 93], uu) := by decide +kernel
theorem e_154_8 : den cf 154 8 L (.ref a :: st) M = oK (gfA (M.2.2 a) 6 15) (fun v => den cf 154 11 L (v :: st) M) := den_gf l_154_8
theorem l_154_11 : look (tab 154) 11 = some (.iload_n 1, 1, [], uu) := by decide +kernel
theorem e_154_11 : den cf 154 11 [v0, .int x, v2, v3] st M = den cf 154 12 [v0, .int x, v2, v3] (.int x :: st) M := den_go l_154_11 rfl
theorem l_154_12 : look (tab 154) 12 = some (.iload_n 3, 1, [], uu) := by decide +kernel
theorem e_154_12 : den cf 154 12 [v0, v1, v2, .int x] st M = den cf 154 13 [v0, v1, v2, .int x] (.int x :: st) M := den_go l_154_12 rfl
theorem l_154_13 : look (tab 154) 13 = some (.iastore, 1, [], uu) := by decide +kernel
theorem e_154_13 : den cf 154 13 L (.int x :: .int y :: .ref a :: st) M = oK (stI (M.2.2 a) y x) (fun c => den cf 154 14 L st (mU M a c)) := den_is l_154_13
theorem l_154_14 : look (tab 154) 14 = some (.aload_n 0, 1, [], uu) := by decide +kernel
theorem e_154_14 : den cf 154 14 [.ref a, v1, v2, v3] st M = den cf 154 15 [.ref a, v1, v2, v3] (.ref a :: st) M := den_go l_154_14 rfl
theorem l_154_15 : look (tab 154) 15 = some (.getfield 55, 3, [6, 16, 94], uu) := by decide +kernel
theorem e_154_15 : den cf 154 15 L (.ref a :: st) M = oK (gfA (M.2.2 a) 6 16) (fun v => den cf 154 18 L (v :: st) M) := den_gf l_154_15
theorem l_154_18 : look (tab 154) 18 = some (.iload_n 1, 1, [], uu) := by decide +kernel
theorem e_154_18 : den cf 154 18 [v0, .int x, v2, v3] st M = den cf 154 19 [v0, .int x, v2, v3] (.int x :: st) M := den_go l_154_18 rfl
theorem l_154_19 : look (tab 154) 19 = some (.iconst 0, 1, [], .int (zI 0)) := by decide +kernel
theorem e_154_19 : den cf 154 19 L st M = den cf 154 20 L (.int (zI 0) :: st) M := den_go l_154_19 rfl
theorem l_154_20 : look (tab 154) 20 = some (.iastore, 1, [], uu) := by decide +kernel
theorem e_154_20 : den cf 154 20 L (.int x :: .int y :: .ref a :: st) M = oK (stI (M.2.2 a) y x) (fun c => den cf 154 21 L st (mU M a c)) := den_is l_154_20
theorem l_154_21 : look (tab 154) 21 = some (.aload_n 0, 1, [], uu) := by decide +kernel
theorem e_154_21 : den cf 154 21 [.ref a, v1, v2, v3] st M = den cf 154 22 [.ref a, v1, v2, v3] (.ref a :: st) M := den_go l_154_21 rfl
theorem l_154_22 : look (tab 154) 22 = some (.getfield 58, 3, [6, 17, 95], uu) := by decide +kernel
theorem e_154_22 : den cf 154 22 L (.ref a :: st) M = oK (gfA (M.2.2 a) 6 17) (fun v => den cf 154 25 L (v :: st) M) := den_gf l_154_22
theorem l_154_25 : look (tab 154) 25 = some (.iload_n 1, 1, [], uu) := by decide +kernel
theorem e_154_25 : den cf 154 25 [v0, .int x, v2, v3] st M = den cf 154 26 [v0, .int x, v2, v3] (.int x :: st) M := den_go l_154_25 rfl
theorem l_154_26 : look (tab 154) 26 = some (.iconst 0, 1, [], .int (zI 0)) := by decide +kernel
theorem e_154_26 : den cf 154 26 L st M = den cf 154 27 L (.int (zI 0) :: st) M := den_go l_154_26 rfl
theorem l_154_27 : look (tab 154) 27 = some (.iastore, 1, [], uu) := by decide +kernel
theorem e_154_27 : den cf 154 27 L (.int x :: .int y :: .ref a :: st) M = oK (stI (M.2.2 a) y x) (fun c => den cf 154 28 L st (mU M a c)) := den_is l_154_27
theorem l_154_28 : look (tab 154) 28 = some (.return_, 1, [], uu) := by decide +kernel
theorem e_154_28 : den cf 154 28 L [] M = some (none, M) := den_e4 l_154_28
/-! yX6_pairs -/
theorem l_155_0 : look (tab 155) 0 = some (.aload_n 0, 1, [], uu) := by decide +kernel
theorem e_155_0 : den cf 155 0 [.ref a, v1, v2] st M = den cf 155 1 [.ref a, v1, v2] (.ref a :: st) M := den_go l_155_0 rfl
theorem l_155_1 : look (tab 155) 1 = some (.iload_n 1, 1, [], uu) := by decide +kernel
theorem e_155_1 : den cf 155 1 [v0, .int x, v2] st M = den cf 155 2 [v0, .int x, v2] (.int x :: st) M := den_go l_155_1 rfl
theorem l_155_2 : look (tab 155) 2 = some (.iload_n 2, 1, [], uu) := by decide +kernel
theorem e_155_2 : den cf 155 2 [v0, v1, .int x] st M = den cf 155 3 [v0, v1, .int x] (.int x :: st) M := den_go l_155_2 rfl
theorem l_155_3 : look (tab 155) 3 = some (.iconst 1, 1, [], .int (zI 1)) := by decide +kernel
theorem e_155_3 : den cf 155 3 L st M = den cf 155 4 L (.int (zI 1) :: st) M := den_go l_155_3 rfl
theorem l_155_4 : look (tab 155) 4 = some (.invokevirtual 130, 3, [6, 154, 4, 366, 367, 368, 5], uu) := by decide +kernel
theorem e_155_4 : den cf 155 4 L (w3 :: w2 :: w1 :: .ref a :: st) M = if rcv M 6 [.ref a, w1, w2, w3] = true ∧ st.length ≤ 4 then rK (cf 154 [.ref a, w1, w2, w3] M) (fun v M' => den cf 155 7 L (pR v st) M') else none := den_iv [w1, w2, w3] l_155_4 rfl
theorem l_155_7 : look (tab 155) 7 = some (.aload_n 0, 1, [], uu) := by decide +kernel
theorem e_155_7 : den cf 155 7 [.ref a, v1, v2] st M = den cf 155 8 [.ref a, v1, v2] (.ref a :: st) M := den_go l_155_7 rfl
theorem l_155_8 : look (tab 155) 8 = some (.iload_n 2, 1, [], uu) := by decide +kernel
theorem e_155_8 : den cf 155 8 [v0, v1, .int x] st M = den cf 155 9 [v0, v1, .int x] (.int x :: st) M := den_go l_155_8 rfl
theorem l_155_9 : look (tab 155) 9 = some (.iload_n 1, 1, [], uu) := by decide +kernel
theorem e_155_9 : den cf 155 9 [v0, .int x, v2] st M = den cf 155 10 [v0, .int x, v2] (.int x :: st) M := den_go l_155_9 rfl
theorem l_155_10 : look (tab 155) 10 = some (.iconst 0, 1, [], .int (zI 0)) := by decide +kernel
theorem e_155_10 : den cf 155 10 L st M = den cf 155 11 L (.int (zI 0) :: st) M := den_go l_155_10 rfl
theorem l_155_11 : look (tab 155) 11 = some (.invokevirtual 130, 3, [6, 154, 4, 366, 367, 368, 5], uu) := by decide +kernel
theorem e_155_11 : den cf 155 11 L (w3 :: w2 :: w1 :: .ref a :: st) M = if rcv M 6 [.ref a, w1, w2, w3] = true ∧ st.length ≤ 4 then rK (cf 154 [.ref a, w1, w2, w3] M) (fun v M' => den cf 155 14 L (pR v st) M') else none := den_iv [w1, w2, w3] l_155_11 rfl
theorem l_155_14 : look (tab 155) 14 = some (.return_, 1, [], uu) := by decide +kernel
theorem e_155_14 : den cf 155 14 L [] M = some (none, M) := den_e4 l_155_14
/-! yX6_mayPair -/
theorem l_156_0 : look (tab 156) 0 = some (.aload_n 0, 1, [], uu) := by decide +kernel
theorem e_156_0 : den cf 156 0 [.ref a, v1, v2] st M = den cf 156 1 [.ref a, v1, v2] (.ref a :: st) M := den_go l_156_0 rfl
theorem l_156_1 : look (tab 156) 1 = some (.getfield 43, 3, [6, 12, 90], uu) := by decide +kernel
theorem e_156_1 : den cf 156 1 L (.ref a :: st) M = oK (gfA (M.2.2 a) 6 12) (fun v => den cf 156 4 L (v :: st) M) := den_gf l_156_1
theorem l_156_4 : look (tab 156) 4 = some (.iload_n 1, 1, [], uu) := by decide +kernel
theorem e_156_4 : den cf 156 4 [v0, .int x, v2] st M = den cf 156 5 [v0, .int x, v2] (.int x :: st) M := den_go l_156_4 rfl
theorem l_156_5 : look (tab 156) 5 = some (.iaload, 1, [], uu) := by decide +kernel
theorem e_156_5 : den cf 156 5 L (.int x :: .ref a :: st) M = oK (ldI (M.2.2 a) x) (fun v => den cf 156 6 L (v :: st) M) := den_al (g := ldI) l_156_5 rfl
theorem l_156_6 : look (tab 156) 6 = some (.iload_n 2, 1, [], uu) := by decide +kernel
theorem e_156_6 : den cf 156 6 [v0, v1, .int x] st M = den cf 156 7 [v0, v1, .int x] (.int x :: st) M := den_go l_156_6 rfl
theorem l_156_7 : look (tab 156) 7 = some (.if_icmp .ne 17, 3, [24], uu) := by decide +kernel
theorem e_156_7 : den cf 156 7 L (.int y :: .int x :: st) M = if x = y then den cf 156 10 L st M else den cf 156 24 L st M := den_ic_ne l_156_7
theorem l_156_10 : look (tab 156) 10 = some (.aload_n 0, 1, [], uu) := by decide +kernel
theorem e_156_10 : den cf 156 10 [.ref a, v1, v2] st M = den cf 156 11 [.ref a, v1, v2] (.ref a :: st) M := den_go l_156_10 rfl
theorem l_156_11 : look (tab 156) 11 = some (.getfield 49, 3, [6, 14, 92], uu) := by decide +kernel
theorem e_156_11 : den cf 156 11 L (.ref a :: st) M = oK (gfA (M.2.2 a) 6 14) (fun v => den cf 156 14 L (v :: st) M) := den_gf l_156_11
theorem l_156_14 : look (tab 156) 14 = some (.iload_n 1, 1, [], uu) := by decide +kernel
theorem e_156_14 : den cf 156 14 [v0, .int x, v2] st M = den cf 156 15 [v0, .int x, v2] (.int x :: st) M := den_go l_156_14 rfl
theorem l_156_15 : look (tab 156) 15 = some (.iaload, 1, [], uu) := by decide +kernel
theorem e_156_15 : den cf 156 15 L (.int x :: .ref a :: st) M = oK (ldI (M.2.2 a) x) (fun v => den cf 156 16 L (v :: st) M) := den_al (g := ldI) l_156_15 rfl
theorem l_156_16 : look (tab 156) 16 = some (.iconst (-1), 1, [], .int (zI (-1))) := by decide +kernel
theorem e_156_16 : den cf 156 16 L st M = den cf 156 17 L (.int (zI (-1)) :: st) M := den_go l_156_16 rfl
theorem l_156_17 : look (tab 156) 17 = some (.if_icmp .ne 7, 3, [24], uu) := by decide +kernel
theorem e_156_17 : den cf 156 17 L (.int y :: .int x :: st) M = if x = y then den cf 156 20 L st M else den cf 156 24 L st M := den_ic_ne l_156_17
theorem l_156_20 : look (tab 156) 20 = some (.iconst 1, 1, [], .int (zI 1)) := by decide +kernel
theorem e_156_20 : den cf 156 20 L st M = den cf 156 21 L (.int (zI 1) :: st) M := den_go l_156_20 rfl
theorem l_156_21 : look (tab 156) 21 = some (.goto 4, 3, [25], uu) := by decide +kernel
theorem e_156_21 : den cf 156 21 L st M = den cf 156 25 L st M := den_go l_156_21 rfl
theorem l_156_24 : look (tab 156) 24 = some (.iconst 0, 1, [], .int (zI 0)) := by decide +kernel
theorem e_156_24 : den cf 156 24 L st M = den cf 156 25 L (.int (zI 0) :: st) M := den_go l_156_24 rfl
theorem l_156_25 : look (tab 156) 25 = some (.ireturn, 1, [1], uu) := by decide +kernel
theorem e_156_25 : den cf 156 25 L [.int x] M = if x = zI 0 ∨ x = zI 1 then some (some (.int x), M) else none := den_e1 l_156_25
/-! yX6_pair -/
theorem l_157_0 : look (tab 157) 0 = some (.aload_n 0, 1, [], uu) := by decide +kernel
theorem e_157_0 : den cf 157 0 [.ref a, v1, v2] st M = den cf 157 1 [.ref a, v1, v2] (.ref a :: st) M := den_go l_157_0 rfl
theorem l_157_1 : look (tab 157) 1 = some (.iload_n 1, 1, [], uu) := by decide +kernel
theorem e_157_1 : den cf 157 1 [v0, .int x, v2] st M = den cf 157 2 [v0, .int x, v2] (.int x :: st) M := den_go l_157_1 rfl
theorem l_157_2 : look (tab 157) 2 = some (.invokevirtual 104, 3, [6, 138, 2, 226, 227, 228, 5], uu) := by decide +kernel
theorem e_157_2 : den cf 157 2 L (w1 :: .ref a :: st) M = if rcv M 6 [.ref a, w1] = true ∧ st.length ≤ 4 then rK (cf 138 [.ref a, w1] M) (fun v M' => den cf 157 5 L (pR v st) M') else none := den_iv [w1] l_157_2 rfl
theorem l_157_5 : look (tab 157) 5 = some (.ifCond .eq 11, 3, [16], uu) := by decide +kernel
theorem e_157_5 : den cf 157 5 L (.int x :: st) M = if x = zI 0 then den cf 157 16 L st M else den cf 157 8 L st M := den_if_eq l_157_5
theorem l_157_8 : look (tab 157) 8 = some (.aload_n 0, 1, [], uu) := by decide +kernel
theorem e_157_8 : den cf 157 8 [.ref a, v1, v2] st M = den cf 157 9 [.ref a, v1, v2] (.ref a :: st) M := den_go l_157_8 rfl
theorem l_157_9 : look (tab 157) 9 = some (.iload_n 2, 1, [], uu) := by decide +kernel
theorem e_157_9 : den cf 157 9 [v0, v1, .int x] st M = den cf 157 10 [v0, v1, .int x] (.int x :: st) M := den_go l_157_9 rfl
theorem l_157_10 : look (tab 157) 10 = some (.invokevirtual 104, 3, [6, 138, 2, 226, 227, 228, 5], uu) := by decide +kernel
theorem e_157_10 : den cf 157 10 L (w1 :: .ref a :: st) M = if rcv M 6 [.ref a, w1] = true ∧ st.length ≤ 4 then rK (cf 138 [.ref a, w1] M) (fun v M' => den cf 157 13 L (pR v st) M') else none := den_iv [w1] l_157_10 rfl
theorem l_157_13 : look (tab 157) 13 = some (.ifCond .ne 10, 3, [23], uu) := by decide +kernel
theorem e_157_13 : den cf 157 13 L (.int x :: st) M = if x = zI 0 then den cf 157 16 L st M else den cf 157 23 L st M := den_if_ne l_157_13
theorem l_157_16 : look (tab 157) 16 = some (.aload_n 0, 1, [], uu) := by decide +kernel
theorem e_157_16 : den cf 157 16 [.ref a, v1, v2] st M = den cf 157 17 [.ref a, v1, v2] (.ref a :: st) M := den_go l_157_16 rfl
theorem l_157_17 : look (tab 157) 17 = some (.bipush (-2), 2, [], .int (zI (-2))) := by decide +kernel
theorem e_157_17 : den cf 157 17 L st M = den cf 157 19 L (.int (zI (-2)) :: st) M := den_go l_157_17 rfl
theorem l_157_19 : look (tab 157) 19 = some (.invokevirtual 93, 3, [6, 136, 2, 133, 134, 135, 5], uu) := by decide +kernel
theorem e_157_19 : den cf 157 19 L (w1 :: .ref a :: st) M = if rcv M 6 [.ref a, w1] = true ∧ st.length ≤ 4 then rK (cf 136 [.ref a, w1] M) (fun v M' => den cf 157 22 L (pR v st) M') else none := den_iv [w1] l_157_19 rfl
theorem l_157_22 : look (tab 157) 22 = some (.ireturn, 1, [0], uu) := by decide +kernel
theorem e_157_22 : den cf 157 22 L [.int x] M = some (some (.int x), M) := den_e0 l_157_22
theorem l_157_23 : look (tab 157) 23 = some (.aload_n 0, 1, [], uu) := by decide +kernel
theorem e_157_23 : den cf 157 23 [.ref a, v1, v2] st M = den cf 157 24 [.ref a, v1, v2] (.ref a :: st) M := den_go l_157_23 rfl
theorem l_157_24 : look (tab 157) 24 = some (.iload_n 1, 1, [], uu) := by decide +kernel
theorem e_157_24 : den cf 157 24 [v0, .int x, v2] st M = den cf 157 25 [v0, .int x, v2] (.int x :: st) M := den_go l_157_24 rfl
theorem l_157_25 : look (tab 157) 25 = some (.iconst 0, 1, [], .int (zI 0)) := by decide +kernel
theorem e_157_25 : den cf 157 25 L st M = den cf 157 26 L (.int (zI 0) :: st) M := den_go l_157_25 rfl
theorem l_157_26 : look (tab 157) 26 = some (.invokevirtual 133, 3, [6, 156, 3, 358, 359, 360, 5], uu) := by decide +kernel
theorem e_157_26 : den cf 157 26 L (w2 :: w1 :: .ref a :: st) M = if rcv M 6 [.ref a, w1, w2] = true ∧ st.length ≤ 4 then rK (cf 156 [.ref a, w1, w2] M) (fun v M' => den cf 157 29 L (pR v st) M') else none := den_iv [w1, w2] l_157_26 rfl
theorem l_157_29 : look (tab 157) 29 = some (.ifCond .eq 12, 3, [41], uu) := by decide +kernel
theorem e_157_29 : den cf 157 29 L (.int x :: st) M = if x = zI 0 then den cf 157 41 L st M else den cf 157 32 L st M := den_if_eq l_157_29
theorem l_157_32 : look (tab 157) 32 = some (.aload_n 0, 1, [], uu) := by decide +kernel
theorem e_157_32 : den cf 157 32 [.ref a, v1, v2] st M = den cf 157 33 [.ref a, v1, v2] (.ref a :: st) M := den_go l_157_32 rfl
theorem l_157_33 : look (tab 157) 33 = some (.iload_n 2, 1, [], uu) := by decide +kernel
theorem e_157_33 : den cf 157 33 [v0, v1, .int x] st M = den cf 157 34 [v0, v1, .int x] (.int x :: st) M := den_go l_157_33 rfl
theorem l_157_34 : look (tab 157) 34 = some (.iconst 1, 1, [], .int (zI 1)) := by decide +kernel
theorem e_157_34 : den cf 157 34 L st M = den cf 157 35 L (.int (zI 1) :: st) M := den_go l_157_34 rfl
theorem l_157_35 : look (tab 157) 35 = some (.invokevirtual 133, 3, [6, 156, 3, 358, 359, 360, 5], uu) := by decide +kernel
theorem e_157_35 : den cf 157 35 L (w2 :: w1 :: .ref a :: st) M = if rcv M 6 [.ref a, w1, w2] = true ∧ st.length ≤ 4 then rK (cf 156 [.ref a, w1, w2] M) (fun v M' => den cf 157 38 L (pR v st) M') else none := den_iv [w1, w2] l_157_35 rfl
theorem l_157_38 : look (tab 157) 38 = some (.ifCond .ne 10, 3, [48], uu) := by decide +kernel
theorem e_157_38 : den cf 157 38 L (.int x :: st) M = if x = zI 0 then den cf 157 41 L st M else den cf 157 48 L st M := den_if_ne l_157_38
theorem l_157_41 : look (tab 157) 41 = some (.aload_n 0, 1, [], uu) := by decide +kernel
theorem e_157_41 : den cf 157 41 [.ref a, v1, v2] st M = den cf 157 42 [.ref a, v1, v2] (.ref a :: st) M := den_go l_157_41 rfl
theorem l_157_42 : look (tab 157) 42 = some (.bipush (-5), 2, [], .int (zI (-5))) := by decide +kernel
theorem e_157_42 : den cf 157 42 L st M = den cf 157 44 L (.int (zI (-5)) :: st) M := den_go l_157_42 rfl
theorem l_157_44 : look (tab 157) 44 = some (.invokevirtual 93, 3, [6, 136, 2, 133, 134, 135, 5], uu) := by decide +kernel
theorem e_157_44 : den cf 157 44 L (w1 :: .ref a :: st) M = if rcv M 6 [.ref a, w1] = true ∧ st.length ≤ 4 then rK (cf 136 [.ref a, w1] M) (fun v M' => den cf 157 47 L (pR v st) M') else none := den_iv [w1] l_157_44 rfl
theorem l_157_47 : look (tab 157) 47 = some (.ireturn, 1, [0], uu) := by decide +kernel
theorem e_157_47 : den cf 157 47 L [.int x] M = some (some (.int x), M) := den_e0 l_157_47
theorem l_157_48 : look (tab 157) 48 = some (.aload_n 0, 1, [], uu) := by decide +kernel
theorem e_157_48 : den cf 157 48 [.ref a, v1, v2] st M = den cf 157 49 [.ref a, v1, v2] (.ref a :: st) M := den_go l_157_48 rfl
theorem l_157_49 : look (tab 157) 49 = some (.iload_n 1, 1, [], uu) := by decide +kernel
theorem e_157_49 : den cf 157 49 [v0, .int x, v2] st M = den cf 157 50 [v0, .int x, v2] (.int x :: st) M := den_go l_157_49 rfl
theorem l_157_50 : look (tab 157) 50 = some (.iload_n 2, 1, [], uu) := by decide +kernel
theorem e_157_50 : den cf 157 50 [v0, v1, .int x] st M = den cf 157 51 [v0, v1, .int x] (.int x :: st) M := den_go l_157_50 rfl
theorem l_157_51 : look (tab 157) 51 = some (.invokevirtual 136, 3, [6, 155, 3, 362, 363, 364, 5], uu) := by decide +kernel
theorem e_157_51 : den cf 157 51 L (w2 :: w1 :: .ref a :: st) M = if rcv M 6 [.ref a, w1, w2] = true ∧ st.length ≤ 4 then rK (cf 155 [.ref a, w1, w2] M) (fun v M' => den cf 157 54 L (pR v st) M') else none := den_iv [w1, w2] l_157_51 rfl
theorem l_157_54 : look (tab 157) 54 = some (.aload_n 0, 1, [], uu) := by decide +kernel
theorem e_157_54 : den cf 157 54 [.ref a, v1, v2] st M = den cf 157 55 [.ref a, v1, v2] (.ref a :: st) M := den_go l_157_54 rfl
theorem l_157_55 : look (tab 157) 55 = some (.iload_n 1, 1, [], uu) := by decide +kernel
theorem e_157_55 : den cf 157 55 [v0, .int x, v2] st M = den cf 157 56 [v0, .int x, v2] (.int x :: st) M := den_go l_157_55 rfl
theorem l_157_56 : look (tab 157) 56 = some (.iload_n 2, 1, [], uu) := by decide +kernel
theorem e_157_56 : den cf 157 56 [v0, v1, .int x] st M = den cf 157 57 [v0, v1, .int x] (.int x :: st) M := den_go l_157_56 rfl
theorem l_157_57 : look (tab 157) 57 = some (.invokevirtual 140, 3, [6, 153, 3, 288, 289, 290, 5], uu) := by decide +kernel
theorem e_157_57 : den cf 157 57 L (w2 :: w1 :: .ref a :: st) M = if rcv M 6 [.ref a, w1, w2] = true ∧ st.length ≤ 4 then rK (cf 153 [.ref a, w1, w2] M) (fun v M' => den cf 157 60 L (pR v st) M') else none := den_iv [w1, w2] l_157_57 rfl
theorem l_157_60 : look (tab 157) 60 = some (.ireturn, 1, [0], uu) := by decide +kernel
theorem e_157_60 : den cf 157 60 L [.int x] M = some (some (.int x), M) := den_e0 l_157_60
/-! yX6_parts -/
theorem l_158_0 : look (tab 158) 0 = some (.aload_n 0, 1, [], uu) := by decide +kernel
theorem e_158_0 : den cf 158 0 [.ref a, v1] st M = den cf 158 1 [.ref a, v1] (.ref a :: st) M := den_go l_158_0 rfl
theorem l_158_1 : look (tab 158) 1 = some (.aload_n 0, 1, [], uu) := by decide +kernel
theorem e_158_1 : den cf 158 1 [.ref a, v1] st M = den cf 158 2 [.ref a, v1] (.ref a :: st) M := den_go l_158_1 rfl
theorem l_158_2 : look (tab 158) 2 = some (.getfield 49, 3, [6, 14, 92], uu) := by decide +kernel
theorem e_158_2 : den cf 158 2 L (.ref a :: st) M = oK (gfA (M.2.2 a) 6 14) (fun v => den cf 158 5 L (v :: st) M) := den_gf l_158_2
theorem l_158_5 : look (tab 158) 5 = some (.iload_n 1, 1, [], uu) := by decide +kernel
theorem e_158_5 : den cf 158 5 [v0, .int x] st M = den cf 158 6 [v0, .int x] (.int x :: st) M := den_go l_158_5 rfl
theorem l_158_6 : look (tab 158) 6 = some (.iaload, 1, [], uu) := by decide +kernel
theorem e_158_6 : den cf 158 6 L (.int x :: .ref a :: st) M = oK (ldI (M.2.2 a) x) (fun v => den cf 158 7 L (v :: st) M) := den_al (g := ldI) l_158_6 rfl
theorem l_158_7 : look (tab 158) 7 = some (.iconst (-1), 1, [], .int (zI (-1))) := by decide +kernel
theorem e_158_7 : den cf 158 7 L st M = den cf 158 8 L (.int (zI (-1)) :: st) M := den_go l_158_7 rfl
theorem l_158_8 : look (tab 158) 8 = some (.iconst 0, 1, [], .int (zI 0)) := by decide +kernel
theorem e_158_8 : den cf 158 8 L st M = den cf 158 9 L (.int (zI 0) :: st) M := den_go l_158_8 rfl
theorem l_158_9 : look (tab 158) 9 = some (.invokevirtual 130, 3, [6, 154, 4, 366, 367, 368, 5], uu) := by decide +kernel
theorem e_158_9 : den cf 158 9 L (w3 :: w2 :: w1 :: .ref a :: st) M = if rcv M 6 [.ref a, w1, w2, w3] = true ∧ st.length ≤ 4 then rK (cf 154 [.ref a, w1, w2, w3] M) (fun v M' => den cf 158 12 L (pR v st) M') else none := den_iv [w1, w2, w3] l_158_9 rfl
theorem l_158_12 : look (tab 158) 12 = some (.aload_n 0, 1, [], uu) := by decide +kernel
theorem e_158_12 : den cf 158 12 [.ref a, v1] st M = den cf 158 13 [.ref a, v1] (.ref a :: st) M := den_go l_158_12 rfl
theorem l_158_13 : look (tab 158) 13 = some (.iload_n 1, 1, [], uu) := by decide +kernel
theorem e_158_13 : den cf 158 13 [v0, .int x] st M = den cf 158 14 [v0, .int x] (.int x :: st) M := den_go l_158_13 rfl
theorem l_158_14 : look (tab 158) 14 = some (.iconst (-1), 1, [], .int (zI (-1))) := by decide +kernel
theorem e_158_14 : den cf 158 14 L st M = den cf 158 15 L (.int (zI (-1)) :: st) M := den_go l_158_14 rfl
theorem l_158_15 : look (tab 158) 15 = some (.iconst 0, 1, [], .int (zI 0)) := by decide +kernel
theorem e_158_15 : den cf 158 15 L st M = den cf 158 16 L (.int (zI 0) :: st) M := den_go l_158_15 rfl
theorem l_158_16 : look (tab 158) 16 = some (.invokevirtual 130, 3, [6, 154, 4, 366, 367, 368, 5], uu) := by decide +kernel
theorem e_158_16 : den cf 158 16 L (w3 :: w2 :: w1 :: .ref a :: st) M = if rcv M 6 [.ref a, w1, w2, w3] = true ∧ st.length ≤ 4 then rK (cf 154 [.ref a, w1, w2, w3] M) (fun v M' => den cf 158 19 L (pR v st) M') else none := den_iv [w1, w2, w3] l_158_16 rfl
theorem l_158_19 : look (tab 158) 19 = some (.return_, 1, [], uu) := by decide +kernel
theorem e_158_19 : den cf 158 19 L [] M = some (none, M) := den_e4 l_158_19
/-! yX6_part -/
theorem l_159_0 : look (tab 159) 0 = some (.aload_n 0, 1, [], uu) := by decide +kernel
theorem e_159_0 : den cf 159 0 [.ref a, v1, v2] st M = den cf 159 1 [.ref a, v1, v2] (.ref a :: st) M := den_go l_159_0 rfl
theorem l_159_1 : look (tab 159) 1 = some (.iload_n 1, 1, [], uu) := by decide +kernel
theorem e_159_1 : den cf 159 1 [v0, .int x, v2] st M = den cf 159 2 [v0, .int x, v2] (.int x :: st) M := den_go l_159_1 rfl
theorem l_159_2 : look (tab 159) 2 = some (.invokevirtual 104, 3, [6, 138, 2, 226, 227, 228, 5], uu) := by decide +kernel
theorem e_159_2 : den cf 159 2 L (w1 :: .ref a :: st) M = if rcv M 6 [.ref a, w1] = true ∧ st.length ≤ 4 then rK (cf 138 [.ref a, w1] M) (fun v M' => den cf 159 5 L (pR v st) M') else none := den_iv [w1] l_159_2 rfl
theorem l_159_5 : look (tab 159) 5 = some (.ifCond .ne 10, 3, [15], uu) := by decide +kernel
theorem e_159_5 : den cf 159 5 L (.int x :: st) M = if x = zI 0 then den cf 159 8 L st M else den cf 159 15 L st M := den_if_ne l_159_5
theorem l_159_8 : look (tab 159) 8 = some (.aload_n 0, 1, [], uu) := by decide +kernel
theorem e_159_8 : den cf 159 8 [.ref a, v1, v2] st M = den cf 159 9 [.ref a, v1, v2] (.ref a :: st) M := den_go l_159_8 rfl
theorem l_159_9 : look (tab 159) 9 = some (.bipush (-2), 2, [], .int (zI (-2))) := by decide +kernel
theorem e_159_9 : den cf 159 9 L st M = den cf 159 11 L (.int (zI (-2)) :: st) M := den_go l_159_9 rfl
theorem l_159_11 : look (tab 159) 11 = some (.invokevirtual 93, 3, [6, 136, 2, 133, 134, 135, 5], uu) := by decide +kernel
theorem e_159_11 : den cf 159 11 L (w1 :: .ref a :: st) M = if rcv M 6 [.ref a, w1] = true ∧ st.length ≤ 4 then rK (cf 136 [.ref a, w1] M) (fun v M' => den cf 159 14 L (pR v st) M') else none := den_iv [w1] l_159_11 rfl
theorem l_159_14 : look (tab 159) 14 = some (.ireturn, 1, [0], uu) := by decide +kernel
theorem e_159_14 : den cf 159 14 L [.int x] M = some (some (.int x), M) := den_e0 l_159_14
theorem l_159_15 : look (tab 159) 15 = some (.aload_n 0, 1, [], uu) := by decide +kernel
theorem e_159_15 : den cf 159 15 [.ref a, v1, v2] st M = den cf 159 16 [.ref a, v1, v2] (.ref a :: st) M := den_go l_159_15 rfl
theorem l_159_16 : look (tab 159) 16 = some (.getfield 49, 3, [6, 14, 92], uu) := by decide +kernel
theorem e_159_16 : den cf 159 16 L (.ref a :: st) M = oK (gfA (M.2.2 a) 6 14) (fun v => den cf 159 19 L (v :: st) M) := den_gf l_159_16
theorem l_159_19 : look (tab 159) 19 = some (.iload_n 1, 1, [], uu) := by decide +kernel
theorem e_159_19 : den cf 159 19 [v0, .int x, v2] st M = den cf 159 20 [v0, .int x, v2] (.int x :: st) M := den_go l_159_19 rfl
theorem l_159_20 : look (tab 159) 20 = some (.iaload, 1, [], uu) := by decide +kernel
theorem e_159_20 : den cf 159 20 L (.int x :: .ref a :: st) M = oK (ldI (M.2.2 a) x) (fun v => den cf 159 21 L (v :: st) M) := den_al (g := ldI) l_159_20 rfl
theorem l_159_21 : look (tab 159) 21 = some (.iconst (-1), 1, [], .int (zI (-1))) := by decide +kernel
theorem e_159_21 : den cf 159 21 L st M = den cf 159 22 L (.int (zI (-1)) :: st) M := den_go l_159_21 rfl
theorem l_159_22 : look (tab 159) 22 = some (.if_icmp .ne 10, 3, [32], uu) := by decide +kernel
theorem e_159_22 : den cf 159 22 L (.int y :: .int x :: st) M = if x = y then den cf 159 25 L st M else den cf 159 32 L st M := den_ic_ne l_159_22
theorem l_159_25 : look (tab 159) 25 = some (.aload_n 0, 1, [], uu) := by decide +kernel
theorem e_159_25 : den cf 159 25 [.ref a, v1, v2] st M = den cf 159 26 [.ref a, v1, v2] (.ref a :: st) M := den_go l_159_25 rfl
theorem l_159_26 : look (tab 159) 26 = some (.bipush (-5), 2, [], .int (zI (-5))) := by decide +kernel
theorem e_159_26 : den cf 159 26 L st M = den cf 159 28 L (.int (zI (-5)) :: st) M := den_go l_159_26 rfl
theorem l_159_28 : look (tab 159) 28 = some (.invokevirtual 93, 3, [6, 136, 2, 133, 134, 135, 5], uu) := by decide +kernel
theorem e_159_28 : den cf 159 28 L (w1 :: .ref a :: st) M = if rcv M 6 [.ref a, w1] = true ∧ st.length ≤ 4 then rK (cf 136 [.ref a, w1] M) (fun v M' => den cf 159 31 L (pR v st) M') else none := den_iv [w1] l_159_28 rfl
theorem l_159_31 : look (tab 159) 31 = some (.ireturn, 1, [0], uu) := by decide +kernel
theorem e_159_31 : den cf 159 31 L [.int x] M = some (some (.int x), M) := den_e0 l_159_31
theorem l_159_32 : look (tab 159) 32 = some (.aload_n 0, 1, [], uu) := by decide +kernel
theorem e_159_32 : den cf 159 32 [.ref a, v1, v2] st M = den cf 159 33 [.ref a, v1, v2] (.ref a :: st) M := den_go l_159_32 rfl
theorem l_159_33 : look (tab 159) 33 = some (.getfield 49, 3, [6, 14, 92], uu) := by decide +kernel
theorem e_159_33 : den cf 159 33 L (.ref a :: st) M = oK (gfA (M.2.2 a) 6 14) (fun v => den cf 159 36 L (v :: st) M) := den_gf l_159_33
theorem l_159_36 : look (tab 159) 36 = some (.iload_n 1, 1, [], uu) := by decide +kernel
theorem e_159_36 : den cf 159 36 [v0, .int x, v2] st M = den cf 159 37 [v0, .int x, v2] (.int x :: st) M := den_go l_159_36 rfl
theorem l_159_37 : look (tab 159) 37 = some (.iaload, 1, [], uu) := by decide +kernel
theorem e_159_37 : den cf 159 37 L (.int x :: .ref a :: st) M = oK (ldI (M.2.2 a) x) (fun v => den cf 159 38 L (v :: st) M) := den_al (g := ldI) l_159_37 rfl
theorem l_159_38 : look (tab 159) 38 = some (.istore_n 2, 1, [], uu) := by decide +kernel
theorem e_159_38 : den cf 159 38 [v0, v1, v2] (.int x :: st) M = den cf 159 39 [v0, kq v1, .int x] st M := den_st (k := 2) (v := .int x) l_159_38 rfl
theorem l_159_39 : look (tab 159) 39 = some (.aload_n 0, 1, [], uu) := by decide +kernel
theorem e_159_39 : den cf 159 39 [.ref a, v1, v2] st M = den cf 159 40 [.ref a, v1, v2] (.ref a :: st) M := den_go l_159_39 rfl
theorem l_159_40 : look (tab 159) 40 = some (.iload_n 1, 1, [], uu) := by decide +kernel
theorem e_159_40 : den cf 159 40 [v0, .int x, v2] st M = den cf 159 41 [v0, .int x, v2] (.int x :: st) M := den_go l_159_40 rfl
theorem l_159_41 : look (tab 159) 41 = some (.invokevirtual 143, 3, [6, 158, 2, 383, 384, 385, 5], uu) := by decide +kernel
theorem e_159_41 : den cf 159 41 L (w1 :: .ref a :: st) M = if rcv M 6 [.ref a, w1] = true ∧ st.length ≤ 4 then rK (cf 158 [.ref a, w1] M) (fun v M' => den cf 159 44 L (pR v st) M') else none := den_iv [w1] l_159_41 rfl
theorem l_159_44 : look (tab 159) 44 = some (.iload_n 2, 1, [], uu) := by decide +kernel
theorem e_159_44 : den cf 159 44 [v0, v1, .int x] st M = den cf 159 45 [v0, v1, .int x] (.int x :: st) M := den_go l_159_44 rfl
theorem l_159_45 : look (tab 159) 45 = some (.ireturn, 1, [0], uu) := by decide +kernel
theorem e_159_45 : den cf 159 45 L [.int x] M = some (some (.int x), M) := den_e0 l_159_45
/-! yX6_ask -/
theorem l_160_0 : look (tab 160) 0 = some (.iload_n 1, 1, [], uu) := by decide +kernel
theorem e_160_0 : den cf 160 0 [v0, .int x, v2, v3] st M = den cf 160 1 [v0, .int x, v2, v3] (.int x :: st) M := den_go l_160_0 rfl
theorem l_160_1 : look (tab 160) 1 = some (.i2l, 1, [], uu) := by decide +kernel
theorem e_160_1 : den cf 160 1 L (.int x :: st) M = den cf 160 2 L (.long x.toInt64 :: st) M := den_go l_160_1 rfl
theorem l_160_2 : look (tab 160) 2 = some (.lconst 0, 1, [], .long (zJ 0)) := by decide +kernel
theorem e_160_2 : den cf 160 2 L st M = den cf 160 3 L (.long (zJ 0) :: st) M := den_go l_160_2 rfl
theorem l_160_3 : look (tab 160) 3 = some (.ldc2_w 147, 3, [398], .long (zJ 2)) := by decide +kernel
theorem e_160_3 : den cf 160 3 L st M = den cf 160 6 L (.long (zJ 2) :: st) M := den_go l_160_3 rfl
theorem l_160_6 : look (tab 160) 6 = some (.invokestatic 83, 3, [1, 137, 3, 130, 131, 5], uu) := by decide +kernel
theorem e_160_6 : den cf 160 6 L (w3 :: w2 :: w1 :: st) M = if st.length ≤ 4 then rK (cf 137 [w1, w2, w3] M) (fun v M' => den cf 160 9 L (pR v st) M') else none := den_ist [w1, w2, w3] l_160_6 rfl
theorem l_160_9 : look (tab 160) 9 = some (.ifCond .eq 34, 3, [43], uu) := by decide +kernel
theorem e_160_9 : den cf 160 9 L (.int x :: st) M = if x = zI 0 then den cf 160 43 L st M else den cf 160 12 L st M := den_if_eq l_160_9
theorem l_160_12 : look (tab 160) 12 = some (.iload_n 2, 1, [], uu) := by decide +kernel
theorem e_160_12 : den cf 160 12 [v0, v1, .int x, v3] st M = den cf 160 13 [v0, v1, .int x, v3] (.int x :: st) M := den_go l_160_12 rfl
theorem l_160_13 : look (tab 160) 13 = some (.i2l, 1, [], uu) := by decide +kernel
theorem e_160_13 : den cf 160 13 L (.int x :: st) M = den cf 160 14 L (.long x.toInt64 :: st) M := den_go l_160_13 rfl
theorem l_160_14 : look (tab 160) 14 = some (.lconst 0, 1, [], .long (zJ 0)) := by decide +kernel
theorem e_160_14 : den cf 160 14 L st M = den cf 160 15 L (.long (zJ 0) :: st) M := den_go l_160_14 rfl
theorem l_160_15 : look (tab 160) 15 = some (.iload_n 1, 1, [], uu) := by decide +kernel
theorem e_160_15 : den cf 160 15 [v0, .int x, v2, v3] st M = den cf 160 16 [v0, .int x, v2, v3] (.int x :: st) M := den_go l_160_15 rfl
theorem l_160_16 : look (tab 160) 16 = some (.ifCond .ne 9, 3, [25], uu) := by decide +kernel
theorem e_160_16 : den cf 160 16 L (.int x :: st) M = if x = zI 0 then den cf 160 19 L st M else den cf 160 25 L st M := den_if_ne l_160_16
theorem l_160_19 : look (tab 160) 19 = some (.ldc2_w 149, 3, [399], .long (zJ 12)) := by decide +kernel
theorem e_160_19 : den cf 160 19 L st M = den cf 160 22 L (.long (zJ 12) :: st) M := den_go l_160_19 rfl
theorem l_160_22 : look (tab 160) 22 = some (.goto 15, 3, [37], uu) := by decide +kernel
theorem e_160_22 : den cf 160 22 L st M = den cf 160 37 L st M := den_go l_160_22 rfl
theorem l_160_25 : look (tab 160) 25 = some (.iload_n 1, 1, [], uu) := by decide +kernel
theorem e_160_25 : den cf 160 25 [v0, .int x, v2, v3] st M = den cf 160 26 [v0, .int x, v2, v3] (.int x :: st) M := den_go l_160_25 rfl
theorem l_160_26 : look (tab 160) 26 = some (.iconst 1, 1, [], .int (zI 1)) := by decide +kernel
theorem e_160_26 : den cf 160 26 L st M = den cf 160 27 L (.int (zI 1) :: st) M := den_go l_160_26 rfl
theorem l_160_27 : look (tab 160) 27 = some (.if_icmp .ne 9, 3, [36], uu) := by decide +kernel
theorem e_160_27 : den cf 160 27 L (.int y :: .int x :: st) M = if x = y then den cf 160 30 L st M else den cf 160 36 L st M := den_ic_ne l_160_27
theorem l_160_30 : look (tab 160) 30 = some (.ldc2_w 121, 3, [328], .long (zJ 9)) := by decide +kernel
theorem e_160_30 : den cf 160 30 L st M = den cf 160 33 L (.long (zJ 9) :: st) M := den_go l_160_30 rfl
theorem l_160_33 : look (tab 160) 33 = some (.goto 4, 3, [37], uu) := by decide +kernel
theorem e_160_33 : den cf 160 33 L st M = den cf 160 37 L st M := den_go l_160_33 rfl
theorem l_160_36 : look (tab 160) 36 = some (.lconst 1, 1, [], .long (zJ 1)) := by decide +kernel
theorem e_160_36 : den cf 160 36 L st M = den cf 160 37 L (.long (zJ 1) :: st) M := den_go l_160_36 rfl
theorem l_160_37 : look (tab 160) 37 = some (.invokestatic 83, 3, [1, 137, 3, 130, 131, 5], uu) := by decide +kernel
theorem e_160_37 : den cf 160 37 L (w3 :: w2 :: w1 :: st) M = if st.length ≤ 4 then rK (cf 137 [w1, w2, w3] M) (fun v M' => den cf 160 40 L (pR v st) M') else none := den_ist [w1, w2, w3] l_160_37 rfl
theorem l_160_40 : look (tab 160) 40 = some (.ifCond .ne 10, 3, [50], uu) := by decide +kernel
theorem e_160_40 : den cf 160 40 L (.int x :: st) M = if x = zI 0 then den cf 160 43 L st M else den cf 160 50 L st M := den_if_ne l_160_40
theorem l_160_43 : look (tab 160) 43 = some (.aload_n 0, 1, [], uu) := by decide +kernel
theorem e_160_43 : den cf 160 43 [.ref a, v1, v2, v3] st M = den cf 160 44 [.ref a, v1, v2, v3] (.ref a :: st) M := den_go l_160_43 rfl
theorem l_160_44 : look (tab 160) 44 = some (.bipush (-2), 2, [], .int (zI (-2))) := by decide +kernel
theorem e_160_44 : den cf 160 44 L st M = den cf 160 46 L (.int (zI (-2)) :: st) M := den_go l_160_44 rfl
theorem l_160_46 : look (tab 160) 46 = some (.invokevirtual 93, 3, [6, 136, 2, 133, 134, 135, 5], uu) := by decide +kernel
theorem e_160_46 : den cf 160 46 L (w1 :: .ref a :: st) M = if rcv M 6 [.ref a, w1] = true ∧ st.length ≤ 4 then rK (cf 136 [.ref a, w1] M) (fun v M' => den cf 160 49 L (pR v st) M') else none := den_iv [w1] l_160_46 rfl
theorem l_160_49 : look (tab 160) 49 = some (.ireturn, 1, [0], uu) := by decide +kernel
theorem e_160_49 : den cf 160 49 L [.int x] M = some (some (.int x), M) := den_e0 l_160_49
theorem l_160_50 : look (tab 160) 50 = some (.aload_n 0, 1, [], uu) := by decide +kernel
theorem e_160_50 : den cf 160 50 [.ref a, v1, v2, v3] st M = den cf 160 51 [.ref a, v1, v2, v3] (.ref a :: st) M := den_go l_160_50 rfl
theorem l_160_51 : look (tab 160) 51 = some (.getfield 61, 3, [6, 18, 96], uu) := by decide +kernel
theorem e_160_51 : den cf 160 51 L (.ref a :: st) M = oK (gfA (M.2.2 a) 6 18) (fun v => den cf 160 54 L (v :: st) M) := den_gf l_160_51
theorem l_160_54 : look (tab 160) 54 = some (.iload_n 1, 1, [], uu) := by decide +kernel
theorem e_160_54 : den cf 160 54 [v0, .int x, v2, v3] st M = den cf 160 55 [v0, .int x, v2, v3] (.int x :: st) M := den_go l_160_54 rfl
theorem l_160_55 : look (tab 160) 55 = some (.iaload, 1, [], uu) := by decide +kernel
theorem e_160_55 : den cf 160 55 L (.int x :: .ref a :: st) M = oK (ldI (M.2.2 a) x) (fun v => den cf 160 56 L (v :: st) M) := den_al (g := ldI) l_160_55 rfl
theorem l_160_56 : look (tab 160) 56 = some (.istore_n 3, 1, [], uu) := by decide +kernel
theorem e_160_56 : den cf 160 56 [v0, v1, v2, v3] (.int x :: st) M = den cf 160 57 [v0, v1, kq v2, .int x] st M := den_st (k := 3) (v := .int x) l_160_56 rfl
theorem l_160_57 : look (tab 160) 57 = some (.aload_n 0, 1, [], uu) := by decide +kernel
theorem e_160_57 : den cf 160 57 [.ref a, v1, v2, v3] st M = den cf 160 58 [.ref a, v1, v2, v3] (.ref a :: st) M := den_go l_160_57 rfl
theorem l_160_58 : look (tab 160) 58 = some (.getfield 61, 3, [6, 18, 96], uu) := by decide +kernel
theorem e_160_58 : den cf 160 58 L (.ref a :: st) M = oK (gfA (M.2.2 a) 6 18) (fun v => den cf 160 61 L (v :: st) M) := den_gf l_160_58
theorem l_160_61 : look (tab 160) 61 = some (.iload_n 1, 1, [], uu) := by decide +kernel
theorem e_160_61 : den cf 160 61 [v0, .int x, v2, v3] st M = den cf 160 62 [v0, .int x, v2, v3] (.int x :: st) M := den_go l_160_61 rfl
theorem l_160_62 : look (tab 160) 62 = some (.iload_n 2, 1, [], uu) := by decide +kernel
theorem e_160_62 : den cf 160 62 [v0, v1, .int x, v3] st M = den cf 160 63 [v0, v1, .int x, v3] (.int x :: st) M := den_go l_160_62 rfl
theorem l_160_63 : look (tab 160) 63 = some (.iastore, 1, [], uu) := by decide +kernel
theorem e_160_63 : den cf 160 63 L (.int x :: .int y :: .ref a :: st) M = oK (stI (M.2.2 a) y x) (fun c => den cf 160 64 L st (mU M a c)) := den_is l_160_63
theorem l_160_64 : look (tab 160) 64 = some (.iload_n 3, 1, [], uu) := by decide +kernel
theorem e_160_64 : den cf 160 64 [v0, v1, v2, .int x] st M = den cf 160 65 [v0, v1, v2, .int x] (.int x :: st) M := den_go l_160_64 rfl
theorem l_160_65 : look (tab 160) 65 = some (.ireturn, 1, [0], uu) := by decide +kernel
theorem e_160_65 : den cf 160 65 L [.int x] M = some (some (.int x), M) := den_e0 l_160_65
