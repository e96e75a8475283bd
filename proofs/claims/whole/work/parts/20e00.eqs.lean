variable {cf : Nat → List Value → AM → Option AR} {L st : List Value} {M : AM} {x y : Int32} {p q : Int64} {a b : Nat} {v w : Value} {o : Option Nat} {v0 v1 v2 v3 v4 v5 v6 v7 v8 v9 v10 v11 v12 v13 v14 v15 v16 v17 v18 v19 v20 w1 w2 w3 w4 w5 w6 : Value}
/-! yL_law -/
theorem l_0_0 : look (tab 0) 0 = some (.new 7, 3, [5, 0, 1, 2], uu) := by decide +kernel
theorem e_0_0 : den cf 0 0 L st M = if M.1 < 600000 then den cf 0 3 L (.ref M.1 :: st) (mN M 8 (.inl (5, dflA 5))) else none := den_g l_0_0 rfl
theorem l_0_3 : look (tab 0) 3 = some (.dup, 1, [], uu) := by decide +kernel
theorem e_0_3 : den cf 0 3 L (.ref a :: st) M = den cf 0 4 L (.ref a :: .ref a :: st) M := den_go l_0_3 rfl
theorem e_0_3_i : den cf 0 3 L (.int x :: st) M = den cf 0 4 L (.int x :: .int x :: st) M := den_go l_0_3 rfl
theorem l_0_4 : look (tab 0) 4 = some (.invokespecial 9, 3, [1, 5, 74, 1, 7, 8, 2], uu) := by decide +kernel
theorem e_0_4 : den cf 0 4 L (.ref a :: st) M = if rcv M 5 [.ref a] = true ∧ st.length ≤ 4 then rK (cf 74 [.ref a] M) (fun v M' => den cf 0 7 L (pR v st) M') else none := den_isp [] l_0_4 rfl
theorem l_0_7 : look (tab 0) 7 = some (.astore_n 1, 1, [], uu) := by decide +kernel
theorem e_0_7 : den cf 0 7 [v0, v1, v2, v3] (v :: st) M = if isRf v = true then den cf 0 8 [kq v0, v, v2, v3] st M else none := den_as (k := 1) (v := v) l_0_7 rfl (Nat.le_of_ble_eq_true rfl)
theorem l_0_8 : look (tab 0) 8 = some (.new 10, 3, [6, 3, 4, 5], uu) := by decide +kernel
theorem e_0_8 : den cf 0 8 L st M = if M.1 < 600000 then den cf 0 11 L (.ref M.1 :: st) (mN M 36 (.inl (6, dflA 6))) else none := den_g l_0_8 rfl
theorem l_0_11 : look (tab 0) 11 = some (.dup, 1, [], uu) := by decide +kernel
theorem e_0_11 : den cf 0 11 L (.ref a :: st) M = den cf 0 12 L (.ref a :: .ref a :: st) M := den_go l_0_11 rfl
theorem e_0_11_i : den cf 0 11 L (.int x :: st) M = den cf 0 12 L (.int x :: .int x :: st) M := den_go l_0_11 rfl
theorem l_0_12 : look (tab 0) 12 = some (.invokespecial 12, 3, [1, 6, 135, 1, 75, 76, 5], uu) := by decide +kernel
theorem e_0_12 : den cf 0 12 L (.ref a :: st) M = if rcv M 6 [.ref a] = true ∧ st.length ≤ 4 then rK (cf 135 [.ref a] M) (fun v M' => den cf 0 15 L (pR v st) M') else none := den_isp [] l_0_12 rfl
theorem l_0_15 : look (tab 0) 15 = some (.astore_n 2, 1, [], uu) := by decide +kernel
theorem e_0_15 : den cf 0 15 [v0, v1, v2, v3] (v :: st) M = if isRf v = true then den cf 0 16 [v0, kq v1, v, v3] st M else none := den_as (k := 2) (v := v) l_0_15 rfl (Nat.le_of_ble_eq_true rfl)
theorem l_0_16 : look (tab 0) 16 = some (.iconst 0, 1, [], .int (zI 0)) := by decide +kernel
theorem e_0_16 : den cf 0 16 L st M = den cf 0 17 L (.int (zI 0) :: st) M := den_go l_0_16 rfl
theorem l_0_17 : look (tab 0) 17 = some (.istore_n 3, 1, [], uu) := by decide +kernel
theorem e_0_17 : den cf 0 17 [v0, v1, v2, v3] (.int x :: st) M = den cf 0 18 [v0, v1, kq v2, .int x] st M := den_st (k := 3) (v := .int x) l_0_17 rfl
theorem l_0_18 : look (tab 0) 18 = some (.iload_n 3, 1, [], uu) := by decide +kernel
theorem e_0_18 : den cf 0 18 [v0, v1, v2, .int x] st M = den cf 0 19 [v0, v1, v2, .int x] (.int x :: st) M := den_go l_0_18 rfl
theorem l_0_19 : look (tab 0) 19 = some (.aload_n 0, 1, [], uu) := by decide +kernel
theorem e_0_19 : den cf 0 19 [v0, v1, v2, v3] st M = if isRf v0 = true then den cf 0 20 [v0, v1, v2, v3] (v0 :: st) M else none := den_g l_0_19 rfl
theorem l_0_20 : look (tab 0) 20 = some (.arraylength, 1, [], uu) := by decide +kernel
theorem e_0_20 : den cf 0 20 L (.ref a :: st) M = oK (lenA (M.2.2 a)) (fun n => den cf 0 21 L (.int (zI n) :: st) M) := den_len l_0_20
theorem l_0_21 : look (tab 0) 21 = some (.bipush 6, 2, [], .int (zI 6)) := by decide +kernel
theorem e_0_21 : den cf 0 21 L st M = den cf 0 23 L (.int (zI 6) :: st) M := den_go l_0_21 rfl
theorem l_0_23 : look (tab 0) 23 = some (.isub, 1, [], uu) := by decide +kernel
theorem e_0_23 : den cf 0 23 L (.int y :: .int x :: st) M = den cf 0 24 L (.int (x - y) :: st) M := den_go l_0_23 rfl
theorem l_0_24 : look (tab 0) 24 = some (.if_icmp .gt 1738, 3, [1762], uu) := by decide +kernel
theorem e_0_24 : den cf 0 24 L (.int y :: .int x :: st) M = if y < x then den cf 0 1762 L st M else den cf 0 27 L st M := den_ic_gt l_0_24
theorem l_0_27 : look (tab 0) 27 = some (.aload_n 0, 1, [], uu) := by decide +kernel
theorem e_0_27 : den cf 0 27 [v0, v1, v2, v3] st M = if isRf v0 = true then den cf 0 28 [v0, v1, v2, v3] (v0 :: st) M else none := den_g l_0_27 rfl
theorem l_0_28 : look (tab 0) 28 = some (.iload_n 3, 1, [], uu) := by decide +kernel
theorem e_0_28 : den cf 0 28 [v0, v1, v2, .int x] st M = den cf 0 29 [v0, v1, v2, .int x] (.int x :: st) M := den_go l_0_28 rfl
theorem l_0_29 : look (tab 0) 29 = some (.iaload, 1, [], uu) := by decide +kernel
theorem e_0_29 : den cf 0 29 L (.int x :: .ref a :: st) M = oK (ldI (M.2.2 a) x) (fun v => den cf 0 30 L (v :: st) M) := den_al (g := ldI) l_0_29 rfl
theorem l_0_30 : look (tab 0) 30 = some (.bipush 63, 2, [], .int (zI 63)) := by decide +kernel
theorem e_0_30 : den cf 0 30 L st M = den cf 0 32 L (.int (zI 63) :: st) M := den_go l_0_30 rfl
theorem l_0_32 : look (tab 0) 32 = some (.iand, 1, [], uu) := by decide +kernel
theorem e_0_32 : den cf 0 32 L (.int y :: .int x :: st) M = den cf 0 33 L (.int (x &&& y) :: st) M := den_go l_0_32 rfl
theorem l_0_33 : look (tab 0) 33 = some (.tableswitch 1723 0 52 #[227, 270, 343, 406, 440, 463, 496, 529, 572, 631, 664, 687, 720, 743, 756, 769, 802, 835, 868, 891, 924, 957, 990, 1013, 1026, 1049, 1072, 1085, 1098, 1111, 1144, 1157, 1180, 1203, 1236, 1259, 1282, 1325, 1348, 1391, 1424, 1437, 1450, 1463, 1506, 1539, 1582, 1615, 1638, 1651, 1674, 1687, 1700], 227, [1756, 260, 303, 376, 439, 473, 496, 529, 562, 605, 664, 697, 720, 753, 776, 789, 802, 835, 868, 901, 924, 957, 990, 1023, 1046, 1059, 1082, 1105, 1118, 1131, 1144, 1177, 1190, 1213, 1236, 1269, 1292, 1315, 1358, 1381, 1424, 1457, 1470, 1483, 1496, 1539, 1572, 1615, 1648, 1671, 1684, 1707, 1720, 1733], uu) := by decide +kernel
theorem e_0_33 : den cf 0 33 L (.int x :: st) M = if x.toInt < 0 ∨ 52 < x.toInt then den cf 0 1756 L st M else oK ([260, 303, 376, 439, 473, 496, 529, 562, 605, 664, 697, 720, 753, 776, 789, 802, 835, 868, 901, 924, 957, 990, 1023, 1046, 1059, 1082, 1105, 1118, 1131, 1144, 1177, 1190, 1213, 1236, 1269, 1292, 1315, 1358, 1381, 1424, 1457, 1470, 1483, 1496, 1539, 1572, 1615, 1648, 1671, 1684, 1707, 1720, 1733] : List Nat)[(x.toInt - 0).toNat]? (fun t => den cf 0 t L st M) := den_ts l_0_33
theorem l_0_260 : look (tab 0) 260 = some (.aload_n 1, 1, [], uu) := by decide +kernel
theorem e_0_260 : den cf 0 260 [v0, v1, v2, v3] st M = if isRf v1 = true then den cf 0 261 [v0, v1, v2, v3] (v1 :: st) M else none := den_g l_0_260 rfl
theorem l_0_261 : look (tab 0) 261 = some (.aload_n 0, 1, [], uu) := by decide +kernel
theorem e_0_261 : den cf 0 261 [v0, v1, v2, v3] st M = if isRf v0 = true then den cf 0 262 [v0, v1, v2, v3] (v0 :: st) M else none := den_g l_0_261 rfl
theorem l_0_262 : look (tab 0) 262 = some (.iload_n 3, 1, [], uu) := by decide +kernel
theorem e_0_262 : den cf 0 262 [v0, v1, v2, .int x] st M = den cf 0 263 [v0, v1, v2, .int x] (.int x :: st) M := den_go l_0_262 rfl
theorem l_0_263 : look (tab 0) 263 = some (.iconst 1, 1, [], .int (zI 1)) := by decide +kernel
theorem e_0_263 : den cf 0 263 L st M = den cf 0 264 L (.int (zI 1) :: st) M := den_go l_0_263 rfl
theorem l_0_264 : look (tab 0) 264 = some (.iadd, 1, [], uu) := by decide +kernel
theorem e_0_264 : den cf 0 264 L (.int y :: .int x :: st) M = den cf 0 265 L (.int (x + y) :: st) M := den_go l_0_264 rfl
theorem l_0_265 : look (tab 0) 265 = some (.iaload, 1, [], uu) := by decide +kernel
theorem e_0_265 : den cf 0 265 L (.int x :: .ref a :: st) M = oK (ldI (M.2.2 a) x) (fun v => den cf 0 266 L (v :: st) M) := den_al (g := ldI) l_0_265 rfl
theorem l_0_266 : look (tab 0) 266 = some (.aload_n 0, 1, [], uu) := by decide +kernel
theorem e_0_266 : den cf 0 266 [v0, v1, v2, v3] st M = if isRf v0 = true then den cf 0 267 [v0, v1, v2, v3] (v0 :: st) M else none := den_g l_0_266 rfl
theorem l_0_267 : look (tab 0) 267 = some (.iload_n 3, 1, [], uu) := by decide +kernel
theorem e_0_267 : den cf 0 267 [v0, v1, v2, .int x] st M = den cf 0 268 [v0, v1, v2, .int x] (.int x :: st) M := den_go l_0_267 rfl
theorem l_0_268 : look (tab 0) 268 = some (.iconst 2, 1, [], .int (zI 2)) := by decide +kernel
theorem e_0_268 : den cf 0 268 L st M = den cf 0 269 L (.int (zI 2) :: st) M := den_go l_0_268 rfl
theorem l_0_269 : look (tab 0) 269 = some (.iadd, 1, [], uu) := by decide +kernel
theorem e_0_269 : den cf 0 269 L (.int y :: .int x :: st) M = den cf 0 270 L (.int (x + y) :: st) M := den_go l_0_269 rfl
theorem l_0_270 : look (tab 0) 270 = some (.iaload, 1, [], uu) := by decide +kernel
theorem e_0_270 : den cf 0 270 L (.int x :: .ref a :: st) M = oK (ldI (M.2.2 a) x) (fun v => den cf 0 271 L (v :: st) M) := den_al (g := ldI) l_0_270 rfl
theorem l_0_271 : look (tab 0) 271 = some (.aload_n 0, 1, [], uu) := by decide +kernel
theorem e_0_271 : den cf 0 271 [v0, v1, v2, v3] st M = if isRf v0 = true then den cf 0 272 [v0, v1, v2, v3] (v0 :: st) M else none := den_g l_0_271 rfl
theorem l_0_272 : look (tab 0) 272 = some (.iload_n 3, 1, [], uu) := by decide +kernel
theorem e_0_272 : den cf 0 272 [v0, v1, v2, .int x] st M = den cf 0 273 [v0, v1, v2, .int x] (.int x :: st) M := den_go l_0_272 rfl
theorem l_0_273 : look (tab 0) 273 = some (.iconst 3, 1, [], .int (zI 3)) := by decide +kernel
theorem e_0_273 : den cf 0 273 L st M = den cf 0 274 L (.int (zI 3) :: st) M := den_go l_0_273 rfl
theorem l_0_274 : look (tab 0) 274 = some (.iadd, 1, [], uu) := by decide +kernel
theorem e_0_274 : den cf 0 274 L (.int y :: .int x :: st) M = den cf 0 275 L (.int (x + y) :: st) M := den_go l_0_274 rfl
theorem l_0_275 : look (tab 0) 275 = some (.iaload, 1, [], uu) := by decide +kernel
theorem e_0_275 : den cf 0 275 L (.int x :: .ref a :: st) M = oK (ldI (M.2.2 a) x) (fun v => den cf 0 276 L (v :: st) M) := den_al (g := ldI) l_0_275 rfl
theorem l_0_276 : look (tab 0) 276 = some (.invokevirtual 13, 3, [5, 75, 4, 102, 103, 104, 2], uu) := by decide +kernel
theorem e_0_276 : den cf 0 276 L (w3 :: w2 :: w1 :: .ref a :: st) M = if rcv M 5 [.ref a, w1, w2, w3] = true ∧ st.length ≤ 4 then rK (cf 75 [.ref a, w1, w2, w3] M) (fun v M' => den cf 0 279 L (pR v st) M') else none := den_iv [w1, w2, w3] l_0_276 rfl
theorem l_0_279 : look (tab 0) 279 = some (.aload_n 2, 1, [], uu) := by decide +kernel
theorem e_0_279 : den cf 0 279 [v0, v1, v2, v3] st M = if isRf v2 = true then den cf 0 280 [v0, v1, v2, v3] (v2 :: st) M else none := den_g l_0_279 rfl
theorem l_0_280 : look (tab 0) 280 = some (.aload_n 0, 1, [], uu) := by decide +kernel
theorem e_0_280 : den cf 0 280 [v0, v1, v2, v3] st M = if isRf v0 = true then den cf 0 281 [v0, v1, v2, v3] (v0 :: st) M else none := den_g l_0_280 rfl
theorem l_0_281 : look (tab 0) 281 = some (.iload_n 3, 1, [], uu) := by decide +kernel
theorem e_0_281 : den cf 0 281 [v0, v1, v2, .int x] st M = den cf 0 282 [v0, v1, v2, .int x] (.int x :: st) M := den_go l_0_281 rfl
theorem l_0_282 : look (tab 0) 282 = some (.iconst 1, 1, [], .int (zI 1)) := by decide +kernel
theorem e_0_282 : den cf 0 282 L st M = den cf 0 283 L (.int (zI 1) :: st) M := den_go l_0_282 rfl
theorem l_0_283 : look (tab 0) 283 = some (.iadd, 1, [], uu) := by decide +kernel
theorem e_0_283 : den cf 0 283 L (.int y :: .int x :: st) M = den cf 0 284 L (.int (x + y) :: st) M := den_go l_0_283 rfl
theorem l_0_284 : look (tab 0) 284 = some (.iaload, 1, [], uu) := by decide +kernel
theorem e_0_284 : den cf 0 284 L (.int x :: .ref a :: st) M = oK (ldI (M.2.2 a) x) (fun v => den cf 0 285 L (v :: st) M) := den_al (g := ldI) l_0_284 rfl
theorem l_0_285 : look (tab 0) 285 = some (.aload_n 0, 1, [], uu) := by decide +kernel
theorem e_0_285 : den cf 0 285 [v0, v1, v2, v3] st M = if isRf v0 = true then den cf 0 286 [v0, v1, v2, v3] (v0 :: st) M else none := den_g l_0_285 rfl
theorem l_0_286 : look (tab 0) 286 = some (.iload_n 3, 1, [], uu) := by decide +kernel
theorem e_0_286 : den cf 0 286 [v0, v1, v2, .int x] st M = den cf 0 287 [v0, v1, v2, .int x] (.int x :: st) M := den_go l_0_286 rfl
theorem l_0_287 : look (tab 0) 287 = some (.iconst 2, 1, [], .int (zI 2)) := by decide +kernel
theorem e_0_287 : den cf 0 287 L st M = den cf 0 288 L (.int (zI 2) :: st) M := den_go l_0_287 rfl
theorem l_0_288 : look (tab 0) 288 = some (.iadd, 1, [], uu) := by decide +kernel
theorem e_0_288 : den cf 0 288 L (.int y :: .int x :: st) M = den cf 0 289 L (.int (x + y) :: st) M := den_go l_0_288 rfl
theorem l_0_289 : look (tab 0) 289 = some (.iaload, 1, [], uu) := by decide +kernel
theorem e_0_289 : den cf 0 289 L (.int x :: .ref a :: st) M = oK (ldI (M.2.2 a) x) (fun v => den cf 0 290 L (v :: st) M) := den_al (g := ldI) l_0_289 rfl
theorem l_0_290 : look (tab 0) 290 = some (.aload_n 0, 1, [], uu) := by decide +kernel
theorem e_0_290 : den cf 0 290 [v0, v1, v2, v3] st M = if isRf v0 = true then den cf 0 291 [v0, v1, v2, v3] (v0 :: st) M else none := den_g l_0_290 rfl
theorem l_0_291 : look (tab 0) 291 = some (.iload_n 3, 1, [], uu) := by decide +kernel
theorem e_0_291 : den cf 0 291 [v0, v1, v2, .int x] st M = den cf 0 292 [v0, v1, v2, .int x] (.int x :: st) M := den_go l_0_291 rfl
theorem l_0_292 : look (tab 0) 292 = some (.iconst 3, 1, [], .int (zI 3)) := by decide +kernel
theorem e_0_292 : den cf 0 292 L st M = den cf 0 293 L (.int (zI 3) :: st) M := den_go l_0_292 rfl
theorem l_0_293 : look (tab 0) 293 = some (.iadd, 1, [], uu) := by decide +kernel
theorem e_0_293 : den cf 0 293 L (.int y :: .int x :: st) M = den cf 0 294 L (.int (x + y) :: st) M := den_go l_0_293 rfl
theorem l_0_294 : look (tab 0) 294 = some (.iaload, 1, [], uu) := by decide +kernel
theorem e_0_294 : den cf 0 294 L (.int x :: .ref a :: st) M = oK (ldI (M.2.2 a) x) (fun v => den cf 0 295 L (v :: st) M) := den_al (g := ldI) l_0_294 rfl
theorem l_0_295 : look (tab 0) 295 = some (.invokevirtual 17, 3, [6, 140, 4, 123, 124, 125, 5], uu) := by decide +kernel
theorem e_0_295 : den cf 0 295 L (w3 :: w2 :: w1 :: .ref a :: st) M = if rcv M 6 [.ref a, w1, w2, w3] = true ∧ st.length ≤ 4 then rK (cf 140 [.ref a, w1, w2, w3] M) (fun v M' => den cf 0 298 L (pR v st) M') else none := den_iv [w1, w2, w3] l_0_295 rfl
theorem l_0_298 : look (tab 0) 298 = some (.if_icmp .eq 1458, 3, [1756], uu) := by decide +kernel
theorem e_0_298 : den cf 0 298 L (.int y :: .int x :: st) M = if x = y then den cf 0 1756 L st M else den cf 0 301 L st M := den_ic_eq l_0_298
theorem l_0_301 : look (tab 0) 301 = some (.iconst 0, 1, [], .int (zI 0)) := by decide +kernel
theorem e_0_301 : den cf 0 301 L st M = den cf 0 302 L (.int (zI 0) :: st) M := den_go l_0_301 rfl
theorem l_0_302 : look (tab 0) 302 = some (.ireturn, 1, [1], uu) := by decide +kernel
theorem e_0_302 : den cf 0 302 L [.int x] M = if x = zI 0 ∨ x = zI 1 then some (some (.int x), M) else none := den_e1 l_0_302
theorem l_0_303 : look (tab 0) 303 = some (.aload_n 1, 1, [], uu) := by decide +kernel
theorem e_0_303 : den cf 0 303 [v0, v1, v2, v3] st M = if isRf v1 = true then den cf 0 304 [v0, v1, v2, v3] (v1 :: st) M else none := den_g l_0_303 rfl
theorem l_0_304 : look (tab 0) 304 = some (.aload_n 0, 1, [], uu) := by decide +kernel
theorem e_0_304 : den cf 0 304 [v0, v1, v2, v3] st M = if isRf v0 = true then den cf 0 305 [v0, v1, v2, v3] (v0 :: st) M else none := den_g l_0_304 rfl
theorem l_0_305 : look (tab 0) 305 = some (.iload_n 3, 1, [], uu) := by decide +kernel
theorem e_0_305 : den cf 0 305 [v0, v1, v2, .int x] st M = den cf 0 306 [v0, v1, v2, .int x] (.int x :: st) M := den_go l_0_305 rfl
theorem l_0_306 : look (tab 0) 306 = some (.iconst 1, 1, [], .int (zI 1)) := by decide +kernel
theorem e_0_306 : den cf 0 306 L st M = den cf 0 307 L (.int (zI 1) :: st) M := den_go l_0_306 rfl
theorem l_0_307 : look (tab 0) 307 = some (.iadd, 1, [], uu) := by decide +kernel
theorem e_0_307 : den cf 0 307 L (.int y :: .int x :: st) M = den cf 0 308 L (.int (x + y) :: st) M := den_go l_0_307 rfl
theorem l_0_308 : look (tab 0) 308 = some (.iaload, 1, [], uu) := by decide +kernel
theorem e_0_308 : den cf 0 308 L (.int x :: .ref a :: st) M = oK (ldI (M.2.2 a) x) (fun v => den cf 0 309 L (v :: st) M) := den_al (g := ldI) l_0_308 rfl
theorem l_0_309 : look (tab 0) 309 = some (.aload_n 0, 1, [], uu) := by decide +kernel
theorem e_0_309 : den cf 0 309 [v0, v1, v2, v3] st M = if isRf v0 = true then den cf 0 310 [v0, v1, v2, v3] (v0 :: st) M else none := den_g l_0_309 rfl
theorem l_0_310 : look (tab 0) 310 = some (.iload_n 3, 1, [], uu) := by decide +kernel
theorem e_0_310 : den cf 0 310 [v0, v1, v2, .int x] st M = den cf 0 311 [v0, v1, v2, .int x] (.int x :: st) M := den_go l_0_310 rfl
theorem l_0_311 : look (tab 0) 311 = some (.iconst 2, 1, [], .int (zI 2)) := by decide +kernel
theorem e_0_311 : den cf 0 311 L st M = den cf 0 312 L (.int (zI 2) :: st) M := den_go l_0_311 rfl
theorem l_0_312 : look (tab 0) 312 = some (.iadd, 1, [], uu) := by decide +kernel
theorem e_0_312 : den cf 0 312 L (.int y :: .int x :: st) M = den cf 0 313 L (.int (x + y) :: st) M := den_go l_0_312 rfl
theorem l_0_313 : look (tab 0) 313 = some (.iaload, 1, [], uu) := by decide +kernel
theorem e_0_313 : den cf 0 313 L (.int x :: .ref a :: st) M = oK (ldI (M.2.2 a) x) (fun v => den cf 0 314 L (v :: st) M) := den_al (g := ldI) l_0_313 rfl
theorem l_0_314 : look (tab 0) 314 = some (.aload_n 0, 1, [], uu) := by decide +kernel
theorem e_0_314 : den cf 0 314 [v0, v1, v2, v3] st M = if isRf v0 = true then den cf 0 315 [v0, v1, v2, v3] (v0 :: st) M else none := den_g l_0_314 rfl
theorem l_0_315 : look (tab 0) 315 = some (.iload_n 3, 1, [], uu) := by decide +kernel
theorem e_0_315 : den cf 0 315 [v0, v1, v2, .int x] st M = den cf 0 316 [v0, v1, v2, .int x] (.int x :: st) M := den_go l_0_315 rfl
theorem l_0_316 : look (tab 0) 316 = some (.iconst 3, 1, [], .int (zI 3)) := by decide +kernel
theorem e_0_316 : den cf 0 316 L st M = den cf 0 317 L (.int (zI 3) :: st) M := den_go l_0_316 rfl
theorem l_0_317 : look (tab 0) 317 = some (.iadd, 1, [], uu) := by decide +kernel
theorem e_0_317 : den cf 0 317 L (.int y :: .int x :: st) M = den cf 0 318 L (.int (x + y) :: st) M := den_go l_0_317 rfl
theorem l_0_318 : look (tab 0) 318 = some (.iaload, 1, [], uu) := by decide +kernel
theorem e_0_318 : den cf 0 318 L (.int x :: .ref a :: st) M = oK (ldI (M.2.2 a) x) (fun v => den cf 0 319 L (v :: st) M) := den_al (g := ldI) l_0_318 rfl
theorem l_0_319 : look (tab 0) 319 = some (.i2l, 1, [], uu) := by decide +kernel
theorem e_0_319 : den cf 0 319 L (.int x :: st) M = den cf 0 320 L (.long x.toInt64 :: st) M := den_go l_0_319 rfl
theorem l_0_320 : look (tab 0) 320 = some (.bipush 32, 2, [], .int (zI 32)) := by decide +kernel
theorem e_0_320 : den cf 0 320 L st M = den cf 0 322 L (.int (zI 32) :: st) M := den_go l_0_320 rfl
theorem l_0_322 : look (tab 0) 322 = some (.lshl, 1, [], uu) := by decide +kernel
theorem e_0_322 : den cf 0 322 L (.int y :: .long p :: st) M = den cf 0 323 L (.long (p <<< (y.toInt64 &&& 63)) :: st) M := den_go l_0_322 rfl
theorem l_0_323 : look (tab 0) 323 = some (.aload_n 0, 1, [], uu) := by decide +kernel
theorem e_0_323 : den cf 0 323 [v0, v1, v2, v3] st M = if isRf v0 = true then den cf 0 324 [v0, v1, v2, v3] (v0 :: st) M else none := den_g l_0_323 rfl
theorem l_0_324 : look (tab 0) 324 = some (.iload_n 3, 1, [], uu) := by decide +kernel
theorem e_0_324 : den cf 0 324 [v0, v1, v2, .int x] st M = den cf 0 325 [v0, v1, v2, .int x] (.int x :: st) M := den_go l_0_324 rfl
theorem l_0_325 : look (tab 0) 325 = some (.iconst 4, 1, [], .int (zI 4)) := by decide +kernel
theorem e_0_325 : den cf 0 325 L st M = den cf 0 326 L (.int (zI 4) :: st) M := den_go l_0_325 rfl
theorem l_0_326 : look (tab 0) 326 = some (.iadd, 1, [], uu) := by decide +kernel
theorem e_0_326 : den cf 0 326 L (.int y :: .int x :: st) M = den cf 0 327 L (.int (x + y) :: st) M := den_go l_0_326 rfl
theorem l_0_327 : look (tab 0) 327 = some (.iaload, 1, [], uu) := by decide +kernel
theorem e_0_327 : den cf 0 327 L (.int x :: .ref a :: st) M = oK (ldI (M.2.2 a) x) (fun v => den cf 0 328 L (v :: st) M) := den_al (g := ldI) l_0_327 rfl
theorem l_0_328 : look (tab 0) 328 = some (.i2l, 1, [], uu) := by decide +kernel
theorem e_0_328 : den cf 0 328 L (.int x :: st) M = den cf 0 329 L (.long x.toInt64 :: st) M := den_go l_0_328 rfl
theorem l_0_329 : look (tab 0) 329 = some (.ldc2_w 18, 3, [6], .long (zJ 4294967295)) := by decide +kernel
theorem e_0_329 : den cf 0 329 L st M = den cf 0 332 L (.long (zJ 4294967295) :: st) M := den_go l_0_329 rfl
theorem l_0_332 : look (tab 0) 332 = some (.land, 1, [], uu) := by decide +kernel
theorem e_0_332 : den cf 0 332 L (.long q :: .long p :: st) M = den cf 0 333 L (.long (p &&& q) :: st) M := den_go l_0_332 rfl
theorem l_0_333 : look (tab 0) 333 = some (.lor, 1, [], uu) := by decide +kernel
theorem e_0_333 : den cf 0 333 L (.long q :: .long p :: st) M = den cf 0 334 L (.long (p ||| q) :: st) M := den_go l_0_333 rfl
theorem l_0_334 : look (tab 0) 334 = some (.invokevirtual 20, 3, [5, 76, 4, 137, 138, 139, 2], uu) := by decide +kernel
theorem e_0_334 : den cf 0 334 L (w3 :: w2 :: w1 :: .ref a :: st) M = if rcv M 5 [.ref a, w1, w2, w3] = true ∧ st.length ≤ 4 then rK (cf 76 [.ref a, w1, w2, w3] M) (fun v M' => den cf 0 337 L (pR v st) M') else none := den_iv [w1, w2, w3] l_0_334 rfl
theorem l_0_337 : look (tab 0) 337 = some (.aload_n 2, 1, [], uu) := by decide +kernel
theorem e_0_337 : den cf 0 337 [v0, v1, v2, v3] st M = if isRf v2 = true then den cf 0 338 [v0, v1, v2, v3] (v2 :: st) M else none := den_g l_0_337 rfl
theorem l_0_338 : look (tab 0) 338 = some (.aload_n 0, 1, [], uu) := by decide +kernel
theorem e_0_338 : den cf 0 338 [v0, v1, v2, v3] st M = if isRf v0 = true then den cf 0 339 [v0, v1, v2, v3] (v0 :: st) M else none := den_g l_0_338 rfl
theorem l_0_339 : look (tab 0) 339 = some (.iload_n 3, 1, [], uu) := by decide +kernel
theorem e_0_339 : den cf 0 339 [v0, v1, v2, .int x] st M = den cf 0 340 [v0, v1, v2, .int x] (.int x :: st) M := den_go l_0_339 rfl
theorem l_0_340 : look (tab 0) 340 = some (.iconst 1, 1, [], .int (zI 1)) := by decide +kernel
theorem e_0_340 : den cf 0 340 L st M = den cf 0 341 L (.int (zI 1) :: st) M := den_go l_0_340 rfl
theorem l_0_341 : look (tab 0) 341 = some (.iadd, 1, [], uu) := by decide +kernel
theorem e_0_341 : den cf 0 341 L (.int y :: .int x :: st) M = den cf 0 342 L (.int (x + y) :: st) M := den_go l_0_341 rfl
theorem l_0_342 : look (tab 0) 342 = some (.iaload, 1, [], uu) := by decide +kernel
theorem e_0_342 : den cf 0 342 L (.int x :: .ref a :: st) M = oK (ldI (M.2.2 a) x) (fun v => den cf 0 343 L (v :: st) M) := den_al (g := ldI) l_0_342 rfl
theorem l_0_343 : look (tab 0) 343 = some (.aload_n 0, 1, [], uu) := by decide +kernel
theorem e_0_343 : den cf 0 343 [v0, v1, v2, v3] st M = if isRf v0 = true then den cf 0 344 [v0, v1, v2, v3] (v0 :: st) M else none := den_g l_0_343 rfl
theorem l_0_344 : look (tab 0) 344 = some (.iload_n 3, 1, [], uu) := by decide +kernel
theorem e_0_344 : den cf 0 344 [v0, v1, v2, .int x] st M = den cf 0 345 [v0, v1, v2, .int x] (.int x :: st) M := den_go l_0_344 rfl
theorem l_0_345 : look (tab 0) 345 = some (.iconst 2, 1, [], .int (zI 2)) := by decide +kernel
theorem e_0_345 : den cf 0 345 L st M = den cf 0 346 L (.int (zI 2) :: st) M := den_go l_0_345 rfl
theorem l_0_346 : look (tab 0) 346 = some (.iadd, 1, [], uu) := by decide +kernel
theorem e_0_346 : den cf 0 346 L (.int y :: .int x :: st) M = den cf 0 347 L (.int (x + y) :: st) M := den_go l_0_346 rfl
theorem l_0_347 : look (tab 0) 347 = some (.iaload, 1, [], uu) := by decide +kernel
theorem e_0_347 : den cf 0 347 L (.int x :: .ref a :: st) M = oK (ldI (M.2.2 a) x) (fun v => den cf 0 348 L (v :: st) M) := den_al (g := ldI) l_0_347 rfl
theorem l_0_348 : look (tab 0) 348 = some (.aload_n 0, 1, [], uu) := by decide +kernel
theorem e_0_348 : den cf 0 348 [v0, v1, v2, v3] st M = if isRf v0 = true then den cf 0 349 [v0, v1, v2, v3] (v0 :: st) M else none := den_g l_0_348 rfl
theorem l_0_349 : look (tab 0) 349 = some (.iload_n 3, 1, [], uu) := by decide +kernel
theorem e_0_349 : den cf 0 349 [v0, v1, v2, .int x] st M = den cf 0 350 [v0, v1, v2, .int x] (.int x :: st) M := den_go l_0_349 rfl
theorem l_0_350 : look (tab 0) 350 = some (.iconst 3, 1, [], .int (zI 3)) := by decide +kernel
theorem e_0_350 : den cf 0 350 L st M = den cf 0 351 L (.int (zI 3) :: st) M := den_go l_0_350 rfl
theorem l_0_351 : look (tab 0) 351 = some (.iadd, 1, [], uu) := by decide +kernel
theorem e_0_351 : den cf 0 351 L (.int y :: .int x :: st) M = den cf 0 352 L (.int (x + y) :: st) M := den_go l_0_351 rfl
theorem l_0_352 : look (tab 0) 352 = some (.iaload, 1, [], uu) := by decide +kernel
theorem e_0_352 : den cf 0 352 L (.int x :: .ref a :: st) M = oK (ldI (M.2.2 a) x) (fun v => den cf 0 353 L (v :: st) M) := den_al (g := ldI) l_0_352 rfl
theorem l_0_353 : look (tab 0) 353 = some (.i2l, 1, [], uu) := by decide +kernel
theorem e_0_353 : den cf 0 353 L (.int x :: st) M = den cf 0 354 L (.long x.toInt64 :: st) M := den_go l_0_353 rfl
theorem l_0_354 : look (tab 0) 354 = some (.bipush 32, 2, [], .int (zI 32)) := by decide +kernel
theorem e_0_354 : den cf 0 354 L st M = den cf 0 356 L (.int (zI 32) :: st) M := den_go l_0_354 rfl
theorem l_0_356 : look (tab 0) 356 = some (.lshl, 1, [], uu) := by decide +kernel
theorem e_0_356 : den cf 0 356 L (.int y :: .long p :: st) M = den cf 0 357 L (.long (p <<< (y.toInt64 &&& 63)) :: st) M := den_go l_0_356 rfl
theorem l_0_357 : look (tab 0) 357 = some (.aload_n 0, 1, [], uu) := by decide +kernel
theorem e_0_357 : den cf 0 357 [v0, v1, v2, v3] st M = if isRf v0 = true then den cf 0 358 [v0, v1, v2, v3] (v0 :: st) M else none := den_g l_0_357 rfl
theorem l_0_358 : look (tab 0) 358 = some (.iload_n 3, 1, [], uu) := by decide +kernel
theorem e_0_358 : den cf 0 358 [v0, v1, v2, .int x] st M = den cf 0 359 [v0, v1, v2, .int x] (.int x :: st) M := den_go l_0_358 rfl
theorem l_0_359 : look (tab 0) 359 = some (.iconst 4, 1, [], .int (zI 4)) := by decide +kernel
theorem e_0_359 : den cf 0 359 L st M = den cf 0 360 L (.int (zI 4) :: st) M := den_go l_0_359 rfl
theorem l_0_360 : look (tab 0) 360 = some (.iadd, 1, [], uu) := by decide +kernel
theorem e_0_360 : den cf 0 360 L (.int y :: .int x :: st) M = den cf 0 361 L (.int (x + y) :: st) M := den_go l_0_360 rfl
theorem l_0_361 : look (tab 0) 361 = some (.iaload, 1, [], uu) := by decide +kernel
theorem e_0_361 : den cf 0 361 L (.int x :: .ref a :: st) M = oK (ldI (M.2.2 a) x) (fun v => den cf 0 362 L (v :: st) M) := den_al (g := ldI) l_0_361 rfl
theorem l_0_362 : look (tab 0) 362 = some (.i2l, 1, [], uu) := by decide +kernel
theorem e_0_362 : den cf 0 362 L (.int x :: st) M = den cf 0 363 L (.long x.toInt64 :: st) M := den_go l_0_362 rfl
theorem l_0_363 : look (tab 0) 363 = some (.ldc2_w 18, 3, [6], .long (zJ 4294967295)) := by decide +kernel
theorem e_0_363 : den cf 0 363 L st M = den cf 0 366 L (.long (zJ 4294967295) :: st) M := den_go l_0_363 rfl
theorem l_0_366 : look (tab 0) 366 = some (.land, 1, [], uu) := by decide +kernel
theorem e_0_366 : den cf 0 366 L (.long q :: .long p :: st) M = den cf 0 367 L (.long (p &&& q) :: st) M := den_go l_0_366 rfl
theorem l_0_367 : look (tab 0) 367 = some (.lor, 1, [], uu) := by decide +kernel
theorem e_0_367 : den cf 0 367 L (.long q :: .long p :: st) M = den cf 0 368 L (.long (p ||| q) :: st) M := den_go l_0_367 rfl
theorem l_0_368 : look (tab 0) 368 = some (.invokevirtual 24, 3, [6, 143, 4, 155, 156, 157, 5], uu) := by decide +kernel
theorem e_0_368 : den cf 0 368 L (w3 :: w2 :: w1 :: .ref a :: st) M = if rcv M 6 [.ref a, w1, w2, w3] = true ∧ st.length ≤ 4 then rK (cf 143 [.ref a, w1, w2, w3] M) (fun v M' => den cf 0 371 L (pR v st) M') else none := den_iv [w1, w2, w3] l_0_368 rfl
theorem l_0_371 : look (tab 0) 371 = some (.if_icmp .eq 1385, 3, [1756], uu) := by decide +kernel
theorem e_0_371 : den cf 0 371 L (.int y :: .int x :: st) M = if x = y then den cf 0 1756 L st M else den cf 0 374 L st M := den_ic_eq l_0_371
theorem l_0_374 : look (tab 0) 374 = some (.iconst 0, 1, [], .int (zI 0)) := by decide +kernel
theorem e_0_374 : den cf 0 374 L st M = den cf 0 375 L (.int (zI 0) :: st) M := den_go l_0_374 rfl
theorem l_0_375 : look (tab 0) 375 = some (.ireturn, 1, [1], uu) := by decide +kernel
theorem e_0_375 : den cf 0 375 L [.int x] M = if x = zI 0 ∨ x = zI 1 then some (some (.int x), M) else none := den_e1 l_0_375
theorem l_0_376 : look (tab 0) 376 = some (.aload_n 1, 1, [], uu) := by decide +kernel
theorem e_0_376 : den cf 0 376 [v0, v1, v2, v3] st M = if isRf v1 = true then den cf 0 377 [v0, v1, v2, v3] (v1 :: st) M else none := den_g l_0_376 rfl
theorem l_0_377 : look (tab 0) 377 = some (.aload_n 0, 1, [], uu) := by decide +kernel
theorem e_0_377 : den cf 0 377 [v0, v1, v2, v3] st M = if isRf v0 = true then den cf 0 378 [v0, v1, v2, v3] (v0 :: st) M else none := den_g l_0_377 rfl
theorem l_0_378 : look (tab 0) 378 = some (.iload_n 3, 1, [], uu) := by decide +kernel
theorem e_0_378 : den cf 0 378 [v0, v1, v2, .int x] st M = den cf 0 379 [v0, v1, v2, .int x] (.int x :: st) M := den_go l_0_378 rfl
theorem l_0_379 : look (tab 0) 379 = some (.iconst 1, 1, [], .int (zI 1)) := by decide +kernel
theorem e_0_379 : den cf 0 379 L st M = den cf 0 380 L (.int (zI 1) :: st) M := den_go l_0_379 rfl
theorem l_0_380 : look (tab 0) 380 = some (.iadd, 1, [], uu) := by decide +kernel
theorem e_0_380 : den cf 0 380 L (.int y :: .int x :: st) M = den cf 0 381 L (.int (x + y) :: st) M := den_go l_0_380 rfl
theorem l_0_381 : look (tab 0) 381 = some (.iaload, 1, [], uu) := by decide +kernel
theorem e_0_381 : den cf 0 381 L (.int x :: .ref a :: st) M = oK (ldI (M.2.2 a) x) (fun v => den cf 0 382 L (v :: st) M) := den_al (g := ldI) l_0_381 rfl
theorem l_0_382 : look (tab 0) 382 = some (.aload_n 0, 1, [], uu) := by decide +kernel
theorem e_0_382 : den cf 0 382 [v0, v1, v2, v3] st M = if isRf v0 = true then den cf 0 383 [v0, v1, v2, v3] (v0 :: st) M else none := den_g l_0_382 rfl
theorem l_0_383 : look (tab 0) 383 = some (.iload_n 3, 1, [], uu) := by decide +kernel
theorem e_0_383 : den cf 0 383 [v0, v1, v2, .int x] st M = den cf 0 384 [v0, v1, v2, .int x] (.int x :: st) M := den_go l_0_383 rfl
theorem l_0_384 : look (tab 0) 384 = some (.iconst 2, 1, [], .int (zI 2)) := by decide +kernel
theorem e_0_384 : den cf 0 384 L st M = den cf 0 385 L (.int (zI 2) :: st) M := den_go l_0_384 rfl
theorem l_0_385 : look (tab 0) 385 = some (.iadd, 1, [], uu) := by decide +kernel
theorem e_0_385 : den cf 0 385 L (.int y :: .int x :: st) M = den cf 0 386 L (.int (x + y) :: st) M := den_go l_0_385 rfl
theorem l_0_386 : look (tab 0) 386 = some (.iaload, 1, [], uu) := by decide +kernel
theorem e_0_386 : den cf 0 386 L (.int x :: .ref a :: st) M = oK (ldI (M.2.2 a) x) (fun v => den cf 0 387 L (v :: st) M) := den_al (g := ldI) l_0_386 rfl
theorem l_0_387 : look (tab 0) 387 = some (.aload_n 0, 1, [], uu) := by decide +kernel
theorem e_0_387 : den cf 0 387 [v0, v1, v2, v3] st M = if isRf v0 = true then den cf 0 388 [v0, v1, v2, v3] (v0 :: st) M else none := den_g l_0_387 rfl
theorem l_0_388 : look (tab 0) 388 = some (.iload_n 3, 1, [], uu) := by decide +kernel
theorem e_0_388 : den cf 0 388 [v0, v1, v2, .int x] st M = den cf 0 389 [v0, v1, v2, .int x] (.int x :: st) M := den_go l_0_388 rfl
theorem l_0_389 : look (tab 0) 389 = some (.iconst 3, 1, [], .int (zI 3)) := by decide +kernel
theorem e_0_389 : den cf 0 389 L st M = den cf 0 390 L (.int (zI 3) :: st) M := den_go l_0_389 rfl
theorem l_0_390 : look (tab 0) 390 = some (.iadd, 1, [], uu) := by decide +kernel
theorem e_0_390 : den cf 0 390 L (.int y :: .int x :: st) M = den cf 0 391 L (.int (x + y) :: st) M := den_go l_0_390 rfl
theorem l_0_391 : look (tab 0) 391 = some (.iaload, 1, [], uu) := by decide +kernel
theorem e_0_391 : den cf 0 391 L (.int x :: .ref a :: st) M = oK (ldI (M.2.2 a) x) (fun v => den cf 0 392 L (v :: st) M) := den_al (g := ldI) l_0_391 rfl
theorem l_0_392 : look (tab 0) 392 = some (.aload_n 0, 1, [], uu) := by decide +kernel
theorem e_0_392 : den cf 0 392 [v0, v1, v2, v3] st M = if isRf v0 = true then den cf 0 393 [v0, v1, v2, v3] (v0 :: st) M else none := den_g l_0_392 rfl
theorem l_0_393 : look (tab 0) 393 = some (.iload_n 3, 1, [], uu) := by decide +kernel
theorem e_0_393 : den cf 0 393 [v0, v1, v2, .int x] st M = den cf 0 394 [v0, v1, v2, .int x] (.int x :: st) M := den_go l_0_393 rfl
theorem l_0_394 : look (tab 0) 394 = some (.iconst 4, 1, [], .int (zI 4)) := by decide +kernel
theorem e_0_394 : den cf 0 394 L st M = den cf 0 395 L (.int (zI 4) :: st) M := den_go l_0_394 rfl
theorem l_0_395 : look (tab 0) 395 = some (.iadd, 1, [], uu) := by decide +kernel
theorem e_0_395 : den cf 0 395 L (.int y :: .int x :: st) M = den cf 0 396 L (.int (x + y) :: st) M := den_go l_0_395 rfl
theorem l_0_396 : look (tab 0) 396 = some (.iaload, 1, [], uu) := by decide +kernel
theorem e_0_396 : den cf 0 396 L (.int x :: .ref a :: st) M = oK (ldI (M.2.2 a) x) (fun v => den cf 0 397 L (v :: st) M) := den_al (g := ldI) l_0_396 rfl
theorem l_0_397 : look (tab 0) 397 = some (.aload_n 0, 1, [], uu) := by decide +kernel
theorem e_0_397 : den cf 0 397 [v0, v1, v2, v3] st M = if isRf v0 = true then den cf 0 398 [v0, v1, v2, v3] (v0 :: st) M else none := den_g l_0_397 rfl
theorem l_0_398 : look (tab 0) 398 = some (.iload_n 3, 1, [], uu) := by decide +kernel
theorem e_0_398 : den cf 0 398 [v0, v1, v2, .int x] st M = den cf 0 399 [v0, v1, v2, .int x] (.int x :: st) M := den_go l_0_398 rfl
theorem l_0_399 : look (tab 0) 399 = some (.iconst 5, 1, [], .int (zI 5)) := by decide +kernel
theorem e_0_399 : den cf 0 399 L st M = den cf 0 400 L (.int (zI 5) :: st) M := den_go l_0_399 rfl
theorem l_0_400 : look (tab 0) 400 = some (.iadd, 1, [], uu) := by decide +kernel
theorem e_0_400 : den cf 0 400 L (.int y :: .int x :: st) M = den cf 0 401 L (.int (x + y) :: st) M := den_go l_0_400 rfl
theorem l_0_401 : look (tab 0) 401 = some (.iaload, 1, [], uu) := by decide +kernel
theorem e_0_401 : den cf 0 401 L (.int x :: .ref a :: st) M = oK (ldI (M.2.2 a) x) (fun v => den cf 0 402 L (v :: st) M) := den_al (g := ldI) l_0_401 rfl
theorem l_0_402 : look (tab 0) 402 = some (.invokevirtual 25, 3, [5, 77, 6, 166, 167, 168, 2], uu) := by decide +kernel
theorem e_0_402 : den cf 0 402 L (w5 :: w4 :: w3 :: w2 :: w1 :: .ref a :: st) M = if rcv M 5 [.ref a, w1, w2, w3, w4, w5] = true ∧ st.length ≤ 4 then rK (cf 77 [.ref a, w1, w2, w3, w4, w5] M) (fun v M' => den cf 0 405 L (pR v st) M') else none := den_iv [w1, w2, w3, w4, w5] l_0_402 rfl
theorem l_0_405 : look (tab 0) 405 = some (.aload_n 2, 1, [], uu) := by decide +kernel
theorem e_0_405 : den cf 0 405 [v0, v1, v2, v3] st M = if isRf v2 = true then den cf 0 406 [v0, v1, v2, v3] (v2 :: st) M else none := den_g l_0_405 rfl
theorem l_0_406 : look (tab 0) 406 = some (.aload_n 0, 1, [], uu) := by decide +kernel
theorem e_0_406 : den cf 0 406 [v0, v1, v2, v3] st M = if isRf v0 = true then den cf 0 407 [v0, v1, v2, v3] (v0 :: st) M else none := den_g l_0_406 rfl
theorem l_0_407 : look (tab 0) 407 = some (.iload_n 3, 1, [], uu) := by decide +kernel
theorem e_0_407 : den cf 0 407 [v0, v1, v2, .int x] st M = den cf 0 408 [v0, v1, v2, .int x] (.int x :: st) M := den_go l_0_407 rfl
theorem l_0_408 : look (tab 0) 408 = some (.iconst 1, 1, [], .int (zI 1)) := by decide +kernel
theorem e_0_408 : den cf 0 408 L st M = den cf 0 409 L (.int (zI 1) :: st) M := den_go l_0_408 rfl
theorem l_0_409 : look (tab 0) 409 = some (.iadd, 1, [], uu) := by decide +kernel
theorem e_0_409 : den cf 0 409 L (.int y :: .int x :: st) M = den cf 0 410 L (.int (x + y) :: st) M := den_go l_0_409 rfl
theorem l_0_410 : look (tab 0) 410 = some (.iaload, 1, [], uu) := by decide +kernel
theorem e_0_410 : den cf 0 410 L (.int x :: .ref a :: st) M = oK (ldI (M.2.2 a) x) (fun v => den cf 0 411 L (v :: st) M) := den_al (g := ldI) l_0_410 rfl
theorem l_0_411 : look (tab 0) 411 = some (.aload_n 0, 1, [], uu) := by decide +kernel
theorem e_0_411 : den cf 0 411 [v0, v1, v2, v3] st M = if isRf v0 = true then den cf 0 412 [v0, v1, v2, v3] (v0 :: st) M else none := den_g l_0_411 rfl
theorem l_0_412 : look (tab 0) 412 = some (.iload_n 3, 1, [], uu) := by decide +kernel
theorem e_0_412 : den cf 0 412 [v0, v1, v2, .int x] st M = den cf 0 413 [v0, v1, v2, .int x] (.int x :: st) M := den_go l_0_412 rfl
theorem l_0_413 : look (tab 0) 413 = some (.iconst 2, 1, [], .int (zI 2)) := by decide +kernel
theorem e_0_413 : den cf 0 413 L st M = den cf 0 414 L (.int (zI 2) :: st) M := den_go l_0_413 rfl
theorem l_0_414 : look (tab 0) 414 = some (.iadd, 1, [], uu) := by decide +kernel
theorem e_0_414 : den cf 0 414 L (.int y :: .int x :: st) M = den cf 0 415 L (.int (x + y) :: st) M := den_go l_0_414 rfl
theorem l_0_415 : look (tab 0) 415 = some (.iaload, 1, [], uu) := by decide +kernel
theorem e_0_415 : den cf 0 415 L (.int x :: .ref a :: st) M = oK (ldI (M.2.2 a) x) (fun v => den cf 0 416 L (v :: st) M) := den_al (g := ldI) l_0_415 rfl
theorem l_0_416 : look (tab 0) 416 = some (.aload_n 0, 1, [], uu) := by decide +kernel
theorem e_0_416 : den cf 0 416 [v0, v1, v2, v3] st M = if isRf v0 = true then den cf 0 417 [v0, v1, v2, v3] (v0 :: st) M else none := den_g l_0_416 rfl
theorem l_0_417 : look (tab 0) 417 = some (.iload_n 3, 1, [], uu) := by decide +kernel
theorem e_0_417 : den cf 0 417 [v0, v1, v2, .int x] st M = den cf 0 418 [v0, v1, v2, .int x] (.int x :: st) M := den_go l_0_417 rfl
theorem l_0_418 : look (tab 0) 418 = some (.iconst 3, 1, [], .int (zI 3)) := by decide +kernel
theorem e_0_418 : den cf 0 418 L st M = den cf 0 419 L (.int (zI 3) :: st) M := den_go l_0_418 rfl
theorem l_0_419 : look (tab 0) 419 = some (.iadd, 1, [], uu) := by decide +kernel
theorem e_0_419 : den cf 0 419 L (.int y :: .int x :: st) M = den cf 0 420 L (.int (x + y) :: st) M := den_go l_0_419 rfl
theorem l_0_420 : look (tab 0) 420 = some (.iaload, 1, [], uu) := by decide +kernel
theorem e_0_420 : den cf 0 420 L (.int x :: .ref a :: st) M = oK (ldI (M.2.2 a) x) (fun v => den cf 0 421 L (v :: st) M) := den_al (g := ldI) l_0_420 rfl
theorem l_0_421 : look (tab 0) 421 = some (.aload_n 0, 1, [], uu) := by decide +kernel
theorem e_0_421 : den cf 0 421 [v0, v1, v2, v3] st M = if isRf v0 = true then den cf 0 422 [v0, v1, v2, v3] (v0 :: st) M else none := den_g l_0_421 rfl
theorem l_0_422 : look (tab 0) 422 = some (.iload_n 3, 1, [], uu) := by decide +kernel
theorem e_0_422 : den cf 0 422 [v0, v1, v2, .int x] st M = den cf 0 423 [v0, v1, v2, .int x] (.int x :: st) M := den_go l_0_422 rfl
theorem l_0_423 : look (tab 0) 423 = some (.iconst 4, 1, [], .int (zI 4)) := by decide +kernel
theorem e_0_423 : den cf 0 423 L st M = den cf 0 424 L (.int (zI 4) :: st) M := den_go l_0_423 rfl
theorem l_0_424 : look (tab 0) 424 = some (.iadd, 1, [], uu) := by decide +kernel
theorem e_0_424 : den cf 0 424 L (.int y :: .int x :: st) M = den cf 0 425 L (.int (x + y) :: st) M := den_go l_0_424 rfl
theorem l_0_425 : look (tab 0) 425 = some (.iaload, 1, [], uu) := by decide +kernel
theorem e_0_425 : den cf 0 425 L (.int x :: .ref a :: st) M = oK (ldI (M.2.2 a) x) (fun v => den cf 0 426 L (v :: st) M) := den_al (g := ldI) l_0_425 rfl
theorem l_0_426 : look (tab 0) 426 = some (.aload_n 0, 1, [], uu) := by decide +kernel
theorem e_0_426 : den cf 0 426 [v0, v1, v2, v3] st M = if isRf v0 = true then den cf 0 427 [v0, v1, v2, v3] (v0 :: st) M else none := den_g l_0_426 rfl
theorem l_0_427 : look (tab 0) 427 = some (.iload_n 3, 1, [], uu) := by decide +kernel
theorem e_0_427 : den cf 0 427 [v0, v1, v2, .int x] st M = den cf 0 428 [v0, v1, v2, .int x] (.int x :: st) M := den_go l_0_427 rfl
theorem l_0_428 : look (tab 0) 428 = some (.iconst 5, 1, [], .int (zI 5)) := by decide +kernel
theorem e_0_428 : den cf 0 428 L st M = den cf 0 429 L (.int (zI 5) :: st) M := den_go l_0_428 rfl
theorem l_0_429 : look (tab 0) 429 = some (.iadd, 1, [], uu) := by decide +kernel
theorem e_0_429 : den cf 0 429 L (.int y :: .int x :: st) M = den cf 0 430 L (.int (x + y) :: st) M := den_go l_0_429 rfl
theorem l_0_430 : look (tab 0) 430 = some (.iaload, 1, [], uu) := by decide +kernel
theorem e_0_430 : den cf 0 430 L (.int x :: .ref a :: st) M = oK (ldI (M.2.2 a) x) (fun v => den cf 0 431 L (v :: st) M) := den_al (g := ldI) l_0_430 rfl
theorem l_0_431 : look (tab 0) 431 = some (.invokevirtual 29, 3, [6, 144, 6, 180, 181, 182, 5], uu) := by decide +kernel
theorem e_0_431 : den cf 0 431 L (w5 :: w4 :: w3 :: w2 :: w1 :: .ref a :: st) M = if rcv M 6 [.ref a, w1, w2, w3, w4, w5] = true ∧ st.length ≤ 4 then rK (cf 144 [.ref a, w1, w2, w3, w4, w5] M) (fun v M' => den cf 0 434 L (pR v st) M') else none := den_iv [w1, w2, w3, w4, w5] l_0_431 rfl
theorem l_0_434 : look (tab 0) 434 = some (.if_icmp .eq 1322, 3, [1756], uu) := by decide +kernel
theorem e_0_434 : den cf 0 434 L (.int y :: .int x :: st) M = if x = y then den cf 0 1756 L st M else den cf 0 437 L st M := den_ic_eq l_0_434
theorem l_0_437 : look (tab 0) 437 = some (.iconst 0, 1, [], .int (zI 0)) := by decide +kernel
theorem e_0_437 : den cf 0 437 L st M = den cf 0 438 L (.int (zI 0) :: st) M := den_go l_0_437 rfl
theorem l_0_438 : look (tab 0) 438 = some (.ireturn, 1, [1], uu) := by decide +kernel
theorem e_0_438 : den cf 0 438 L [.int x] M = if x = zI 0 ∨ x = zI 1 then some (some (.int x), M) else none := den_e1 l_0_438
theorem l_0_439 : look (tab 0) 439 = some (.aload_n 1, 1, [], uu) := by decide +kernel
theorem e_0_439 : den cf 0 439 [v0, v1, v2, v3] st M = if isRf v1 = true then den cf 0 440 [v0, v1, v2, v3] (v1 :: st) M else none := den_g l_0_439 rfl
theorem l_0_440 : look (tab 0) 440 = some (.aload_n 0, 1, [], uu) := by decide +kernel
theorem e_0_440 : den cf 0 440 [v0, v1, v2, v3] st M = if isRf v0 = true then den cf 0 441 [v0, v1, v2, v3] (v0 :: st) M else none := den_g l_0_440 rfl
theorem l_0_441 : look (tab 0) 441 = some (.iload_n 3, 1, [], uu) := by decide +kernel
theorem e_0_441 : den cf 0 441 [v0, v1, v2, .int x] st M = den cf 0 442 [v0, v1, v2, .int x] (.int x :: st) M := den_go l_0_441 rfl
theorem l_0_442 : look (tab 0) 442 = some (.iconst 1, 1, [], .int (zI 1)) := by decide +kernel
theorem e_0_442 : den cf 0 442 L st M = den cf 0 443 L (.int (zI 1) :: st) M := den_go l_0_442 rfl
theorem l_0_443 : look (tab 0) 443 = some (.iadd, 1, [], uu) := by decide +kernel
theorem e_0_443 : den cf 0 443 L (.int y :: .int x :: st) M = den cf 0 444 L (.int (x + y) :: st) M := den_go l_0_443 rfl
theorem l_0_444 : look (tab 0) 444 = some (.iaload, 1, [], uu) := by decide +kernel
theorem e_0_444 : den cf 0 444 L (.int x :: .ref a :: st) M = oK (ldI (M.2.2 a) x) (fun v => den cf 0 445 L (v :: st) M) := den_al (g := ldI) l_0_444 rfl
theorem l_0_445 : look (tab 0) 445 = some (.aload_n 0, 1, [], uu) := by decide +kernel
theorem e_0_445 : den cf 0 445 [v0, v1, v2, v3] st M = if isRf v0 = true then den cf 0 446 [v0, v1, v2, v3] (v0 :: st) M else none := den_g l_0_445 rfl
theorem l_0_446 : look (tab 0) 446 = some (.iload_n 3, 1, [], uu) := by decide +kernel
theorem e_0_446 : den cf 0 446 [v0, v1, v2, .int x] st M = den cf 0 447 [v0, v1, v2, .int x] (.int x :: st) M := den_go l_0_446 rfl
theorem l_0_447 : look (tab 0) 447 = some (.iconst 2, 1, [], .int (zI 2)) := by decide +kernel
theorem e_0_447 : den cf 0 447 L st M = den cf 0 448 L (.int (zI 2) :: st) M := den_go l_0_447 rfl
theorem l_0_448 : look (tab 0) 448 = some (.iadd, 1, [], uu) := by decide +kernel
theorem e_0_448 : den cf 0 448 L (.int y :: .int x :: st) M = den cf 0 449 L (.int (x + y) :: st) M := den_go l_0_448 rfl
theorem l_0_449 : look (tab 0) 449 = some (.iaload, 1, [], uu) := by decide +kernel
theorem e_0_449 : den cf 0 449 L (.int x :: .ref a :: st) M = oK (ldI (M.2.2 a) x) (fun v => den cf 0 450 L (v :: st) M) := den_al (g := ldI) l_0_449 rfl
theorem l_0_450 : look (tab 0) 450 = some (.invokevirtual 30, 3, [5, 78, 3, 184, 185, 186, 2], uu) := by decide +kernel
theorem e_0_450 : den cf 0 450 L (w2 :: w1 :: .ref a :: st) M = if rcv M 5 [.ref a, w1, w2] = true ∧ st.length ≤ 4 then rK (cf 78 [.ref a, w1, w2] M) (fun v M' => den cf 0 453 L (pR v st) M') else none := den_iv [w1, w2] l_0_450 rfl
theorem l_0_453 : look (tab 0) 453 = some (.aload_n 2, 1, [], uu) := by decide +kernel
theorem e_0_453 : den cf 0 453 [v0, v1, v2, v3] st M = if isRf v2 = true then den cf 0 454 [v0, v1, v2, v3] (v2 :: st) M else none := den_g l_0_453 rfl
theorem l_0_454 : look (tab 0) 454 = some (.aload_n 0, 1, [], uu) := by decide +kernel
theorem e_0_454 : den cf 0 454 [v0, v1, v2, v3] st M = if isRf v0 = true then den cf 0 455 [v0, v1, v2, v3] (v0 :: st) M else none := den_g l_0_454 rfl
theorem l_0_455 : look (tab 0) 455 = some (.iload_n 3, 1, [], uu) := by decide +kernel
theorem e_0_455 : den cf 0 455 [v0, v1, v2, .int x] st M = den cf 0 456 [v0, v1, v2, .int x] (.int x :: st) M := den_go l_0_455 rfl
theorem l_0_456 : look (tab 0) 456 = some (.iconst 1, 1, [], .int (zI 1)) := by decide +kernel
theorem e_0_456 : den cf 0 456 L st M = den cf 0 457 L (.int (zI 1) :: st) M := den_go l_0_456 rfl
theorem l_0_457 : look (tab 0) 457 = some (.iadd, 1, [], uu) := by decide +kernel
theorem e_0_457 : den cf 0 457 L (.int y :: .int x :: st) M = den cf 0 458 L (.int (x + y) :: st) M := den_go l_0_457 rfl
theorem l_0_458 : look (tab 0) 458 = some (.iaload, 1, [], uu) := by decide +kernel
theorem e_0_458 : den cf 0 458 L (.int x :: .ref a :: st) M = oK (ldI (M.2.2 a) x) (fun v => den cf 0 459 L (v :: st) M) := den_al (g := ldI) l_0_458 rfl
theorem l_0_459 : look (tab 0) 459 = some (.aload_n 0, 1, [], uu) := by decide +kernel
theorem e_0_459 : den cf 0 459 [v0, v1, v2, v3] st M = if isRf v0 = true then den cf 0 460 [v0, v1, v2, v3] (v0 :: st) M else none := den_g l_0_459 rfl
theorem l_0_460 : look (tab 0) 460 = some (.iload_n 3, 1, [], uu) := by decide +kernel
theorem e_0_460 : den cf 0 460 [v0, v1, v2, .int x] st M = den cf 0 461 [v0, v1, v2, .int x] (.int x :: st) M := den_go l_0_460 rfl
theorem l_0_461 : look (tab 0) 461 = some (.iconst 2, 1, [], .int (zI 2)) := by decide +kernel
theorem e_0_461 : den cf 0 461 L st M = den cf 0 462 L (.int (zI 2) :: st) M := den_go l_0_461 rfl
theorem l_0_462 : look (tab 0) 462 = some (.iadd, 1, [], uu) := by decide +kernel
theorem e_0_462 : den cf 0 462 L (.int y :: .int x :: st) M = den cf 0 463 L (.int (x + y) :: st) M := den_go l_0_462 rfl
theorem l_0_463 : look (tab 0) 463 = some (.iaload, 1, [], uu) := by decide +kernel
theorem e_0_463 : den cf 0 463 L (.int x :: .ref a :: st) M = oK (ldI (M.2.2 a) x) (fun v => den cf 0 464 L (v :: st) M) := den_al (g := ldI) l_0_463 rfl
theorem l_0_464 : look (tab 0) 464 = some (.invokevirtual 34, 3, [6, 145, 3, 192, 193, 194, 5], uu) := by decide +kernel
theorem e_0_464 : den cf 0 464 L (w2 :: w1 :: .ref a :: st) M = if rcv M 6 [.ref a, w1, w2] = true ∧ st.length ≤ 4 then rK (cf 145 [.ref a, w1, w2] M) (fun v M' => den cf 0 467 L (pR v st) M') else none := den_iv [w1, w2] l_0_464 rfl
theorem l_0_467 : look (tab 0) 467 = some (.lcmp, 1, [], uu) := by decide +kernel
theorem e_0_467 : den cf 0 467 L (.long q :: .long p :: st) M = den cf 0 468 L (.int (lg_cmp p q) :: st) M := den_go l_0_467 rfl
theorem l_0_468 : look (tab 0) 468 = some (.ifCond .eq 1288, 3, [1756], uu) := by decide +kernel
theorem e_0_468 : den cf 0 468 L (.int x :: st) M = if x = zI 0 then den cf 0 1756 L st M else den cf 0 471 L st M := den_if_eq l_0_468
theorem l_0_471 : look (tab 0) 471 = some (.iconst 0, 1, [], .int (zI 0)) := by decide +kernel
theorem e_0_471 : den cf 0 471 L st M = den cf 0 472 L (.int (zI 0) :: st) M := den_go l_0_471 rfl
theorem l_0_472 : look (tab 0) 472 = some (.ireturn, 1, [1], uu) := by decide +kernel
theorem e_0_472 : den cf 0 472 L [.int x] M = if x = zI 0 ∨ x = zI 1 then some (some (.int x), M) else none := den_e1 l_0_472
theorem l_0_473 : look (tab 0) 473 = some (.aload_n 1, 1, [], uu) := by decide +kernel
theorem e_0_473 : den cf 0 473 [v0, v1, v2, v3] st M = if isRf v1 = true then den cf 0 474 [v0, v1, v2, v3] (v1 :: st) M else none := den_g l_0_473 rfl
theorem l_0_474 : look (tab 0) 474 = some (.aload_n 0, 1, [], uu) := by decide +kernel
theorem e_0_474 : den cf 0 474 [v0, v1, v2, v3] st M = if isRf v0 = true then den cf 0 475 [v0, v1, v2, v3] (v0 :: st) M else none := den_g l_0_474 rfl
theorem l_0_475 : look (tab 0) 475 = some (.iload_n 3, 1, [], uu) := by decide +kernel
theorem e_0_475 : den cf 0 475 [v0, v1, v2, .int x] st M = den cf 0 476 [v0, v1, v2, .int x] (.int x :: st) M := den_go l_0_475 rfl
theorem l_0_476 : look (tab 0) 476 = some (.iconst 1, 1, [], .int (zI 1)) := by decide +kernel
theorem e_0_476 : den cf 0 476 L st M = den cf 0 477 L (.int (zI 1) :: st) M := den_go l_0_476 rfl
theorem l_0_477 : look (tab 0) 477 = some (.iadd, 1, [], uu) := by decide +kernel
theorem e_0_477 : den cf 0 477 L (.int y :: .int x :: st) M = den cf 0 478 L (.int (x + y) :: st) M := den_go l_0_477 rfl
theorem l_0_478 : look (tab 0) 478 = some (.iaload, 1, [], uu) := by decide +kernel
theorem e_0_478 : den cf 0 478 L (.int x :: .ref a :: st) M = oK (ldI (M.2.2 a) x) (fun v => den cf 0 479 L (v :: st) M) := den_al (g := ldI) l_0_478 rfl
theorem l_0_479 : look (tab 0) 479 = some (.invokevirtual 35, 3, [5, 79, 2, 196, 197, 198, 2], uu) := by decide +kernel
theorem e_0_479 : den cf 0 479 L (w1 :: .ref a :: st) M = if rcv M 5 [.ref a, w1] = true ∧ st.length ≤ 4 then rK (cf 79 [.ref a, w1] M) (fun v M' => den cf 0 482 L (pR v st) M') else none := den_iv [w1] l_0_479 rfl
theorem l_0_482 : look (tab 0) 482 = some (.aload_n 2, 1, [], uu) := by decide +kernel
theorem e_0_482 : den cf 0 482 [v0, v1, v2, v3] st M = if isRf v2 = true then den cf 0 483 [v0, v1, v2, v3] (v2 :: st) M else none := den_g l_0_482 rfl
theorem l_0_483 : look (tab 0) 483 = some (.aload_n 0, 1, [], uu) := by decide +kernel
theorem e_0_483 : den cf 0 483 [v0, v1, v2, v3] st M = if isRf v0 = true then den cf 0 484 [v0, v1, v2, v3] (v0 :: st) M else none := den_g l_0_483 rfl
theorem l_0_484 : look (tab 0) 484 = some (.iload_n 3, 1, [], uu) := by decide +kernel
theorem e_0_484 : den cf 0 484 [v0, v1, v2, .int x] st M = den cf 0 485 [v0, v1, v2, .int x] (.int x :: st) M := den_go l_0_484 rfl
theorem l_0_485 : look (tab 0) 485 = some (.iconst 1, 1, [], .int (zI 1)) := by decide +kernel
theorem e_0_485 : den cf 0 485 L st M = den cf 0 486 L (.int (zI 1) :: st) M := den_go l_0_485 rfl
theorem l_0_486 : look (tab 0) 486 = some (.iadd, 1, [], uu) := by decide +kernel
theorem e_0_486 : den cf 0 486 L (.int y :: .int x :: st) M = den cf 0 487 L (.int (x + y) :: st) M := den_go l_0_486 rfl
theorem l_0_487 : look (tab 0) 487 = some (.iaload, 1, [], uu) := by decide +kernel
theorem e_0_487 : den cf 0 487 L (.int x :: .ref a :: st) M = oK (ldI (M.2.2 a) x) (fun v => den cf 0 488 L (v :: st) M) := den_al (g := ldI) l_0_487 rfl
theorem l_0_488 : look (tab 0) 488 = some (.invokevirtual 39, 3, [6, 146, 2, 201, 202, 203, 5], uu) := by decide +kernel
theorem e_0_488 : den cf 0 488 L (w1 :: .ref a :: st) M = if rcv M 6 [.ref a, w1] = true ∧ st.length ≤ 4 then rK (cf 146 [.ref a, w1] M) (fun v M' => den cf 0 491 L (pR v st) M') else none := den_iv [w1] l_0_488 rfl
theorem l_0_491 : look (tab 0) 491 = some (.if_icmp .eq 1265, 3, [1756], uu) := by decide +kernel
theorem e_0_491 : den cf 0 491 L (.int y :: .int x :: st) M = if x = y then den cf 0 1756 L st M else den cf 0 494 L st M := den_ic_eq l_0_491
theorem l_0_494 : look (tab 0) 494 = some (.iconst 0, 1, [], .int (zI 0)) := by decide +kernel
theorem e_0_494 : den cf 0 494 L st M = den cf 0 495 L (.int (zI 0) :: st) M := den_go l_0_494 rfl
theorem l_0_495 : look (tab 0) 495 = some (.ireturn, 1, [1], uu) := by decide +kernel
theorem e_0_495 : den cf 0 495 L [.int x] M = if x = zI 0 ∨ x = zI 1 then some (some (.int x), M) else none := den_e1 l_0_495
theorem l_0_496 : look (tab 0) 496 = some (.aload_n 1, 1, [], uu) := by decide +kernel
theorem e_0_496 : den cf 0 496 [v0, v1, v2, v3] st M = if isRf v1 = true then den cf 0 497 [v0, v1, v2, v3] (v1 :: st) M else none := den_g l_0_496 rfl
theorem l_0_497 : look (tab 0) 497 = some (.aload_n 0, 1, [], uu) := by decide +kernel
theorem e_0_497 : den cf 0 497 [v0, v1, v2, v3] st M = if isRf v0 = true then den cf 0 498 [v0, v1, v2, v3] (v0 :: st) M else none := den_g l_0_497 rfl
theorem l_0_498 : look (tab 0) 498 = some (.iload_n 3, 1, [], uu) := by decide +kernel
theorem e_0_498 : den cf 0 498 [v0, v1, v2, .int x] st M = den cf 0 499 [v0, v1, v2, .int x] (.int x :: st) M := den_go l_0_498 rfl
theorem l_0_499 : look (tab 0) 499 = some (.iconst 1, 1, [], .int (zI 1)) := by decide +kernel
theorem e_0_499 : den cf 0 499 L st M = den cf 0 500 L (.int (zI 1) :: st) M := den_go l_0_499 rfl
theorem l_0_500 : look (tab 0) 500 = some (.iadd, 1, [], uu) := by decide +kernel
theorem e_0_500 : den cf 0 500 L (.int y :: .int x :: st) M = den cf 0 501 L (.int (x + y) :: st) M := den_go l_0_500 rfl
theorem l_0_501 : look (tab 0) 501 = some (.iaload, 1, [], uu) := by decide +kernel
theorem e_0_501 : den cf 0 501 L (.int x :: .ref a :: st) M = oK (ldI (M.2.2 a) x) (fun v => den cf 0 502 L (v :: st) M) := den_al (g := ldI) l_0_501 rfl
theorem l_0_502 : look (tab 0) 502 = some (.aload_n 0, 1, [], uu) := by decide +kernel
theorem e_0_502 : den cf 0 502 [v0, v1, v2, v3] st M = if isRf v0 = true then den cf 0 503 [v0, v1, v2, v3] (v0 :: st) M else none := den_g l_0_502 rfl
theorem l_0_503 : look (tab 0) 503 = some (.iload_n 3, 1, [], uu) := by decide +kernel
theorem e_0_503 : den cf 0 503 [v0, v1, v2, .int x] st M = den cf 0 504 [v0, v1, v2, .int x] (.int x :: st) M := den_go l_0_503 rfl
theorem l_0_504 : look (tab 0) 504 = some (.iconst 2, 1, [], .int (zI 2)) := by decide +kernel
theorem e_0_504 : den cf 0 504 L st M = den cf 0 505 L (.int (zI 2) :: st) M := den_go l_0_504 rfl
theorem l_0_505 : look (tab 0) 505 = some (.iadd, 1, [], uu) := by decide +kernel
theorem e_0_505 : den cf 0 505 L (.int y :: .int x :: st) M = den cf 0 506 L (.int (x + y) :: st) M := den_go l_0_505 rfl
theorem l_0_506 : look (tab 0) 506 = some (.iaload, 1, [], uu) := by decide +kernel
theorem e_0_506 : den cf 0 506 L (.int x :: .ref a :: st) M = oK (ldI (M.2.2 a) x) (fun v => den cf 0 507 L (v :: st) M) := den_al (g := ldI) l_0_506 rfl
theorem l_0_507 : look (tab 0) 507 = some (.invokevirtual 40, 3, [5, 80, 3, 205, 206, 207, 2], uu) := by decide +kernel
theorem e_0_507 : den cf 0 507 L (w2 :: w1 :: .ref a :: st) M = if rcv M 5 [.ref a, w1, w2] = true ∧ st.length ≤ 4 then rK (cf 80 [.ref a, w1, w2] M) (fun v M' => den cf 0 510 L (pR v st) M') else none := den_iv [w1, w2] l_0_507 rfl
theorem l_0_510 : look (tab 0) 510 = some (.aload_n 2, 1, [], uu) := by decide +kernel
theorem e_0_510 : den cf 0 510 [v0, v1, v2, v3] st M = if isRf v2 = true then den cf 0 511 [v0, v1, v2, v3] (v2 :: st) M else none := den_g l_0_510 rfl
theorem l_0_511 : look (tab 0) 511 = some (.aload_n 0, 1, [], uu) := by decide +kernel
theorem e_0_511 : den cf 0 511 [v0, v1, v2, v3] st M = if isRf v0 = true then den cf 0 512 [v0, v1, v2, v3] (v0 :: st) M else none := den_g l_0_511 rfl
theorem l_0_512 : look (tab 0) 512 = some (.iload_n 3, 1, [], uu) := by decide +kernel
theorem e_0_512 : den cf 0 512 [v0, v1, v2, .int x] st M = den cf 0 513 [v0, v1, v2, .int x] (.int x :: st) M := den_go l_0_512 rfl
theorem l_0_513 : look (tab 0) 513 = some (.iconst 1, 1, [], .int (zI 1)) := by decide +kernel
theorem e_0_513 : den cf 0 513 L st M = den cf 0 514 L (.int (zI 1) :: st) M := den_go l_0_513 rfl
theorem l_0_514 : look (tab 0) 514 = some (.iadd, 1, [], uu) := by decide +kernel
theorem e_0_514 : den cf 0 514 L (.int y :: .int x :: st) M = den cf 0 515 L (.int (x + y) :: st) M := den_go l_0_514 rfl
theorem l_0_515 : look (tab 0) 515 = some (.iaload, 1, [], uu) := by decide +kernel
theorem e_0_515 : den cf 0 515 L (.int x :: .ref a :: st) M = oK (ldI (M.2.2 a) x) (fun v => den cf 0 516 L (v :: st) M) := den_al (g := ldI) l_0_515 rfl
theorem l_0_516 : look (tab 0) 516 = some (.aload_n 0, 1, [], uu) := by decide +kernel
theorem e_0_516 : den cf 0 516 [v0, v1, v2, v3] st M = if isRf v0 = true then den cf 0 517 [v0, v1, v2, v3] (v0 :: st) M else none := den_g l_0_516 rfl
theorem l_0_517 : look (tab 0) 517 = some (.iload_n 3, 1, [], uu) := by decide +kernel
theorem e_0_517 : den cf 0 517 [v0, v1, v2, .int x] st M = den cf 0 518 [v0, v1, v2, .int x] (.int x :: st) M := den_go l_0_517 rfl
theorem l_0_518 : look (tab 0) 518 = some (.iconst 2, 1, [], .int (zI 2)) := by decide +kernel
theorem e_0_518 : den cf 0 518 L st M = den cf 0 519 L (.int (zI 2) :: st) M := den_go l_0_518 rfl
theorem l_0_519 : look (tab 0) 519 = some (.iadd, 1, [], uu) := by decide +kernel
theorem e_0_519 : den cf 0 519 L (.int y :: .int x :: st) M = den cf 0 520 L (.int (x + y) :: st) M := den_go l_0_519 rfl
theorem l_0_520 : look (tab 0) 520 = some (.iaload, 1, [], uu) := by decide +kernel
theorem e_0_520 : den cf 0 520 L (.int x :: .ref a :: st) M = oK (ldI (M.2.2 a) x) (fun v => den cf 0 521 L (v :: st) M) := den_al (g := ldI) l_0_520 rfl
theorem l_0_521 : look (tab 0) 521 = some (.invokevirtual 44, 3, [6, 147, 3, 222, 223, 224, 5], uu) := by decide +kernel
theorem e_0_521 : den cf 0 521 L (w2 :: w1 :: .ref a :: st) M = if rcv M 6 [.ref a, w1, w2] = true ∧ st.length ≤ 4 then rK (cf 147 [.ref a, w1, w2] M) (fun v M' => den cf 0 524 L (pR v st) M') else none := den_iv [w1, w2] l_0_521 rfl
theorem l_0_524 : look (tab 0) 524 = some (.if_icmp .eq 1232, 3, [1756], uu) := by decide +kernel
theorem e_0_524 : den cf 0 524 L (.int y :: .int x :: st) M = if x = y then den cf 0 1756 L st M else den cf 0 527 L st M := den_ic_eq l_0_524
theorem l_0_527 : look (tab 0) 527 = some (.iconst 0, 1, [], .int (zI 0)) := by decide +kernel
theorem e_0_527 : den cf 0 527 L st M = den cf 0 528 L (.int (zI 0) :: st) M := den_go l_0_527 rfl
theorem l_0_528 : look (tab 0) 528 = some (.ireturn, 1, [1], uu) := by decide +kernel
theorem e_0_528 : den cf 0 528 L [.int x] M = if x = zI 0 ∨ x = zI 1 then some (some (.int x), M) else none := den_e1 l_0_528
theorem l_0_529 : look (tab 0) 529 = some (.aload_n 1, 1, [], uu) := by decide +kernel
theorem e_0_529 : den cf 0 529 [v0, v1, v2, v3] st M = if isRf v1 = true then den cf 0 530 [v0, v1, v2, v3] (v1 :: st) M else none := den_g l_0_529 rfl
theorem l_0_530 : look (tab 0) 530 = some (.aload_n 0, 1, [], uu) := by decide +kernel
theorem e_0_530 : den cf 0 530 [v0, v1, v2, v3] st M = if isRf v0 = true then den cf 0 531 [v0, v1, v2, v3] (v0 :: st) M else none := den_g l_0_530 rfl
theorem l_0_531 : look (tab 0) 531 = some (.iload_n 3, 1, [], uu) := by decide +kernel
theorem e_0_531 : den cf 0 531 [v0, v1, v2, .int x] st M = den cf 0 532 [v0, v1, v2, .int x] (.int x :: st) M := den_go l_0_531 rfl
theorem l_0_532 : look (tab 0) 532 = some (.iconst 1, 1, [], .int (zI 1)) := by decide +kernel
theorem e_0_532 : den cf 0 532 L st M = den cf 0 533 L (.int (zI 1) :: st) M := den_go l_0_532 rfl
theorem l_0_533 : look (tab 0) 533 = some (.iadd, 1, [], uu) := by decide +kernel
theorem e_0_533 : den cf 0 533 L (.int y :: .int x :: st) M = den cf 0 534 L (.int (x + y) :: st) M := den_go l_0_533 rfl
theorem l_0_534 : look (tab 0) 534 = some (.iaload, 1, [], uu) := by decide +kernel
theorem e_0_534 : den cf 0 534 L (.int x :: .ref a :: st) M = oK (ldI (M.2.2 a) x) (fun v => den cf 0 535 L (v :: st) M) := den_al (g := ldI) l_0_534 rfl
theorem l_0_535 : look (tab 0) 535 = some (.aload_n 0, 1, [], uu) := by decide +kernel
theorem e_0_535 : den cf 0 535 [v0, v1, v2, v3] st M = if isRf v0 = true then den cf 0 536 [v0, v1, v2, v3] (v0 :: st) M else none := den_g l_0_535 rfl
theorem l_0_536 : look (tab 0) 536 = some (.iload_n 3, 1, [], uu) := by decide +kernel
theorem e_0_536 : den cf 0 536 [v0, v1, v2, .int x] st M = den cf 0 537 [v0, v1, v2, .int x] (.int x :: st) M := den_go l_0_536 rfl
theorem l_0_537 : look (tab 0) 537 = some (.iconst 2, 1, [], .int (zI 2)) := by decide +kernel
theorem e_0_537 : den cf 0 537 L st M = den cf 0 538 L (.int (zI 2) :: st) M := den_go l_0_537 rfl
theorem l_0_538 : look (tab 0) 538 = some (.iadd, 1, [], uu) := by decide +kernel
theorem e_0_538 : den cf 0 538 L (.int y :: .int x :: st) M = den cf 0 539 L (.int (x + y) :: st) M := den_go l_0_538 rfl
theorem l_0_539 : look (tab 0) 539 = some (.iaload, 1, [], uu) := by decide +kernel
theorem e_0_539 : den cf 0 539 L (.int x :: .ref a :: st) M = oK (ldI (M.2.2 a) x) (fun v => den cf 0 540 L (v :: st) M) := den_al (g := ldI) l_0_539 rfl
theorem l_0_540 : look (tab 0) 540 = some (.invokevirtual 45, 3, [5, 81, 3, 231, 232, 233, 2], uu) := by decide +kernel
theorem e_0_540 : den cf 0 540 L (w2 :: w1 :: .ref a :: st) M = if rcv M 5 [.ref a, w1, w2] = true ∧ st.length ≤ 4 then rK (cf 81 [.ref a, w1, w2] M) (fun v M' => den cf 0 543 L (pR v st) M') else none := den_iv [w1, w2] l_0_540 rfl
theorem l_0_543 : look (tab 0) 543 = some (.aload_n 2, 1, [], uu) := by decide +kernel
theorem e_0_543 : den cf 0 543 [v0, v1, v2, v3] st M = if isRf v2 = true then den cf 0 544 [v0, v1, v2, v3] (v2 :: st) M else none := den_g l_0_543 rfl
theorem l_0_544 : look (tab 0) 544 = some (.aload_n 0, 1, [], uu) := by decide +kernel
theorem e_0_544 : den cf 0 544 [v0, v1, v2, v3] st M = if isRf v0 = true then den cf 0 545 [v0, v1, v2, v3] (v0 :: st) M else none := den_g l_0_544 rfl
theorem l_0_545 : look (tab 0) 545 = some (.iload_n 3, 1, [], uu) := by decide +kernel
theorem e_0_545 : den cf 0 545 [v0, v1, v2, .int x] st M = den cf 0 546 [v0, v1, v2, .int x] (.int x :: st) M := den_go l_0_545 rfl
theorem l_0_546 : look (tab 0) 546 = some (.iconst 1, 1, [], .int (zI 1)) := by decide +kernel
theorem e_0_546 : den cf 0 546 L st M = den cf 0 547 L (.int (zI 1) :: st) M := den_go l_0_546 rfl
theorem l_0_547 : look (tab 0) 547 = some (.iadd, 1, [], uu) := by decide +kernel
theorem e_0_547 : den cf 0 547 L (.int y :: .int x :: st) M = den cf 0 548 L (.int (x + y) :: st) M := den_go l_0_547 rfl
theorem l_0_548 : look (tab 0) 548 = some (.iaload, 1, [], uu) := by decide +kernel
theorem e_0_548 : den cf 0 548 L (.int x :: .ref a :: st) M = oK (ldI (M.2.2 a) x) (fun v => den cf 0 549 L (v :: st) M) := den_al (g := ldI) l_0_548 rfl
theorem l_0_549 : look (tab 0) 549 = some (.aload_n 0, 1, [], uu) := by decide +kernel
theorem e_0_549 : den cf 0 549 [v0, v1, v2, v3] st M = if isRf v0 = true then den cf 0 550 [v0, v1, v2, v3] (v0 :: st) M else none := den_g l_0_549 rfl
theorem l_0_550 : look (tab 0) 550 = some (.iload_n 3, 1, [], uu) := by decide +kernel
theorem e_0_550 : den cf 0 550 [v0, v1, v2, .int x] st M = den cf 0 551 [v0, v1, v2, .int x] (.int x :: st) M := den_go l_0_550 rfl
theorem l_0_551 : look (tab 0) 551 = some (.iconst 2, 1, [], .int (zI 2)) := by decide +kernel
theorem e_0_551 : den cf 0 551 L st M = den cf 0 552 L (.int (zI 2) :: st) M := den_go l_0_551 rfl
theorem l_0_552 : look (tab 0) 552 = some (.iadd, 1, [], uu) := by decide +kernel
theorem e_0_552 : den cf 0 552 L (.int y :: .int x :: st) M = den cf 0 553 L (.int (x + y) :: st) M := den_go l_0_552 rfl
theorem l_0_553 : look (tab 0) 553 = some (.iaload, 1, [], uu) := by decide +kernel
theorem e_0_553 : den cf 0 553 L (.int x :: .ref a :: st) M = oK (ldI (M.2.2 a) x) (fun v => den cf 0 554 L (v :: st) M) := den_al (g := ldI) l_0_553 rfl
theorem l_0_554 : look (tab 0) 554 = some (.invokevirtual 48, 3, [6, 149, 3, 276, 277, 278, 5], uu) := by decide +kernel
theorem e_0_554 : den cf 0 554 L (w2 :: w1 :: .ref a :: st) M = if rcv M 6 [.ref a, w1, w2] = true ∧ st.length ≤ 4 then rK (cf 149 [.ref a, w1, w2] M) (fun v M' => den cf 0 557 L (pR v st) M') else none := den_iv [w1, w2] l_0_554 rfl
theorem l_0_557 : look (tab 0) 557 = some (.if_icmp .eq 1199, 3, [1756], uu) := by decide +kernel
theorem e_0_557 : den cf 0 557 L (.int y :: .int x :: st) M = if x = y then den cf 0 1756 L st M else den cf 0 560 L st M := den_ic_eq l_0_557
theorem l_0_560 : look (tab 0) 560 = some (.iconst 0, 1, [], .int (zI 0)) := by decide +kernel
theorem e_0_560 : den cf 0 560 L st M = den cf 0 561 L (.int (zI 0) :: st) M := den_go l_0_560 rfl
theorem l_0_561 : look (tab 0) 561 = some (.ireturn, 1, [1], uu) := by decide +kernel
theorem e_0_561 : den cf 0 561 L [.int x] M = if x = zI 0 ∨ x = zI 1 then some (some (.int x), M) else none := den_e1 l_0_561
theorem l_0_562 : look (tab 0) 562 = some (.aload_n 1, 1, [], uu) := by decide +kernel
theorem e_0_562 : den cf 0 562 [v0, v1, v2, v3] st M = if isRf v1 = true then den cf 0 563 [v0, v1, v2, v3] (v1 :: st) M else none := den_g l_0_562 rfl
theorem l_0_563 : look (tab 0) 563 = some (.aload_n 0, 1, [], uu) := by decide +kernel
theorem e_0_563 : den cf 0 563 [v0, v1, v2, v3] st M = if isRf v0 = true then den cf 0 564 [v0, v1, v2, v3] (v0 :: st) M else none := den_g l_0_563 rfl
theorem l_0_564 : look (tab 0) 564 = some (.iload_n 3, 1, [], uu) := by decide +kernel
theorem e_0_564 : den cf 0 564 [v0, v1, v2, .int x] st M = den cf 0 565 [v0, v1, v2, .int x] (.int x :: st) M := den_go l_0_564 rfl
theorem l_0_565 : look (tab 0) 565 = some (.iconst 1, 1, [], .int (zI 1)) := by decide +kernel
theorem e_0_565 : den cf 0 565 L st M = den cf 0 566 L (.int (zI 1) :: st) M := den_go l_0_565 rfl
theorem l_0_566 : look (tab 0) 566 = some (.iadd, 1, [], uu) := by decide +kernel
theorem e_0_566 : den cf 0 566 L (.int y :: .int x :: st) M = den cf 0 567 L (.int (x + y) :: st) M := den_go l_0_566 rfl
theorem l_0_567 : look (tab 0) 567 = some (.iaload, 1, [], uu) := by decide +kernel
theorem e_0_567 : den cf 0 567 L (.int x :: .ref a :: st) M = oK (ldI (M.2.2 a) x) (fun v => den cf 0 568 L (v :: st) M) := den_al (g := ldI) l_0_567 rfl
theorem l_0_568 : look (tab 0) 568 = some (.aload_n 0, 1, [], uu) := by decide +kernel
theorem e_0_568 : den cf 0 568 [v0, v1, v2, v3] st M = if isRf v0 = true then den cf 0 569 [v0, v1, v2, v3] (v0 :: st) M else none := den_g l_0_568 rfl
theorem l_0_569 : look (tab 0) 569 = some (.iload_n 3, 1, [], uu) := by decide +kernel
theorem e_0_569 : den cf 0 569 [v0, v1, v2, .int x] st M = den cf 0 570 [v0, v1, v2, .int x] (.int x :: st) M := den_go l_0_569 rfl
theorem l_0_570 : look (tab 0) 570 = some (.iconst 2, 1, [], .int (zI 2)) := by decide +kernel
theorem e_0_570 : den cf 0 570 L st M = den cf 0 571 L (.int (zI 2) :: st) M := den_go l_0_570 rfl
theorem l_0_571 : look (tab 0) 571 = some (.iadd, 1, [], uu) := by decide +kernel
theorem e_0_571 : den cf 0 571 L (.int y :: .int x :: st) M = den cf 0 572 L (.int (x + y) :: st) M := den_go l_0_571 rfl
theorem l_0_572 : look (tab 0) 572 = some (.iaload, 1, [], uu) := by decide +kernel
theorem e_0_572 : den cf 0 572 L (.int x :: .ref a :: st) M = oK (ldI (M.2.2 a) x) (fun v => den cf 0 573 L (v :: st) M) := den_al (g := ldI) l_0_572 rfl
theorem l_0_573 : look (tab 0) 573 = some (.aload_n 0, 1, [], uu) := by decide +kernel
theorem e_0_573 : den cf 0 573 [v0, v1, v2, v3] st M = if isRf v0 = true then den cf 0 574 [v0, v1, v2, v3] (v0 :: st) M else none := den_g l_0_573 rfl
theorem l_0_574 : look (tab 0) 574 = some (.iload_n 3, 1, [], uu) := by decide +kernel
theorem e_0_574 : den cf 0 574 [v0, v1, v2, .int x] st M = den cf 0 575 [v0, v1, v2, .int x] (.int x :: st) M := den_go l_0_574 rfl
theorem l_0_575 : look (tab 0) 575 = some (.iconst 3, 1, [], .int (zI 3)) := by decide +kernel
theorem e_0_575 : den cf 0 575 L st M = den cf 0 576 L (.int (zI 3) :: st) M := den_go l_0_575 rfl
theorem l_0_576 : look (tab 0) 576 = some (.iadd, 1, [], uu) := by decide +kernel
theorem e_0_576 : den cf 0 576 L (.int y :: .int x :: st) M = den cf 0 577 L (.int (x + y) :: st) M := den_go l_0_576 rfl
theorem l_0_577 : look (tab 0) 577 = some (.iaload, 1, [], uu) := by decide +kernel
theorem e_0_577 : den cf 0 577 L (.int x :: .ref a :: st) M = oK (ldI (M.2.2 a) x) (fun v => den cf 0 578 L (v :: st) M) := den_al (g := ldI) l_0_577 rfl
theorem l_0_578 : look (tab 0) 578 = some (.invokevirtual 49, 3, [5, 82, 4, 299, 300, 301, 2], uu) := by decide +kernel
theorem e_0_578 : den cf 0 578 L (w3 :: w2 :: w1 :: .ref a :: st) M = if rcv M 5 [.ref a, w1, w2, w3] = true ∧ st.length ≤ 4 then rK (cf 82 [.ref a, w1, w2, w3] M) (fun v M' => den cf 0 581 L (pR v st) M') else none := den_iv [w1, w2, w3] l_0_578 rfl
theorem l_0_581 : look (tab 0) 581 = some (.aload_n 2, 1, [], uu) := by decide +kernel
theorem e_0_581 : den cf 0 581 [v0, v1, v2, v3] st M = if isRf v2 = true then den cf 0 582 [v0, v1, v2, v3] (v2 :: st) M else none := den_g l_0_581 rfl
theorem l_0_582 : look (tab 0) 582 = some (.aload_n 0, 1, [], uu) := by decide +kernel
theorem e_0_582 : den cf 0 582 [v0, v1, v2, v3] st M = if isRf v0 = true then den cf 0 583 [v0, v1, v2, v3] (v0 :: st) M else none := den_g l_0_582 rfl
theorem l_0_583 : look (tab 0) 583 = some (.iload_n 3, 1, [], uu) := by decide +kernel
theorem e_0_583 : den cf 0 583 [v0, v1, v2, .int x] st M = den cf 0 584 [v0, v1, v2, .int x] (.int x :: st) M := den_go l_0_583 rfl
theorem l_0_584 : look (tab 0) 584 = some (.iconst 1, 1, [], .int (zI 1)) := by decide +kernel
theorem e_0_584 : den cf 0 584 L st M = den cf 0 585 L (.int (zI 1) :: st) M := den_go l_0_584 rfl
theorem l_0_585 : look (tab 0) 585 = some (.iadd, 1, [], uu) := by decide +kernel
theorem e_0_585 : den cf 0 585 L (.int y :: .int x :: st) M = den cf 0 586 L (.int (x + y) :: st) M := den_go l_0_585 rfl
theorem l_0_586 : look (tab 0) 586 = some (.iaload, 1, [], uu) := by decide +kernel
theorem e_0_586 : den cf 0 586 L (.int x :: .ref a :: st) M = oK (ldI (M.2.2 a) x) (fun v => den cf 0 587 L (v :: st) M) := den_al (g := ldI) l_0_586 rfl
theorem l_0_587 : look (tab 0) 587 = some (.aload_n 0, 1, [], uu) := by decide +kernel
theorem e_0_587 : den cf 0 587 [v0, v1, v2, v3] st M = if isRf v0 = true then den cf 0 588 [v0, v1, v2, v3] (v0 :: st) M else none := den_g l_0_587 rfl
theorem l_0_588 : look (tab 0) 588 = some (.iload_n 3, 1, [], uu) := by decide +kernel
theorem e_0_588 : den cf 0 588 [v0, v1, v2, .int x] st M = den cf 0 589 [v0, v1, v2, .int x] (.int x :: st) M := den_go l_0_588 rfl
theorem l_0_589 : look (tab 0) 589 = some (.iconst 2, 1, [], .int (zI 2)) := by decide +kernel
theorem e_0_589 : den cf 0 589 L st M = den cf 0 590 L (.int (zI 2) :: st) M := den_go l_0_589 rfl
theorem l_0_590 : look (tab 0) 590 = some (.iadd, 1, [], uu) := by decide +kernel
theorem e_0_590 : den cf 0 590 L (.int y :: .int x :: st) M = den cf 0 591 L (.int (x + y) :: st) M := den_go l_0_590 rfl
theorem l_0_591 : look (tab 0) 591 = some (.iaload, 1, [], uu) := by decide +kernel
theorem e_0_591 : den cf 0 591 L (.int x :: .ref a :: st) M = oK (ldI (M.2.2 a) x) (fun v => den cf 0 592 L (v :: st) M) := den_al (g := ldI) l_0_591 rfl
theorem l_0_592 : look (tab 0) 592 = some (.aload_n 0, 1, [], uu) := by decide +kernel
theorem e_0_592 : den cf 0 592 [v0, v1, v2, v3] st M = if isRf v0 = true then den cf 0 593 [v0, v1, v2, v3] (v0 :: st) M else none := den_g l_0_592 rfl
theorem l_0_593 : look (tab 0) 593 = some (.iload_n 3, 1, [], uu) := by decide +kernel
theorem e_0_593 : den cf 0 593 [v0, v1, v2, .int x] st M = den cf 0 594 [v0, v1, v2, .int x] (.int x :: st) M := den_go l_0_593 rfl
theorem l_0_594 : look (tab 0) 594 = some (.iconst 3, 1, [], .int (zI 3)) := by decide +kernel
theorem e_0_594 : den cf 0 594 L st M = den cf 0 595 L (.int (zI 3) :: st) M := den_go l_0_594 rfl
theorem l_0_595 : look (tab 0) 595 = some (.iadd, 1, [], uu) := by decide +kernel
theorem e_0_595 : den cf 0 595 L (.int y :: .int x :: st) M = den cf 0 596 L (.int (x + y) :: st) M := den_go l_0_595 rfl
theorem l_0_596 : look (tab 0) 596 = some (.iaload, 1, [], uu) := by decide +kernel
theorem e_0_596 : den cf 0 596 L (.int x :: .ref a :: st) M = oK (ldI (M.2.2 a) x) (fun v => den cf 0 597 L (v :: st) M) := den_al (g := ldI) l_0_596 rfl
theorem l_0_597 : look (tab 0) 597 = some (.invokevirtual 52, 3, [6, 151, 4, 324, 325, 326, 5], uu) := by decide +kernel
theorem e_0_597 : den cf 0 597 L (w3 :: w2 :: w1 :: .ref a :: st) M = if rcv M 6 [.ref a, w1, w2, w3] = true ∧ st.length ≤ 4 then rK (cf 151 [.ref a, w1, w2, w3] M) (fun v M' => den cf 0 600 L (pR v st) M') else none := den_iv [w1, w2, w3] l_0_597 rfl
theorem l_0_600 : look (tab 0) 600 = some (.if_icmp .eq 1156, 3, [1756], uu) := by decide +kernel
theorem e_0_600 : den cf 0 600 L (.int y :: .int x :: st) M = if x = y then den cf 0 1756 L st M else den cf 0 603 L st M := den_ic_eq l_0_600
theorem l_0_603 : look (tab 0) 603 = some (.iconst 0, 1, [], .int (zI 0)) := by decide +kernel
theorem e_0_603 : den cf 0 603 L st M = den cf 0 604 L (.int (zI 0) :: st) M := den_go l_0_603 rfl
theorem l_0_604 : look (tab 0) 604 = some (.ireturn, 1, [1], uu) := by decide +kernel
theorem e_0_604 : den cf 0 604 L [.int x] M = if x = zI 0 ∨ x = zI 1 then some (some (.int x), M) else none := den_e1 l_0_604
theorem l_0_605 : look (tab 0) 605 = some (.aload_n 1, 1, [], uu) := by decide +kernel
theorem e_0_605 : den cf 0 605 [v0, v1, v2, v3] st M = if isRf v1 = true then den cf 0 606 [v0, v1, v2, v3] (v1 :: st) M else none := den_g l_0_605 rfl
theorem l_0_606 : look (tab 0) 606 = some (.aload_n 0, 1, [], uu) := by decide +kernel
theorem e_0_606 : den cf 0 606 [v0, v1, v2, v3] st M = if isRf v0 = true then den cf 0 607 [v0, v1, v2, v3] (v0 :: st) M else none := den_g l_0_606 rfl
theorem l_0_607 : look (tab 0) 607 = some (.iload_n 3, 1, [], uu) := by decide +kernel
theorem e_0_607 : den cf 0 607 [v0, v1, v2, .int x] st M = den cf 0 608 [v0, v1, v2, .int x] (.int x :: st) M := den_go l_0_607 rfl
theorem l_0_608 : look (tab 0) 608 = some (.iconst 1, 1, [], .int (zI 1)) := by decide +kernel
theorem e_0_608 : den cf 0 608 L st M = den cf 0 609 L (.int (zI 1) :: st) M := den_go l_0_608 rfl
theorem l_0_609 : look (tab 0) 609 = some (.iadd, 1, [], uu) := by decide +kernel
theorem e_0_609 : den cf 0 609 L (.int y :: .int x :: st) M = den cf 0 610 L (.int (x + y) :: st) M := den_go l_0_609 rfl
theorem l_0_610 : look (tab 0) 610 = some (.iaload, 1, [], uu) := by decide +kernel
theorem e_0_610 : den cf 0 610 L (.int x :: .ref a :: st) M = oK (ldI (M.2.2 a) x) (fun v => den cf 0 611 L (v :: st) M) := den_al (g := ldI) l_0_610 rfl
theorem l_0_611 : look (tab 0) 611 = some (.aload_n 0, 1, [], uu) := by decide +kernel
theorem e_0_611 : den cf 0 611 [v0, v1, v2, v3] st M = if isRf v0 = true then den cf 0 612 [v0, v1, v2, v3] (v0 :: st) M else none := den_g l_0_611 rfl
theorem l_0_612 : look (tab 0) 612 = some (.iload_n 3, 1, [], uu) := by decide +kernel
theorem e_0_612 : den cf 0 612 [v0, v1, v2, .int x] st M = den cf 0 613 [v0, v1, v2, .int x] (.int x :: st) M := den_go l_0_612 rfl
theorem l_0_613 : look (tab 0) 613 = some (.iconst 2, 1, [], .int (zI 2)) := by decide +kernel
theorem e_0_613 : den cf 0 613 L st M = den cf 0 614 L (.int (zI 2) :: st) M := den_go l_0_613 rfl
theorem l_0_614 : look (tab 0) 614 = some (.iadd, 1, [], uu) := by decide +kernel
theorem e_0_614 : den cf 0 614 L (.int y :: .int x :: st) M = den cf 0 615 L (.int (x + y) :: st) M := den_go l_0_614 rfl
theorem l_0_615 : look (tab 0) 615 = some (.iaload, 1, [], uu) := by decide +kernel
theorem e_0_615 : den cf 0 615 L (.int x :: .ref a :: st) M = oK (ldI (M.2.2 a) x) (fun v => den cf 0 616 L (v :: st) M) := den_al (g := ldI) l_0_615 rfl
theorem l_0_616 : look (tab 0) 616 = some (.aload_n 0, 1, [], uu) := by decide +kernel
theorem e_0_616 : den cf 0 616 [v0, v1, v2, v3] st M = if isRf v0 = true then den cf 0 617 [v0, v1, v2, v3] (v0 :: st) M else none := den_g l_0_616 rfl
theorem l_0_617 : look (tab 0) 617 = some (.iload_n 3, 1, [], uu) := by decide +kernel
theorem e_0_617 : den cf 0 617 [v0, v1, v2, .int x] st M = den cf 0 618 [v0, v1, v2, .int x] (.int x :: st) M := den_go l_0_617 rfl
theorem l_0_618 : look (tab 0) 618 = some (.iconst 3, 1, [], .int (zI 3)) := by decide +kernel
theorem e_0_618 : den cf 0 618 L st M = den cf 0 619 L (.int (zI 3) :: st) M := den_go l_0_618 rfl
theorem l_0_619 : look (tab 0) 619 = some (.iadd, 1, [], uu) := by decide +kernel
theorem e_0_619 : den cf 0 619 L (.int y :: .int x :: st) M = den cf 0 620 L (.int (x + y) :: st) M := den_go l_0_619 rfl
theorem l_0_620 : look (tab 0) 620 = some (.iaload, 1, [], uu) := by decide +kernel
theorem e_0_620 : den cf 0 620 L (.int x :: .ref a :: st) M = oK (ldI (M.2.2 a) x) (fun v => den cf 0 621 L (v :: st) M) := den_al (g := ldI) l_0_620 rfl
theorem l_0_621 : look (tab 0) 621 = some (.ifCond .eq 7, 3, [628], uu) := by decide +kernel
theorem e_0_621 : den cf 0 621 L (.int x :: st) M = if x = zI 0 then den cf 0 628 L st M else den cf 0 624 L st M := den_if_eq l_0_621
theorem l_0_624 : look (tab 0) 624 = some (.iconst 1, 1, [], .int (zI 1)) := by decide +kernel
theorem e_0_624 : den cf 0 624 L st M = den cf 0 625 L (.int (zI 1) :: st) M := den_go l_0_624 rfl
theorem l_0_625 : look (tab 0) 625 = some (.goto 4, 3, [629], uu) := by decide +kernel
theorem e_0_625 : den cf 0 625 L st M = den cf 0 629 L st M := den_go l_0_625 rfl
theorem l_0_628 : look (tab 0) 628 = some (.iconst 0, 1, [], .int (zI 0)) := by decide +kernel
theorem e_0_628 : den cf 0 628 L st M = den cf 0 629 L (.int (zI 0) :: st) M := den_go l_0_628 rfl
theorem l_0_629 : look (tab 0) 629 = some (.invokevirtual 53, 3, [5, 83, 4, 333, 334, 335, 2], uu) := by decide +kernel
theorem e_0_629 : den cf 0 629 L (w3 :: w2 :: w1 :: .ref a :: st) M = if rcv M 5 [.ref a, w1, w2, w3] = true ∧ st.length ≤ 4 then rK (cf 83 [.ref a, w1, w2, w3] M) (fun v M' => den cf 0 632 L (pR v st) M') else none := den_iv [w1, w2, w3] l_0_629 rfl
theorem l_0_632 : look (tab 0) 632 = some (.aload_n 2, 1, [], uu) := by decide +kernel
theorem e_0_632 : den cf 0 632 [v0, v1, v2, v3] st M = if isRf v2 = true then den cf 0 633 [v0, v1, v2, v3] (v2 :: st) M else none := den_g l_0_632 rfl
theorem l_0_633 : look (tab 0) 633 = some (.aload_n 0, 1, [], uu) := by decide +kernel
theorem e_0_633 : den cf 0 633 [v0, v1, v2, v3] st M = if isRf v0 = true then den cf 0 634 [v0, v1, v2, v3] (v0 :: st) M else none := den_g l_0_633 rfl
theorem l_0_634 : look (tab 0) 634 = some (.iload_n 3, 1, [], uu) := by decide +kernel
theorem e_0_634 : den cf 0 634 [v0, v1, v2, .int x] st M = den cf 0 635 [v0, v1, v2, .int x] (.int x :: st) M := den_go l_0_634 rfl
theorem l_0_635 : look (tab 0) 635 = some (.iconst 1, 1, [], .int (zI 1)) := by decide +kernel
theorem e_0_635 : den cf 0 635 L st M = den cf 0 636 L (.int (zI 1) :: st) M := den_go l_0_635 rfl
theorem l_0_636 : look (tab 0) 636 = some (.iadd, 1, [], uu) := by decide +kernel
theorem e_0_636 : den cf 0 636 L (.int y :: .int x :: st) M = den cf 0 637 L (.int (x + y) :: st) M := den_go l_0_636 rfl
theorem l_0_637 : look (tab 0) 637 = some (.iaload, 1, [], uu) := by decide +kernel
theorem e_0_637 : den cf 0 637 L (.int x :: .ref a :: st) M = oK (ldI (M.2.2 a) x) (fun v => den cf 0 638 L (v :: st) M) := den_al (g := ldI) l_0_637 rfl
theorem l_0_638 : look (tab 0) 638 = some (.aload_n 0, 1, [], uu) := by decide +kernel
theorem e_0_638 : den cf 0 638 [v0, v1, v2, v3] st M = if isRf v0 = true then den cf 0 639 [v0, v1, v2, v3] (v0 :: st) M else none := den_g l_0_638 rfl
theorem l_0_639 : look (tab 0) 639 = some (.iload_n 3, 1, [], uu) := by decide +kernel
theorem e_0_639 : den cf 0 639 [v0, v1, v2, .int x] st M = den cf 0 640 [v0, v1, v2, .int x] (.int x :: st) M := den_go l_0_639 rfl
theorem l_0_640 : look (tab 0) 640 = some (.iconst 2, 1, [], .int (zI 2)) := by decide +kernel
theorem e_0_640 : den cf 0 640 L st M = den cf 0 641 L (.int (zI 2) :: st) M := den_go l_0_640 rfl
theorem l_0_641 : look (tab 0) 641 = some (.iadd, 1, [], uu) := by decide +kernel
theorem e_0_641 : den cf 0 641 L (.int y :: .int x :: st) M = den cf 0 642 L (.int (x + y) :: st) M := den_go l_0_641 rfl
theorem l_0_642 : look (tab 0) 642 = some (.iaload, 1, [], uu) := by decide +kernel
theorem e_0_642 : den cf 0 642 L (.int x :: .ref a :: st) M = oK (ldI (M.2.2 a) x) (fun v => den cf 0 643 L (v :: st) M) := den_al (g := ldI) l_0_642 rfl
theorem l_0_643 : look (tab 0) 643 = some (.aload_n 0, 1, [], uu) := by decide +kernel
theorem e_0_643 : den cf 0 643 [v0, v1, v2, v3] st M = if isRf v0 = true then den cf 0 644 [v0, v1, v2, v3] (v0 :: st) M else none := den_g l_0_643 rfl
theorem l_0_644 : look (tab 0) 644 = some (.iload_n 3, 1, [], uu) := by decide +kernel
theorem e_0_644 : den cf 0 644 [v0, v1, v2, .int x] st M = den cf 0 645 [v0, v1, v2, .int x] (.int x :: st) M := den_go l_0_644 rfl
theorem l_0_645 : look (tab 0) 645 = some (.iconst 3, 1, [], .int (zI 3)) := by decide +kernel
theorem e_0_645 : den cf 0 645 L st M = den cf 0 646 L (.int (zI 3) :: st) M := den_go l_0_645 rfl
theorem l_0_646 : look (tab 0) 646 = some (.iadd, 1, [], uu) := by decide +kernel
theorem e_0_646 : den cf 0 646 L (.int y :: .int x :: st) M = den cf 0 647 L (.int (x + y) :: st) M := den_go l_0_646 rfl
theorem l_0_647 : look (tab 0) 647 = some (.iaload, 1, [], uu) := by decide +kernel
theorem e_0_647 : den cf 0 647 L (.int x :: .ref a :: st) M = oK (ldI (M.2.2 a) x) (fun v => den cf 0 648 L (v :: st) M) := den_al (g := ldI) l_0_647 rfl
theorem l_0_648 : look (tab 0) 648 = some (.ifCond .eq 7, 3, [655], uu) := by decide +kernel
theorem e_0_648 : den cf 0 648 L (.int x :: st) M = if x = zI 0 then den cf 0 655 L st M else den cf 0 651 L st M := den_if_eq l_0_648
theorem l_0_651 : look (tab 0) 651 = some (.iconst 1, 1, [], .int (zI 1)) := by decide +kernel
theorem e_0_651 : den cf 0 651 L st M = den cf 0 652 L (.int (zI 1) :: st) M := den_go l_0_651 rfl
theorem l_0_652 : look (tab 0) 652 = some (.goto 4, 3, [656], uu) := by decide +kernel
theorem e_0_652 : den cf 0 652 L st M = den cf 0 656 L st M := den_go l_0_652 rfl
theorem l_0_655 : look (tab 0) 655 = some (.iconst 0, 1, [], .int (zI 0)) := by decide +kernel
theorem e_0_655 : den cf 0 655 L st M = den cf 0 656 L (.int (zI 0) :: st) M := den_go l_0_655 rfl
theorem l_0_656 : look (tab 0) 656 = some (.invokevirtual 57, 3, [6, 152, 4, 337, 338, 339, 5], uu) := by decide +kernel
theorem e_0_656 : den cf 0 656 L (w3 :: w2 :: w1 :: .ref a :: st) M = if rcv M 6 [.ref a, w1, w2, w3] = true ∧ st.length ≤ 4 then rK (cf 152 [.ref a, w1, w2, w3] M) (fun v M' => den cf 0 659 L (pR v st) M') else none := den_iv [w1, w2, w3] l_0_656 rfl
theorem l_0_659 : look (tab 0) 659 = some (.if_icmp .eq 1097, 3, [1756], uu) := by decide +kernel
theorem e_0_659 : den cf 0 659 L (.int y :: .int x :: st) M = if x = y then den cf 0 1756 L st M else den cf 0 662 L st M := den_ic_eq l_0_659
theorem l_0_662 : look (tab 0) 662 = some (.iconst 0, 1, [], .int (zI 0)) := by decide +kernel
theorem e_0_662 : den cf 0 662 L st M = den cf 0 663 L (.int (zI 0) :: st) M := den_go l_0_662 rfl
theorem l_0_663 : look (tab 0) 663 = some (.ireturn, 1, [1], uu) := by decide +kernel
theorem e_0_663 : den cf 0 663 L [.int x] M = if x = zI 0 ∨ x = zI 1 then some (some (.int x), M) else none := den_e1 l_0_663
theorem l_0_664 : look (tab 0) 664 = some (.aload_n 1, 1, [], uu) := by decide +kernel
theorem e_0_664 : den cf 0 664 [v0, v1, v2, v3] st M = if isRf v1 = true then den cf 0 665 [v0, v1, v2, v3] (v1 :: st) M else none := den_g l_0_664 rfl
theorem l_0_665 : look (tab 0) 665 = some (.aload_n 0, 1, [], uu) := by decide +kernel
theorem e_0_665 : den cf 0 665 [v0, v1, v2, v3] st M = if isRf v0 = true then den cf 0 666 [v0, v1, v2, v3] (v0 :: st) M else none := den_g l_0_665 rfl
theorem l_0_666 : look (tab 0) 666 = some (.iload_n 3, 1, [], uu) := by decide +kernel
theorem e_0_666 : den cf 0 666 [v0, v1, v2, .int x] st M = den cf 0 667 [v0, v1, v2, .int x] (.int x :: st) M := den_go l_0_666 rfl
theorem l_0_667 : look (tab 0) 667 = some (.iconst 1, 1, [], .int (zI 1)) := by decide +kernel
theorem e_0_667 : den cf 0 667 L st M = den cf 0 668 L (.int (zI 1) :: st) M := den_go l_0_667 rfl
theorem l_0_668 : look (tab 0) 668 = some (.iadd, 1, [], uu) := by decide +kernel
theorem e_0_668 : den cf 0 668 L (.int y :: .int x :: st) M = den cf 0 669 L (.int (x + y) :: st) M := den_go l_0_668 rfl
theorem l_0_669 : look (tab 0) 669 = some (.iaload, 1, [], uu) := by decide +kernel
theorem e_0_669 : den cf 0 669 L (.int x :: .ref a :: st) M = oK (ldI (M.2.2 a) x) (fun v => den cf 0 670 L (v :: st) M) := den_al (g := ldI) l_0_669 rfl
theorem l_0_670 : look (tab 0) 670 = some (.aload_n 0, 1, [], uu) := by decide +kernel
theorem e_0_670 : den cf 0 670 [v0, v1, v2, v3] st M = if isRf v0 = true then den cf 0 671 [v0, v1, v2, v3] (v0 :: st) M else none := den_g l_0_670 rfl
theorem l_0_671 : look (tab 0) 671 = some (.iload_n 3, 1, [], uu) := by decide +kernel
theorem e_0_671 : den cf 0 671 [v0, v1, v2, .int x] st M = den cf 0 672 [v0, v1, v2, .int x] (.int x :: st) M := den_go l_0_671 rfl
theorem l_0_672 : look (tab 0) 672 = some (.iconst 2, 1, [], .int (zI 2)) := by decide +kernel
theorem e_0_672 : den cf 0 672 L st M = den cf 0 673 L (.int (zI 2) :: st) M := den_go l_0_672 rfl
theorem l_0_673 : look (tab 0) 673 = some (.iadd, 1, [], uu) := by decide +kernel
theorem e_0_673 : den cf 0 673 L (.int y :: .int x :: st) M = den cf 0 674 L (.int (x + y) :: st) M := den_go l_0_673 rfl
theorem l_0_674 : look (tab 0) 674 = some (.iaload, 1, [], uu) := by decide +kernel
theorem e_0_674 : den cf 0 674 L (.int x :: .ref a :: st) M = oK (ldI (M.2.2 a) x) (fun v => den cf 0 675 L (v :: st) M) := den_al (g := ldI) l_0_674 rfl
theorem l_0_675 : look (tab 0) 675 = some (.invokevirtual 58, 3, [5, 84, 3, 341, 342, 343, 2], uu) := by decide +kernel
theorem e_0_675 : den cf 0 675 L (w2 :: w1 :: .ref a :: st) M = if rcv M 5 [.ref a, w1, w2] = true ∧ st.length ≤ 4 then rK (cf 84 [.ref a, w1, w2] M) (fun v M' => den cf 0 678 L (pR v st) M') else none := den_iv [w1, w2] l_0_675 rfl
theorem l_0_678 : look (tab 0) 678 = some (.aload_n 2, 1, [], uu) := by decide +kernel
theorem e_0_678 : den cf 0 678 [v0, v1, v2, v3] st M = if isRf v2 = true then den cf 0 679 [v0, v1, v2, v3] (v2 :: st) M else none := den_g l_0_678 rfl
theorem l_0_679 : look (tab 0) 679 = some (.aload_n 0, 1, [], uu) := by decide +kernel
theorem e_0_679 : den cf 0 679 [v0, v1, v2, v3] st M = if isRf v0 = true then den cf 0 680 [v0, v1, v2, v3] (v0 :: st) M else none := den_g l_0_679 rfl
theorem l_0_680 : look (tab 0) 680 = some (.iload_n 3, 1, [], uu) := by decide +kernel
theorem e_0_680 : den cf 0 680 [v0, v1, v2, .int x] st M = den cf 0 681 [v0, v1, v2, .int x] (.int x :: st) M := den_go l_0_680 rfl
theorem l_0_681 : look (tab 0) 681 = some (.iconst 1, 1, [], .int (zI 1)) := by decide +kernel
theorem e_0_681 : den cf 0 681 L st M = den cf 0 682 L (.int (zI 1) :: st) M := den_go l_0_681 rfl
theorem l_0_682 : look (tab 0) 682 = some (.iadd, 1, [], uu) := by decide +kernel
theorem e_0_682 : den cf 0 682 L (.int y :: .int x :: st) M = den cf 0 683 L (.int (x + y) :: st) M := den_go l_0_682 rfl
theorem l_0_683 : look (tab 0) 683 = some (.iaload, 1, [], uu) := by decide +kernel
theorem e_0_683 : den cf 0 683 L (.int x :: .ref a :: st) M = oK (ldI (M.2.2 a) x) (fun v => den cf 0 684 L (v :: st) M) := den_al (g := ldI) l_0_683 rfl
theorem l_0_684 : look (tab 0) 684 = some (.aload_n 0, 1, [], uu) := by decide +kernel
theorem e_0_684 : den cf 0 684 [v0, v1, v2, v3] st M = if isRf v0 = true then den cf 0 685 [v0, v1, v2, v3] (v0 :: st) M else none := den_g l_0_684 rfl
theorem l_0_685 : look (tab 0) 685 = some (.iload_n 3, 1, [], uu) := by decide +kernel
theorem e_0_685 : den cf 0 685 [v0, v1, v2, .int x] st M = den cf 0 686 [v0, v1, v2, .int x] (.int x :: st) M := den_go l_0_685 rfl
theorem l_0_686 : look (tab 0) 686 = some (.iconst 2, 1, [], .int (zI 2)) := by decide +kernel
theorem e_0_686 : den cf 0 686 L st M = den cf 0 687 L (.int (zI 2) :: st) M := den_go l_0_686 rfl
theorem l_0_687 : look (tab 0) 687 = some (.iadd, 1, [], uu) := by decide +kernel
theorem e_0_687 : den cf 0 687 L (.int y :: .int x :: st) M = den cf 0 688 L (.int (x + y) :: st) M := den_go l_0_687 rfl
theorem l_0_688 : look (tab 0) 688 = some (.iaload, 1, [], uu) := by decide +kernel
theorem e_0_688 : den cf 0 688 L (.int x :: .ref a :: st) M = oK (ldI (M.2.2 a) x) (fun v => den cf 0 689 L (v :: st) M) := den_al (g := ldI) l_0_688 rfl
theorem l_0_689 : look (tab 0) 689 = some (.invokevirtual 61, 3, [6, 157, 3, 354, 355, 356, 5], uu) := by decide +kernel
theorem e_0_689 : den cf 0 689 L (w2 :: w1 :: .ref a :: st) M = if rcv M 6 [.ref a, w1, w2] = true ∧ st.length ≤ 4 then rK (cf 157 [.ref a, w1, w2] M) (fun v M' => den cf 0 692 L (pR v st) M') else none := den_iv [w1, w2] l_0_689 rfl
theorem l_0_692 : look (tab 0) 692 = some (.if_icmp .eq 1064, 3, [1756], uu) := by decide +kernel
theorem e_0_692 : den cf 0 692 L (.int y :: .int x :: st) M = if x = y then den cf 0 1756 L st M else den cf 0 695 L st M := den_ic_eq l_0_692
theorem l_0_695 : look (tab 0) 695 = some (.iconst 0, 1, [], .int (zI 0)) := by decide +kernel
theorem e_0_695 : den cf 0 695 L st M = den cf 0 696 L (.int (zI 0) :: st) M := den_go l_0_695 rfl
theorem l_0_696 : look (tab 0) 696 = some (.ireturn, 1, [1], uu) := by decide +kernel
theorem e_0_696 : den cf 0 696 L [.int x] M = if x = zI 0 ∨ x = zI 1 then some (some (.int x), M) else none := den_e1 l_0_696
theorem l_0_697 : look (tab 0) 697 = some (.aload_n 1, 1, [], uu) := by decide +kernel
theorem e_0_697 : den cf 0 697 [v0, v1, v2, v3] st M = if isRf v1 = true then den cf 0 698 [v0, v1, v2, v3] (v1 :: st) M else none := den_g l_0_697 rfl
theorem l_0_698 : look (tab 0) 698 = some (.aload_n 0, 1, [], uu) := by decide +kernel
theorem e_0_698 : den cf 0 698 [v0, v1, v2, v3] st M = if isRf v0 = true then den cf 0 699 [v0, v1, v2, v3] (v0 :: st) M else none := den_g l_0_698 rfl
theorem l_0_699 : look (tab 0) 699 = some (.iload_n 3, 1, [], uu) := by decide +kernel
theorem e_0_699 : den cf 0 699 [v0, v1, v2, .int x] st M = den cf 0 700 [v0, v1, v2, .int x] (.int x :: st) M := den_go l_0_699 rfl
theorem l_0_700 : look (tab 0) 700 = some (.iconst 1, 1, [], .int (zI 1)) := by decide +kernel
theorem e_0_700 : den cf 0 700 L st M = den cf 0 701 L (.int (zI 1) :: st) M := den_go l_0_700 rfl
theorem l_0_701 : look (tab 0) 701 = some (.iadd, 1, [], uu) := by decide +kernel
theorem e_0_701 : den cf 0 701 L (.int y :: .int x :: st) M = den cf 0 702 L (.int (x + y) :: st) M := den_go l_0_701 rfl
theorem l_0_702 : look (tab 0) 702 = some (.iaload, 1, [], uu) := by decide +kernel
theorem e_0_702 : den cf 0 702 L (.int x :: .ref a :: st) M = oK (ldI (M.2.2 a) x) (fun v => den cf 0 703 L (v :: st) M) := den_al (g := ldI) l_0_702 rfl
theorem l_0_703 : look (tab 0) 703 = some (.invokevirtual 62, 3, [5, 85, 2, 370, 371, 372, 2], uu) := by decide +kernel
theorem e_0_703 : den cf 0 703 L (w1 :: .ref a :: st) M = if rcv M 5 [.ref a, w1] = true ∧ st.length ≤ 4 then rK (cf 85 [.ref a, w1] M) (fun v M' => den cf 0 706 L (pR v st) M') else none := den_iv [w1] l_0_703 rfl
theorem l_0_706 : look (tab 0) 706 = some (.aload_n 2, 1, [], uu) := by decide +kernel
theorem e_0_706 : den cf 0 706 [v0, v1, v2, v3] st M = if isRf v2 = true then den cf 0 707 [v0, v1, v2, v3] (v2 :: st) M else none := den_g l_0_706 rfl
theorem l_0_707 : look (tab 0) 707 = some (.aload_n 0, 1, [], uu) := by decide +kernel
theorem e_0_707 : den cf 0 707 [v0, v1, v2, v3] st M = if isRf v0 = true then den cf 0 708 [v0, v1, v2, v3] (v0 :: st) M else none := den_g l_0_707 rfl
theorem l_0_708 : look (tab 0) 708 = some (.iload_n 3, 1, [], uu) := by decide +kernel
theorem e_0_708 : den cf 0 708 [v0, v1, v2, .int x] st M = den cf 0 709 [v0, v1, v2, .int x] (.int x :: st) M := den_go l_0_708 rfl
theorem l_0_709 : look (tab 0) 709 = some (.iconst 1, 1, [], .int (zI 1)) := by decide +kernel
theorem e_0_709 : den cf 0 709 L st M = den cf 0 710 L (.int (zI 1) :: st) M := den_go l_0_709 rfl
theorem l_0_710 : look (tab 0) 710 = some (.iadd, 1, [], uu) := by decide +kernel
theorem e_0_710 : den cf 0 710 L (.int y :: .int x :: st) M = den cf 0 711 L (.int (x + y) :: st) M := den_go l_0_710 rfl
theorem l_0_711 : look (tab 0) 711 = some (.iaload, 1, [], uu) := by decide +kernel
theorem e_0_711 : den cf 0 711 L (.int x :: .ref a :: st) M = oK (ldI (M.2.2 a) x) (fun v => den cf 0 712 L (v :: st) M) := den_al (g := ldI) l_0_711 rfl
theorem l_0_712 : look (tab 0) 712 = some (.invokevirtual 65, 3, [6, 159, 2, 379, 380, 381, 5], uu) := by decide +kernel
theorem e_0_712 : den cf 0 712 L (w1 :: .ref a :: st) M = if rcv M 6 [.ref a, w1] = true ∧ st.length ≤ 4 then rK (cf 159 [.ref a, w1] M) (fun v M' => den cf 0 715 L (pR v st) M') else none := den_iv [w1] l_0_712 rfl
theorem l_0_715 : look (tab 0) 715 = some (.if_icmp .eq 1041, 3, [1756], uu) := by decide +kernel
theorem e_0_715 : den cf 0 715 L (.int y :: .int x :: st) M = if x = y then den cf 0 1756 L st M else den cf 0 718 L st M := den_ic_eq l_0_715
theorem l_0_718 : look (tab 0) 718 = some (.iconst 0, 1, [], .int (zI 0)) := by decide +kernel
theorem e_0_718 : den cf 0 718 L st M = den cf 0 719 L (.int (zI 0) :: st) M := den_go l_0_718 rfl
theorem l_0_719 : look (tab 0) 719 = some (.ireturn, 1, [1], uu) := by decide +kernel
theorem e_0_719 : den cf 0 719 L [.int x] M = if x = zI 0 ∨ x = zI 1 then some (some (.int x), M) else none := den_e1 l_0_719
theorem l_0_720 : look (tab 0) 720 = some (.aload_n 1, 1, [], uu) := by decide +kernel
theorem e_0_720 : den cf 0 720 [v0, v1, v2, v3] st M = if isRf v1 = true then den cf 0 721 [v0, v1, v2, v3] (v1 :: st) M else none := den_g l_0_720 rfl
theorem l_0_721 : look (tab 0) 721 = some (.aload_n 0, 1, [], uu) := by decide +kernel
theorem e_0_721 : den cf 0 721 [v0, v1, v2, v3] st M = if isRf v0 = true then den cf 0 722 [v0, v1, v2, v3] (v0 :: st) M else none := den_g l_0_721 rfl
theorem l_0_722 : look (tab 0) 722 = some (.iload_n 3, 1, [], uu) := by decide +kernel
theorem e_0_722 : den cf 0 722 [v0, v1, v2, .int x] st M = den cf 0 723 [v0, v1, v2, .int x] (.int x :: st) M := den_go l_0_722 rfl
theorem l_0_723 : look (tab 0) 723 = some (.iconst 1, 1, [], .int (zI 1)) := by decide +kernel
theorem e_0_723 : den cf 0 723 L st M = den cf 0 724 L (.int (zI 1) :: st) M := den_go l_0_723 rfl
theorem l_0_724 : look (tab 0) 724 = some (.iadd, 1, [], uu) := by decide +kernel
theorem e_0_724 : den cf 0 724 L (.int y :: .int x :: st) M = den cf 0 725 L (.int (x + y) :: st) M := den_go l_0_724 rfl
theorem l_0_725 : look (tab 0) 725 = some (.iaload, 1, [], uu) := by decide +kernel
theorem e_0_725 : den cf 0 725 L (.int x :: .ref a :: st) M = oK (ldI (M.2.2 a) x) (fun v => den cf 0 726 L (v :: st) M) := den_al (g := ldI) l_0_725 rfl
theorem l_0_726 : look (tab 0) 726 = some (.aload_n 0, 1, [], uu) := by decide +kernel
theorem e_0_726 : den cf 0 726 [v0, v1, v2, v3] st M = if isRf v0 = true then den cf 0 727 [v0, v1, v2, v3] (v0 :: st) M else none := den_g l_0_726 rfl
theorem l_0_727 : look (tab 0) 727 = some (.iload_n 3, 1, [], uu) := by decide +kernel
theorem e_0_727 : den cf 0 727 [v0, v1, v2, .int x] st M = den cf 0 728 [v0, v1, v2, .int x] (.int x :: st) M := den_go l_0_727 rfl
theorem l_0_728 : look (tab 0) 728 = some (.iconst 2, 1, [], .int (zI 2)) := by decide +kernel
theorem e_0_728 : den cf 0 728 L st M = den cf 0 729 L (.int (zI 2) :: st) M := den_go l_0_728 rfl
theorem l_0_729 : look (tab 0) 729 = some (.iadd, 1, [], uu) := by decide +kernel
theorem e_0_729 : den cf 0 729 L (.int y :: .int x :: st) M = den cf 0 730 L (.int (x + y) :: st) M := den_go l_0_729 rfl
theorem l_0_730 : look (tab 0) 730 = some (.iaload, 1, [], uu) := by decide +kernel
theorem e_0_730 : den cf 0 730 L (.int x :: .ref a :: st) M = oK (ldI (M.2.2 a) x) (fun v => den cf 0 731 L (v :: st) M) := den_al (g := ldI) l_0_730 rfl
theorem l_0_731 : look (tab 0) 731 = some (.invokevirtual 66, 3, [5, 86, 3, 387, 388, 389, 2], uu) := by decide +kernel
theorem e_0_731 : den cf 0 731 L (w2 :: w1 :: .ref a :: st) M = if rcv M 5 [.ref a, w1, w2] = true ∧ st.length ≤ 4 then rK (cf 86 [.ref a, w1, w2] M) (fun v M' => den cf 0 734 L (pR v st) M') else none := den_iv [w1, w2] l_0_731 rfl
theorem l_0_734 : look (tab 0) 734 = some (.aload_n 2, 1, [], uu) := by decide +kernel
theorem e_0_734 : den cf 0 734 [v0, v1, v2, v3] st M = if isRf v2 = true then den cf 0 735 [v0, v1, v2, v3] (v2 :: st) M else none := den_g l_0_734 rfl
theorem l_0_735 : look (tab 0) 735 = some (.aload_n 0, 1, [], uu) := by decide +kernel
theorem e_0_735 : den cf 0 735 [v0, v1, v2, v3] st M = if isRf v0 = true then den cf 0 736 [v0, v1, v2, v3] (v0 :: st) M else none := den_g l_0_735 rfl
theorem l_0_736 : look (tab 0) 736 = some (.iload_n 3, 1, [], uu) := by decide +kernel
theorem e_0_736 : den cf 0 736 [v0, v1, v2, .int x] st M = den cf 0 737 [v0, v1, v2, .int x] (.int x :: st) M := den_go l_0_736 rfl
theorem l_0_737 : look (tab 0) 737 = some (.iconst 1, 1, [], .int (zI 1)) := by decide +kernel
theorem e_0_737 : den cf 0 737 L st M = den cf 0 738 L (.int (zI 1) :: st) M := den_go l_0_737 rfl
theorem l_0_738 : look (tab 0) 738 = some (.iadd, 1, [], uu) := by decide +kernel
theorem e_0_738 : den cf 0 738 L (.int y :: .int x :: st) M = den cf 0 739 L (.int (x + y) :: st) M := den_go l_0_738 rfl
theorem l_0_739 : look (tab 0) 739 = some (.iaload, 1, [], uu) := by decide +kernel
theorem e_0_739 : den cf 0 739 L (.int x :: .ref a :: st) M = oK (ldI (M.2.2 a) x) (fun v => den cf 0 740 L (v :: st) M) := den_al (g := ldI) l_0_739 rfl
theorem l_0_740 : look (tab 0) 740 = some (.aload_n 0, 1, [], uu) := by decide +kernel
theorem e_0_740 : den cf 0 740 [v0, v1, v2, v3] st M = if isRf v0 = true then den cf 0 741 [v0, v1, v2, v3] (v0 :: st) M else none := den_g l_0_740 rfl
theorem l_0_741 : look (tab 0) 741 = some (.iload_n 3, 1, [], uu) := by decide +kernel
theorem e_0_741 : den cf 0 741 [v0, v1, v2, .int x] st M = den cf 0 742 [v0, v1, v2, .int x] (.int x :: st) M := den_go l_0_741 rfl
theorem l_0_742 : look (tab 0) 742 = some (.iconst 2, 1, [], .int (zI 2)) := by decide +kernel
theorem e_0_742 : den cf 0 742 L st M = den cf 0 743 L (.int (zI 2) :: st) M := den_go l_0_742 rfl
theorem l_0_743 : look (tab 0) 743 = some (.iadd, 1, [], uu) := by decide +kernel
theorem e_0_743 : den cf 0 743 L (.int y :: .int x :: st) M = den cf 0 744 L (.int (x + y) :: st) M := den_go l_0_743 rfl
theorem l_0_744 : look (tab 0) 744 = some (.iaload, 1, [], uu) := by decide +kernel
theorem e_0_744 : den cf 0 744 L (.int x :: .ref a :: st) M = oK (ldI (M.2.2 a) x) (fun v => den cf 0 745 L (v :: st) M) := den_al (g := ldI) l_0_744 rfl
theorem l_0_745 : look (tab 0) 745 = some (.invokevirtual 69, 3, [6, 160, 3, 394, 395, 396, 5], uu) := by decide +kernel
theorem e_0_745 : den cf 0 745 L (w2 :: w1 :: .ref a :: st) M = if rcv M 6 [.ref a, w1, w2] = true ∧ st.length ≤ 4 then rK (cf 160 [.ref a, w1, w2] M) (fun v M' => den cf 0 748 L (pR v st) M') else none := den_iv [w1, w2] l_0_745 rfl
theorem l_0_748 : look (tab 0) 748 = some (.if_icmp .eq 1008, 3, [1756], uu) := by decide +kernel
theorem e_0_748 : den cf 0 748 L (.int y :: .int x :: st) M = if x = y then den cf 0 1756 L st M else den cf 0 751 L st M := den_ic_eq l_0_748
theorem l_0_751 : look (tab 0) 751 = some (.iconst 0, 1, [], .int (zI 0)) := by decide +kernel
theorem e_0_751 : den cf 0 751 L st M = den cf 0 752 L (.int (zI 0) :: st) M := den_go l_0_751 rfl
theorem l_0_752 : look (tab 0) 752 = some (.ireturn, 1, [1], uu) := by decide +kernel
theorem e_0_752 : den cf 0 752 L [.int x] M = if x = zI 0 ∨ x = zI 1 then some (some (.int x), M) else none := den_e1 l_0_752
theorem l_0_753 : look (tab 0) 753 = some (.aload_n 1, 1, [], uu) := by decide +kernel
theorem e_0_753 : den cf 0 753 [v0, v1, v2, v3] st M = if isRf v1 = true then den cf 0 754 [v0, v1, v2, v3] (v1 :: st) M else none := den_g l_0_753 rfl
theorem l_0_754 : look (tab 0) 754 = some (.aload_n 0, 1, [], uu) := by decide +kernel
theorem e_0_754 : den cf 0 754 [v0, v1, v2, v3] st M = if isRf v0 = true then den cf 0 755 [v0, v1, v2, v3] (v0 :: st) M else none := den_g l_0_754 rfl
theorem l_0_755 : look (tab 0) 755 = some (.iload_n 3, 1, [], uu) := by decide +kernel
theorem e_0_755 : den cf 0 755 [v0, v1, v2, .int x] st M = den cf 0 756 [v0, v1, v2, .int x] (.int x :: st) M := den_go l_0_755 rfl
theorem l_0_756 : look (tab 0) 756 = some (.iconst 1, 1, [], .int (zI 1)) := by decide +kernel
theorem e_0_756 : den cf 0 756 L st M = den cf 0 757 L (.int (zI 1) :: st) M := den_go l_0_756 rfl
theorem l_0_757 : look (tab 0) 757 = some (.iadd, 1, [], uu) := by decide +kernel
theorem e_0_757 : den cf 0 757 L (.int y :: .int x :: st) M = den cf 0 758 L (.int (x + y) :: st) M := den_go l_0_757 rfl
theorem l_0_758 : look (tab 0) 758 = some (.iaload, 1, [], uu) := by decide +kernel
theorem e_0_758 : den cf 0 758 L (.int x :: .ref a :: st) M = oK (ldI (M.2.2 a) x) (fun v => den cf 0 759 L (v :: st) M) := den_al (g := ldI) l_0_758 rfl
theorem l_0_759 : look (tab 0) 759 = some (.invokevirtual 70, 3, [5, 87, 2, 400, 401, 402, 2], uu) := by decide +kernel
theorem e_0_759 : den cf 0 759 L (w1 :: .ref a :: st) M = if rcv M 5 [.ref a, w1] = true ∧ st.length ≤ 4 then rK (cf 87 [.ref a, w1] M) (fun v M' => den cf 0 762 L (pR v st) M') else none := den_iv [w1] l_0_759 rfl
theorem l_0_762 : look (tab 0) 762 = some (.aload_n 2, 1, [], uu) := by decide +kernel
theorem e_0_762 : den cf 0 762 [v0, v1, v2, v3] st M = if isRf v2 = true then den cf 0 763 [v0, v1, v2, v3] (v2 :: st) M else none := den_g l_0_762 rfl
theorem l_0_763 : look (tab 0) 763 = some (.aload_n 0, 1, [], uu) := by decide +kernel
theorem e_0_763 : den cf 0 763 [v0, v1, v2, v3] st M = if isRf v0 = true then den cf 0 764 [v0, v1, v2, v3] (v0 :: st) M else none := den_g l_0_763 rfl
theorem l_0_764 : look (tab 0) 764 = some (.iload_n 3, 1, [], uu) := by decide +kernel
theorem e_0_764 : den cf 0 764 [v0, v1, v2, .int x] st M = den cf 0 765 [v0, v1, v2, .int x] (.int x :: st) M := den_go l_0_764 rfl
theorem l_0_765 : look (tab 0) 765 = some (.iconst 1, 1, [], .int (zI 1)) := by decide +kernel
theorem e_0_765 : den cf 0 765 L st M = den cf 0 766 L (.int (zI 1) :: st) M := den_go l_0_765 rfl
theorem l_0_766 : look (tab 0) 766 = some (.iadd, 1, [], uu) := by decide +kernel
theorem e_0_766 : den cf 0 766 L (.int y :: .int x :: st) M = den cf 0 767 L (.int (x + y) :: st) M := den_go l_0_766 rfl
theorem l_0_767 : look (tab 0) 767 = some (.iaload, 1, [], uu) := by decide +kernel
theorem e_0_767 : den cf 0 767 L (.int x :: .ref a :: st) M = oK (ldI (M.2.2 a) x) (fun v => den cf 0 768 L (v :: st) M) := den_al (g := ldI) l_0_767 rfl
theorem l_0_768 : look (tab 0) 768 = some (.invokevirtual 73, 3, [6, 161, 2, 409, 410, 411, 5], uu) := by decide +kernel
theorem e_0_768 : den cf 0 768 L (w1 :: .ref a :: st) M = if rcv M 6 [.ref a, w1] = true ∧ st.length ≤ 4 then rK (cf 161 [.ref a, w1] M) (fun v M' => den cf 0 771 L (pR v st) M') else none := den_iv [w1] l_0_768 rfl
theorem l_0_771 : look (tab 0) 771 = some (.if_icmp .eq 985, 3, [1756], uu) := by decide +kernel
theorem e_0_771 : den cf 0 771 L (.int y :: .int x :: st) M = if x = y then den cf 0 1756 L st M else den cf 0 774 L st M := den_ic_eq l_0_771
theorem l_0_774 : look (tab 0) 774 = some (.iconst 0, 1, [], .int (zI 0)) := by decide +kernel
theorem e_0_774 : den cf 0 774 L st M = den cf 0 775 L (.int (zI 0) :: st) M := den_go l_0_774 rfl
theorem l_0_775 : look (tab 0) 775 = some (.ireturn, 1, [1], uu) := by decide +kernel
theorem e_0_775 : den cf 0 775 L [.int x] M = if x = zI 0 ∨ x = zI 1 then some (some (.int x), M) else none := den_e1 l_0_775
theorem l_0_776 : look (tab 0) 776 = some (.aload_n 1, 1, [], uu) := by decide +kernel
theorem e_0_776 : den cf 0 776 [v0, v1, v2, v3] st M = if isRf v1 = true then den cf 0 777 [v0, v1, v2, v3] (v1 :: st) M else none := den_g l_0_776 rfl
theorem l_0_777 : look (tab 0) 777 = some (.invokevirtual 74, 3, [5, 88, 1, 415, 416, 417, 2], uu) := by decide +kernel
theorem e_0_777 : den cf 0 777 L (.ref a :: st) M = if rcv M 5 [.ref a] = true ∧ st.length ≤ 4 then rK (cf 88 [.ref a] M) (fun v M' => den cf 0 780 L (pR v st) M') else none := den_iv [] l_0_777 rfl
theorem l_0_780 : look (tab 0) 780 = some (.aload_n 2, 1, [], uu) := by decide +kernel
theorem e_0_780 : den cf 0 780 [v0, v1, v2, v3] st M = if isRf v2 = true then den cf 0 781 [v0, v1, v2, v3] (v2 :: st) M else none := den_g l_0_780 rfl
theorem l_0_781 : look (tab 0) 781 = some (.invokevirtual 78, 3, [6, 162, 1, 419, 420, 421, 5], uu) := by decide +kernel
theorem e_0_781 : den cf 0 781 L (.ref a :: st) M = if rcv M 6 [.ref a] = true ∧ st.length ≤ 4 then rK (cf 162 [.ref a] M) (fun v M' => den cf 0 784 L (pR v st) M') else none := den_iv [] l_0_781 rfl
theorem l_0_784 : look (tab 0) 784 = some (.if_icmp .eq 972, 3, [1756], uu) := by decide +kernel
theorem e_0_784 : den cf 0 784 L (.int y :: .int x :: st) M = if x = y then den cf 0 1756 L st M else den cf 0 787 L st M := den_ic_eq l_0_784
theorem l_0_787 : look (tab 0) 787 = some (.iconst 0, 1, [], .int (zI 0)) := by decide +kernel
theorem e_0_787 : den cf 0 787 L st M = den cf 0 788 L (.int (zI 0) :: st) M := den_go l_0_787 rfl
theorem l_0_788 : look (tab 0) 788 = some (.ireturn, 1, [1], uu) := by decide +kernel
theorem e_0_788 : den cf 0 788 L [.int x] M = if x = zI 0 ∨ x = zI 1 then some (some (.int x), M) else none := den_e1 l_0_788
theorem l_0_789 : look (tab 0) 789 = some (.aload_n 1, 1, [], uu) := by decide +kernel
theorem e_0_789 : den cf 0 789 [v0, v1, v2, v3] st M = if isRf v1 = true then den cf 0 790 [v0, v1, v2, v3] (v1 :: st) M else none := den_g l_0_789 rfl
theorem l_0_790 : look (tab 0) 790 = some (.invokevirtual 79, 3, [5, 89, 1, 423, 424, 425, 2], uu) := by decide +kernel
theorem e_0_790 : den cf 0 790 L (.ref a :: st) M = if rcv M 5 [.ref a] = true ∧ st.length ≤ 4 then rK (cf 89 [.ref a] M) (fun v M' => den cf 0 793 L (pR v st) M') else none := den_iv [] l_0_790 rfl
theorem l_0_793 : look (tab 0) 793 = some (.aload_n 2, 1, [], uu) := by decide +kernel
theorem e_0_793 : den cf 0 793 [v0, v1, v2, v3] st M = if isRf v2 = true then den cf 0 794 [v0, v1, v2, v3] (v2 :: st) M else none := den_g l_0_793 rfl
theorem l_0_794 : look (tab 0) 794 = some (.invokevirtual 82, 3, [6, 175, 1, 555, 556, 557, 5], uu) := by decide +kernel
theorem e_0_794 : den cf 0 794 L (.ref a :: st) M = if rcv M 6 [.ref a] = true ∧ st.length ≤ 4 then rK (cf 175 [.ref a] M) (fun v M' => den cf 0 797 L (pR v st) M') else none := den_iv [] l_0_794 rfl
theorem l_0_797 : look (tab 0) 797 = some (.if_icmp .eq 959, 3, [1756], uu) := by decide +kernel
theorem e_0_797 : den cf 0 797 L (.int y :: .int x :: st) M = if x = y then den cf 0 1756 L st M else den cf 0 800 L st M := den_ic_eq l_0_797
theorem l_0_800 : look (tab 0) 800 = some (.iconst 0, 1, [], .int (zI 0)) := by decide +kernel
theorem e_0_800 : den cf 0 800 L st M = den cf 0 801 L (.int (zI 0) :: st) M := den_go l_0_800 rfl
theorem l_0_801 : look (tab 0) 801 = some (.ireturn, 1, [1], uu) := by decide +kernel
theorem e_0_801 : den cf 0 801 L [.int x] M = if x = zI 0 ∨ x = zI 1 then some (some (.int x), M) else none := den_e1 l_0_801
theorem l_0_802 : look (tab 0) 802 = some (.aload_n 1, 1, [], uu) := by decide +kernel
theorem e_0_802 : den cf 0 802 [v0, v1, v2, v3] st M = if isRf v1 = true then den cf 0 803 [v0, v1, v2, v3] (v1 :: st) M else none := den_g l_0_802 rfl
theorem l_0_803 : look (tab 0) 803 = some (.aload_n 0, 1, [], uu) := by decide +kernel
theorem e_0_803 : den cf 0 803 [v0, v1, v2, v3] st M = if isRf v0 = true then den cf 0 804 [v0, v1, v2, v3] (v0 :: st) M else none := den_g l_0_803 rfl
theorem l_0_804 : look (tab 0) 804 = some (.iload_n 3, 1, [], uu) := by decide +kernel
theorem e_0_804 : den cf 0 804 [v0, v1, v2, .int x] st M = den cf 0 805 [v0, v1, v2, .int x] (.int x :: st) M := den_go l_0_804 rfl
theorem l_0_805 : look (tab 0) 805 = some (.iconst 1, 1, [], .int (zI 1)) := by decide +kernel
theorem e_0_805 : den cf 0 805 L st M = den cf 0 806 L (.int (zI 1) :: st) M := den_go l_0_805 rfl
theorem l_0_806 : look (tab 0) 806 = some (.iadd, 1, [], uu) := by decide +kernel
theorem e_0_806 : den cf 0 806 L (.int y :: .int x :: st) M = den cf 0 807 L (.int (x + y) :: st) M := den_go l_0_806 rfl
theorem l_0_807 : look (tab 0) 807 = some (.iaload, 1, [], uu) := by decide +kernel
theorem e_0_807 : den cf 0 807 L (.int x :: .ref a :: st) M = oK (ldI (M.2.2 a) x) (fun v => den cf 0 808 L (v :: st) M) := den_al (g := ldI) l_0_807 rfl
theorem l_0_808 : look (tab 0) 808 = some (.aload_n 0, 1, [], uu) := by decide +kernel
theorem e_0_808 : den cf 0 808 [v0, v1, v2, v3] st M = if isRf v0 = true then den cf 0 809 [v0, v1, v2, v3] (v0 :: st) M else none := den_g l_0_808 rfl
theorem l_0_809 : look (tab 0) 809 = some (.iload_n 3, 1, [], uu) := by decide +kernel
theorem e_0_809 : den cf 0 809 [v0, v1, v2, .int x] st M = den cf 0 810 [v0, v1, v2, .int x] (.int x :: st) M := den_go l_0_809 rfl
theorem l_0_810 : look (tab 0) 810 = some (.iconst 2, 1, [], .int (zI 2)) := by decide +kernel
theorem e_0_810 : den cf 0 810 L st M = den cf 0 811 L (.int (zI 2) :: st) M := den_go l_0_810 rfl
theorem l_0_811 : look (tab 0) 811 = some (.iadd, 1, [], uu) := by decide +kernel
theorem e_0_811 : den cf 0 811 L (.int y :: .int x :: st) M = den cf 0 812 L (.int (x + y) :: st) M := den_go l_0_811 rfl
theorem l_0_812 : look (tab 0) 812 = some (.iaload, 1, [], uu) := by decide +kernel
theorem e_0_812 : den cf 0 812 L (.int x :: .ref a :: st) M = oK (ldI (M.2.2 a) x) (fun v => den cf 0 813 L (v :: st) M) := den_al (g := ldI) l_0_812 rfl
theorem l_0_813 : look (tab 0) 813 = some (.invokevirtual 83, 3, [5, 90, 3, 624, 625, 626, 2], uu) := by decide +kernel
theorem e_0_813 : den cf 0 813 L (w2 :: w1 :: .ref a :: st) M = if rcv M 5 [.ref a, w1, w2] = true ∧ st.length ≤ 4 then rK (cf 90 [.ref a, w1, w2] M) (fun v M' => den cf 0 816 L (pR v st) M') else none := den_iv [w1, w2] l_0_813 rfl
theorem l_0_816 : look (tab 0) 816 = some (.aload_n 2, 1, [], uu) := by decide +kernel
theorem e_0_816 : den cf 0 816 [v0, v1, v2, v3] st M = if isRf v2 = true then den cf 0 817 [v0, v1, v2, v3] (v2 :: st) M else none := den_g l_0_816 rfl
theorem l_0_817 : look (tab 0) 817 = some (.aload_n 0, 1, [], uu) := by decide +kernel
theorem e_0_817 : den cf 0 817 [v0, v1, v2, v3] st M = if isRf v0 = true then den cf 0 818 [v0, v1, v2, v3] (v0 :: st) M else none := den_g l_0_817 rfl
theorem l_0_818 : look (tab 0) 818 = some (.iload_n 3, 1, [], uu) := by decide +kernel
theorem e_0_818 : den cf 0 818 [v0, v1, v2, .int x] st M = den cf 0 819 [v0, v1, v2, .int x] (.int x :: st) M := den_go l_0_818 rfl
theorem l_0_819 : look (tab 0) 819 = some (.iconst 1, 1, [], .int (zI 1)) := by decide +kernel
theorem e_0_819 : den cf 0 819 L st M = den cf 0 820 L (.int (zI 1) :: st) M := den_go l_0_819 rfl
theorem l_0_820 : look (tab 0) 820 = some (.iadd, 1, [], uu) := by decide +kernel
theorem e_0_820 : den cf 0 820 L (.int y :: .int x :: st) M = den cf 0 821 L (.int (x + y) :: st) M := den_go l_0_820 rfl
theorem l_0_821 : look (tab 0) 821 = some (.iaload, 1, [], uu) := by decide +kernel
theorem e_0_821 : den cf 0 821 L (.int x :: .ref a :: st) M = oK (ldI (M.2.2 a) x) (fun v => den cf 0 822 L (v :: st) M) := den_al (g := ldI) l_0_821 rfl
theorem l_0_822 : look (tab 0) 822 = some (.aload_n 0, 1, [], uu) := by decide +kernel
theorem e_0_822 : den cf 0 822 [v0, v1, v2, v3] st M = if isRf v0 = true then den cf 0 823 [v0, v1, v2, v3] (v0 :: st) M else none := den_g l_0_822 rfl
theorem l_0_823 : look (tab 0) 823 = some (.iload_n 3, 1, [], uu) := by decide +kernel
theorem e_0_823 : den cf 0 823 [v0, v1, v2, .int x] st M = den cf 0 824 [v0, v1, v2, .int x] (.int x :: st) M := den_go l_0_823 rfl
theorem l_0_824 : look (tab 0) 824 = some (.iconst 2, 1, [], .int (zI 2)) := by decide +kernel
theorem e_0_824 : den cf 0 824 L st M = den cf 0 825 L (.int (zI 2) :: st) M := den_go l_0_824 rfl
theorem l_0_825 : look (tab 0) 825 = some (.iadd, 1, [], uu) := by decide +kernel
theorem e_0_825 : den cf 0 825 L (.int y :: .int x :: st) M = den cf 0 826 L (.int (x + y) :: st) M := den_go l_0_825 rfl
theorem l_0_826 : look (tab 0) 826 = some (.iaload, 1, [], uu) := by decide +kernel
theorem e_0_826 : den cf 0 826 L (.int x :: .ref a :: st) M = oK (ldI (M.2.2 a) x) (fun v => den cf 0 827 L (v :: st) M) := den_al (g := ldI) l_0_826 rfl
theorem l_0_827 : look (tab 0) 827 = some (.invokevirtual 86, 3, [6, 176, 3, 633, 634, 635, 5], uu) := by decide +kernel
theorem e_0_827 : den cf 0 827 L (w2 :: w1 :: .ref a :: st) M = if rcv M 6 [.ref a, w1, w2] = true ∧ st.length ≤ 4 then rK (cf 176 [.ref a, w1, w2] M) (fun v M' => den cf 0 830 L (pR v st) M') else none := den_iv [w1, w2] l_0_827 rfl
theorem l_0_830 : look (tab 0) 830 = some (.if_icmp .eq 926, 3, [1756], uu) := by decide +kernel
theorem e_0_830 : den cf 0 830 L (.int y :: .int x :: st) M = if x = y then den cf 0 1756 L st M else den cf 0 833 L st M := den_ic_eq l_0_830
theorem l_0_833 : look (tab 0) 833 = some (.iconst 0, 1, [], .int (zI 0)) := by decide +kernel
theorem e_0_833 : den cf 0 833 L st M = den cf 0 834 L (.int (zI 0) :: st) M := den_go l_0_833 rfl
theorem l_0_834 : look (tab 0) 834 = some (.ireturn, 1, [1], uu) := by decide +kernel
theorem e_0_834 : den cf 0 834 L [.int x] M = if x = zI 0 ∨ x = zI 1 then some (some (.int x), M) else none := den_e1 l_0_834
theorem l_0_835 : look (tab 0) 835 = some (.aload_n 1, 1, [], uu) := by decide +kernel
theorem e_0_835 : den cf 0 835 [v0, v1, v2, v3] st M = if isRf v1 = true then den cf 0 836 [v0, v1, v2, v3] (v1 :: st) M else none := den_g l_0_835 rfl
theorem l_0_836 : look (tab 0) 836 = some (.aload_n 0, 1, [], uu) := by decide +kernel
theorem e_0_836 : den cf 0 836 [v0, v1, v2, v3] st M = if isRf v0 = true then den cf 0 837 [v0, v1, v2, v3] (v0 :: st) M else none := den_g l_0_836 rfl
theorem l_0_837 : look (tab 0) 837 = some (.iload_n 3, 1, [], uu) := by decide +kernel
theorem e_0_837 : den cf 0 837 [v0, v1, v2, .int x] st M = den cf 0 838 [v0, v1, v2, .int x] (.int x :: st) M := den_go l_0_837 rfl
theorem l_0_838 : look (tab 0) 838 = some (.iconst 1, 1, [], .int (zI 1)) := by decide +kernel
theorem e_0_838 : den cf 0 838 L st M = den cf 0 839 L (.int (zI 1) :: st) M := den_go l_0_838 rfl
theorem l_0_839 : look (tab 0) 839 = some (.iadd, 1, [], uu) := by decide +kernel
theorem e_0_839 : den cf 0 839 L (.int y :: .int x :: st) M = den cf 0 840 L (.int (x + y) :: st) M := den_go l_0_839 rfl
theorem l_0_840 : look (tab 0) 840 = some (.iaload, 1, [], uu) := by decide +kernel
theorem e_0_840 : den cf 0 840 L (.int x :: .ref a :: st) M = oK (ldI (M.2.2 a) x) (fun v => den cf 0 841 L (v :: st) M) := den_al (g := ldI) l_0_840 rfl
theorem l_0_841 : look (tab 0) 841 = some (.aload_n 0, 1, [], uu) := by decide +kernel
theorem e_0_841 : den cf 0 841 [v0, v1, v2, v3] st M = if isRf v0 = true then den cf 0 842 [v0, v1, v2, v3] (v0 :: st) M else none := den_g l_0_841 rfl
theorem l_0_842 : look (tab 0) 842 = some (.iload_n 3, 1, [], uu) := by decide +kernel
theorem e_0_842 : den cf 0 842 [v0, v1, v2, .int x] st M = den cf 0 843 [v0, v1, v2, .int x] (.int x :: st) M := den_go l_0_842 rfl
theorem l_0_843 : look (tab 0) 843 = some (.iconst 2, 1, [], .int (zI 2)) := by decide +kernel
theorem e_0_843 : den cf 0 843 L st M = den cf 0 844 L (.int (zI 2) :: st) M := den_go l_0_843 rfl
theorem l_0_844 : look (tab 0) 844 = some (.iadd, 1, [], uu) := by decide +kernel
theorem e_0_844 : den cf 0 844 L (.int y :: .int x :: st) M = den cf 0 845 L (.int (x + y) :: st) M := den_go l_0_844 rfl
theorem l_0_845 : look (tab 0) 845 = some (.iaload, 1, [], uu) := by decide +kernel
theorem e_0_845 : den cf 0 845 L (.int x :: .ref a :: st) M = oK (ldI (M.2.2 a) x) (fun v => den cf 0 846 L (v :: st) M) := den_al (g := ldI) l_0_845 rfl
theorem l_0_846 : look (tab 0) 846 = some (.invokevirtual 87, 3, [5, 91, 3, 637, 638, 639, 2], uu) := by decide +kernel
theorem e_0_846 : den cf 0 846 L (w2 :: w1 :: .ref a :: st) M = if rcv M 5 [.ref a, w1, w2] = true ∧ st.length ≤ 4 then rK (cf 91 [.ref a, w1, w2] M) (fun v M' => den cf 0 849 L (pR v st) M') else none := den_iv [w1, w2] l_0_846 rfl
theorem l_0_849 : look (tab 0) 849 = some (.aload_n 2, 1, [], uu) := by decide +kernel
theorem e_0_849 : den cf 0 849 [v0, v1, v2, v3] st M = if isRf v2 = true then den cf 0 850 [v0, v1, v2, v3] (v2 :: st) M else none := den_g l_0_849 rfl
theorem l_0_850 : look (tab 0) 850 = some (.aload_n 0, 1, [], uu) := by decide +kernel
theorem e_0_850 : den cf 0 850 [v0, v1, v2, v3] st M = if isRf v0 = true then den cf 0 851 [v0, v1, v2, v3] (v0 :: st) M else none := den_g l_0_850 rfl
theorem l_0_851 : look (tab 0) 851 = some (.iload_n 3, 1, [], uu) := by decide +kernel
theorem e_0_851 : den cf 0 851 [v0, v1, v2, .int x] st M = den cf 0 852 [v0, v1, v2, .int x] (.int x :: st) M := den_go l_0_851 rfl
theorem l_0_852 : look (tab 0) 852 = some (.iconst 1, 1, [], .int (zI 1)) := by decide +kernel
theorem e_0_852 : den cf 0 852 L st M = den cf 0 853 L (.int (zI 1) :: st) M := den_go l_0_852 rfl
theorem l_0_853 : look (tab 0) 853 = some (.iadd, 1, [], uu) := by decide +kernel
theorem e_0_853 : den cf 0 853 L (.int y :: .int x :: st) M = den cf 0 854 L (.int (x + y) :: st) M := den_go l_0_853 rfl
theorem l_0_854 : look (tab 0) 854 = some (.iaload, 1, [], uu) := by decide +kernel
theorem e_0_854 : den cf 0 854 L (.int x :: .ref a :: st) M = oK (ldI (M.2.2 a) x) (fun v => den cf 0 855 L (v :: st) M) := den_al (g := ldI) l_0_854 rfl
theorem l_0_855 : look (tab 0) 855 = some (.aload_n 0, 1, [], uu) := by decide +kernel
theorem e_0_855 : den cf 0 855 [v0, v1, v2, v3] st M = if isRf v0 = true then den cf 0 856 [v0, v1, v2, v3] (v0 :: st) M else none := den_g l_0_855 rfl
theorem l_0_856 : look (tab 0) 856 = some (.iload_n 3, 1, [], uu) := by decide +kernel
theorem e_0_856 : den cf 0 856 [v0, v1, v2, .int x] st M = den cf 0 857 [v0, v1, v2, .int x] (.int x :: st) M := den_go l_0_856 rfl
theorem l_0_857 : look (tab 0) 857 = some (.iconst 2, 1, [], .int (zI 2)) := by decide +kernel
theorem e_0_857 : den cf 0 857 L st M = den cf 0 858 L (.int (zI 2) :: st) M := den_go l_0_857 rfl
theorem l_0_858 : look (tab 0) 858 = some (.iadd, 1, [], uu) := by decide +kernel
theorem e_0_858 : den cf 0 858 L (.int y :: .int x :: st) M = den cf 0 859 L (.int (x + y) :: st) M := den_go l_0_858 rfl
theorem l_0_859 : look (tab 0) 859 = some (.iaload, 1, [], uu) := by decide +kernel
theorem e_0_859 : den cf 0 859 L (.int x :: .ref a :: st) M = oK (ldI (M.2.2 a) x) (fun v => den cf 0 860 L (v :: st) M) := den_al (g := ldI) l_0_859 rfl
theorem l_0_860 : look (tab 0) 860 = some (.invokevirtual 90, 3, [6, 179, 3, 641, 642, 643, 5], uu) := by decide +kernel
theorem e_0_860 : den cf 0 860 L (w2 :: w1 :: .ref a :: st) M = if rcv M 6 [.ref a, w1, w2] = true ∧ st.length ≤ 4 then rK (cf 179 [.ref a, w1, w2] M) (fun v M' => den cf 0 863 L (pR v st) M') else none := den_iv [w1, w2] l_0_860 rfl
theorem l_0_863 : look (tab 0) 863 = some (.if_icmp .eq 893, 3, [1756], uu) := by decide +kernel
theorem e_0_863 : den cf 0 863 L (.int y :: .int x :: st) M = if x = y then den cf 0 1756 L st M else den cf 0 866 L st M := den_ic_eq l_0_863
theorem l_0_866 : look (tab 0) 866 = some (.iconst 0, 1, [], .int (zI 0)) := by decide +kernel
theorem e_0_866 : den cf 0 866 L st M = den cf 0 867 L (.int (zI 0) :: st) M := den_go l_0_866 rfl
theorem l_0_867 : look (tab 0) 867 = some (.ireturn, 1, [1], uu) := by decide +kernel
theorem e_0_867 : den cf 0 867 L [.int x] M = if x = zI 0 ∨ x = zI 1 then some (some (.int x), M) else none := den_e1 l_0_867
theorem l_0_868 : look (tab 0) 868 = some (.aload_n 1, 1, [], uu) := by decide +kernel
theorem e_0_868 : den cf 0 868 [v0, v1, v2, v3] st M = if isRf v1 = true then den cf 0 869 [v0, v1, v2, v3] (v1 :: st) M else none := den_g l_0_868 rfl
theorem l_0_869 : look (tab 0) 869 = some (.aload_n 0, 1, [], uu) := by decide +kernel
theorem e_0_869 : den cf 0 869 [v0, v1, v2, v3] st M = if isRf v0 = true then den cf 0 870 [v0, v1, v2, v3] (v0 :: st) M else none := den_g l_0_869 rfl
theorem l_0_870 : look (tab 0) 870 = some (.iload_n 3, 1, [], uu) := by decide +kernel
theorem e_0_870 : den cf 0 870 [v0, v1, v2, .int x] st M = den cf 0 871 [v0, v1, v2, .int x] (.int x :: st) M := den_go l_0_870 rfl
theorem l_0_871 : look (tab 0) 871 = some (.iconst 1, 1, [], .int (zI 1)) := by decide +kernel
theorem e_0_871 : den cf 0 871 L st M = den cf 0 872 L (.int (zI 1) :: st) M := den_go l_0_871 rfl
theorem l_0_872 : look (tab 0) 872 = some (.iadd, 1, [], uu) := by decide +kernel
theorem e_0_872 : den cf 0 872 L (.int y :: .int x :: st) M = den cf 0 873 L (.int (x + y) :: st) M := den_go l_0_872 rfl
theorem l_0_873 : look (tab 0) 873 = some (.iaload, 1, [], uu) := by decide +kernel
theorem e_0_873 : den cf 0 873 L (.int x :: .ref a :: st) M = oK (ldI (M.2.2 a) x) (fun v => den cf 0 874 L (v :: st) M) := den_al (g := ldI) l_0_873 rfl
theorem l_0_874 : look (tab 0) 874 = some (.aload_n 0, 1, [], uu) := by decide +kernel
theorem e_0_874 : den cf 0 874 [v0, v1, v2, v3] st M = if isRf v0 = true then den cf 0 875 [v0, v1, v2, v3] (v0 :: st) M else none := den_g l_0_874 rfl
theorem l_0_875 : look (tab 0) 875 = some (.iload_n 3, 1, [], uu) := by decide +kernel
theorem e_0_875 : den cf 0 875 [v0, v1, v2, .int x] st M = den cf 0 876 [v0, v1, v2, .int x] (.int x :: st) M := den_go l_0_875 rfl
theorem l_0_876 : look (tab 0) 876 = some (.iconst 2, 1, [], .int (zI 2)) := by decide +kernel
theorem e_0_876 : den cf 0 876 L st M = den cf 0 877 L (.int (zI 2) :: st) M := den_go l_0_876 rfl
theorem l_0_877 : look (tab 0) 877 = some (.iadd, 1, [], uu) := by decide +kernel
theorem e_0_877 : den cf 0 877 L (.int y :: .int x :: st) M = den cf 0 878 L (.int (x + y) :: st) M := den_go l_0_877 rfl
theorem l_0_878 : look (tab 0) 878 = some (.iaload, 1, [], uu) := by decide +kernel
theorem e_0_878 : den cf 0 878 L (.int x :: .ref a :: st) M = oK (ldI (M.2.2 a) x) (fun v => den cf 0 879 L (v :: st) M) := den_al (g := ldI) l_0_878 rfl
theorem l_0_879 : look (tab 0) 879 = some (.invokevirtual 91, 3, [5, 92, 3, 645, 646, 647, 2], uu) := by decide +kernel
theorem e_0_879 : den cf 0 879 L (w2 :: w1 :: .ref a :: st) M = if rcv M 5 [.ref a, w1, w2] = true ∧ st.length ≤ 4 then rK (cf 92 [.ref a, w1, w2] M) (fun v M' => den cf 0 882 L (pR v st) M') else none := den_iv [w1, w2] l_0_879 rfl
theorem l_0_882 : look (tab 0) 882 = some (.aload_n 2, 1, [], uu) := by decide +kernel
theorem e_0_882 : den cf 0 882 [v0, v1, v2, v3] st M = if isRf v2 = true then den cf 0 883 [v0, v1, v2, v3] (v2 :: st) M else none := den_g l_0_882 rfl
theorem l_0_883 : look (tab 0) 883 = some (.aload_n 0, 1, [], uu) := by decide +kernel
theorem e_0_883 : den cf 0 883 [v0, v1, v2, v3] st M = if isRf v0 = true then den cf 0 884 [v0, v1, v2, v3] (v0 :: st) M else none := den_g l_0_883 rfl
theorem l_0_884 : look (tab 0) 884 = some (.iload_n 3, 1, [], uu) := by decide +kernel
theorem e_0_884 : den cf 0 884 [v0, v1, v2, .int x] st M = den cf 0 885 [v0, v1, v2, .int x] (.int x :: st) M := den_go l_0_884 rfl
theorem l_0_885 : look (tab 0) 885 = some (.iconst 1, 1, [], .int (zI 1)) := by decide +kernel
theorem e_0_885 : den cf 0 885 L st M = den cf 0 886 L (.int (zI 1) :: st) M := den_go l_0_885 rfl
theorem l_0_886 : look (tab 0) 886 = some (.iadd, 1, [], uu) := by decide +kernel
theorem e_0_886 : den cf 0 886 L (.int y :: .int x :: st) M = den cf 0 887 L (.int (x + y) :: st) M := den_go l_0_886 rfl
theorem l_0_887 : look (tab 0) 887 = some (.iaload, 1, [], uu) := by decide +kernel
theorem e_0_887 : den cf 0 887 L (.int x :: .ref a :: st) M = oK (ldI (M.2.2 a) x) (fun v => den cf 0 888 L (v :: st) M) := den_al (g := ldI) l_0_887 rfl
theorem l_0_888 : look (tab 0) 888 = some (.aload_n 0, 1, [], uu) := by decide +kernel
theorem e_0_888 : den cf 0 888 [v0, v1, v2, v3] st M = if isRf v0 = true then den cf 0 889 [v0, v1, v2, v3] (v0 :: st) M else none := den_g l_0_888 rfl
theorem l_0_889 : look (tab 0) 889 = some (.iload_n 3, 1, [], uu) := by decide +kernel
theorem e_0_889 : den cf 0 889 [v0, v1, v2, .int x] st M = den cf 0 890 [v0, v1, v2, .int x] (.int x :: st) M := den_go l_0_889 rfl
theorem l_0_890 : look (tab 0) 890 = some (.iconst 2, 1, [], .int (zI 2)) := by decide +kernel
theorem e_0_890 : den cf 0 890 L st M = den cf 0 891 L (.int (zI 2) :: st) M := den_go l_0_890 rfl
theorem l_0_891 : look (tab 0) 891 = some (.iadd, 1, [], uu) := by decide +kernel
theorem e_0_891 : den cf 0 891 L (.int y :: .int x :: st) M = den cf 0 892 L (.int (x + y) :: st) M := den_go l_0_891 rfl
theorem l_0_892 : look (tab 0) 892 = some (.iaload, 1, [], uu) := by decide +kernel
theorem e_0_892 : den cf 0 892 L (.int x :: .ref a :: st) M = oK (ldI (M.2.2 a) x) (fun v => den cf 0 893 L (v :: st) M) := den_al (g := ldI) l_0_892 rfl
theorem l_0_893 : look (tab 0) 893 = some (.invokevirtual 94, 3, [6, 181, 3, 649, 650, 651, 5], uu) := by decide +kernel
theorem e_0_893 : den cf 0 893 L (w2 :: w1 :: .ref a :: st) M = if rcv M 6 [.ref a, w1, w2] = true ∧ st.length ≤ 4 then rK (cf 181 [.ref a, w1, w2] M) (fun v M' => den cf 0 896 L (pR v st) M') else none := den_iv [w1, w2] l_0_893 rfl
theorem l_0_896 : look (tab 0) 896 = some (.if_icmp .eq 860, 3, [1756], uu) := by decide +kernel
theorem e_0_896 : den cf 0 896 L (.int y :: .int x :: st) M = if x = y then den cf 0 1756 L st M else den cf 0 899 L st M := den_ic_eq l_0_896
theorem l_0_899 : look (tab 0) 899 = some (.iconst 0, 1, [], .int (zI 0)) := by decide +kernel
theorem e_0_899 : den cf 0 899 L st M = den cf 0 900 L (.int (zI 0) :: st) M := den_go l_0_899 rfl
theorem l_0_900 : look (tab 0) 900 = some (.ireturn, 1, [1], uu) := by decide +kernel
theorem e_0_900 : den cf 0 900 L [.int x] M = if x = zI 0 ∨ x = zI 1 then some (some (.int x), M) else none := den_e1 l_0_900
theorem l_0_901 : look (tab 0) 901 = some (.aload_n 1, 1, [], uu) := by decide +kernel
theorem e_0_901 : den cf 0 901 [v0, v1, v2, v3] st M = if isRf v1 = true then den cf 0 902 [v0, v1, v2, v3] (v1 :: st) M else none := den_g l_0_901 rfl
theorem l_0_902 : look (tab 0) 902 = some (.aload_n 0, 1, [], uu) := by decide +kernel
theorem e_0_902 : den cf 0 902 [v0, v1, v2, v3] st M = if isRf v0 = true then den cf 0 903 [v0, v1, v2, v3] (v0 :: st) M else none := den_g l_0_902 rfl
theorem l_0_903 : look (tab 0) 903 = some (.iload_n 3, 1, [], uu) := by decide +kernel
theorem e_0_903 : den cf 0 903 [v0, v1, v2, .int x] st M = den cf 0 904 [v0, v1, v2, .int x] (.int x :: st) M := den_go l_0_903 rfl
theorem l_0_904 : look (tab 0) 904 = some (.iconst 1, 1, [], .int (zI 1)) := by decide +kernel
theorem e_0_904 : den cf 0 904 L st M = den cf 0 905 L (.int (zI 1) :: st) M := den_go l_0_904 rfl
theorem l_0_905 : look (tab 0) 905 = some (.iadd, 1, [], uu) := by decide +kernel
theorem e_0_905 : den cf 0 905 L (.int y :: .int x :: st) M = den cf 0 906 L (.int (x + y) :: st) M := den_go l_0_905 rfl
theorem l_0_906 : look (tab 0) 906 = some (.iaload, 1, [], uu) := by decide +kernel
theorem e_0_906 : den cf 0 906 L (.int x :: .ref a :: st) M = oK (ldI (M.2.2 a) x) (fun v => den cf 0 907 L (v :: st) M) := den_al (g := ldI) l_0_906 rfl
theorem l_0_907 : look (tab 0) 907 = some (.invokevirtual 95, 3, [5, 93, 2, 657, 658, 659, 2], uu) := by decide +kernel
theorem e_0_907 : den cf 0 907 L (w1 :: .ref a :: st) M = if rcv M 5 [.ref a, w1] = true ∧ st.length ≤ 4 then rK (cf 93 [.ref a, w1] M) (fun v M' => den cf 0 910 L (pR v st) M') else none := den_iv [w1] l_0_907 rfl
theorem l_0_910 : look (tab 0) 910 = some (.aload_n 2, 1, [], uu) := by decide +kernel
theorem e_0_910 : den cf 0 910 [v0, v1, v2, v3] st M = if isRf v2 = true then den cf 0 911 [v0, v1, v2, v3] (v2 :: st) M else none := den_g l_0_910 rfl
theorem l_0_911 : look (tab 0) 911 = some (.aload_n 0, 1, [], uu) := by decide +kernel
theorem e_0_911 : den cf 0 911 [v0, v1, v2, v3] st M = if isRf v0 = true then den cf 0 912 [v0, v1, v2, v3] (v0 :: st) M else none := den_g l_0_911 rfl
theorem l_0_912 : look (tab 0) 912 = some (.iload_n 3, 1, [], uu) := by decide +kernel
theorem e_0_912 : den cf 0 912 [v0, v1, v2, .int x] st M = den cf 0 913 [v0, v1, v2, .int x] (.int x :: st) M := den_go l_0_912 rfl
theorem l_0_913 : look (tab 0) 913 = some (.iconst 1, 1, [], .int (zI 1)) := by decide +kernel
theorem e_0_913 : den cf 0 913 L st M = den cf 0 914 L (.int (zI 1) :: st) M := den_go l_0_913 rfl
theorem l_0_914 : look (tab 0) 914 = some (.iadd, 1, [], uu) := by decide +kernel
theorem e_0_914 : den cf 0 914 L (.int y :: .int x :: st) M = den cf 0 915 L (.int (x + y) :: st) M := den_go l_0_914 rfl
theorem l_0_915 : look (tab 0) 915 = some (.iaload, 1, [], uu) := by decide +kernel
theorem e_0_915 : den cf 0 915 L (.int x :: .ref a :: st) M = oK (ldI (M.2.2 a) x) (fun v => den cf 0 916 L (v :: st) M) := den_al (g := ldI) l_0_915 rfl
theorem l_0_916 : look (tab 0) 916 = some (.invokevirtual 98, 3, [6, 184, 2, 670, 671, 672, 5], uu) := by decide +kernel
theorem e_0_916 : den cf 0 916 L (w1 :: .ref a :: st) M = if rcv M 6 [.ref a, w1] = true ∧ st.length ≤ 4 then rK (cf 184 [.ref a, w1] M) (fun v M' => den cf 0 919 L (pR v st) M') else none := den_iv [w1] l_0_916 rfl
theorem l_0_919 : look (tab 0) 919 = some (.if_icmp .eq 837, 3, [1756], uu) := by decide +kernel
theorem e_0_919 : den cf 0 919 L (.int y :: .int x :: st) M = if x = y then den cf 0 1756 L st M else den cf 0 922 L st M := den_ic_eq l_0_919
theorem l_0_922 : look (tab 0) 922 = some (.iconst 0, 1, [], .int (zI 0)) := by decide +kernel
theorem e_0_922 : den cf 0 922 L st M = den cf 0 923 L (.int (zI 0) :: st) M := den_go l_0_922 rfl
theorem l_0_923 : look (tab 0) 923 = some (.ireturn, 1, [1], uu) := by decide +kernel
theorem e_0_923 : den cf 0 923 L [.int x] M = if x = zI 0 ∨ x = zI 1 then some (some (.int x), M) else none := den_e1 l_0_923
theorem l_0_924 : look (tab 0) 924 = some (.aload_n 1, 1, [], uu) := by decide +kernel
theorem e_0_924 : den cf 0 924 [v0, v1, v2, v3] st M = if isRf v1 = true then den cf 0 925 [v0, v1, v2, v3] (v1 :: st) M else none := den_g l_0_924 rfl
theorem l_0_925 : look (tab 0) 925 = some (.aload_n 0, 1, [], uu) := by decide +kernel
theorem e_0_925 : den cf 0 925 [v0, v1, v2, v3] st M = if isRf v0 = true then den cf 0 926 [v0, v1, v2, v3] (v0 :: st) M else none := den_g l_0_925 rfl
theorem l_0_926 : look (tab 0) 926 = some (.iload_n 3, 1, [], uu) := by decide +kernel
theorem e_0_926 : den cf 0 926 [v0, v1, v2, .int x] st M = den cf 0 927 [v0, v1, v2, .int x] (.int x :: st) M := den_go l_0_926 rfl
theorem l_0_927 : look (tab 0) 927 = some (.iconst 1, 1, [], .int (zI 1)) := by decide +kernel
theorem e_0_927 : den cf 0 927 L st M = den cf 0 928 L (.int (zI 1) :: st) M := den_go l_0_927 rfl
theorem l_0_928 : look (tab 0) 928 = some (.iadd, 1, [], uu) := by decide +kernel
theorem e_0_928 : den cf 0 928 L (.int y :: .int x :: st) M = den cf 0 929 L (.int (x + y) :: st) M := den_go l_0_928 rfl
theorem l_0_929 : look (tab 0) 929 = some (.iaload, 1, [], uu) := by decide +kernel
theorem e_0_929 : den cf 0 929 L (.int x :: .ref a :: st) M = oK (ldI (M.2.2 a) x) (fun v => den cf 0 930 L (v :: st) M) := den_al (g := ldI) l_0_929 rfl
theorem l_0_930 : look (tab 0) 930 = some (.aload_n 0, 1, [], uu) := by decide +kernel
theorem e_0_930 : den cf 0 930 [v0, v1, v2, v3] st M = if isRf v0 = true then den cf 0 931 [v0, v1, v2, v3] (v0 :: st) M else none := den_g l_0_930 rfl
theorem l_0_931 : look (tab 0) 931 = some (.iload_n 3, 1, [], uu) := by decide +kernel
theorem e_0_931 : den cf 0 931 [v0, v1, v2, .int x] st M = den cf 0 932 [v0, v1, v2, .int x] (.int x :: st) M := den_go l_0_931 rfl
theorem l_0_932 : look (tab 0) 932 = some (.iconst 2, 1, [], .int (zI 2)) := by decide +kernel
theorem e_0_932 : den cf 0 932 L st M = den cf 0 933 L (.int (zI 2) :: st) M := den_go l_0_932 rfl
theorem l_0_933 : look (tab 0) 933 = some (.iadd, 1, [], uu) := by decide +kernel
theorem e_0_933 : den cf 0 933 L (.int y :: .int x :: st) M = den cf 0 934 L (.int (x + y) :: st) M := den_go l_0_933 rfl
theorem l_0_934 : look (tab 0) 934 = some (.iaload, 1, [], uu) := by decide +kernel
theorem e_0_934 : den cf 0 934 L (.int x :: .ref a :: st) M = oK (ldI (M.2.2 a) x) (fun v => den cf 0 935 L (v :: st) M) := den_al (g := ldI) l_0_934 rfl
theorem l_0_935 : look (tab 0) 935 = some (.invokevirtual 99, 3, [5, 94, 3, 682, 683, 684, 2], uu) := by decide +kernel
theorem e_0_935 : den cf 0 935 L (w2 :: w1 :: .ref a :: st) M = if rcv M 5 [.ref a, w1, w2] = true ∧ st.length ≤ 4 then rK (cf 94 [.ref a, w1, w2] M) (fun v M' => den cf 0 938 L (pR v st) M') else none := den_iv [w1, w2] l_0_935 rfl
theorem l_0_938 : look (tab 0) 938 = some (.aload_n 2, 1, [], uu) := by decide +kernel
theorem e_0_938 : den cf 0 938 [v0, v1, v2, v3] st M = if isRf v2 = true then den cf 0 939 [v0, v1, v2, v3] (v2 :: st) M else none := den_g l_0_938 rfl
theorem l_0_939 : look (tab 0) 939 = some (.aload_n 0, 1, [], uu) := by decide +kernel
theorem e_0_939 : den cf 0 939 [v0, v1, v2, v3] st M = if isRf v0 = true then den cf 0 940 [v0, v1, v2, v3] (v0 :: st) M else none := den_g l_0_939 rfl
theorem l_0_940 : look (tab 0) 940 = some (.iload_n 3, 1, [], uu) := by decide +kernel
theorem e_0_940 : den cf 0 940 [v0, v1, v2, .int x] st M = den cf 0 941 [v0, v1, v2, .int x] (.int x :: st) M := den_go l_0_940 rfl
theorem l_0_941 : look (tab 0) 941 = some (.iconst 1, 1, [], .int (zI 1)) := by decide +kernel
theorem e_0_941 : den cf 0 941 L st M = den cf 0 942 L (.int (zI 1) :: st) M := den_go l_0_941 rfl
theorem l_0_942 : look (tab 0) 942 = some (.iadd, 1, [], uu) := by decide +kernel
theorem e_0_942 : den cf 0 942 L (.int y :: .int x :: st) M = den cf 0 943 L (.int (x + y) :: st) M := den_go l_0_942 rfl
theorem l_0_943 : look (tab 0) 943 = some (.iaload, 1, [], uu) := by decide +kernel
theorem e_0_943 : den cf 0 943 L (.int x :: .ref a :: st) M = oK (ldI (M.2.2 a) x) (fun v => den cf 0 944 L (v :: st) M) := den_al (g := ldI) l_0_943 rfl
theorem l_0_944 : look (tab 0) 944 = some (.aload_n 0, 1, [], uu) := by decide +kernel
theorem e_0_944 : den cf 0 944 [v0, v1, v2, v3] st M = if isRf v0 = true then den cf 0 945 [v0, v1, v2, v3] (v0 :: st) M else none := den_g l_0_944 rfl
theorem l_0_945 : look (tab 0) 945 = some (.iload_n 3, 1, [], uu) := by decide +kernel
theorem e_0_945 : den cf 0 945 [v0, v1, v2, .int x] st M = den cf 0 946 [v0, v1, v2, .int x] (.int x :: st) M := den_go l_0_945 rfl
theorem l_0_946 : look (tab 0) 946 = some (.iconst 2, 1, [], .int (zI 2)) := by decide +kernel
theorem e_0_946 : den cf 0 946 L st M = den cf 0 947 L (.int (zI 2) :: st) M := den_go l_0_946 rfl
theorem l_0_947 : look (tab 0) 947 = some (.iadd, 1, [], uu) := by decide +kernel
theorem e_0_947 : den cf 0 947 L (.int y :: .int x :: st) M = den cf 0 948 L (.int (x + y) :: st) M := den_go l_0_947 rfl
theorem l_0_948 : look (tab 0) 948 = some (.iaload, 1, [], uu) := by decide +kernel
theorem e_0_948 : den cf 0 948 L (.int x :: .ref a :: st) M = oK (ldI (M.2.2 a) x) (fun v => den cf 0 949 L (v :: st) M) := den_al (g := ldI) l_0_948 rfl
theorem l_0_949 : look (tab 0) 949 = some (.invokevirtual 102, 3, [6, 188, 3, 691, 692, 693, 5], uu) := by decide +kernel
theorem e_0_949 : den cf 0 949 L (w2 :: w1 :: .ref a :: st) M = if rcv M 6 [.ref a, w1, w2] = true ∧ st.length ≤ 4 then rK (cf 188 [.ref a, w1, w2] M) (fun v M' => den cf 0 952 L (pR v st) M') else none := den_iv [w1, w2] l_0_949 rfl
theorem l_0_952 : look (tab 0) 952 = some (.if_icmp .eq 804, 3, [1756], uu) := by decide +kernel
theorem e_0_952 : den cf 0 952 L (.int y :: .int x :: st) M = if x = y then den cf 0 1756 L st M else den cf 0 955 L st M := den_ic_eq l_0_952
theorem l_0_955 : look (tab 0) 955 = some (.iconst 0, 1, [], .int (zI 0)) := by decide +kernel
theorem e_0_955 : den cf 0 955 L st M = den cf 0 956 L (.int (zI 0) :: st) M := den_go l_0_955 rfl
theorem l_0_956 : look (tab 0) 956 = some (.ireturn, 1, [1], uu) := by decide +kernel
theorem e_0_956 : den cf 0 956 L [.int x] M = if x = zI 0 ∨ x = zI 1 then some (some (.int x), M) else none := den_e1 l_0_956
theorem l_0_957 : look (tab 0) 957 = some (.aload_n 1, 1, [], uu) := by decide +kernel
theorem e_0_957 : den cf 0 957 [v0, v1, v2, v3] st M = if isRf v1 = true then den cf 0 958 [v0, v1, v2, v3] (v1 :: st) M else none := den_g l_0_957 rfl
theorem l_0_958 : look (tab 0) 958 = some (.aload_n 0, 1, [], uu) := by decide +kernel
theorem e_0_958 : den cf 0 958 [v0, v1, v2, v3] st M = if isRf v0 = true then den cf 0 959 [v0, v1, v2, v3] (v0 :: st) M else none := den_g l_0_958 rfl
theorem l_0_959 : look (tab 0) 959 = some (.iload_n 3, 1, [], uu) := by decide +kernel
theorem e_0_959 : den cf 0 959 [v0, v1, v2, .int x] st M = den cf 0 960 [v0, v1, v2, .int x] (.int x :: st) M := den_go l_0_959 rfl
theorem l_0_960 : look (tab 0) 960 = some (.iconst 1, 1, [], .int (zI 1)) := by decide +kernel
theorem e_0_960 : den cf 0 960 L st M = den cf 0 961 L (.int (zI 1) :: st) M := den_go l_0_960 rfl
theorem l_0_961 : look (tab 0) 961 = some (.iadd, 1, [], uu) := by decide +kernel
theorem e_0_961 : den cf 0 961 L (.int y :: .int x :: st) M = den cf 0 962 L (.int (x + y) :: st) M := den_go l_0_961 rfl
theorem l_0_962 : look (tab 0) 962 = some (.iaload, 1, [], uu) := by decide +kernel
theorem e_0_962 : den cf 0 962 L (.int x :: .ref a :: st) M = oK (ldI (M.2.2 a) x) (fun v => den cf 0 963 L (v :: st) M) := den_al (g := ldI) l_0_962 rfl
theorem l_0_963 : look (tab 0) 963 = some (.aload_n 0, 1, [], uu) := by decide +kernel
theorem e_0_963 : den cf 0 963 [v0, v1, v2, v3] st M = if isRf v0 = true then den cf 0 964 [v0, v1, v2, v3] (v0 :: st) M else none := den_g l_0_963 rfl
theorem l_0_964 : look (tab 0) 964 = some (.iload_n 3, 1, [], uu) := by decide +kernel
theorem e_0_964 : den cf 0 964 [v0, v1, v2, .int x] st M = den cf 0 965 [v0, v1, v2, .int x] (.int x :: st) M := den_go l_0_964 rfl
theorem l_0_965 : look (tab 0) 965 = some (.iconst 2, 1, [], .int (zI 2)) := by decide +kernel
theorem e_0_965 : den cf 0 965 L st M = den cf 0 966 L (.int (zI 2) :: st) M := den_go l_0_965 rfl
theorem l_0_966 : look (tab 0) 966 = some (.iadd, 1, [], uu) := by decide +kernel
theorem e_0_966 : den cf 0 966 L (.int y :: .int x :: st) M = den cf 0 967 L (.int (x + y) :: st) M := den_go l_0_966 rfl
theorem l_0_967 : look (tab 0) 967 = some (.iaload, 1, [], uu) := by decide +kernel
theorem e_0_967 : den cf 0 967 L (.int x :: .ref a :: st) M = oK (ldI (M.2.2 a) x) (fun v => den cf 0 968 L (v :: st) M) := den_al (g := ldI) l_0_967 rfl
theorem l_0_968 : look (tab 0) 968 = some (.invokevirtual 103, 3, [5, 95, 3, 705, 706, 707, 2], uu) := by decide +kernel
theorem e_0_968 : den cf 0 968 L (w2 :: w1 :: .ref a :: st) M = if rcv M 5 [.ref a, w1, w2] = true ∧ st.length ≤ 4 then rK (cf 95 [.ref a, w1, w2] M) (fun v M' => den cf 0 971 L (pR v st) M') else none := den_iv [w1, w2] l_0_968 rfl
theorem l_0_971 : look (tab 0) 971 = some (.aload_n 2, 1, [], uu) := by decide +kernel
theorem e_0_971 : den cf 0 971 [v0, v1, v2, v3] st M = if isRf v2 = true then den cf 0 972 [v0, v1, v2, v3] (v2 :: st) M else none := den_g l_0_971 rfl
theorem l_0_972 : look (tab 0) 972 = some (.aload_n 0, 1, [], uu) := by decide +kernel
theorem e_0_972 : den cf 0 972 [v0, v1, v2, v3] st M = if isRf v0 = true then den cf 0 973 [v0, v1, v2, v3] (v0 :: st) M else none := den_g l_0_972 rfl
theorem l_0_973 : look (tab 0) 973 = some (.iload_n 3, 1, [], uu) := by decide +kernel
theorem e_0_973 : den cf 0 973 [v0, v1, v2, .int x] st M = den cf 0 974 [v0, v1, v2, .int x] (.int x :: st) M := den_go l_0_973 rfl
theorem l_0_974 : look (tab 0) 974 = some (.iconst 1, 1, [], .int (zI 1)) := by decide +kernel
theorem e_0_974 : den cf 0 974 L st M = den cf 0 975 L (.int (zI 1) :: st) M := den_go l_0_974 rfl
theorem l_0_975 : look (tab 0) 975 = some (.iadd, 1, [], uu) := by decide +kernel
theorem e_0_975 : den cf 0 975 L (.int y :: .int x :: st) M = den cf 0 976 L (.int (x + y) :: st) M := den_go l_0_975 rfl
theorem l_0_976 : look (tab 0) 976 = some (.iaload, 1, [], uu) := by decide +kernel
theorem e_0_976 : den cf 0 976 L (.int x :: .ref a :: st) M = oK (ldI (M.2.2 a) x) (fun v => den cf 0 977 L (v :: st) M) := den_al (g := ldI) l_0_976 rfl
theorem l_0_977 : look (tab 0) 977 = some (.aload_n 0, 1, [], uu) := by decide +kernel
theorem e_0_977 : den cf 0 977 [v0, v1, v2, v3] st M = if isRf v0 = true then den cf 0 978 [v0, v1, v2, v3] (v0 :: st) M else none := den_g l_0_977 rfl
theorem l_0_978 : look (tab 0) 978 = some (.iload_n 3, 1, [], uu) := by decide +kernel
theorem e_0_978 : den cf 0 978 [v0, v1, v2, .int x] st M = den cf 0 979 [v0, v1, v2, .int x] (.int x :: st) M := den_go l_0_978 rfl
theorem l_0_979 : look (tab 0) 979 = some (.iconst 2, 1, [], .int (zI 2)) := by decide +kernel
theorem e_0_979 : den cf 0 979 L st M = den cf 0 980 L (.int (zI 2) :: st) M := den_go l_0_979 rfl
theorem l_0_980 : look (tab 0) 980 = some (.iadd, 1, [], uu) := by decide +kernel
theorem e_0_980 : den cf 0 980 L (.int y :: .int x :: st) M = den cf 0 981 L (.int (x + y) :: st) M := den_go l_0_980 rfl
theorem l_0_981 : look (tab 0) 981 = some (.iaload, 1, [], uu) := by decide +kernel
theorem e_0_981 : den cf 0 981 L (.int x :: .ref a :: st) M = oK (ldI (M.2.2 a) x) (fun v => den cf 0 982 L (v :: st) M) := den_al (g := ldI) l_0_981 rfl
theorem l_0_982 : look (tab 0) 982 = some (.invokevirtual 106, 3, [6, 189, 3, 710, 711, 712, 5], uu) := by decide +kernel
theorem e_0_982 : den cf 0 982 L (w2 :: w1 :: .ref a :: st) M = if rcv M 6 [.ref a, w1, w2] = true ∧ st.length ≤ 4 then rK (cf 189 [.ref a, w1, w2] M) (fun v M' => den cf 0 985 L (pR v st) M') else none := den_iv [w1, w2] l_0_982 rfl
theorem l_0_985 : look (tab 0) 985 = some (.if_icmp .eq 771, 3, [1756], uu) := by decide +kernel
theorem e_0_985 : den cf 0 985 L (.int y :: .int x :: st) M = if x = y then den cf 0 1756 L st M else den cf 0 988 L st M := den_ic_eq l_0_985
theorem l_0_988 : look (tab 0) 988 = some (.iconst 0, 1, [], .int (zI 0)) := by decide +kernel
theorem e_0_988 : den cf 0 988 L st M = den cf 0 989 L (.int (zI 0) :: st) M := den_go l_0_988 rfl
theorem l_0_989 : look (tab 0) 989 = some (.ireturn, 1, [1], uu) := by decide +kernel
theorem e_0_989 : den cf 0 989 L [.int x] M = if x = zI 0 ∨ x = zI 1 then some (some (.int x), M) else none := den_e1 l_0_989
theorem l_0_990 : look (tab 0) 990 = some (.aload_n 1, 1, [], uu) := by decide +kernel
theorem e_0_990 : den cf 0 990 [v0, v1, v2, v3] st M = if isRf v1 = true then den cf 0 991 [v0, v1, v2, v3] (v1 :: st) M else none := den_g l_0_990 rfl
theorem l_0_991 : look (tab 0) 991 = some (.aload_n 0, 1, [], uu) := by decide +kernel
theorem e_0_991 : den cf 0 991 [v0, v1, v2, v3] st M = if isRf v0 = true then den cf 0 992 [v0, v1, v2, v3] (v0 :: st) M else none := den_g l_0_991 rfl
theorem l_0_992 : look (tab 0) 992 = some (.iload_n 3, 1, [], uu) := by decide +kernel
theorem e_0_992 : den cf 0 992 [v0, v1, v2, .int x] st M = den cf 0 993 [v0, v1, v2, .int x] (.int x :: st) M := den_go l_0_992 rfl
theorem l_0_993 : look (tab 0) 993 = some (.iconst 1, 1, [], .int (zI 1)) := by decide +kernel
theorem e_0_993 : den cf 0 993 L st M = den cf 0 994 L (.int (zI 1) :: st) M := den_go l_0_993 rfl
theorem l_0_994 : look (tab 0) 994 = some (.iadd, 1, [], uu) := by decide +kernel
theorem e_0_994 : den cf 0 994 L (.int y :: .int x :: st) M = den cf 0 995 L (.int (x + y) :: st) M := den_go l_0_994 rfl
theorem l_0_995 : look (tab 0) 995 = some (.iaload, 1, [], uu) := by decide +kernel
theorem e_0_995 : den cf 0 995 L (.int x :: .ref a :: st) M = oK (ldI (M.2.2 a) x) (fun v => den cf 0 996 L (v :: st) M) := den_al (g := ldI) l_0_995 rfl
theorem l_0_996 : look (tab 0) 996 = some (.aload_n 0, 1, [], uu) := by decide +kernel
theorem e_0_996 : den cf 0 996 [v0, v1, v2, v3] st M = if isRf v0 = true then den cf 0 997 [v0, v1, v2, v3] (v0 :: st) M else none := den_g l_0_996 rfl
theorem l_0_997 : look (tab 0) 997 = some (.iload_n 3, 1, [], uu) := by decide +kernel
theorem e_0_997 : den cf 0 997 [v0, v1, v2, .int x] st M = den cf 0 998 [v0, v1, v2, .int x] (.int x :: st) M := den_go l_0_997 rfl
theorem l_0_998 : look (tab 0) 998 = some (.iconst 2, 1, [], .int (zI 2)) := by decide +kernel
theorem e_0_998 : den cf 0 998 L st M = den cf 0 999 L (.int (zI 2) :: st) M := den_go l_0_998 rfl
theorem l_0_999 : look (tab 0) 999 = some (.iadd, 1, [], uu) := by decide +kernel
theorem e_0_999 : den cf 0 999 L (.int y :: .int x :: st) M = den cf 0 1000 L (.int (x + y) :: st) M := den_go l_0_999 rfl
theorem l_0_1000 : look (tab 0) 1000 = some (.iaload, 1, [], uu) := by decide +kernel
theorem e_0_1000 : den cf 0 1000 L (.int x :: .ref a :: st) M = oK (ldI (M.2.2 a) x) (fun v => den cf 0 1001 L (v :: st) M) := den_al (g := ldI) l_0_1000 rfl
theorem l_0_1001 : look (tab 0) 1001 = some (.invokevirtual 107, 3, [5, 96, 3, 714, 715, 716, 2], uu) := by decide +kernel
theorem e_0_1001 : den cf 0 1001 L (w2 :: w1 :: .ref a :: st) M = if rcv M 5 [.ref a, w1, w2] = true ∧ st.length ≤ 4 then rK (cf 96 [.ref a, w1, w2] M) (fun v M' => den cf 0 1004 L (pR v st) M') else none := den_iv [w1, w2] l_0_1001 rfl
theorem l_0_1004 : look (tab 0) 1004 = some (.aload_n 2, 1, [], uu) := by decide +kernel
theorem e_0_1004 : den cf 0 1004 [v0, v1, v2, v3] st M = if isRf v2 = true then den cf 0 1005 [v0, v1, v2, v3] (v2 :: st) M else none := den_g l_0_1004 rfl
theorem l_0_1005 : look (tab 0) 1005 = some (.aload_n 0, 1, [], uu) := by decide +kernel
theorem e_0_1005 : den cf 0 1005 [v0, v1, v2, v3] st M = if isRf v0 = true then den cf 0 1006 [v0, v1, v2, v3] (v0 :: st) M else none := den_g l_0_1005 rfl
theorem l_0_1006 : look (tab 0) 1006 = some (.iload_n 3, 1, [], uu) := by decide +kernel
theorem e_0_1006 : den cf 0 1006 [v0, v1, v2, .int x] st M = den cf 0 1007 [v0, v1, v2, .int x] (.int x :: st) M := den_go l_0_1006 rfl
theorem l_0_1007 : look (tab 0) 1007 = some (.iconst 1, 1, [], .int (zI 1)) := by decide +kernel
theorem e_0_1007 : den cf 0 1007 L st M = den cf 0 1008 L (.int (zI 1) :: st) M := den_go l_0_1007 rfl
theorem l_0_1008 : look (tab 0) 1008 = some (.iadd, 1, [], uu) := by decide +kernel
theorem e_0_1008 : den cf 0 1008 L (.int y :: .int x :: st) M = den cf 0 1009 L (.int (x + y) :: st) M := den_go l_0_1008 rfl
theorem l_0_1009 : look (tab 0) 1009 = some (.iaload, 1, [], uu) := by decide +kernel
theorem e_0_1009 : den cf 0 1009 L (.int x :: .ref a :: st) M = oK (ldI (M.2.2 a) x) (fun v => den cf 0 1010 L (v :: st) M) := den_al (g := ldI) l_0_1009 rfl
theorem l_0_1010 : look (tab 0) 1010 = some (.aload_n 0, 1, [], uu) := by decide +kernel
theorem e_0_1010 : den cf 0 1010 [v0, v1, v2, v3] st M = if isRf v0 = true then den cf 0 1011 [v0, v1, v2, v3] (v0 :: st) M else none := den_g l_0_1010 rfl
theorem l_0_1011 : look (tab 0) 1011 = some (.iload_n 3, 1, [], uu) := by decide +kernel
theorem e_0_1011 : den cf 0 1011 [v0, v1, v2, .int x] st M = den cf 0 1012 [v0, v1, v2, .int x] (.int x :: st) M := den_go l_0_1011 rfl
theorem l_0_1012 : look (tab 0) 1012 = some (.iconst 2, 1, [], .int (zI 2)) := by decide +kernel
theorem e_0_1012 : den cf 0 1012 L st M = den cf 0 1013 L (.int (zI 2) :: st) M := den_go l_0_1012 rfl
theorem l_0_1013 : look (tab 0) 1013 = some (.iadd, 1, [], uu) := by decide +kernel
theorem e_0_1013 : den cf 0 1013 L (.int y :: .int x :: st) M = den cf 0 1014 L (.int (x + y) :: st) M := den_go l_0_1013 rfl
theorem l_0_1014 : look (tab 0) 1014 = some (.iaload, 1, [], uu) := by decide +kernel
theorem e_0_1014 : den cf 0 1014 L (.int x :: .ref a :: st) M = oK (ldI (M.2.2 a) x) (fun v => den cf 0 1015 L (v :: st) M) := den_al (g := ldI) l_0_1014 rfl
theorem l_0_1015 : look (tab 0) 1015 = some (.invokevirtual 110, 3, [6, 190, 3, 722, 723, 724, 5], uu) := by decide +kernel
theorem e_0_1015 : den cf 0 1015 L (w2 :: w1 :: .ref a :: st) M = if rcv M 6 [.ref a, w1, w2] = true ∧ st.length ≤ 4 then rK (cf 190 [.ref a, w1, w2] M) (fun v M' => den cf 0 1018 L (pR v st) M') else none := den_iv [w1, w2] l_0_1015 rfl
theorem l_0_1018 : look (tab 0) 1018 = some (.if_icmp .eq 738, 3, [1756], uu) := by decide +kernel
theorem e_0_1018 : den cf 0 1018 L (.int y :: .int x :: st) M = if x = y then den cf 0 1756 L st M else den cf 0 1021 L st M := den_ic_eq l_0_1018
theorem l_0_1021 : look (tab 0) 1021 = some (.iconst 0, 1, [], .int (zI 0)) := by decide +kernel
theorem e_0_1021 : den cf 0 1021 L st M = den cf 0 1022 L (.int (zI 0) :: st) M := den_go l_0_1021 rfl
theorem l_0_1022 : look (tab 0) 1022 = some (.ireturn, 1, [1], uu) := by decide +kernel
theorem e_0_1022 : den cf 0 1022 L [.int x] M = if x = zI 0 ∨ x = zI 1 then some (some (.int x), M) else none := den_e1 l_0_1022
theorem l_0_1023 : look (tab 0) 1023 = some (.aload_n 1, 1, [], uu) := by decide +kernel
theorem e_0_1023 : den cf 0 1023 [v0, v1, v2, v3] st M = if isRf v1 = true then den cf 0 1024 [v0, v1, v2, v3] (v1 :: st) M else none := den_g l_0_1023 rfl
theorem l_0_1024 : look (tab 0) 1024 = some (.aload_n 0, 1, [], uu) := by decide +kernel
theorem e_0_1024 : den cf 0 1024 [v0, v1, v2, v3] st M = if isRf v0 = true then den cf 0 1025 [v0, v1, v2, v3] (v0 :: st) M else none := den_g l_0_1024 rfl
theorem l_0_1025 : look (tab 0) 1025 = some (.iload_n 3, 1, [], uu) := by decide +kernel
theorem e_0_1025 : den cf 0 1025 [v0, v1, v2, .int x] st M = den cf 0 1026 [v0, v1, v2, .int x] (.int x :: st) M := den_go l_0_1025 rfl
theorem l_0_1026 : look (tab 0) 1026 = some (.iconst 1, 1, [], .int (zI 1)) := by decide +kernel
theorem e_0_1026 : den cf 0 1026 L st M = den cf 0 1027 L (.int (zI 1) :: st) M := den_go l_0_1026 rfl
theorem l_0_1027 : look (tab 0) 1027 = some (.iadd, 1, [], uu) := by decide +kernel
theorem e_0_1027 : den cf 0 1027 L (.int y :: .int x :: st) M = den cf 0 1028 L (.int (x + y) :: st) M := den_go l_0_1027 rfl
theorem l_0_1028 : look (tab 0) 1028 = some (.iaload, 1, [], uu) := by decide +kernel
theorem e_0_1028 : den cf 0 1028 L (.int x :: .ref a :: st) M = oK (ldI (M.2.2 a) x) (fun v => den cf 0 1029 L (v :: st) M) := den_al (g := ldI) l_0_1028 rfl
theorem l_0_1029 : look (tab 0) 1029 = some (.invokevirtual 111, 3, [5, 102, 2, 727, 728, 729, 2], uu) := by decide +kernel
theorem e_0_1029 : den cf 0 1029 L (w1 :: .ref a :: st) M = if rcv M 5 [.ref a, w1] = true ∧ st.length ≤ 4 then rK (cf 102 [.ref a, w1] M) (fun v M' => den cf 0 1032 L (pR v st) M') else none := den_iv [w1] l_0_1029 rfl
theorem l_0_1032 : look (tab 0) 1032 = some (.aload_n 2, 1, [], uu) := by decide +kernel
theorem e_0_1032 : den cf 0 1032 [v0, v1, v2, v3] st M = if isRf v2 = true then den cf 0 1033 [v0, v1, v2, v3] (v2 :: st) M else none := den_g l_0_1032 rfl
theorem l_0_1033 : look (tab 0) 1033 = some (.aload_n 0, 1, [], uu) := by decide +kernel
theorem e_0_1033 : den cf 0 1033 [v0, v1, v2, v3] st M = if isRf v0 = true then den cf 0 1034 [v0, v1, v2, v3] (v0 :: st) M else none := den_g l_0_1033 rfl
theorem l_0_1034 : look (tab 0) 1034 = some (.iload_n 3, 1, [], uu) := by decide +kernel
theorem e_0_1034 : den cf 0 1034 [v0, v1, v2, .int x] st M = den cf 0 1035 [v0, v1, v2, .int x] (.int x :: st) M := den_go l_0_1034 rfl
theorem l_0_1035 : look (tab 0) 1035 = some (.iconst 1, 1, [], .int (zI 1)) := by decide +kernel
theorem e_0_1035 : den cf 0 1035 L st M = den cf 0 1036 L (.int (zI 1) :: st) M := den_go l_0_1035 rfl
theorem l_0_1036 : look (tab 0) 1036 = some (.iadd, 1, [], uu) := by decide +kernel
theorem e_0_1036 : den cf 0 1036 L (.int y :: .int x :: st) M = den cf 0 1037 L (.int (x + y) :: st) M := den_go l_0_1036 rfl
theorem l_0_1037 : look (tab 0) 1037 = some (.iaload, 1, [], uu) := by decide +kernel
theorem e_0_1037 : den cf 0 1037 L (.int x :: .ref a :: st) M = oK (ldI (M.2.2 a) x) (fun v => den cf 0 1038 L (v :: st) M) := den_al (g := ldI) l_0_1037 rfl
theorem l_0_1038 : look (tab 0) 1038 = some (.invokevirtual 114, 3, [6, 193, 2, 782, 783, 784, 5], uu) := by decide +kernel
theorem e_0_1038 : den cf 0 1038 L (w1 :: .ref a :: st) M = if rcv M 6 [.ref a, w1] = true ∧ st.length ≤ 4 then rK (cf 193 [.ref a, w1] M) (fun v M' => den cf 0 1041 L (pR v st) M') else none := den_iv [w1] l_0_1038 rfl
theorem l_0_1041 : look (tab 0) 1041 = some (.if_icmp .eq 715, 3, [1756], uu) := by decide +kernel
theorem e_0_1041 : den cf 0 1041 L (.int y :: .int x :: st) M = if x = y then den cf 0 1756 L st M else den cf 0 1044 L st M := den_ic_eq l_0_1041
theorem l_0_1044 : look (tab 0) 1044 = some (.iconst 0, 1, [], .int (zI 0)) := by decide +kernel
theorem e_0_1044 : den cf 0 1044 L st M = den cf 0 1045 L (.int (zI 0) :: st) M := den_go l_0_1044 rfl
theorem l_0_1045 : look (tab 0) 1045 = some (.ireturn, 1, [1], uu) := by decide +kernel
theorem e_0_1045 : den cf 0 1045 L [.int x] M = if x = zI 0 ∨ x = zI 1 then some (some (.int x), M) else none := den_e1 l_0_1045
theorem l_0_1046 : look (tab 0) 1046 = some (.aload_n 1, 1, [], uu) := by decide +kernel
theorem e_0_1046 : den cf 0 1046 [v0, v1, v2, v3] st M = if isRf v1 = true then den cf 0 1047 [v0, v1, v2, v3] (v1 :: st) M else none := den_g l_0_1046 rfl
theorem l_0_1047 : look (tab 0) 1047 = some (.invokevirtual 115, 3, [5, 103, 1, 798, 799, 800, 2], uu) := by decide +kernel
theorem e_0_1047 : den cf 0 1047 L (.ref a :: st) M = if rcv M 5 [.ref a] = true ∧ st.length ≤ 4 then rK (cf 103 [.ref a] M) (fun v M' => den cf 0 1050 L (pR v st) M') else none := den_iv [] l_0_1047 rfl
theorem l_0_1050 : look (tab 0) 1050 = some (.aload_n 2, 1, [], uu) := by decide +kernel
theorem e_0_1050 : den cf 0 1050 [v0, v1, v2, v3] st M = if isRf v2 = true then den cf 0 1051 [v0, v1, v2, v3] (v2 :: st) M else none := den_g l_0_1050 rfl
theorem l_0_1051 : look (tab 0) 1051 = some (.invokevirtual 118, 3, [6, 195, 1, 804, 805, 806, 5], uu) := by decide +kernel
theorem e_0_1051 : den cf 0 1051 L (.ref a :: st) M = if rcv M 6 [.ref a] = true ∧ st.length ≤ 4 then rK (cf 195 [.ref a] M) (fun v M' => den cf 0 1054 L (pR v st) M') else none := den_iv [] l_0_1051 rfl
theorem l_0_1054 : look (tab 0) 1054 = some (.if_icmp .eq 702, 3, [1756], uu) := by decide +kernel
theorem e_0_1054 : den cf 0 1054 L (.int y :: .int x :: st) M = if x = y then den cf 0 1756 L st M else den cf 0 1057 L st M := den_ic_eq l_0_1054
theorem l_0_1057 : look (tab 0) 1057 = some (.iconst 0, 1, [], .int (zI 0)) := by decide +kernel
theorem e_0_1057 : den cf 0 1057 L st M = den cf 0 1058 L (.int (zI 0) :: st) M := den_go l_0_1057 rfl
theorem l_0_1058 : look (tab 0) 1058 = some (.ireturn, 1, [1], uu) := by decide +kernel
theorem e_0_1058 : den cf 0 1058 L [.int x] M = if x = zI 0 ∨ x = zI 1 then some (some (.int x), M) else none := den_e1 l_0_1058
theorem l_0_1059 : look (tab 0) 1059 = some (.aload_n 1, 1, [], uu) := by decide +kernel
theorem e_0_1059 : den cf 0 1059 [v0, v1, v2, v3] st M = if isRf v1 = true then den cf 0 1060 [v0, v1, v2, v3] (v1 :: st) M else none := den_g l_0_1059 rfl
theorem l_0_1060 : look (tab 0) 1060 = some (.aload_n 0, 1, [], uu) := by decide +kernel
theorem e_0_1060 : den cf 0 1060 [v0, v1, v2, v3] st M = if isRf v0 = true then den cf 0 1061 [v0, v1, v2, v3] (v0 :: st) M else none := den_g l_0_1060 rfl
theorem l_0_1061 : look (tab 0) 1061 = some (.iload_n 3, 1, [], uu) := by decide +kernel
theorem e_0_1061 : den cf 0 1061 [v0, v1, v2, .int x] st M = den cf 0 1062 [v0, v1, v2, .int x] (.int x :: st) M := den_go l_0_1061 rfl
theorem l_0_1062 : look (tab 0) 1062 = some (.iconst 1, 1, [], .int (zI 1)) := by decide +kernel
theorem e_0_1062 : den cf 0 1062 L st M = den cf 0 1063 L (.int (zI 1) :: st) M := den_go l_0_1062 rfl
theorem l_0_1063 : look (tab 0) 1063 = some (.iadd, 1, [], uu) := by decide +kernel
theorem e_0_1063 : den cf 0 1063 L (.int y :: .int x :: st) M = den cf 0 1064 L (.int (x + y) :: st) M := den_go l_0_1063 rfl
theorem l_0_1064 : look (tab 0) 1064 = some (.iaload, 1, [], uu) := by decide +kernel
theorem e_0_1064 : den cf 0 1064 L (.int x :: .ref a :: st) M = oK (ldI (M.2.2 a) x) (fun v => den cf 0 1065 L (v :: st) M) := den_al (g := ldI) l_0_1064 rfl
theorem l_0_1065 : look (tab 0) 1065 = some (.invokevirtual 119, 3, [5, 105, 2, 812, 813, 814, 2], uu) := by decide +kernel
theorem e_0_1065 : den cf 0 1065 L (w1 :: .ref a :: st) M = if rcv M 5 [.ref a, w1] = true ∧ st.length ≤ 4 then rK (cf 105 [.ref a, w1] M) (fun v M' => den cf 0 1068 L (pR v st) M') else none := den_iv [w1] l_0_1065 rfl
theorem l_0_1068 : look (tab 0) 1068 = some (.aload_n 2, 1, [], uu) := by decide +kernel
theorem e_0_1068 : den cf 0 1068 [v0, v1, v2, v3] st M = if isRf v2 = true then den cf 0 1069 [v0, v1, v2, v3] (v2 :: st) M else none := den_g l_0_1068 rfl
theorem l_0_1069 : look (tab 0) 1069 = some (.aload_n 0, 1, [], uu) := by decide +kernel
theorem e_0_1069 : den cf 0 1069 [v0, v1, v2, v3] st M = if isRf v0 = true then den cf 0 1070 [v0, v1, v2, v3] (v0 :: st) M else none := den_g l_0_1069 rfl
theorem l_0_1070 : look (tab 0) 1070 = some (.iload_n 3, 1, [], uu) := by decide +kernel
theorem e_0_1070 : den cf 0 1070 [v0, v1, v2, .int x] st M = den cf 0 1071 [v0, v1, v2, .int x] (.int x :: st) M := den_go l_0_1070 rfl
theorem l_0_1071 : look (tab 0) 1071 = some (.iconst 1, 1, [], .int (zI 1)) := by decide +kernel
theorem e_0_1071 : den cf 0 1071 L st M = den cf 0 1072 L (.int (zI 1) :: st) M := den_go l_0_1071 rfl
theorem l_0_1072 : look (tab 0) 1072 = some (.iadd, 1, [], uu) := by decide +kernel
theorem e_0_1072 : den cf 0 1072 L (.int y :: .int x :: st) M = den cf 0 1073 L (.int (x + y) :: st) M := den_go l_0_1072 rfl
theorem l_0_1073 : look (tab 0) 1073 = some (.iaload, 1, [], uu) := by decide +kernel
theorem e_0_1073 : den cf 0 1073 L (.int x :: .ref a :: st) M = oK (ldI (M.2.2 a) x) (fun v => den cf 0 1074 L (v :: st) M) := den_al (g := ldI) l_0_1073 rfl
theorem l_0_1074 : look (tab 0) 1074 = some (.invokevirtual 122, 3, [6, 196, 2, 822, 823, 824, 5], uu) := by decide +kernel
theorem e_0_1074 : den cf 0 1074 L (w1 :: .ref a :: st) M = if rcv M 6 [.ref a, w1] = true ∧ st.length ≤ 4 then rK (cf 196 [.ref a, w1] M) (fun v M' => den cf 0 1077 L (pR v st) M') else none := den_iv [w1] l_0_1074 rfl
theorem l_0_1077 : look (tab 0) 1077 = some (.if_icmp .eq 679, 3, [1756], uu) := by decide +kernel
theorem e_0_1077 : den cf 0 1077 L (.int y :: .int x :: st) M = if x = y then den cf 0 1756 L st M else den cf 0 1080 L st M := den_ic_eq l_0_1077
theorem l_0_1080 : look (tab 0) 1080 = some (.iconst 0, 1, [], .int (zI 0)) := by decide +kernel
theorem e_0_1080 : den cf 0 1080 L st M = den cf 0 1081 L (.int (zI 0) :: st) M := den_go l_0_1080 rfl
theorem l_0_1081 : look (tab 0) 1081 = some (.ireturn, 1, [1], uu) := by decide +kernel
theorem e_0_1081 : den cf 0 1081 L [.int x] M = if x = zI 0 ∨ x = zI 1 then some (some (.int x), M) else none := den_e1 l_0_1081
theorem l_0_1082 : look (tab 0) 1082 = some (.aload_n 1, 1, [], uu) := by decide +kernel
theorem e_0_1082 : den cf 0 1082 [v0, v1, v2, v3] st M = if isRf v1 = true then den cf 0 1083 [v0, v1, v2, v3] (v1 :: st) M else none := den_g l_0_1082 rfl
theorem l_0_1083 : look (tab 0) 1083 = some (.aload_n 0, 1, [], uu) := by decide +kernel
theorem e_0_1083 : den cf 0 1083 [v0, v1, v2, v3] st M = if isRf v0 = true then den cf 0 1084 [v0, v1, v2, v3] (v0 :: st) M else none := den_g l_0_1083 rfl
theorem l_0_1084 : look (tab 0) 1084 = some (.iload_n 3, 1, [], uu) := by decide +kernel
theorem e_0_1084 : den cf 0 1084 [v0, v1, v2, .int x] st M = den cf 0 1085 [v0, v1, v2, .int x] (.int x :: st) M := den_go l_0_1084 rfl
theorem l_0_1085 : look (tab 0) 1085 = some (.iconst 1, 1, [], .int (zI 1)) := by decide +kernel
theorem e_0_1085 : den cf 0 1085 L st M = den cf 0 1086 L (.int (zI 1) :: st) M := den_go l_0_1085 rfl
theorem l_0_1086 : look (tab 0) 1086 = some (.iadd, 1, [], uu) := by decide +kernel
theorem e_0_1086 : den cf 0 1086 L (.int y :: .int x :: st) M = den cf 0 1087 L (.int (x + y) :: st) M := den_go l_0_1086 rfl
theorem l_0_1087 : look (tab 0) 1087 = some (.iaload, 1, [], uu) := by decide +kernel
theorem e_0_1087 : den cf 0 1087 L (.int x :: .ref a :: st) M = oK (ldI (M.2.2 a) x) (fun v => den cf 0 1088 L (v :: st) M) := den_al (g := ldI) l_0_1087 rfl
theorem l_0_1088 : look (tab 0) 1088 = some (.invokevirtual 123, 3, [5, 106, 2, 826, 827, 828, 2], uu) := by decide +kernel
theorem e_0_1088 : den cf 0 1088 L (w1 :: .ref a :: st) M = if rcv M 5 [.ref a, w1] = true ∧ st.length ≤ 4 then rK (cf 106 [.ref a, w1] M) (fun v M' => den cf 0 1091 L (pR v st) M') else none := den_iv [w1] l_0_1088 rfl
theorem l_0_1091 : look (tab 0) 1091 = some (.aload_n 2, 1, [], uu) := by decide +kernel
theorem e_0_1091 : den cf 0 1091 [v0, v1, v2, v3] st M = if isRf v2 = true then den cf 0 1092 [v0, v1, v2, v3] (v2 :: st) M else none := den_g l_0_1091 rfl
theorem l_0_1092 : look (tab 0) 1092 = some (.aload_n 0, 1, [], uu) := by decide +kernel
theorem e_0_1092 : den cf 0 1092 [v0, v1, v2, v3] st M = if isRf v0 = true then den cf 0 1093 [v0, v1, v2, v3] (v0 :: st) M else none := den_g l_0_1092 rfl
theorem l_0_1093 : look (tab 0) 1093 = some (.iload_n 3, 1, [], uu) := by decide +kernel
theorem e_0_1093 : den cf 0 1093 [v0, v1, v2, .int x] st M = den cf 0 1094 [v0, v1, v2, .int x] (.int x :: st) M := den_go l_0_1093 rfl
theorem l_0_1094 : look (tab 0) 1094 = some (.iconst 1, 1, [], .int (zI 1)) := by decide +kernel
theorem e_0_1094 : den cf 0 1094 L st M = den cf 0 1095 L (.int (zI 1) :: st) M := den_go l_0_1094 rfl
theorem l_0_1095 : look (tab 0) 1095 = some (.iadd, 1, [], uu) := by decide +kernel
theorem e_0_1095 : den cf 0 1095 L (.int y :: .int x :: st) M = den cf 0 1096 L (.int (x + y) :: st) M := den_go l_0_1095 rfl
theorem l_0_1096 : look (tab 0) 1096 = some (.iaload, 1, [], uu) := by decide +kernel
theorem e_0_1096 : den cf 0 1096 L (.int x :: .ref a :: st) M = oK (ldI (M.2.2 a) x) (fun v => den cf 0 1097 L (v :: st) M) := den_al (g := ldI) l_0_1096 rfl
theorem l_0_1097 : look (tab 0) 1097 = some (.invokevirtual 126, 3, [6, 199, 2, 844, 845, 846, 5], uu) := by decide +kernel
theorem e_0_1097 : den cf 0 1097 L (w1 :: .ref a :: st) M = if rcv M 6 [.ref a, w1] = true ∧ st.length ≤ 4 then rK (cf 199 [.ref a, w1] M) (fun v M' => den cf 0 1100 L (pR v st) M') else none := den_iv [w1] l_0_1097 rfl
theorem l_0_1100 : look (tab 0) 1100 = some (.if_icmp .eq 656, 3, [1756], uu) := by decide +kernel
theorem e_0_1100 : den cf 0 1100 L (.int y :: .int x :: st) M = if x = y then den cf 0 1756 L st M else den cf 0 1103 L st M := den_ic_eq l_0_1100
theorem l_0_1103 : look (tab 0) 1103 = some (.iconst 0, 1, [], .int (zI 0)) := by decide +kernel
theorem e_0_1103 : den cf 0 1103 L st M = den cf 0 1104 L (.int (zI 0) :: st) M := den_go l_0_1103 rfl
theorem l_0_1104 : look (tab 0) 1104 = some (.ireturn, 1, [1], uu) := by decide +kernel
theorem e_0_1104 : den cf 0 1104 L [.int x] M = if x = zI 0 ∨ x = zI 1 then some (some (.int x), M) else none := den_e1 l_0_1104
theorem l_0_1105 : look (tab 0) 1105 = some (.aload_n 1, 1, [], uu) := by decide +kernel
theorem e_0_1105 : den cf 0 1105 [v0, v1, v2, v3] st M = if isRf v1 = true then den cf 0 1106 [v0, v1, v2, v3] (v1 :: st) M else none := den_g l_0_1105 rfl
theorem l_0_1106 : look (tab 0) 1106 = some (.invokevirtual 127, 3, [5, 109, 1, 856, 857, 858, 2], uu) := by decide +kernel
theorem e_0_1106 : den cf 0 1106 L (.ref a :: st) M = if rcv M 5 [.ref a] = true ∧ st.length ≤ 4 then rK (cf 109 [.ref a] M) (fun v M' => den cf 0 1109 L (pR v st) M') else none := den_iv [] l_0_1106 rfl
theorem l_0_1109 : look (tab 0) 1109 = some (.aload_n 2, 1, [], uu) := by decide +kernel
theorem e_0_1109 : den cf 0 1109 [v0, v1, v2, v3] st M = if isRf v2 = true then den cf 0 1110 [v0, v1, v2, v3] (v2 :: st) M else none := den_g l_0_1109 rfl
theorem l_0_1110 : look (tab 0) 1110 = some (.invokevirtual 130, 3, [6, 203, 1, 873, 874, 875, 5], uu) := by decide +kernel
theorem e_0_1110 : den cf 0 1110 L (.ref a :: st) M = if rcv M 6 [.ref a] = true ∧ st.length ≤ 4 then rK (cf 203 [.ref a] M) (fun v M' => den cf 0 1113 L (pR v st) M') else none := den_iv [] l_0_1110 rfl
theorem l_0_1113 : look (tab 0) 1113 = some (.if_icmp .eq 643, 3, [1756], uu) := by decide +kernel
theorem e_0_1113 : den cf 0 1113 L (.int y :: .int x :: st) M = if x = y then den cf 0 1756 L st M else den cf 0 1116 L st M := den_ic_eq l_0_1113
theorem l_0_1116 : look (tab 0) 1116 = some (.iconst 0, 1, [], .int (zI 0)) := by decide +kernel
theorem e_0_1116 : den cf 0 1116 L st M = den cf 0 1117 L (.int (zI 0) :: st) M := den_go l_0_1116 rfl
theorem l_0_1117 : look (tab 0) 1117 = some (.ireturn, 1, [1], uu) := by decide +kernel
theorem e_0_1117 : den cf 0 1117 L [.int x] M = if x = zI 0 ∨ x = zI 1 then some (some (.int x), M) else none := den_e1 l_0_1117
theorem l_0_1118 : look (tab 0) 1118 = some (.aload_n 1, 1, [], uu) := by decide +kernel
theorem e_0_1118 : den cf 0 1118 [v0, v1, v2, v3] st M = if isRf v1 = true then den cf 0 1119 [v0, v1, v2, v3] (v1 :: st) M else none := den_g l_0_1118 rfl
theorem l_0_1119 : look (tab 0) 1119 = some (.invokevirtual 131, 3, [5, 110, 1, 889, 890, 891, 2], uu) := by decide +kernel
theorem e_0_1119 : den cf 0 1119 L (.ref a :: st) M = if rcv M 5 [.ref a] = true ∧ st.length ≤ 4 then rK (cf 110 [.ref a] M) (fun v M' => den cf 0 1122 L (pR v st) M') else none := den_iv [] l_0_1119 rfl
theorem l_0_1122 : look (tab 0) 1122 = some (.aload_n 2, 1, [], uu) := by decide +kernel
theorem e_0_1122 : den cf 0 1122 [v0, v1, v2, v3] st M = if isRf v2 = true then den cf 0 1123 [v0, v1, v2, v3] (v2 :: st) M else none := den_g l_0_1122 rfl
theorem l_0_1123 : look (tab 0) 1123 = some (.invokevirtual 134, 3, [6, 205, 1, 898, 899, 900, 5], uu) := by decide +kernel
theorem e_0_1123 : den cf 0 1123 L (.ref a :: st) M = if rcv M 6 [.ref a] = true ∧ st.length ≤ 4 then rK (cf 205 [.ref a] M) (fun v M' => den cf 0 1126 L (pR v st) M') else none := den_iv [] l_0_1123 rfl
theorem l_0_1126 : look (tab 0) 1126 = some (.if_icmp .eq 630, 3, [1756], uu) := by decide +kernel
theorem e_0_1126 : den cf 0 1126 L (.int y :: .int x :: st) M = if x = y then den cf 0 1756 L st M else den cf 0 1129 L st M := den_ic_eq l_0_1126
theorem l_0_1129 : look (tab 0) 1129 = some (.iconst 0, 1, [], .int (zI 0)) := by decide +kernel
theorem e_0_1129 : den cf 0 1129 L st M = den cf 0 1130 L (.int (zI 0) :: st) M := den_go l_0_1129 rfl
theorem l_0_1130 : look (tab 0) 1130 = some (.ireturn, 1, [1], uu) := by decide +kernel
theorem e_0_1130 : den cf 0 1130 L [.int x] M = if x = zI 0 ∨ x = zI 1 then some (some (.int x), M) else none := den_e1 l_0_1130
theorem l_0_1131 : look (tab 0) 1131 = some (.aload_n 1, 1, [], uu) := by decide +kernel
theorem e_0_1131 : den cf 0 1131 [v0, v1, v2, v3] st M = if isRf v1 = true then den cf 0 1132 [v0, v1, v2, v3] (v1 :: st) M else none := den_g l_0_1131 rfl
theorem l_0_1132 : look (tab 0) 1132 = some (.invokevirtual 135, 3, [5, 111, 1, 906, 907, 908, 2], uu) := by decide +kernel
theorem e_0_1132 : den cf 0 1132 L (.ref a :: st) M = if rcv M 5 [.ref a] = true ∧ st.length ≤ 4 then rK (cf 111 [.ref a] M) (fun v M' => den cf 0 1135 L (pR v st) M') else none := den_iv [] l_0_1132 rfl
theorem l_0_1135 : look (tab 0) 1135 = some (.aload_n 2, 1, [], uu) := by decide +kernel
theorem e_0_1135 : den cf 0 1135 [v0, v1, v2, v3] st M = if isRf v2 = true then den cf 0 1136 [v0, v1, v2, v3] (v2 :: st) M else none := den_g l_0_1135 rfl
theorem l_0_1136 : look (tab 0) 1136 = some (.invokevirtual 138, 3, [6, 206, 1, 910, 911, 912, 5], uu) := by decide +kernel
theorem e_0_1136 : den cf 0 1136 L (.ref a :: st) M = if rcv M 6 [.ref a] = true ∧ st.length ≤ 4 then rK (cf 206 [.ref a] M) (fun v M' => den cf 0 1139 L (pR v st) M') else none := den_iv [] l_0_1136 rfl
theorem l_0_1139 : look (tab 0) 1139 = some (.if_icmp .eq 617, 3, [1756], uu) := by decide +kernel
theorem e_0_1139 : den cf 0 1139 L (.int y :: .int x :: st) M = if x = y then den cf 0 1756 L st M else den cf 0 1142 L st M := den_ic_eq l_0_1139
theorem l_0_1142 : look (tab 0) 1142 = some (.iconst 0, 1, [], .int (zI 0)) := by decide +kernel
theorem e_0_1142 : den cf 0 1142 L st M = den cf 0 1143 L (.int (zI 0) :: st) M := den_go l_0_1142 rfl
theorem l_0_1143 : look (tab 0) 1143 = some (.ireturn, 1, [1], uu) := by decide +kernel
theorem e_0_1143 : den cf 0 1143 L [.int x] M = if x = zI 0 ∨ x = zI 1 then some (some (.int x), M) else none := den_e1 l_0_1143
theorem l_0_1144 : look (tab 0) 1144 = some (.aload_n 1, 1, [], uu) := by decide +kernel
theorem e_0_1144 : den cf 0 1144 [v0, v1, v2, v3] st M = if isRf v1 = true then den cf 0 1145 [v0, v1, v2, v3] (v1 :: st) M else none := den_g l_0_1144 rfl
theorem l_0_1145 : look (tab 0) 1145 = some (.aload_n 0, 1, [], uu) := by decide +kernel
theorem e_0_1145 : den cf 0 1145 [v0, v1, v2, v3] st M = if isRf v0 = true then den cf 0 1146 [v0, v1, v2, v3] (v0 :: st) M else none := den_g l_0_1145 rfl
theorem l_0_1146 : look (tab 0) 1146 = some (.iload_n 3, 1, [], uu) := by decide +kernel
theorem e_0_1146 : den cf 0 1146 [v0, v1, v2, .int x] st M = den cf 0 1147 [v0, v1, v2, .int x] (.int x :: st) M := den_go l_0_1146 rfl
theorem l_0_1147 : look (tab 0) 1147 = some (.iconst 1, 1, [], .int (zI 1)) := by decide +kernel
theorem e_0_1147 : den cf 0 1147 L st M = den cf 0 1148 L (.int (zI 1) :: st) M := den_go l_0_1147 rfl
theorem l_0_1148 : look (tab 0) 1148 = some (.iadd, 1, [], uu) := by decide +kernel
theorem e_0_1148 : den cf 0 1148 L (.int y :: .int x :: st) M = den cf 0 1149 L (.int (x + y) :: st) M := den_go l_0_1148 rfl
theorem l_0_1149 : look (tab 0) 1149 = some (.iaload, 1, [], uu) := by decide +kernel
theorem e_0_1149 : den cf 0 1149 L (.int x :: .ref a :: st) M = oK (ldI (M.2.2 a) x) (fun v => den cf 0 1150 L (v :: st) M) := den_al (g := ldI) l_0_1149 rfl
theorem l_0_1150 : look (tab 0) 1150 = some (.aload_n 0, 1, [], uu) := by decide +kernel
theorem e_0_1150 : den cf 0 1150 [v0, v1, v2, v3] st M = if isRf v0 = true then den cf 0 1151 [v0, v1, v2, v3] (v0 :: st) M else none := den_g l_0_1150 rfl
theorem l_0_1151 : look (tab 0) 1151 = some (.iload_n 3, 1, [], uu) := by decide +kernel
theorem e_0_1151 : den cf 0 1151 [v0, v1, v2, .int x] st M = den cf 0 1152 [v0, v1, v2, .int x] (.int x :: st) M := den_go l_0_1151 rfl
theorem l_0_1152 : look (tab 0) 1152 = some (.iconst 2, 1, [], .int (zI 2)) := by decide +kernel
theorem e_0_1152 : den cf 0 1152 L st M = den cf 0 1153 L (.int (zI 2) :: st) M := den_go l_0_1152 rfl
theorem l_0_1153 : look (tab 0) 1153 = some (.iadd, 1, [], uu) := by decide +kernel
theorem e_0_1153 : den cf 0 1153 L (.int y :: .int x :: st) M = den cf 0 1154 L (.int (x + y) :: st) M := den_go l_0_1153 rfl
theorem l_0_1154 : look (tab 0) 1154 = some (.iaload, 1, [], uu) := by decide +kernel
theorem e_0_1154 : den cf 0 1154 L (.int x :: .ref a :: st) M = oK (ldI (M.2.2 a) x) (fun v => den cf 0 1155 L (v :: st) M) := den_al (g := ldI) l_0_1154 rfl
theorem l_0_1155 : look (tab 0) 1155 = some (.invokevirtual 139, 3, [5, 112, 3, 914, 915, 916, 2], uu) := by decide +kernel
theorem e_0_1155 : den cf 0 1155 L (w2 :: w1 :: .ref a :: st) M = if rcv M 5 [.ref a, w1, w2] = true ∧ st.length ≤ 4 then rK (cf 112 [.ref a, w1, w2] M) (fun v M' => den cf 0 1158 L (pR v st) M') else none := den_iv [w1, w2] l_0_1155 rfl
theorem l_0_1158 : look (tab 0) 1158 = some (.aload_n 2, 1, [], uu) := by decide +kernel
theorem e_0_1158 : den cf 0 1158 [v0, v1, v2, v3] st M = if isRf v2 = true then den cf 0 1159 [v0, v1, v2, v3] (v2 :: st) M else none := den_g l_0_1158 rfl
theorem l_0_1159 : look (tab 0) 1159 = some (.aload_n 0, 1, [], uu) := by decide +kernel
theorem e_0_1159 : den cf 0 1159 [v0, v1, v2, v3] st M = if isRf v0 = true then den cf 0 1160 [v0, v1, v2, v3] (v0 :: st) M else none := den_g l_0_1159 rfl
theorem l_0_1160 : look (tab 0) 1160 = some (.iload_n 3, 1, [], uu) := by decide +kernel
theorem e_0_1160 : den cf 0 1160 [v0, v1, v2, .int x] st M = den cf 0 1161 [v0, v1, v2, .int x] (.int x :: st) M := den_go l_0_1160 rfl
theorem l_0_1161 : look (tab 0) 1161 = some (.iconst 1, 1, [], .int (zI 1)) := by decide +kernel
theorem e_0_1161 : den cf 0 1161 L st M = den cf 0 1162 L (.int (zI 1) :: st) M := den_go l_0_1161 rfl
theorem l_0_1162 : look (tab 0) 1162 = some (.iadd, 1, [], uu) := by decide +kernel
theorem e_0_1162 : den cf 0 1162 L (.int y :: .int x :: st) M = den cf 0 1163 L (.int (x + y) :: st) M := den_go l_0_1162 rfl
theorem l_0_1163 : look (tab 0) 1163 = some (.iaload, 1, [], uu) := by decide +kernel
theorem e_0_1163 : den cf 0 1163 L (.int x :: .ref a :: st) M = oK (ldI (M.2.2 a) x) (fun v => den cf 0 1164 L (v :: st) M) := den_al (g := ldI) l_0_1163 rfl
theorem l_0_1164 : look (tab 0) 1164 = some (.aload_n 0, 1, [], uu) := by decide +kernel
theorem e_0_1164 : den cf 0 1164 [v0, v1, v2, v3] st M = if isRf v0 = true then den cf 0 1165 [v0, v1, v2, v3] (v0 :: st) M else none := den_g l_0_1164 rfl
theorem l_0_1165 : look (tab 0) 1165 = some (.iload_n 3, 1, [], uu) := by decide +kernel
theorem e_0_1165 : den cf 0 1165 [v0, v1, v2, .int x] st M = den cf 0 1166 [v0, v1, v2, .int x] (.int x :: st) M := den_go l_0_1165 rfl
theorem l_0_1166 : look (tab 0) 1166 = some (.iconst 2, 1, [], .int (zI 2)) := by decide +kernel
theorem e_0_1166 : den cf 0 1166 L st M = den cf 0 1167 L (.int (zI 2) :: st) M := den_go l_0_1166 rfl
theorem l_0_1167 : look (tab 0) 1167 = some (.iadd, 1, [], uu) := by decide +kernel
theorem e_0_1167 : den cf 0 1167 L (.int y :: .int x :: st) M = den cf 0 1168 L (.int (x + y) :: st) M := den_go l_0_1167 rfl
theorem l_0_1168 : look (tab 0) 1168 = some (.iaload, 1, [], uu) := by decide +kernel
theorem e_0_1168 : den cf 0 1168 L (.int x :: .ref a :: st) M = oK (ldI (M.2.2 a) x) (fun v => den cf 0 1169 L (v :: st) M) := den_al (g := ldI) l_0_1168 rfl
theorem l_0_1169 : look (tab 0) 1169 = some (.invokevirtual 142, 3, [6, 208, 3, 923, 924, 925, 5], uu) := by decide +kernel
theorem e_0_1169 : den cf 0 1169 L (w2 :: w1 :: .ref a :: st) M = if rcv M 6 [.ref a, w1, w2] = true ∧ st.length ≤ 4 then rK (cf 208 [.ref a, w1, w2] M) (fun v M' => den cf 0 1172 L (pR v st) M') else none := den_iv [w1, w2] l_0_1169 rfl
theorem l_0_1172 : look (tab 0) 1172 = some (.if_icmp .eq 584, 3, [1756], uu) := by decide +kernel
theorem e_0_1172 : den cf 0 1172 L (.int y :: .int x :: st) M = if x = y then den cf 0 1756 L st M else den cf 0 1175 L st M := den_ic_eq l_0_1172
theorem l_0_1175 : look (tab 0) 1175 = some (.iconst 0, 1, [], .int (zI 0)) := by decide +kernel
theorem e_0_1175 : den cf 0 1175 L st M = den cf 0 1176 L (.int (zI 0) :: st) M := den_go l_0_1175 rfl
theorem l_0_1176 : look (tab 0) 1176 = some (.ireturn, 1, [1], uu) := by decide +kernel
theorem e_0_1176 : den cf 0 1176 L [.int x] M = if x = zI 0 ∨ x = zI 1 then some (some (.int x), M) else none := den_e1 l_0_1176
theorem l_0_1177 : look (tab 0) 1177 = some (.aload_n 1, 1, [], uu) := by decide +kernel
theorem e_0_1177 : den cf 0 1177 [v0, v1, v2, v3] st M = if isRf v1 = true then den cf 0 1178 [v0, v1, v2, v3] (v1 :: st) M else none := den_g l_0_1177 rfl
theorem l_0_1178 : look (tab 0) 1178 = some (.invokevirtual 143, 3, [5, 113, 1, 931, 932, 933, 2], uu) := by decide +kernel
theorem e_0_1178 : den cf 0 1178 L (.ref a :: st) M = if rcv M 5 [.ref a] = true ∧ st.length ≤ 4 then rK (cf 113 [.ref a] M) (fun v M' => den cf 0 1181 L (pR v st) M') else none := den_iv [] l_0_1178 rfl
theorem l_0_1181 : look (tab 0) 1181 = some (.aload_n 2, 1, [], uu) := by decide +kernel
theorem e_0_1181 : den cf 0 1181 [v0, v1, v2, v3] st M = if isRf v2 = true then den cf 0 1182 [v0, v1, v2, v3] (v2 :: st) M else none := den_g l_0_1181 rfl
theorem l_0_1182 : look (tab 0) 1182 = some (.invokevirtual 146, 3, [6, 209, 1, 936, 937, 938, 5], uu) := by decide +kernel
theorem e_0_1182 : den cf 0 1182 L (.ref a :: st) M = if rcv M 6 [.ref a] = true ∧ st.length ≤ 4 then rK (cf 209 [.ref a] M) (fun v M' => den cf 0 1185 L (pR v st) M') else none := den_iv [] l_0_1182 rfl
theorem l_0_1185 : look (tab 0) 1185 = some (.if_icmp .eq 571, 3, [1756], uu) := by decide +kernel
theorem e_0_1185 : den cf 0 1185 L (.int y :: .int x :: st) M = if x = y then den cf 0 1756 L st M else den cf 0 1188 L st M := den_ic_eq l_0_1185
theorem l_0_1188 : look (tab 0) 1188 = some (.iconst 0, 1, [], .int (zI 0)) := by decide +kernel
theorem e_0_1188 : den cf 0 1188 L st M = den cf 0 1189 L (.int (zI 0) :: st) M := den_go l_0_1188 rfl
theorem l_0_1189 : look (tab 0) 1189 = some (.ireturn, 1, [1], uu) := by decide +kernel
theorem e_0_1189 : den cf 0 1189 L [.int x] M = if x = zI 0 ∨ x = zI 1 then some (some (.int x), M) else none := den_e1 l_0_1189
theorem l_0_1190 : look (tab 0) 1190 = some (.aload_n 1, 1, [], uu) := by decide +kernel
theorem e_0_1190 : den cf 0 1190 [v0, v1, v2, v3] st M = if isRf v1 = true then den cf 0 1191 [v0, v1, v2, v3] (v1 :: st) M else none := den_g l_0_1190 rfl
theorem l_0_1191 : look (tab 0) 1191 = some (.aload_n 0, 1, [], uu) := by decide +kernel
theorem e_0_1191 : den cf 0 1191 [v0, v1, v2, v3] st M = if isRf v0 = true then den cf 0 1192 [v0, v1, v2, v3] (v0 :: st) M else none := den_g l_0_1191 rfl
theorem l_0_1192 : look (tab 0) 1192 = some (.iload_n 3, 1, [], uu) := by decide +kernel
theorem e_0_1192 : den cf 0 1192 [v0, v1, v2, .int x] st M = den cf 0 1193 [v0, v1, v2, .int x] (.int x :: st) M := den_go l_0_1192 rfl
theorem l_0_1193 : look (tab 0) 1193 = some (.iconst 1, 1, [], .int (zI 1)) := by decide +kernel
theorem e_0_1193 : den cf 0 1193 L st M = den cf 0 1194 L (.int (zI 1) :: st) M := den_go l_0_1193 rfl
theorem l_0_1194 : look (tab 0) 1194 = some (.iadd, 1, [], uu) := by decide +kernel
theorem e_0_1194 : den cf 0 1194 L (.int y :: .int x :: st) M = den cf 0 1195 L (.int (x + y) :: st) M := den_go l_0_1194 rfl
theorem l_0_1195 : look (tab 0) 1195 = some (.iaload, 1, [], uu) := by decide +kernel
theorem e_0_1195 : den cf 0 1195 L (.int x :: .ref a :: st) M = oK (ldI (M.2.2 a) x) (fun v => den cf 0 1196 L (v :: st) M) := den_al (g := ldI) l_0_1195 rfl
theorem l_0_1196 : look (tab 0) 1196 = some (.invokevirtual 147, 3, [5, 114, 2, 940, 941, 942, 2], uu) := by decide +kernel
theorem e_0_1196 : den cf 0 1196 L (w1 :: .ref a :: st) M = if rcv M 5 [.ref a, w1] = true ∧ st.length ≤ 4 then rK (cf 114 [.ref a, w1] M) (fun v M' => den cf 0 1199 L (pR v st) M') else none := den_iv [w1] l_0_1196 rfl
theorem l_0_1199 : look (tab 0) 1199 = some (.aload_n 2, 1, [], uu) := by decide +kernel
theorem e_0_1199 : den cf 0 1199 [v0, v1, v2, v3] st M = if isRf v2 = true then den cf 0 1200 [v0, v1, v2, v3] (v2 :: st) M else none := den_g l_0_1199 rfl
theorem l_0_1200 : look (tab 0) 1200 = some (.aload_n 0, 1, [], uu) := by decide +kernel
theorem e_0_1200 : den cf 0 1200 [v0, v1, v2, v3] st M = if isRf v0 = true then den cf 0 1201 [v0, v1, v2, v3] (v0 :: st) M else none := den_g l_0_1200 rfl
theorem l_0_1201 : look (tab 0) 1201 = some (.iload_n 3, 1, [], uu) := by decide +kernel
theorem e_0_1201 : den cf 0 1201 [v0, v1, v2, .int x] st M = den cf 0 1202 [v0, v1, v2, .int x] (.int x :: st) M := den_go l_0_1201 rfl
theorem l_0_1202 : look (tab 0) 1202 = some (.iconst 1, 1, [], .int (zI 1)) := by decide +kernel
theorem e_0_1202 : den cf 0 1202 L st M = den cf 0 1203 L (.int (zI 1) :: st) M := den_go l_0_1202 rfl
theorem l_0_1203 : look (tab 0) 1203 = some (.iadd, 1, [], uu) := by decide +kernel
theorem e_0_1203 : den cf 0 1203 L (.int y :: .int x :: st) M = den cf 0 1204 L (.int (x + y) :: st) M := den_go l_0_1203 rfl
theorem l_0_1204 : look (tab 0) 1204 = some (.iaload, 1, [], uu) := by decide +kernel
theorem e_0_1204 : den cf 0 1204 L (.int x :: .ref a :: st) M = oK (ldI (M.2.2 a) x) (fun v => den cf 0 1205 L (v :: st) M) := den_al (g := ldI) l_0_1204 rfl
theorem l_0_1205 : look (tab 0) 1205 = some (.invokevirtual 150, 3, [6, 210, 2, 944, 945, 946, 5], uu) := by decide +kernel
theorem e_0_1205 : den cf 0 1205 L (w1 :: .ref a :: st) M = if rcv M 6 [.ref a, w1] = true ∧ st.length ≤ 4 then rK (cf 210 [.ref a, w1] M) (fun v M' => den cf 0 1208 L (pR v st) M') else none := den_iv [w1] l_0_1205 rfl
theorem l_0_1208 : look (tab 0) 1208 = some (.if_icmp .eq 548, 3, [1756], uu) := by decide +kernel
theorem e_0_1208 : den cf 0 1208 L (.int y :: .int x :: st) M = if x = y then den cf 0 1756 L st M else den cf 0 1211 L st M := den_ic_eq l_0_1208
theorem l_0_1211 : look (tab 0) 1211 = some (.iconst 0, 1, [], .int (zI 0)) := by decide +kernel
theorem e_0_1211 : den cf 0 1211 L st M = den cf 0 1212 L (.int (zI 0) :: st) M := den_go l_0_1211 rfl
theorem l_0_1212 : look (tab 0) 1212 = some (.ireturn, 1, [1], uu) := by decide +kernel
theorem e_0_1212 : den cf 0 1212 L [.int x] M = if x = zI 0 ∨ x = zI 1 then some (some (.int x), M) else none := den_e1 l_0_1212
theorem l_0_1213 : look (tab 0) 1213 = some (.aload_n 1, 1, [], uu) := by decide +kernel
theorem e_0_1213 : den cf 0 1213 [v0, v1, v2, v3] st M = if isRf v1 = true then den cf 0 1214 [v0, v1, v2, v3] (v1 :: st) M else none := den_g l_0_1213 rfl
theorem l_0_1214 : look (tab 0) 1214 = some (.aload_n 0, 1, [], uu) := by decide +kernel
theorem e_0_1214 : den cf 0 1214 [v0, v1, v2, v3] st M = if isRf v0 = true then den cf 0 1215 [v0, v1, v2, v3] (v0 :: st) M else none := den_g l_0_1214 rfl
theorem l_0_1215 : look (tab 0) 1215 = some (.iload_n 3, 1, [], uu) := by decide +kernel
theorem e_0_1215 : den cf 0 1215 [v0, v1, v2, .int x] st M = den cf 0 1216 [v0, v1, v2, .int x] (.int x :: st) M := den_go l_0_1215 rfl
theorem l_0_1216 : look (tab 0) 1216 = some (.iconst 1, 1, [], .int (zI 1)) := by decide +kernel
theorem e_0_1216 : den cf 0 1216 L st M = den cf 0 1217 L (.int (zI 1) :: st) M := den_go l_0_1216 rfl
theorem l_0_1217 : look (tab 0) 1217 = some (.iadd, 1, [], uu) := by decide +kernel
theorem e_0_1217 : den cf 0 1217 L (.int y :: .int x :: st) M = den cf 0 1218 L (.int (x + y) :: st) M := den_go l_0_1217 rfl
theorem l_0_1218 : look (tab 0) 1218 = some (.iaload, 1, [], uu) := by decide +kernel
theorem e_0_1218 : den cf 0 1218 L (.int x :: .ref a :: st) M = oK (ldI (M.2.2 a) x) (fun v => den cf 0 1219 L (v :: st) M) := den_al (g := ldI) l_0_1218 rfl
theorem l_0_1219 : look (tab 0) 1219 = some (.invokevirtual 151, 3, [5, 115, 2, 948, 949, 950, 2], uu) := by decide +kernel
theorem e_0_1219 : den cf 0 1219 L (w1 :: .ref a :: st) M = if rcv M 5 [.ref a, w1] = true ∧ st.length ≤ 4 then rK (cf 115 [.ref a, w1] M) (fun v M' => den cf 0 1222 L (pR v st) M') else none := den_iv [w1] l_0_1219 rfl
theorem l_0_1222 : look (tab 0) 1222 = some (.aload_n 2, 1, [], uu) := by decide +kernel
theorem e_0_1222 : den cf 0 1222 [v0, v1, v2, v3] st M = if isRf v2 = true then den cf 0 1223 [v0, v1, v2, v3] (v2 :: st) M else none := den_g l_0_1222 rfl
theorem l_0_1223 : look (tab 0) 1223 = some (.aload_n 0, 1, [], uu) := by decide +kernel
theorem e_0_1223 : den cf 0 1223 [v0, v1, v2, v3] st M = if isRf v0 = true then den cf 0 1224 [v0, v1, v2, v3] (v0 :: st) M else none := den_g l_0_1223 rfl
theorem l_0_1224 : look (tab 0) 1224 = some (.iload_n 3, 1, [], uu) := by decide +kernel
theorem e_0_1224 : den cf 0 1224 [v0, v1, v2, .int x] st M = den cf 0 1225 [v0, v1, v2, .int x] (.int x :: st) M := den_go l_0_1224 rfl
theorem l_0_1225 : look (tab 0) 1225 = some (.iconst 1, 1, [], .int (zI 1)) := by decide +kernel
theorem e_0_1225 : den cf 0 1225 L st M = den cf 0 1226 L (.int (zI 1) :: st) M := den_go l_0_1225 rfl
theorem l_0_1226 : look (tab 0) 1226 = some (.iadd, 1, [], uu) := by decide +kernel
theorem e_0_1226 : den cf 0 1226 L (.int y :: .int x :: st) M = den cf 0 1227 L (.int (x + y) :: st) M := den_go l_0_1226 rfl
theorem l_0_1227 : look (tab 0) 1227 = some (.iaload, 1, [], uu) := by decide +kernel
theorem e_0_1227 : den cf 0 1227 L (.int x :: .ref a :: st) M = oK (ldI (M.2.2 a) x) (fun v => den cf 0 1228 L (v :: st) M) := den_al (g := ldI) l_0_1227 rfl
theorem l_0_1228 : look (tab 0) 1228 = some (.invokevirtual 154, 3, [6, 211, 2, 953, 954, 955, 5], uu) := by decide +kernel
theorem e_0_1228 : den cf 0 1228 L (w1 :: .ref a :: st) M = if rcv M 6 [.ref a, w1] = true ∧ st.length ≤ 4 then rK (cf 211 [.ref a, w1] M) (fun v M' => den cf 0 1231 L (pR v st) M') else none := den_iv [w1] l_0_1228 rfl
theorem l_0_1231 : look (tab 0) 1231 = some (.if_icmp .eq 525, 3, [1756], uu) := by decide +kernel
theorem e_0_1231 : den cf 0 1231 L (.int y :: .int x :: st) M = if x = y then den cf 0 1756 L st M else den cf 0 1234 L st M := den_ic_eq l_0_1231
theorem l_0_1234 : look (tab 0) 1234 = some (.iconst 0, 1, [], .int (zI 0)) := by decide +kernel
theorem e_0_1234 : den cf 0 1234 L st M = den cf 0 1235 L (.int (zI 0) :: st) M := den_go l_0_1234 rfl
theorem l_0_1235 : look (tab 0) 1235 = some (.ireturn, 1, [1], uu) := by decide +kernel
theorem e_0_1235 : den cf 0 1235 L [.int x] M = if x = zI 0 ∨ x = zI 1 then some (some (.int x), M) else none := den_e1 l_0_1235
theorem l_0_1236 : look (tab 0) 1236 = some (.aload_n 1, 1, [], uu) := by decide +kernel
theorem e_0_1236 : den cf 0 1236 [v0, v1, v2, v3] st M = if isRf v1 = true then den cf 0 1237 [v0, v1, v2, v3] (v1 :: st) M else none := den_g l_0_1236 rfl
theorem l_0_1237 : look (tab 0) 1237 = some (.aload_n 0, 1, [], uu) := by decide +kernel
theorem e_0_1237 : den cf 0 1237 [v0, v1, v2, v3] st M = if isRf v0 = true then den cf 0 1238 [v0, v1, v2, v3] (v0 :: st) M else none := den_g l_0_1237 rfl
theorem l_0_1238 : look (tab 0) 1238 = some (.iload_n 3, 1, [], uu) := by decide +kernel
theorem e_0_1238 : den cf 0 1238 [v0, v1, v2, .int x] st M = den cf 0 1239 [v0, v1, v2, .int x] (.int x :: st) M := den_go l_0_1238 rfl
theorem l_0_1239 : look (tab 0) 1239 = some (.iconst 1, 1, [], .int (zI 1)) := by decide +kernel
theorem e_0_1239 : den cf 0 1239 L st M = den cf 0 1240 L (.int (zI 1) :: st) M := den_go l_0_1239 rfl
theorem l_0_1240 : look (tab 0) 1240 = some (.iadd, 1, [], uu) := by decide +kernel
theorem e_0_1240 : den cf 0 1240 L (.int y :: .int x :: st) M = den cf 0 1241 L (.int (x + y) :: st) M := den_go l_0_1240 rfl
theorem l_0_1241 : look (tab 0) 1241 = some (.iaload, 1, [], uu) := by decide +kernel
theorem e_0_1241 : den cf 0 1241 L (.int x :: .ref a :: st) M = oK (ldI (M.2.2 a) x) (fun v => den cf 0 1242 L (v :: st) M) := den_al (g := ldI) l_0_1241 rfl
theorem l_0_1242 : look (tab 0) 1242 = some (.aload_n 0, 1, [], uu) := by decide +kernel
theorem e_0_1242 : den cf 0 1242 [v0, v1, v2, v3] st M = if isRf v0 = true then den cf 0 1243 [v0, v1, v2, v3] (v0 :: st) M else none := den_g l_0_1242 rfl
theorem l_0_1243 : look (tab 0) 1243 = some (.iload_n 3, 1, [], uu) := by decide +kernel
theorem e_0_1243 : den cf 0 1243 [v0, v1, v2, .int x] st M = den cf 0 1244 [v0, v1, v2, .int x] (.int x :: st) M := den_go l_0_1243 rfl
theorem l_0_1244 : look (tab 0) 1244 = some (.iconst 2, 1, [], .int (zI 2)) := by decide +kernel
theorem e_0_1244 : den cf 0 1244 L st M = den cf 0 1245 L (.int (zI 2) :: st) M := den_go l_0_1244 rfl
theorem l_0_1245 : look (tab 0) 1245 = some (.iadd, 1, [], uu) := by decide +kernel
theorem e_0_1245 : den cf 0 1245 L (.int y :: .int x :: st) M = den cf 0 1246 L (.int (x + y) :: st) M := den_go l_0_1245 rfl
theorem l_0_1246 : look (tab 0) 1246 = some (.iaload, 1, [], uu) := by decide +kernel
theorem e_0_1246 : den cf 0 1246 L (.int x :: .ref a :: st) M = oK (ldI (M.2.2 a) x) (fun v => den cf 0 1247 L (v :: st) M) := den_al (g := ldI) l_0_1246 rfl
theorem l_0_1247 : look (tab 0) 1247 = some (.invokevirtual 155, 3, [5, 107, 3, 958, 959, 960, 2], uu) := by decide +kernel
theorem e_0_1247 : den cf 0 1247 L (w2 :: w1 :: .ref a :: st) M = if rcv M 5 [.ref a, w1, w2] = true ∧ st.length ≤ 4 then rK (cf 107 [.ref a, w1, w2] M) (fun v M' => den cf 0 1250 L (pR v st) M') else none := den_iv [w1, w2] l_0_1247 rfl
theorem l_0_1250 : look (tab 0) 1250 = some (.aload_n 2, 1, [], uu) := by decide +kernel
theorem e_0_1250 : den cf 0 1250 [v0, v1, v2, v3] st M = if isRf v2 = true then den cf 0 1251 [v0, v1, v2, v3] (v2 :: st) M else none := den_g l_0_1250 rfl
theorem l_0_1251 : look (tab 0) 1251 = some (.aload_n 0, 1, [], uu) := by decide +kernel
theorem e_0_1251 : den cf 0 1251 [v0, v1, v2, v3] st M = if isRf v0 = true then den cf 0 1252 [v0, v1, v2, v3] (v0 :: st) M else none := den_g l_0_1251 rfl
theorem l_0_1252 : look (tab 0) 1252 = some (.iload_n 3, 1, [], uu) := by decide +kernel
theorem e_0_1252 : den cf 0 1252 [v0, v1, v2, .int x] st M = den cf 0 1253 [v0, v1, v2, .int x] (.int x :: st) M := den_go l_0_1252 rfl
theorem l_0_1253 : look (tab 0) 1253 = some (.iconst 1, 1, [], .int (zI 1)) := by decide +kernel
theorem e_0_1253 : den cf 0 1253 L st M = den cf 0 1254 L (.int (zI 1) :: st) M := den_go l_0_1253 rfl
theorem l_0_1254 : look (tab 0) 1254 = some (.iadd, 1, [], uu) := by decide +kernel
theorem e_0_1254 : den cf 0 1254 L (.int y :: .int x :: st) M = den cf 0 1255 L (.int (x + y) :: st) M := den_go l_0_1254 rfl
theorem l_0_1255 : look (tab 0) 1255 = some (.iaload, 1, [], uu) := by decide +kernel
theorem e_0_1255 : den cf 0 1255 L (.int x :: .ref a :: st) M = oK (ldI (M.2.2 a) x) (fun v => den cf 0 1256 L (v :: st) M) := den_al (g := ldI) l_0_1255 rfl
theorem l_0_1256 : look (tab 0) 1256 = some (.aload_n 0, 1, [], uu) := by decide +kernel
theorem e_0_1256 : den cf 0 1256 [v0, v1, v2, v3] st M = if isRf v0 = true then den cf 0 1257 [v0, v1, v2, v3] (v0 :: st) M else none := den_g l_0_1256 rfl
theorem l_0_1257 : look (tab 0) 1257 = some (.iload_n 3, 1, [], uu) := by decide +kernel
theorem e_0_1257 : den cf 0 1257 [v0, v1, v2, .int x] st M = den cf 0 1258 [v0, v1, v2, .int x] (.int x :: st) M := den_go l_0_1257 rfl
theorem l_0_1258 : look (tab 0) 1258 = some (.iconst 2, 1, [], .int (zI 2)) := by decide +kernel
theorem e_0_1258 : den cf 0 1258 L st M = den cf 0 1259 L (.int (zI 2) :: st) M := den_go l_0_1258 rfl
theorem l_0_1259 : look (tab 0) 1259 = some (.iadd, 1, [], uu) := by decide +kernel
theorem e_0_1259 : den cf 0 1259 L (.int y :: .int x :: st) M = den cf 0 1260 L (.int (x + y) :: st) M := den_go l_0_1259 rfl
theorem l_0_1260 : look (tab 0) 1260 = some (.iaload, 1, [], uu) := by decide +kernel
theorem e_0_1260 : den cf 0 1260 L (.int x :: .ref a :: st) M = oK (ldI (M.2.2 a) x) (fun v => den cf 0 1261 L (v :: st) M) := den_al (g := ldI) l_0_1260 rfl
theorem l_0_1261 : look (tab 0) 1261 = some (.invokevirtual 158, 3, [6, 212, 3, 962, 963, 964, 5], uu) := by decide +kernel
theorem e_0_1261 : den cf 0 1261 L (w2 :: w1 :: .ref a :: st) M = if rcv M 6 [.ref a, w1, w2] = true ∧ st.length ≤ 4 then rK (cf 212 [.ref a, w1, w2] M) (fun v M' => den cf 0 1264 L (pR v st) M') else none := den_iv [w1, w2] l_0_1261 rfl
theorem l_0_1264 : look (tab 0) 1264 = some (.if_icmp .eq 492, 3, [1756], uu) := by decide +kernel
theorem e_0_1264 : den cf 0 1264 L (.int y :: .int x :: st) M = if x = y then den cf 0 1756 L st M else den cf 0 1267 L st M := den_ic_eq l_0_1264
theorem l_0_1267 : look (tab 0) 1267 = some (.iconst 0, 1, [], .int (zI 0)) := by decide +kernel
theorem e_0_1267 : den cf 0 1267 L st M = den cf 0 1268 L (.int (zI 0) :: st) M := den_go l_0_1267 rfl
theorem l_0_1268 : look (tab 0) 1268 = some (.ireturn, 1, [1], uu) := by decide +kernel
theorem e_0_1268 : den cf 0 1268 L [.int x] M = if x = zI 0 ∨ x = zI 1 then some (some (.int x), M) else none := den_e1 l_0_1268
theorem l_0_1269 : look (tab 0) 1269 = some (.aload_n 1, 1, [], uu) := by decide +kernel
theorem e_0_1269 : den cf 0 1269 [v0, v1, v2, v3] st M = if isRf v1 = true then den cf 0 1270 [v0, v1, v2, v3] (v1 :: st) M else none := den_g l_0_1269 rfl
theorem l_0_1270 : look (tab 0) 1270 = some (.aload_n 0, 1, [], uu) := by decide +kernel
theorem e_0_1270 : den cf 0 1270 [v0, v1, v2, v3] st M = if isRf v0 = true then den cf 0 1271 [v0, v1, v2, v3] (v0 :: st) M else none := den_g l_0_1270 rfl
theorem l_0_1271 : look (tab 0) 1271 = some (.iload_n 3, 1, [], uu) := by decide +kernel
theorem e_0_1271 : den cf 0 1271 [v0, v1, v2, .int x] st M = den cf 0 1272 [v0, v1, v2, .int x] (.int x :: st) M := den_go l_0_1271 rfl
theorem l_0_1272 : look (tab 0) 1272 = some (.iconst 1, 1, [], .int (zI 1)) := by decide +kernel
theorem e_0_1272 : den cf 0 1272 L st M = den cf 0 1273 L (.int (zI 1) :: st) M := den_go l_0_1272 rfl
theorem l_0_1273 : look (tab 0) 1273 = some (.iadd, 1, [], uu) := by decide +kernel
theorem e_0_1273 : den cf 0 1273 L (.int y :: .int x :: st) M = den cf 0 1274 L (.int (x + y) :: st) M := den_go l_0_1273 rfl
theorem l_0_1274 : look (tab 0) 1274 = some (.iaload, 1, [], uu) := by decide +kernel
theorem e_0_1274 : den cf 0 1274 L (.int x :: .ref a :: st) M = oK (ldI (M.2.2 a) x) (fun v => den cf 0 1275 L (v :: st) M) := den_al (g := ldI) l_0_1274 rfl
theorem l_0_1275 : look (tab 0) 1275 = some (.invokevirtual 159, 3, [5, 97, 2, 966, 967, 968, 2], uu) := by decide +kernel
theorem e_0_1275 : den cf 0 1275 L (w1 :: .ref a :: st) M = if rcv M 5 [.ref a, w1] = true ∧ st.length ≤ 4 then rK (cf 97 [.ref a, w1] M) (fun v M' => den cf 0 1278 L (pR v st) M') else none := den_iv [w1] l_0_1275 rfl
theorem l_0_1278 : look (tab 0) 1278 = some (.aload_n 2, 1, [], uu) := by decide +kernel
theorem e_0_1278 : den cf 0 1278 [v0, v1, v2, v3] st M = if isRf v2 = true then den cf 0 1279 [v0, v1, v2, v3] (v2 :: st) M else none := den_g l_0_1278 rfl
theorem l_0_1279 : look (tab 0) 1279 = some (.aload_n 0, 1, [], uu) := by decide +kernel
theorem e_0_1279 : den cf 0 1279 [v0, v1, v2, v3] st M = if isRf v0 = true then den cf 0 1280 [v0, v1, v2, v3] (v0 :: st) M else none := den_g l_0_1279 rfl
theorem l_0_1280 : look (tab 0) 1280 = some (.iload_n 3, 1, [], uu) := by decide +kernel
theorem e_0_1280 : den cf 0 1280 [v0, v1, v2, .int x] st M = den cf 0 1281 [v0, v1, v2, .int x] (.int x :: st) M := den_go l_0_1280 rfl
theorem l_0_1281 : look (tab 0) 1281 = some (.iconst 1, 1, [], .int (zI 1)) := by decide +kernel
theorem e_0_1281 : den cf 0 1281 L st M = den cf 0 1282 L (.int (zI 1) :: st) M := den_go l_0_1281 rfl
theorem l_0_1282 : look (tab 0) 1282 = some (.iadd, 1, [], uu) := by decide +kernel
theorem e_0_1282 : den cf 0 1282 L (.int y :: .int x :: st) M = den cf 0 1283 L (.int (x + y) :: st) M := den_go l_0_1282 rfl
theorem l_0_1283 : look (tab 0) 1283 = some (.iaload, 1, [], uu) := by decide +kernel
theorem e_0_1283 : den cf 0 1283 L (.int x :: .ref a :: st) M = oK (ldI (M.2.2 a) x) (fun v => den cf 0 1284 L (v :: st) M) := den_al (g := ldI) l_0_1283 rfl
theorem l_0_1284 : look (tab 0) 1284 = some (.invokevirtual 162, 3, [6, 213, 2, 971, 972, 973, 5], uu) := by decide +kernel
theorem e_0_1284 : den cf 0 1284 L (w1 :: .ref a :: st) M = if rcv M 6 [.ref a, w1] = true ∧ st.length ≤ 4 then rK (cf 213 [.ref a, w1] M) (fun v M' => den cf 0 1287 L (pR v st) M') else none := den_iv [w1] l_0_1284 rfl
theorem l_0_1287 : look (tab 0) 1287 = some (.if_icmp .eq 469, 3, [1756], uu) := by decide +kernel
theorem e_0_1287 : den cf 0 1287 L (.int y :: .int x :: st) M = if x = y then den cf 0 1756 L st M else den cf 0 1290 L st M := den_ic_eq l_0_1287
theorem l_0_1290 : look (tab 0) 1290 = some (.iconst 0, 1, [], .int (zI 0)) := by decide +kernel
theorem e_0_1290 : den cf 0 1290 L st M = den cf 0 1291 L (.int (zI 0) :: st) M := den_go l_0_1290 rfl
theorem l_0_1291 : look (tab 0) 1291 = some (.ireturn, 1, [1], uu) := by decide +kernel
theorem e_0_1291 : den cf 0 1291 L [.int x] M = if x = zI 0 ∨ x = zI 1 then some (some (.int x), M) else none := den_e1 l_0_1291
theorem l_0_1292 : look (tab 0) 1292 = some (.aload_n 1, 1, [], uu) := by decide +kernel
theorem e_0_1292 : den cf 0 1292 [v0, v1, v2, v3] st M = if isRf v1 = true then den cf 0 1293 [v0, v1, v2, v3] (v1 :: st) M else none := den_g l_0_1292 rfl
theorem l_0_1293 : look (tab 0) 1293 = some (.aload_n 0, 1, [], uu) := by decide +kernel
theorem e_0_1293 : den cf 0 1293 [v0, v1, v2, v3] st M = if isRf v0 = true then den cf 0 1294 [v0, v1, v2, v3] (v0 :: st) M else none := den_g l_0_1293 rfl
theorem l_0_1294 : look (tab 0) 1294 = some (.iload_n 3, 1, [], uu) := by decide +kernel
theorem e_0_1294 : den cf 0 1294 [v0, v1, v2, .int x] st M = den cf 0 1295 [v0, v1, v2, .int x] (.int x :: st) M := den_go l_0_1294 rfl
theorem l_0_1295 : look (tab 0) 1295 = some (.iconst 1, 1, [], .int (zI 1)) := by decide +kernel
theorem e_0_1295 : den cf 0 1295 L st M = den cf 0 1296 L (.int (zI 1) :: st) M := den_go l_0_1295 rfl
theorem l_0_1296 : look (tab 0) 1296 = some (.iadd, 1, [], uu) := by decide +kernel
theorem e_0_1296 : den cf 0 1296 L (.int y :: .int x :: st) M = den cf 0 1297 L (.int (x + y) :: st) M := den_go l_0_1296 rfl
theorem l_0_1297 : look (tab 0) 1297 = some (.iaload, 1, [], uu) := by decide +kernel
theorem e_0_1297 : den cf 0 1297 L (.int x :: .ref a :: st) M = oK (ldI (M.2.2 a) x) (fun v => den cf 0 1298 L (v :: st) M) := den_al (g := ldI) l_0_1297 rfl
theorem l_0_1298 : look (tab 0) 1298 = some (.invokevirtual 163, 3, [5, 98, 2, 975, 976, 977, 2], uu) := by decide +kernel
theorem e_0_1298 : den cf 0 1298 L (w1 :: .ref a :: st) M = if rcv M 5 [.ref a, w1] = true ∧ st.length ≤ 4 then rK (cf 98 [.ref a, w1] M) (fun v M' => den cf 0 1301 L (pR v st) M') else none := den_iv [w1] l_0_1298 rfl
theorem l_0_1301 : look (tab 0) 1301 = some (.aload_n 2, 1, [], uu) := by decide +kernel
theorem e_0_1301 : den cf 0 1301 [v0, v1, v2, v3] st M = if isRf v2 = true then den cf 0 1302 [v0, v1, v2, v3] (v2 :: st) M else none := den_g l_0_1301 rfl
theorem l_0_1302 : look (tab 0) 1302 = some (.aload_n 0, 1, [], uu) := by decide +kernel
theorem e_0_1302 : den cf 0 1302 [v0, v1, v2, v3] st M = if isRf v0 = true then den cf 0 1303 [v0, v1, v2, v3] (v0 :: st) M else none := den_g l_0_1302 rfl
theorem l_0_1303 : look (tab 0) 1303 = some (.iload_n 3, 1, [], uu) := by decide +kernel
theorem e_0_1303 : den cf 0 1303 [v0, v1, v2, .int x] st M = den cf 0 1304 [v0, v1, v2, .int x] (.int x :: st) M := den_go l_0_1303 rfl
theorem l_0_1304 : look (tab 0) 1304 = some (.iconst 1, 1, [], .int (zI 1)) := by decide +kernel
theorem e_0_1304 : den cf 0 1304 L st M = den cf 0 1305 L (.int (zI 1) :: st) M := den_go l_0_1304 rfl
theorem l_0_1305 : look (tab 0) 1305 = some (.iadd, 1, [], uu) := by decide +kernel
theorem e_0_1305 : den cf 0 1305 L (.int y :: .int x :: st) M = den cf 0 1306 L (.int (x + y) :: st) M := den_go l_0_1305 rfl
theorem l_0_1306 : look (tab 0) 1306 = some (.iaload, 1, [], uu) := by decide +kernel
theorem e_0_1306 : den cf 0 1306 L (.int x :: .ref a :: st) M = oK (ldI (M.2.2 a) x) (fun v => den cf 0 1307 L (v :: st) M) := den_al (g := ldI) l_0_1306 rfl
theorem l_0_1307 : look (tab 0) 1307 = some (.invokevirtual 166, 3, [6, 214, 2, 979, 980, 981, 5], uu) := by decide +kernel
theorem e_0_1307 : den cf 0 1307 L (w1 :: .ref a :: st) M = if rcv M 6 [.ref a, w1] = true ∧ st.length ≤ 4 then rK (cf 214 [.ref a, w1] M) (fun v M' => den cf 0 1310 L (pR v st) M') else none := den_iv [w1] l_0_1307 rfl
theorem l_0_1310 : look (tab 0) 1310 = some (.if_icmp .eq 446, 3, [1756], uu) := by decide +kernel
theorem e_0_1310 : den cf 0 1310 L (.int y :: .int x :: st) M = if x = y then den cf 0 1756 L st M else den cf 0 1313 L st M := den_ic_eq l_0_1310
theorem l_0_1313 : look (tab 0) 1313 = some (.iconst 0, 1, [], .int (zI 0)) := by decide +kernel
theorem e_0_1313 : den cf 0 1313 L st M = den cf 0 1314 L (.int (zI 0) :: st) M := den_go l_0_1313 rfl
theorem l_0_1314 : look (tab 0) 1314 = some (.ireturn, 1, [1], uu) := by decide +kernel
theorem e_0_1314 : den cf 0 1314 L [.int x] M = if x = zI 0 ∨ x = zI 1 then some (some (.int x), M) else none := den_e1 l_0_1314
theorem l_0_1315 : look (tab 0) 1315 = some (.aload_n 1, 1, [], uu) := by decide +kernel
theorem e_0_1315 : den cf 0 1315 [v0, v1, v2, v3] st M = if isRf v1 = true then den cf 0 1316 [v0, v1, v2, v3] (v1 :: st) M else none := den_g l_0_1315 rfl
theorem l_0_1316 : look (tab 0) 1316 = some (.aload_n 0, 1, [], uu) := by decide +kernel
theorem e_0_1316 : den cf 0 1316 [v0, v1, v2, v3] st M = if isRf v0 = true then den cf 0 1317 [v0, v1, v2, v3] (v0 :: st) M else none := den_g l_0_1316 rfl
theorem l_0_1317 : look (tab 0) 1317 = some (.iload_n 3, 1, [], uu) := by decide +kernel
theorem e_0_1317 : den cf 0 1317 [v0, v1, v2, .int x] st M = den cf 0 1318 [v0, v1, v2, .int x] (.int x :: st) M := den_go l_0_1317 rfl
theorem l_0_1318 : look (tab 0) 1318 = some (.iconst 1, 1, [], .int (zI 1)) := by decide +kernel
theorem e_0_1318 : den cf 0 1318 L st M = den cf 0 1319 L (.int (zI 1) :: st) M := den_go l_0_1318 rfl
theorem l_0_1319 : look (tab 0) 1319 = some (.iadd, 1, [], uu) := by decide +kernel
theorem e_0_1319 : den cf 0 1319 L (.int y :: .int x :: st) M = den cf 0 1320 L (.int (x + y) :: st) M := den_go l_0_1319 rfl
theorem l_0_1320 : look (tab 0) 1320 = some (.iaload, 1, [], uu) := by decide +kernel
theorem e_0_1320 : den cf 0 1320 L (.int x :: .ref a :: st) M = oK (ldI (M.2.2 a) x) (fun v => den cf 0 1321 L (v :: st) M) := den_al (g := ldI) l_0_1320 rfl
theorem l_0_1321 : look (tab 0) 1321 = some (.aload_n 0, 1, [], uu) := by decide +kernel
theorem e_0_1321 : den cf 0 1321 [v0, v1, v2, v3] st M = if isRf v0 = true then den cf 0 1322 [v0, v1, v2, v3] (v0 :: st) M else none := den_g l_0_1321 rfl
theorem l_0_1322 : look (tab 0) 1322 = some (.iload_n 3, 1, [], uu) := by decide +kernel
theorem e_0_1322 : den cf 0 1322 [v0, v1, v2, .int x] st M = den cf 0 1323 [v0, v1, v2, .int x] (.int x :: st) M := den_go l_0_1322 rfl
theorem l_0_1323 : look (tab 0) 1323 = some (.iconst 2, 1, [], .int (zI 2)) := by decide +kernel
theorem e_0_1323 : den cf 0 1323 L st M = den cf 0 1324 L (.int (zI 2) :: st) M := den_go l_0_1323 rfl
theorem l_0_1324 : look (tab 0) 1324 = some (.iadd, 1, [], uu) := by decide +kernel
theorem e_0_1324 : den cf 0 1324 L (.int y :: .int x :: st) M = den cf 0 1325 L (.int (x + y) :: st) M := den_go l_0_1324 rfl
theorem l_0_1325 : look (tab 0) 1325 = some (.iaload, 1, [], uu) := by decide +kernel
theorem e_0_1325 : den cf 0 1325 L (.int x :: .ref a :: st) M = oK (ldI (M.2.2 a) x) (fun v => den cf 0 1326 L (v :: st) M) := den_al (g := ldI) l_0_1325 rfl
theorem l_0_1326 : look (tab 0) 1326 = some (.aload_n 0, 1, [], uu) := by decide +kernel
theorem e_0_1326 : den cf 0 1326 [v0, v1, v2, v3] st M = if isRf v0 = true then den cf 0 1327 [v0, v1, v2, v3] (v0 :: st) M else none := den_g l_0_1326 rfl
theorem l_0_1327 : look (tab 0) 1327 = some (.iload_n 3, 1, [], uu) := by decide +kernel
theorem e_0_1327 : den cf 0 1327 [v0, v1, v2, .int x] st M = den cf 0 1328 [v0, v1, v2, .int x] (.int x :: st) M := den_go l_0_1327 rfl
theorem l_0_1328 : look (tab 0) 1328 = some (.iconst 3, 1, [], .int (zI 3)) := by decide +kernel
theorem e_0_1328 : den cf 0 1328 L st M = den cf 0 1329 L (.int (zI 3) :: st) M := den_go l_0_1328 rfl
theorem l_0_1329 : look (tab 0) 1329 = some (.iadd, 1, [], uu) := by decide +kernel
theorem e_0_1329 : den cf 0 1329 L (.int y :: .int x :: st) M = den cf 0 1330 L (.int (x + y) :: st) M := den_go l_0_1329 rfl
theorem l_0_1330 : look (tab 0) 1330 = some (.iaload, 1, [], uu) := by decide +kernel
theorem e_0_1330 : den cf 0 1330 L (.int x :: .ref a :: st) M = oK (ldI (M.2.2 a) x) (fun v => den cf 0 1331 L (v :: st) M) := den_al (g := ldI) l_0_1330 rfl
theorem l_0_1331 : look (tab 0) 1331 = some (.invokevirtual 167, 3, [5, 99, 4, 983, 984, 985, 2], uu) := by decide +kernel
theorem e_0_1331 : den cf 0 1331 L (w3 :: w2 :: w1 :: .ref a :: st) M = if rcv M 5 [.ref a, w1, w2, w3] = true ∧ st.length ≤ 4 then rK (cf 99 [.ref a, w1, w2, w3] M) (fun v M' => den cf 0 1334 L (pR v st) M') else none := den_iv [w1, w2, w3] l_0_1331 rfl
theorem l_0_1334 : look (tab 0) 1334 = some (.aload_n 2, 1, [], uu) := by decide +kernel
theorem e_0_1334 : den cf 0 1334 [v0, v1, v2, v3] st M = if isRf v2 = true then den cf 0 1335 [v0, v1, v2, v3] (v2 :: st) M else none := den_g l_0_1334 rfl
theorem l_0_1335 : look (tab 0) 1335 = some (.aload_n 0, 1, [], uu) := by decide +kernel
theorem e_0_1335 : den cf 0 1335 [v0, v1, v2, v3] st M = if isRf v0 = true then den cf 0 1336 [v0, v1, v2, v3] (v0 :: st) M else none := den_g l_0_1335 rfl
theorem l_0_1336 : look (tab 0) 1336 = some (.iload_n 3, 1, [], uu) := by decide +kernel
theorem e_0_1336 : den cf 0 1336 [v0, v1, v2, .int x] st M = den cf 0 1337 [v0, v1, v2, .int x] (.int x :: st) M := den_go l_0_1336 rfl
theorem l_0_1337 : look (tab 0) 1337 = some (.iconst 1, 1, [], .int (zI 1)) := by decide +kernel
theorem e_0_1337 : den cf 0 1337 L st M = den cf 0 1338 L (.int (zI 1) :: st) M := den_go l_0_1337 rfl
theorem l_0_1338 : look (tab 0) 1338 = some (.iadd, 1, [], uu) := by decide +kernel
theorem e_0_1338 : den cf 0 1338 L (.int y :: .int x :: st) M = den cf 0 1339 L (.int (x + y) :: st) M := den_go l_0_1338 rfl
theorem l_0_1339 : look (tab 0) 1339 = some (.iaload, 1, [], uu) := by decide +kernel
theorem e_0_1339 : den cf 0 1339 L (.int x :: .ref a :: st) M = oK (ldI (M.2.2 a) x) (fun v => den cf 0 1340 L (v :: st) M) := den_al (g := ldI) l_0_1339 rfl
theorem l_0_1340 : look (tab 0) 1340 = some (.aload_n 0, 1, [], uu) := by decide +kernel
theorem e_0_1340 : den cf 0 1340 [v0, v1, v2, v3] st M = if isRf v0 = true then den cf 0 1341 [v0, v1, v2, v3] (v0 :: st) M else none := den_g l_0_1340 rfl
theorem l_0_1341 : look (tab 0) 1341 = some (.iload_n 3, 1, [], uu) := by decide +kernel
theorem e_0_1341 : den cf 0 1341 [v0, v1, v2, .int x] st M = den cf 0 1342 [v0, v1, v2, .int x] (.int x :: st) M := den_go l_0_1341 rfl
theorem l_0_1342 : look (tab 0) 1342 = some (.iconst 2, 1, [], .int (zI 2)) := by decide +kernel
theorem e_0_1342 : den cf 0 1342 L st M = den cf 0 1343 L (.int (zI 2) :: st) M := den_go l_0_1342 rfl
theorem l_0_1343 : look (tab 0) 1343 = some (.iadd, 1, [], uu) := by decide +kernel
theorem e_0_1343 : den cf 0 1343 L (.int y :: .int x :: st) M = den cf 0 1344 L (.int (x + y) :: st) M := den_go l_0_1343 rfl
theorem l_0_1344 : look (tab 0) 1344 = some (.iaload, 1, [], uu) := by decide +kernel
theorem e_0_1344 : den cf 0 1344 L (.int x :: .ref a :: st) M = oK (ldI (M.2.2 a) x) (fun v => den cf 0 1345 L (v :: st) M) := den_al (g := ldI) l_0_1344 rfl
theorem l_0_1345 : look (tab 0) 1345 = some (.aload_n 0, 1, [], uu) := by decide +kernel
theorem e_0_1345 : den cf 0 1345 [v0, v1, v2, v3] st M = if isRf v0 = true then den cf 0 1346 [v0, v1, v2, v3] (v0 :: st) M else none := den_g l_0_1345 rfl
theorem l_0_1346 : look (tab 0) 1346 = some (.iload_n 3, 1, [], uu) := by decide +kernel
theorem e_0_1346 : den cf 0 1346 [v0, v1, v2, .int x] st M = den cf 0 1347 [v0, v1, v2, .int x] (.int x :: st) M := den_go l_0_1346 rfl
theorem l_0_1347 : look (tab 0) 1347 = some (.iconst 3, 1, [], .int (zI 3)) := by decide +kernel
theorem e_0_1347 : den cf 0 1347 L st M = den cf 0 1348 L (.int (zI 3) :: st) M := den_go l_0_1347 rfl
theorem l_0_1348 : look (tab 0) 1348 = some (.iadd, 1, [], uu) := by decide +kernel
theorem e_0_1348 : den cf 0 1348 L (.int y :: .int x :: st) M = den cf 0 1349 L (.int (x + y) :: st) M := den_go l_0_1348 rfl
theorem l_0_1349 : look (tab 0) 1349 = some (.iaload, 1, [], uu) := by decide +kernel
theorem e_0_1349 : den cf 0 1349 L (.int x :: .ref a :: st) M = oK (ldI (M.2.2 a) x) (fun v => den cf 0 1350 L (v :: st) M) := den_al (g := ldI) l_0_1349 rfl
theorem l_0_1350 : look (tab 0) 1350 = some (.invokevirtual 170, 3, [6, 215, 4, 987, 988, 989, 5], uu) := by decide +kernel
theorem e_0_1350 : den cf 0 1350 L (w3 :: w2 :: w1 :: .ref a :: st) M = if rcv M 6 [.ref a, w1, w2, w3] = true ∧ st.length ≤ 4 then rK (cf 215 [.ref a, w1, w2, w3] M) (fun v M' => den cf 0 1353 L (pR v st) M') else none := den_iv [w1, w2, w3] l_0_1350 rfl
theorem l_0_1353 : look (tab 0) 1353 = some (.if_icmp .eq 403, 3, [1756], uu) := by decide +kernel
theorem e_0_1353 : den cf 0 1353 L (.int y :: .int x :: st) M = if x = y then den cf 0 1756 L st M else den cf 0 1356 L st M := den_ic_eq l_0_1353
theorem l_0_1356 : look (tab 0) 1356 = some (.iconst 0, 1, [], .int (zI 0)) := by decide +kernel
theorem e_0_1356 : den cf 0 1356 L st M = den cf 0 1357 L (.int (zI 0) :: st) M := den_go l_0_1356 rfl
theorem l_0_1357 : look (tab 0) 1357 = some (.ireturn, 1, [1], uu) := by decide +kernel
theorem e_0_1357 : den cf 0 1357 L [.int x] M = if x = zI 0 ∨ x = zI 1 then some (some (.int x), M) else none := den_e1 l_0_1357
theorem l_0_1358 : look (tab 0) 1358 = some (.aload_n 1, 1, [], uu) := by decide +kernel
theorem e_0_1358 : den cf 0 1358 [v0, v1, v2, v3] st M = if isRf v1 = true then den cf 0 1359 [v0, v1, v2, v3] (v1 :: st) M else none := den_g l_0_1358 rfl
theorem l_0_1359 : look (tab 0) 1359 = some (.aload_n 0, 1, [], uu) := by decide +kernel
theorem e_0_1359 : den cf 0 1359 [v0, v1, v2, v3] st M = if isRf v0 = true then den cf 0 1360 [v0, v1, v2, v3] (v0 :: st) M else none := den_g l_0_1359 rfl
theorem l_0_1360 : look (tab 0) 1360 = some (.iload_n 3, 1, [], uu) := by decide +kernel
theorem e_0_1360 : den cf 0 1360 [v0, v1, v2, .int x] st M = den cf 0 1361 [v0, v1, v2, .int x] (.int x :: st) M := den_go l_0_1360 rfl
theorem l_0_1361 : look (tab 0) 1361 = some (.iconst 1, 1, [], .int (zI 1)) := by decide +kernel
theorem e_0_1361 : den cf 0 1361 L st M = den cf 0 1362 L (.int (zI 1) :: st) M := den_go l_0_1361 rfl
theorem l_0_1362 : look (tab 0) 1362 = some (.iadd, 1, [], uu) := by decide +kernel
theorem e_0_1362 : den cf 0 1362 L (.int y :: .int x :: st) M = den cf 0 1363 L (.int (x + y) :: st) M := den_go l_0_1362 rfl
theorem l_0_1363 : look (tab 0) 1363 = some (.iaload, 1, [], uu) := by decide +kernel
theorem e_0_1363 : den cf 0 1363 L (.int x :: .ref a :: st) M = oK (ldI (M.2.2 a) x) (fun v => den cf 0 1364 L (v :: st) M) := den_al (g := ldI) l_0_1363 rfl
theorem l_0_1364 : look (tab 0) 1364 = some (.invokevirtual 171, 3, [5, 108, 2, 991, 992, 993, 2], uu) := by decide +kernel
theorem e_0_1364 : den cf 0 1364 L (w1 :: .ref a :: st) M = if rcv M 5 [.ref a, w1] = true ∧ st.length ≤ 4 then rK (cf 108 [.ref a, w1] M) (fun v M' => den cf 0 1367 L (pR v st) M') else none := den_iv [w1] l_0_1364 rfl
theorem l_0_1367 : look (tab 0) 1367 = some (.aload_n 2, 1, [], uu) := by decide +kernel
theorem e_0_1367 : den cf 0 1367 [v0, v1, v2, v3] st M = if isRf v2 = true then den cf 0 1368 [v0, v1, v2, v3] (v2 :: st) M else none := den_g l_0_1367 rfl
theorem l_0_1368 : look (tab 0) 1368 = some (.aload_n 0, 1, [], uu) := by decide +kernel
theorem e_0_1368 : den cf 0 1368 [v0, v1, v2, v3] st M = if isRf v0 = true then den cf 0 1369 [v0, v1, v2, v3] (v0 :: st) M else none := den_g l_0_1368 rfl
theorem l_0_1369 : look (tab 0) 1369 = some (.iload_n 3, 1, [], uu) := by decide +kernel
theorem e_0_1369 : den cf 0 1369 [v0, v1, v2, .int x] st M = den cf 0 1370 [v0, v1, v2, .int x] (.int x :: st) M := den_go l_0_1369 rfl
theorem l_0_1370 : look (tab 0) 1370 = some (.iconst 1, 1, [], .int (zI 1)) := by decide +kernel
theorem e_0_1370 : den cf 0 1370 L st M = den cf 0 1371 L (.int (zI 1) :: st) M := den_go l_0_1370 rfl
theorem l_0_1371 : look (tab 0) 1371 = some (.iadd, 1, [], uu) := by decide +kernel
theorem e_0_1371 : den cf 0 1371 L (.int y :: .int x :: st) M = den cf 0 1372 L (.int (x + y) :: st) M := den_go l_0_1371 rfl
theorem l_0_1372 : look (tab 0) 1372 = some (.iaload, 1, [], uu) := by decide +kernel
theorem e_0_1372 : den cf 0 1372 L (.int x :: .ref a :: st) M = oK (ldI (M.2.2 a) x) (fun v => den cf 0 1373 L (v :: st) M) := den_al (g := ldI) l_0_1372 rfl
theorem l_0_1373 : look (tab 0) 1373 = some (.invokevirtual 174, 3, [6, 216, 2, 995, 996, 997, 5], uu) := by decide +kernel
theorem e_0_1373 : den cf 0 1373 L (w1 :: .ref a :: st) M = if rcv M 6 [.ref a, w1] = true ∧ st.length ≤ 4 then rK (cf 216 [.ref a, w1] M) (fun v M' => den cf 0 1376 L (pR v st) M') else none := den_iv [w1] l_0_1373 rfl
theorem l_0_1376 : look (tab 0) 1376 = some (.if_icmp .eq 380, 3, [1756], uu) := by decide +kernel
theorem e_0_1376 : den cf 0 1376 L (.int y :: .int x :: st) M = if x = y then den cf 0 1756 L st M else den cf 0 1379 L st M := den_ic_eq l_0_1376
theorem l_0_1379 : look (tab 0) 1379 = some (.iconst 0, 1, [], .int (zI 0)) := by decide +kernel
theorem e_0_1379 : den cf 0 1379 L st M = den cf 0 1380 L (.int (zI 0) :: st) M := den_go l_0_1379 rfl
theorem l_0_1380 : look (tab 0) 1380 = some (.ireturn, 1, [1], uu) := by decide +kernel
theorem e_0_1380 : den cf 0 1380 L [.int x] M = if x = zI 0 ∨ x = zI 1 then some (some (.int x), M) else none := den_e1 l_0_1380
theorem l_0_1381 : look (tab 0) 1381 = some (.aload_n 1, 1, [], uu) := by decide +kernel
theorem e_0_1381 : den cf 0 1381 [v0, v1, v2, v3] st M = if isRf v1 = true then den cf 0 1382 [v0, v1, v2, v3] (v1 :: st) M else none := den_g l_0_1381 rfl
theorem l_0_1382 : look (tab 0) 1382 = some (.aload_n 0, 1, [], uu) := by decide +kernel
theorem e_0_1382 : den cf 0 1382 [v0, v1, v2, v3] st M = if isRf v0 = true then den cf 0 1383 [v0, v1, v2, v3] (v0 :: st) M else none := den_g l_0_1382 rfl
theorem l_0_1383 : look (tab 0) 1383 = some (.iload_n 3, 1, [], uu) := by decide +kernel
theorem e_0_1383 : den cf 0 1383 [v0, v1, v2, .int x] st M = den cf 0 1384 [v0, v1, v2, .int x] (.int x :: st) M := den_go l_0_1383 rfl
theorem l_0_1384 : look (tab 0) 1384 = some (.iconst 1, 1, [], .int (zI 1)) := by decide +kernel
theorem e_0_1384 : den cf 0 1384 L st M = den cf 0 1385 L (.int (zI 1) :: st) M := den_go l_0_1384 rfl
theorem l_0_1385 : look (tab 0) 1385 = some (.iadd, 1, [], uu) := by decide +kernel
theorem e_0_1385 : den cf 0 1385 L (.int y :: .int x :: st) M = den cf 0 1386 L (.int (x + y) :: st) M := den_go l_0_1385 rfl
theorem l_0_1386 : look (tab 0) 1386 = some (.iaload, 1, [], uu) := by decide +kernel
theorem e_0_1386 : den cf 0 1386 L (.int x :: .ref a :: st) M = oK (ldI (M.2.2 a) x) (fun v => den cf 0 1387 L (v :: st) M) := den_al (g := ldI) l_0_1386 rfl
theorem l_0_1387 : look (tab 0) 1387 = some (.aload_n 0, 1, [], uu) := by decide +kernel
theorem e_0_1387 : den cf 0 1387 [v0, v1, v2, v3] st M = if isRf v0 = true then den cf 0 1388 [v0, v1, v2, v3] (v0 :: st) M else none := den_g l_0_1387 rfl
theorem l_0_1388 : look (tab 0) 1388 = some (.iload_n 3, 1, [], uu) := by decide +kernel
theorem e_0_1388 : den cf 0 1388 [v0, v1, v2, .int x] st M = den cf 0 1389 [v0, v1, v2, .int x] (.int x :: st) M := den_go l_0_1388 rfl
theorem l_0_1389 : look (tab 0) 1389 = some (.iconst 2, 1, [], .int (zI 2)) := by decide +kernel
theorem e_0_1389 : den cf 0 1389 L st M = den cf 0 1390 L (.int (zI 2) :: st) M := den_go l_0_1389 rfl
theorem l_0_1390 : look (tab 0) 1390 = some (.iadd, 1, [], uu) := by decide +kernel
theorem e_0_1390 : den cf 0 1390 L (.int y :: .int x :: st) M = den cf 0 1391 L (.int (x + y) :: st) M := den_go l_0_1390 rfl
theorem l_0_1391 : look (tab 0) 1391 = some (.iaload, 1, [], uu) := by decide +kernel
theorem e_0_1391 : den cf 0 1391 L (.int x :: .ref a :: st) M = oK (ldI (M.2.2 a) x) (fun v => den cf 0 1392 L (v :: st) M) := den_al (g := ldI) l_0_1391 rfl
theorem l_0_1392 : look (tab 0) 1392 = some (.aload_n 0, 1, [], uu) := by decide +kernel
theorem e_0_1392 : den cf 0 1392 [v0, v1, v2, v3] st M = if isRf v0 = true then den cf 0 1393 [v0, v1, v2, v3] (v0 :: st) M else none := den_g l_0_1392 rfl
theorem l_0_1393 : look (tab 0) 1393 = some (.iload_n 3, 1, [], uu) := by decide +kernel
theorem e_0_1393 : den cf 0 1393 [v0, v1, v2, .int x] st M = den cf 0 1394 [v0, v1, v2, .int x] (.int x :: st) M := den_go l_0_1393 rfl
theorem l_0_1394 : look (tab 0) 1394 = some (.iconst 3, 1, [], .int (zI 3)) := by decide +kernel
theorem e_0_1394 : den cf 0 1394 L st M = den cf 0 1395 L (.int (zI 3) :: st) M := den_go l_0_1394 rfl
theorem l_0_1395 : look (tab 0) 1395 = some (.iadd, 1, [], uu) := by decide +kernel
theorem e_0_1395 : den cf 0 1395 L (.int y :: .int x :: st) M = den cf 0 1396 L (.int (x + y) :: st) M := den_go l_0_1395 rfl
theorem l_0_1396 : look (tab 0) 1396 = some (.iaload, 1, [], uu) := by decide +kernel
theorem e_0_1396 : den cf 0 1396 L (.int x :: .ref a :: st) M = oK (ldI (M.2.2 a) x) (fun v => den cf 0 1397 L (v :: st) M) := den_al (g := ldI) l_0_1396 rfl
theorem l_0_1397 : look (tab 0) 1397 = some (.invokevirtual 175, 3, [5, 100, 4, 999, 1000, 1001, 2], uu) := by decide +kernel
theorem e_0_1397 : den cf 0 1397 L (w3 :: w2 :: w1 :: .ref a :: st) M = if rcv M 5 [.ref a, w1, w2, w3] = true ∧ st.length ≤ 4 then rK (cf 100 [.ref a, w1, w2, w3] M) (fun v M' => den cf 0 1400 L (pR v st) M') else none := den_iv [w1, w2, w3] l_0_1397 rfl
theorem l_0_1400 : look (tab 0) 1400 = some (.aload_n 2, 1, [], uu) := by decide +kernel
theorem e_0_1400 : den cf 0 1400 [v0, v1, v2, v3] st M = if isRf v2 = true then den cf 0 1401 [v0, v1, v2, v3] (v2 :: st) M else none := den_g l_0_1400 rfl
theorem l_0_1401 : look (tab 0) 1401 = some (.aload_n 0, 1, [], uu) := by decide +kernel
theorem e_0_1401 : den cf 0 1401 [v0, v1, v2, v3] st M = if isRf v0 = true then den cf 0 1402 [v0, v1, v2, v3] (v0 :: st) M else none := den_g l_0_1401 rfl
theorem l_0_1402 : look (tab 0) 1402 = some (.iload_n 3, 1, [], uu) := by decide +kernel
theorem e_0_1402 : den cf 0 1402 [v0, v1, v2, .int x] st M = den cf 0 1403 [v0, v1, v2, .int x] (.int x :: st) M := den_go l_0_1402 rfl
theorem l_0_1403 : look (tab 0) 1403 = some (.iconst 1, 1, [], .int (zI 1)) := by decide +kernel
theorem e_0_1403 : den cf 0 1403 L st M = den cf 0 1404 L (.int (zI 1) :: st) M := den_go l_0_1403 rfl
theorem l_0_1404 : look (tab 0) 1404 = some (.iadd, 1, [], uu) := by decide +kernel
theorem e_0_1404 : den cf 0 1404 L (.int y :: .int x :: st) M = den cf 0 1405 L (.int (x + y) :: st) M := den_go l_0_1404 rfl
theorem l_0_1405 : look (tab 0) 1405 = some (.iaload, 1, [], uu) := by decide +kernel
theorem e_0_1405 : den cf 0 1405 L (.int x :: .ref a :: st) M = oK (ldI (M.2.2 a) x) (fun v => den cf 0 1406 L (v :: st) M) := den_al (g := ldI) l_0_1405 rfl
theorem l_0_1406 : look (tab 0) 1406 = some (.aload_n 0, 1, [], uu) := by decide +kernel
theorem e_0_1406 : den cf 0 1406 [v0, v1, v2, v3] st M = if isRf v0 = true then den cf 0 1407 [v0, v1, v2, v3] (v0 :: st) M else none := den_g l_0_1406 rfl
theorem l_0_1407 : look (tab 0) 1407 = some (.iload_n 3, 1, [], uu) := by decide +kernel
theorem e_0_1407 : den cf 0 1407 [v0, v1, v2, .int x] st M = den cf 0 1408 [v0, v1, v2, .int x] (.int x :: st) M := den_go l_0_1407 rfl
theorem l_0_1408 : look (tab 0) 1408 = some (.iconst 2, 1, [], .int (zI 2)) := by decide +kernel
theorem e_0_1408 : den cf 0 1408 L st M = den cf 0 1409 L (.int (zI 2) :: st) M := den_go l_0_1408 rfl
theorem l_0_1409 : look (tab 0) 1409 = some (.iadd, 1, [], uu) := by decide +kernel
theorem e_0_1409 : den cf 0 1409 L (.int y :: .int x :: st) M = den cf 0 1410 L (.int (x + y) :: st) M := den_go l_0_1409 rfl
theorem l_0_1410 : look (tab 0) 1410 = some (.iaload, 1, [], uu) := by decide +kernel
theorem e_0_1410 : den cf 0 1410 L (.int x :: .ref a :: st) M = oK (ldI (M.2.2 a) x) (fun v => den cf 0 1411 L (v :: st) M) := den_al (g := ldI) l_0_1410 rfl
theorem l_0_1411 : look (tab 0) 1411 = some (.aload_n 0, 1, [], uu) := by decide +kernel
theorem e_0_1411 : den cf 0 1411 [v0, v1, v2, v3] st M = if isRf v0 = true then den cf 0 1412 [v0, v1, v2, v3] (v0 :: st) M else none := den_g l_0_1411 rfl
theorem l_0_1412 : look (tab 0) 1412 = some (.iload_n 3, 1, [], uu) := by decide +kernel
theorem e_0_1412 : den cf 0 1412 [v0, v1, v2, .int x] st M = den cf 0 1413 [v0, v1, v2, .int x] (.int x :: st) M := den_go l_0_1412 rfl
theorem l_0_1413 : look (tab 0) 1413 = some (.iconst 3, 1, [], .int (zI 3)) := by decide +kernel
theorem e_0_1413 : den cf 0 1413 L st M = den cf 0 1414 L (.int (zI 3) :: st) M := den_go l_0_1413 rfl
theorem l_0_1414 : look (tab 0) 1414 = some (.iadd, 1, [], uu) := by decide +kernel
theorem e_0_1414 : den cf 0 1414 L (.int y :: .int x :: st) M = den cf 0 1415 L (.int (x + y) :: st) M := den_go l_0_1414 rfl
theorem l_0_1415 : look (tab 0) 1415 = some (.iaload, 1, [], uu) := by decide +kernel
theorem e_0_1415 : den cf 0 1415 L (.int x :: .ref a :: st) M = oK (ldI (M.2.2 a) x) (fun v => den cf 0 1416 L (v :: st) M) := den_al (g := ldI) l_0_1415 rfl
theorem l_0_1416 : look (tab 0) 1416 = some (.invokevirtual 178, 3, [6, 217, 4, 1003, 1004, 1005, 5], uu) := by decide +kernel
theorem e_0_1416 : den cf 0 1416 L (w3 :: w2 :: w1 :: .ref a :: st) M = if rcv M 6 [.ref a, w1, w2, w3] = true ∧ st.length ≤ 4 then rK (cf 217 [.ref a, w1, w2, w3] M) (fun v M' => den cf 0 1419 L (pR v st) M') else none := den_iv [w1, w2, w3] l_0_1416 rfl
theorem l_0_1419 : look (tab 0) 1419 = some (.if_icmp .eq 337, 3, [1756], uu) := by decide +kernel
theorem e_0_1419 : den cf 0 1419 L (.int y :: .int x :: st) M = if x = y then den cf 0 1756 L st M else den cf 0 1422 L st M := den_ic_eq l_0_1419
theorem l_0_1422 : look (tab 0) 1422 = some (.iconst 0, 1, [], .int (zI 0)) := by decide +kernel
theorem e_0_1422 : den cf 0 1422 L st M = den cf 0 1423 L (.int (zI 0) :: st) M := den_go l_0_1422 rfl
theorem l_0_1423 : look (tab 0) 1423 = some (.ireturn, 1, [1], uu) := by decide +kernel
theorem e_0_1423 : den cf 0 1423 L [.int x] M = if x = zI 0 ∨ x = zI 1 then some (some (.int x), M) else none := den_e1 l_0_1423
theorem l_0_1424 : look (tab 0) 1424 = some (.aload_n 1, 1, [], uu) := by decide +kernel
theorem e_0_1424 : den cf 0 1424 [v0, v1, v2, v3] st M = if isRf v1 = true then den cf 0 1425 [v0, v1, v2, v3] (v1 :: st) M else none := den_g l_0_1424 rfl
theorem l_0_1425 : look (tab 0) 1425 = some (.aload_n 0, 1, [], uu) := by decide +kernel
theorem e_0_1425 : den cf 0 1425 [v0, v1, v2, v3] st M = if isRf v0 = true then den cf 0 1426 [v0, v1, v2, v3] (v0 :: st) M else none := den_g l_0_1425 rfl
theorem l_0_1426 : look (tab 0) 1426 = some (.iload_n 3, 1, [], uu) := by decide +kernel
theorem e_0_1426 : den cf 0 1426 [v0, v1, v2, .int x] st M = den cf 0 1427 [v0, v1, v2, .int x] (.int x :: st) M := den_go l_0_1426 rfl
theorem l_0_1427 : look (tab 0) 1427 = some (.iconst 1, 1, [], .int (zI 1)) := by decide +kernel
theorem e_0_1427 : den cf 0 1427 L st M = den cf 0 1428 L (.int (zI 1) :: st) M := den_go l_0_1427 rfl
theorem l_0_1428 : look (tab 0) 1428 = some (.iadd, 1, [], uu) := by decide +kernel
theorem e_0_1428 : den cf 0 1428 L (.int y :: .int x :: st) M = den cf 0 1429 L (.int (x + y) :: st) M := den_go l_0_1428 rfl
theorem l_0_1429 : look (tab 0) 1429 = some (.iaload, 1, [], uu) := by decide +kernel
theorem e_0_1429 : den cf 0 1429 L (.int x :: .ref a :: st) M = oK (ldI (M.2.2 a) x) (fun v => den cf 0 1430 L (v :: st) M) := den_al (g := ldI) l_0_1429 rfl
theorem l_0_1430 : look (tab 0) 1430 = some (.aload_n 0, 1, [], uu) := by decide +kernel
theorem e_0_1430 : den cf 0 1430 [v0, v1, v2, v3] st M = if isRf v0 = true then den cf 0 1431 [v0, v1, v2, v3] (v0 :: st) M else none := den_g l_0_1430 rfl
theorem l_0_1431 : look (tab 0) 1431 = some (.iload_n 3, 1, [], uu) := by decide +kernel
theorem e_0_1431 : den cf 0 1431 [v0, v1, v2, .int x] st M = den cf 0 1432 [v0, v1, v2, .int x] (.int x :: st) M := den_go l_0_1431 rfl
theorem l_0_1432 : look (tab 0) 1432 = some (.iconst 2, 1, [], .int (zI 2)) := by decide +kernel
theorem e_0_1432 : den cf 0 1432 L st M = den cf 0 1433 L (.int (zI 2) :: st) M := den_go l_0_1432 rfl
theorem l_0_1433 : look (tab 0) 1433 = some (.iadd, 1, [], uu) := by decide +kernel
theorem e_0_1433 : den cf 0 1433 L (.int y :: .int x :: st) M = den cf 0 1434 L (.int (x + y) :: st) M := den_go l_0_1433 rfl
theorem l_0_1434 : look (tab 0) 1434 = some (.iaload, 1, [], uu) := by decide +kernel
theorem e_0_1434 : den cf 0 1434 L (.int x :: .ref a :: st) M = oK (ldI (M.2.2 a) x) (fun v => den cf 0 1435 L (v :: st) M) := den_al (g := ldI) l_0_1434 rfl
theorem l_0_1435 : look (tab 0) 1435 = some (.invokevirtual 179, 3, [5, 101, 3, 1007, 1008, 1009, 2], uu) := by decide +kernel
theorem e_0_1435 : den cf 0 1435 L (w2 :: w1 :: .ref a :: st) M = if rcv M 5 [.ref a, w1, w2] = true ∧ st.length ≤ 4 then rK (cf 101 [.ref a, w1, w2] M) (fun v M' => den cf 0 1438 L (pR v st) M') else none := den_iv [w1, w2] l_0_1435 rfl
theorem l_0_1438 : look (tab 0) 1438 = some (.aload_n 2, 1, [], uu) := by decide +kernel
theorem e_0_1438 : den cf 0 1438 [v0, v1, v2, v3] st M = if isRf v2 = true then den cf 0 1439 [v0, v1, v2, v3] (v2 :: st) M else none := den_g l_0_1438 rfl
theorem l_0_1439 : look (tab 0) 1439 = some (.aload_n 0, 1, [], uu) := by decide +kernel
theorem e_0_1439 : den cf 0 1439 [v0, v1, v2, v3] st M = if isRf v0 = true then den cf 0 1440 [v0, v1, v2, v3] (v0 :: st) M else none := den_g l_0_1439 rfl
theorem l_0_1440 : look (tab 0) 1440 = some (.iload_n 3, 1, [], uu) := by decide +kernel
theorem e_0_1440 : den cf 0 1440 [v0, v1, v2, .int x] st M = den cf 0 1441 [v0, v1, v2, .int x] (.int x :: st) M := den_go l_0_1440 rfl
theorem l_0_1441 : look (tab 0) 1441 = some (.iconst 1, 1, [], .int (zI 1)) := by decide +kernel
theorem e_0_1441 : den cf 0 1441 L st M = den cf 0 1442 L (.int (zI 1) :: st) M := den_go l_0_1441 rfl
theorem l_0_1442 : look (tab 0) 1442 = some (.iadd, 1, [], uu) := by decide +kernel
theorem e_0_1442 : den cf 0 1442 L (.int y :: .int x :: st) M = den cf 0 1443 L (.int (x + y) :: st) M := den_go l_0_1442 rfl
theorem l_0_1443 : look (tab 0) 1443 = some (.iaload, 1, [], uu) := by decide +kernel
theorem e_0_1443 : den cf 0 1443 L (.int x :: .ref a :: st) M = oK (ldI (M.2.2 a) x) (fun v => den cf 0 1444 L (v :: st) M) := den_al (g := ldI) l_0_1443 rfl
theorem l_0_1444 : look (tab 0) 1444 = some (.aload_n 0, 1, [], uu) := by decide +kernel
theorem e_0_1444 : den cf 0 1444 [v0, v1, v2, v3] st M = if isRf v0 = true then den cf 0 1445 [v0, v1, v2, v3] (v0 :: st) M else none := den_g l_0_1444 rfl
theorem l_0_1445 : look (tab 0) 1445 = some (.iload_n 3, 1, [], uu) := by decide +kernel
theorem e_0_1445 : den cf 0 1445 [v0, v1, v2, .int x] st M = den cf 0 1446 [v0, v1, v2, .int x] (.int x :: st) M := den_go l_0_1445 rfl
theorem l_0_1446 : look (tab 0) 1446 = some (.iconst 2, 1, [], .int (zI 2)) := by decide +kernel
theorem e_0_1446 : den cf 0 1446 L st M = den cf 0 1447 L (.int (zI 2) :: st) M := den_go l_0_1446 rfl
theorem l_0_1447 : look (tab 0) 1447 = some (.iadd, 1, [], uu) := by decide +kernel
theorem e_0_1447 : den cf 0 1447 L (.int y :: .int x :: st) M = den cf 0 1448 L (.int (x + y) :: st) M := den_go l_0_1447 rfl
theorem l_0_1448 : look (tab 0) 1448 = some (.iaload, 1, [], uu) := by decide +kernel
theorem e_0_1448 : den cf 0 1448 L (.int x :: .ref a :: st) M = oK (ldI (M.2.2 a) x) (fun v => den cf 0 1449 L (v :: st) M) := den_al (g := ldI) l_0_1448 rfl
theorem l_0_1449 : look (tab 0) 1449 = some (.invokevirtual 182, 3, [6, 218, 3, 1018, 1019, 1020, 5], uu) := by decide +kernel
theorem e_0_1449 : den cf 0 1449 L (w2 :: w1 :: .ref a :: st) M = if rcv M 6 [.ref a, w1, w2] = true ∧ st.length ≤ 4 then rK (cf 218 [.ref a, w1, w2] M) (fun v M' => den cf 0 1452 L (pR v st) M') else none := den_iv [w1, w2] l_0_1449 rfl
theorem l_0_1452 : look (tab 0) 1452 = some (.if_icmp .eq 304, 3, [1756], uu) := by decide +kernel
theorem e_0_1452 : den cf 0 1452 L (.int y :: .int x :: st) M = if x = y then den cf 0 1756 L st M else den cf 0 1455 L st M := den_ic_eq l_0_1452
theorem l_0_1455 : look (tab 0) 1455 = some (.iconst 0, 1, [], .int (zI 0)) := by decide +kernel
theorem e_0_1455 : den cf 0 1455 L st M = den cf 0 1456 L (.int (zI 0) :: st) M := den_go l_0_1455 rfl
theorem l_0_1456 : look (tab 0) 1456 = some (.ireturn, 1, [1], uu) := by decide +kernel
theorem e_0_1456 : den cf 0 1456 L [.int x] M = if x = zI 0 ∨ x = zI 1 then some (some (.int x), M) else none := den_e1 l_0_1456
theorem l_0_1457 : look (tab 0) 1457 = some (.aload_n 1, 1, [], uu) := by decide +kernel
theorem e_0_1457 : den cf 0 1457 [v0, v1, v2, v3] st M = if isRf v1 = true then den cf 0 1458 [v0, v1, v2, v3] (v1 :: st) M else none := den_g l_0_1457 rfl
theorem l_0_1458 : look (tab 0) 1458 = some (.invokevirtual 183, 3, [5, 116, 1, 1026, 1027, 1028, 2], uu) := by decide +kernel
theorem e_0_1458 : den cf 0 1458 L (.ref a :: st) M = if rcv M 5 [.ref a] = true ∧ st.length ≤ 4 then rK (cf 116 [.ref a] M) (fun v M' => den cf 0 1461 L (pR v st) M') else none := den_iv [] l_0_1458 rfl
theorem l_0_1461 : look (tab 0) 1461 = some (.aload_n 2, 1, [], uu) := by decide +kernel
theorem e_0_1461 : den cf 0 1461 [v0, v1, v2, v3] st M = if isRf v2 = true then den cf 0 1462 [v0, v1, v2, v3] (v2 :: st) M else none := den_g l_0_1461 rfl
theorem l_0_1462 : look (tab 0) 1462 = some (.invokevirtual 186, 3, [6, 219, 1, 1030, 1031, 1032, 5], uu) := by decide +kernel
theorem e_0_1462 : den cf 0 1462 L (.ref a :: st) M = if rcv M 6 [.ref a] = true ∧ st.length ≤ 4 then rK (cf 219 [.ref a] M) (fun v M' => den cf 0 1465 L (pR v st) M') else none := den_iv [] l_0_1462 rfl
theorem l_0_1465 : look (tab 0) 1465 = some (.if_icmp .eq 291, 3, [1756], uu) := by decide +kernel
theorem e_0_1465 : den cf 0 1465 L (.int y :: .int x :: st) M = if x = y then den cf 0 1756 L st M else den cf 0 1468 L st M := den_ic_eq l_0_1465
theorem l_0_1468 : look (tab 0) 1468 = some (.iconst 0, 1, [], .int (zI 0)) := by decide +kernel
theorem e_0_1468 : den cf 0 1468 L st M = den cf 0 1469 L (.int (zI 0) :: st) M := den_go l_0_1468 rfl
theorem l_0_1469 : look (tab 0) 1469 = some (.ireturn, 1, [1], uu) := by decide +kernel
theorem e_0_1469 : den cf 0 1469 L [.int x] M = if x = zI 0 ∨ x = zI 1 then some (some (.int x), M) else none := den_e1 l_0_1469
theorem l_0_1470 : look (tab 0) 1470 = some (.aload_n 1, 1, [], uu) := by decide +kernel
theorem e_0_1470 : den cf 0 1470 [v0, v1, v2, v3] st M = if isRf v1 = true then den cf 0 1471 [v0, v1, v2, v3] (v1 :: st) M else none := den_g l_0_1470 rfl
theorem l_0_1471 : look (tab 0) 1471 = some (.invokevirtual 187, 3, [5, 117, 1, 1034, 1035, 1036, 2], uu) := by decide +kernel
theorem e_0_1471 : den cf 0 1471 L (.ref a :: st) M = if rcv M 5 [.ref a] = true ∧ st.length ≤ 4 then rK (cf 117 [.ref a] M) (fun v M' => den cf 0 1474 L (pR v st) M') else none := den_iv [] l_0_1471 rfl
theorem l_0_1474 : look (tab 0) 1474 = some (.aload_n 2, 1, [], uu) := by decide +kernel
theorem e_0_1474 : den cf 0 1474 [v0, v1, v2, v3] st M = if isRf v2 = true then den cf 0 1475 [v0, v1, v2, v3] (v2 :: st) M else none := den_g l_0_1474 rfl
theorem l_0_1475 : look (tab 0) 1475 = some (.invokevirtual 190, 3, [6, 220, 1, 1038, 1039, 1040, 5], uu) := by decide +kernel
theorem e_0_1475 : den cf 0 1475 L (.ref a :: st) M = if rcv M 6 [.ref a] = true ∧ st.length ≤ 4 then rK (cf 220 [.ref a] M) (fun v M' => den cf 0 1478 L (pR v st) M') else none := den_iv [] l_0_1475 rfl
theorem l_0_1478 : look (tab 0) 1478 = some (.if_icmp .eq 278, 3, [1756], uu) := by decide +kernel
theorem e_0_1478 : den cf 0 1478 L (.int y :: .int x :: st) M = if x = y then den cf 0 1756 L st M else den cf 0 1481 L st M := den_ic_eq l_0_1478
theorem l_0_1481 : look (tab 0) 1481 = some (.iconst 0, 1, [], .int (zI 0)) := by decide +kernel
theorem e_0_1481 : den cf 0 1481 L st M = den cf 0 1482 L (.int (zI 0) :: st) M := den_go l_0_1481 rfl
theorem l_0_1482 : look (tab 0) 1482 = some (.ireturn, 1, [1], uu) := by decide +kernel
theorem e_0_1482 : den cf 0 1482 L [.int x] M = if x = zI 0 ∨ x = zI 1 then some (some (.int x), M) else none := den_e1 l_0_1482
theorem l_0_1483 : look (tab 0) 1483 = some (.aload_n 1, 1, [], uu) := by decide +kernel
theorem e_0_1483 : den cf 0 1483 [v0, v1, v2, v3] st M = if isRf v1 = true then den cf 0 1484 [v0, v1, v2, v3] (v1 :: st) M else none := den_g l_0_1483 rfl
theorem l_0_1484 : look (tab 0) 1484 = some (.invokevirtual 191, 3, [5, 118, 1, 1042, 1043, 1044, 2], uu) := by decide +kernel
theorem e_0_1484 : den cf 0 1484 L (.ref a :: st) M = if rcv M 5 [.ref a] = true ∧ st.length ≤ 4 then rK (cf 118 [.ref a] M) (fun v M' => den cf 0 1487 L (pR v st) M') else none := den_iv [] l_0_1484 rfl
theorem l_0_1487 : look (tab 0) 1487 = some (.aload_n 2, 1, [], uu) := by decide +kernel
theorem e_0_1487 : den cf 0 1487 [v0, v1, v2, v3] st M = if isRf v2 = true then den cf 0 1488 [v0, v1, v2, v3] (v2 :: st) M else none := den_g l_0_1487 rfl
theorem l_0_1488 : look (tab 0) 1488 = some (.invokevirtual 194, 3, [6, 221, 1, 1046, 1047, 1048, 5], uu) := by decide +kernel
theorem e_0_1488 : den cf 0 1488 L (.ref a :: st) M = if rcv M 6 [.ref a] = true ∧ st.length ≤ 4 then rK (cf 221 [.ref a] M) (fun v M' => den cf 0 1491 L (pR v st) M') else none := den_iv [] l_0_1488 rfl
theorem l_0_1491 : look (tab 0) 1491 = some (.if_icmp .eq 265, 3, [1756], uu) := by decide +kernel
theorem e_0_1491 : den cf 0 1491 L (.int y :: .int x :: st) M = if x = y then den cf 0 1756 L st M else den cf 0 1494 L st M := den_ic_eq l_0_1491
theorem l_0_1494 : look (tab 0) 1494 = some (.iconst 0, 1, [], .int (zI 0)) := by decide +kernel
theorem e_0_1494 : den cf 0 1494 L st M = den cf 0 1495 L (.int (zI 0) :: st) M := den_go l_0_1494 rfl
theorem l_0_1495 : look (tab 0) 1495 = some (.ireturn, 1, [1], uu) := by decide +kernel
theorem e_0_1495 : den cf 0 1495 L [.int x] M = if x = zI 0 ∨ x = zI 1 then some (some (.int x), M) else none := den_e1 l_0_1495
theorem l_0_1496 : look (tab 0) 1496 = some (.aload_n 1, 1, [], uu) := by decide +kernel
theorem e_0_1496 : den cf 0 1496 [v0, v1, v2, v3] st M = if isRf v1 = true then den cf 0 1497 [v0, v1, v2, v3] (v1 :: st) M else none := den_g l_0_1496 rfl
theorem l_0_1497 : look (tab 0) 1497 = some (.aload_n 0, 1, [], uu) := by decide +kernel
theorem e_0_1497 : den cf 0 1497 [v0, v1, v2, v3] st M = if isRf v0 = true then den cf 0 1498 [v0, v1, v2, v3] (v0 :: st) M else none := den_g l_0_1497 rfl
theorem l_0_1498 : look (tab 0) 1498 = some (.iload_n 3, 1, [], uu) := by decide +kernel
theorem e_0_1498 : den cf 0 1498 [v0, v1, v2, .int x] st M = den cf 0 1499 [v0, v1, v2, .int x] (.int x :: st) M := den_go l_0_1498 rfl
theorem l_0_1499 : look (tab 0) 1499 = some (.iconst 1, 1, [], .int (zI 1)) := by decide +kernel
theorem e_0_1499 : den cf 0 1499 L st M = den cf 0 1500 L (.int (zI 1) :: st) M := den_go l_0_1499 rfl
theorem l_0_1500 : look (tab 0) 1500 = some (.iadd, 1, [], uu) := by decide +kernel
theorem e_0_1500 : den cf 0 1500 L (.int y :: .int x :: st) M = den cf 0 1501 L (.int (x + y) :: st) M := den_go l_0_1500 rfl
theorem l_0_1501 : look (tab 0) 1501 = some (.iaload, 1, [], uu) := by decide +kernel
theorem e_0_1501 : den cf 0 1501 L (.int x :: .ref a :: st) M = oK (ldI (M.2.2 a) x) (fun v => den cf 0 1502 L (v :: st) M) := den_al (g := ldI) l_0_1501 rfl
theorem l_0_1502 : look (tab 0) 1502 = some (.aload_n 0, 1, [], uu) := by decide +kernel
theorem e_0_1502 : den cf 0 1502 [v0, v1, v2, v3] st M = if isRf v0 = true then den cf 0 1503 [v0, v1, v2, v3] (v0 :: st) M else none := den_g l_0_1502 rfl
theorem l_0_1503 : look (tab 0) 1503 = some (.iload_n 3, 1, [], uu) := by decide +kernel
theorem e_0_1503 : den cf 0 1503 [v0, v1, v2, .int x] st M = den cf 0 1504 [v0, v1, v2, .int x] (.int x :: st) M := den_go l_0_1503 rfl
theorem l_0_1504 : look (tab 0) 1504 = some (.iconst 2, 1, [], .int (zI 2)) := by decide +kernel
theorem e_0_1504 : den cf 0 1504 L st M = den cf 0 1505 L (.int (zI 2) :: st) M := den_go l_0_1504 rfl
theorem l_0_1505 : look (tab 0) 1505 = some (.iadd, 1, [], uu) := by decide +kernel
theorem e_0_1505 : den cf 0 1505 L (.int y :: .int x :: st) M = den cf 0 1506 L (.int (x + y) :: st) M := den_go l_0_1505 rfl
theorem l_0_1506 : look (tab 0) 1506 = some (.iaload, 1, [], uu) := by decide +kernel
theorem e_0_1506 : den cf 0 1506 L (.int x :: .ref a :: st) M = oK (ldI (M.2.2 a) x) (fun v => den cf 0 1507 L (v :: st) M) := den_al (g := ldI) l_0_1506 rfl
theorem l_0_1507 : look (tab 0) 1507 = some (.aload_n 0, 1, [], uu) := by decide +kernel
theorem e_0_1507 : den cf 0 1507 [v0, v1, v2, v3] st M = if isRf v0 = true then den cf 0 1508 [v0, v1, v2, v3] (v0 :: st) M else none := den_g l_0_1507 rfl
theorem l_0_1508 : look (tab 0) 1508 = some (.iload_n 3, 1, [], uu) := by decide +kernel
theorem e_0_1508 : den cf 0 1508 [v0, v1, v2, .int x] st M = den cf 0 1509 [v0, v1, v2, .int x] (.int x :: st) M := den_go l_0_1508 rfl
theorem l_0_1509 : look (tab 0) 1509 = some (.iconst 3, 1, [], .int (zI 3)) := by decide +kernel
theorem e_0_1509 : den cf 0 1509 L st M = den cf 0 1510 L (.int (zI 3) :: st) M := den_go l_0_1509 rfl
theorem l_0_1510 : look (tab 0) 1510 = some (.iadd, 1, [], uu) := by decide +kernel
theorem e_0_1510 : den cf 0 1510 L (.int y :: .int x :: st) M = den cf 0 1511 L (.int (x + y) :: st) M := den_go l_0_1510 rfl
theorem l_0_1511 : look (tab 0) 1511 = some (.iaload, 1, [], uu) := by decide +kernel
theorem e_0_1511 : den cf 0 1511 L (.int x :: .ref a :: st) M = oK (ldI (M.2.2 a) x) (fun v => den cf 0 1512 L (v :: st) M) := den_al (g := ldI) l_0_1511 rfl
theorem l_0_1512 : look (tab 0) 1512 = some (.invokevirtual 195, 3, [5, 119, 4, 1050, 1051, 1052, 2], uu) := by decide +kernel
theorem e_0_1512 : den cf 0 1512 L (w3 :: w2 :: w1 :: .ref a :: st) M = if rcv M 5 [.ref a, w1, w2, w3] = true ∧ st.length ≤ 4 then rK (cf 119 [.ref a, w1, w2, w3] M) (fun v M' => den cf 0 1515 L (pR v st) M') else none := den_iv [w1, w2, w3] l_0_1512 rfl
theorem l_0_1515 : look (tab 0) 1515 = some (.aload_n 2, 1, [], uu) := by decide +kernel
theorem e_0_1515 : den cf 0 1515 [v0, v1, v2, v3] st M = if isRf v2 = true then den cf 0 1516 [v0, v1, v2, v3] (v2 :: st) M else none := den_g l_0_1515 rfl
theorem l_0_1516 : look (tab 0) 1516 = some (.aload_n 0, 1, [], uu) := by decide +kernel
theorem e_0_1516 : den cf 0 1516 [v0, v1, v2, v3] st M = if isRf v0 = true then den cf 0 1517 [v0, v1, v2, v3] (v0 :: st) M else none := den_g l_0_1516 rfl
theorem l_0_1517 : look (tab 0) 1517 = some (.iload_n 3, 1, [], uu) := by decide +kernel
theorem e_0_1517 : den cf 0 1517 [v0, v1, v2, .int x] st M = den cf 0 1518 [v0, v1, v2, .int x] (.int x :: st) M := den_go l_0_1517 rfl
theorem l_0_1518 : look (tab 0) 1518 = some (.iconst 1, 1, [], .int (zI 1)) := by decide +kernel
theorem e_0_1518 : den cf 0 1518 L st M = den cf 0 1519 L (.int (zI 1) :: st) M := den_go l_0_1518 rfl
theorem l_0_1519 : look (tab 0) 1519 = some (.iadd, 1, [], uu) := by decide +kernel
theorem e_0_1519 : den cf 0 1519 L (.int y :: .int x :: st) M = den cf 0 1520 L (.int (x + y) :: st) M := den_go l_0_1519 rfl
theorem l_0_1520 : look (tab 0) 1520 = some (.iaload, 1, [], uu) := by decide +kernel
theorem e_0_1520 : den cf 0 1520 L (.int x :: .ref a :: st) M = oK (ldI (M.2.2 a) x) (fun v => den cf 0 1521 L (v :: st) M) := den_al (g := ldI) l_0_1520 rfl
theorem l_0_1521 : look (tab 0) 1521 = some (.aload_n 0, 1, [], uu) := by decide +kernel
theorem e_0_1521 : den cf 0 1521 [v0, v1, v2, v3] st M = if isRf v0 = true then den cf 0 1522 [v0, v1, v2, v3] (v0 :: st) M else none := den_g l_0_1521 rfl
theorem l_0_1522 : look (tab 0) 1522 = some (.iload_n 3, 1, [], uu) := by decide +kernel
theorem e_0_1522 : den cf 0 1522 [v0, v1, v2, .int x] st M = den cf 0 1523 [v0, v1, v2, .int x] (.int x :: st) M := den_go l_0_1522 rfl
theorem l_0_1523 : look (tab 0) 1523 = some (.iconst 2, 1, [], .int (zI 2)) := by decide +kernel
theorem e_0_1523 : den cf 0 1523 L st M = den cf 0 1524 L (.int (zI 2) :: st) M := den_go l_0_1523 rfl
theorem l_0_1524 : look (tab 0) 1524 = some (.iadd, 1, [], uu) := by decide +kernel
theorem e_0_1524 : den cf 0 1524 L (.int y :: .int x :: st) M = den cf 0 1525 L (.int (x + y) :: st) M := den_go l_0_1524 rfl
theorem l_0_1525 : look (tab 0) 1525 = some (.iaload, 1, [], uu) := by decide +kernel
theorem e_0_1525 : den cf 0 1525 L (.int x :: .ref a :: st) M = oK (ldI (M.2.2 a) x) (fun v => den cf 0 1526 L (v :: st) M) := den_al (g := ldI) l_0_1525 rfl
theorem l_0_1526 : look (tab 0) 1526 = some (.aload_n 0, 1, [], uu) := by decide +kernel
theorem e_0_1526 : den cf 0 1526 [v0, v1, v2, v3] st M = if isRf v0 = true then den cf 0 1527 [v0, v1, v2, v3] (v0 :: st) M else none := den_g l_0_1526 rfl
theorem l_0_1527 : look (tab 0) 1527 = some (.iload_n 3, 1, [], uu) := by decide +kernel
theorem e_0_1527 : den cf 0 1527 [v0, v1, v2, .int x] st M = den cf 0 1528 [v0, v1, v2, .int x] (.int x :: st) M := den_go l_0_1527 rfl
theorem l_0_1528 : look (tab 0) 1528 = some (.iconst 3, 1, [], .int (zI 3)) := by decide +kernel
theorem e_0_1528 : den cf 0 1528 L st M = den cf 0 1529 L (.int (zI 3) :: st) M := den_go l_0_1528 rfl
theorem l_0_1529 : look (tab 0) 1529 = some (.iadd, 1, [], uu) := by decide +kernel
theorem e_0_1529 : den cf 0 1529 L (.int y :: .int x :: st) M = den cf 0 1530 L (.int (x + y) :: st) M := den_go l_0_1529 rfl
theorem l_0_1530 : look (tab 0) 1530 = some (.iaload, 1, [], uu) := by decide +kernel
theorem e_0_1530 : den cf 0 1530 L (.int x :: .ref a :: st) M = oK (ldI (M.2.2 a) x) (fun v => den cf 0 1531 L (v :: st) M) := den_al (g := ldI) l_0_1530 rfl
theorem l_0_1531 : look (tab 0) 1531 = some (.invokevirtual 198, 3, [6, 224, 4, 1074, 1075, 1076, 5], uu) := by decide +kernel
theorem e_0_1531 : den cf 0 1531 L (w3 :: w2 :: w1 :: .ref a :: st) M = if rcv M 6 [.ref a, w1, w2, w3] = true ∧ st.length ≤ 4 then rK (cf 224 [.ref a, w1, w2, w3] M) (fun v M' => den cf 0 1534 L (pR v st) M') else none := den_iv [w1, w2, w3] l_0_1531 rfl
theorem l_0_1534 : look (tab 0) 1534 = some (.if_icmp .eq 222, 3, [1756], uu) := by decide +kernel
theorem e_0_1534 : den cf 0 1534 L (.int y :: .int x :: st) M = if x = y then den cf 0 1756 L st M else den cf 0 1537 L st M := den_ic_eq l_0_1534
theorem l_0_1537 : look (tab 0) 1537 = some (.iconst 0, 1, [], .int (zI 0)) := by decide +kernel
theorem e_0_1537 : den cf 0 1537 L st M = den cf 0 1538 L (.int (zI 0) :: st) M := den_go l_0_1537 rfl
theorem l_0_1538 : look (tab 0) 1538 = some (.ireturn, 1, [1], uu) := by decide +kernel
theorem e_0_1538 : den cf 0 1538 L [.int x] M = if x = zI 0 ∨ x = zI 1 then some (some (.int x), M) else none := den_e1 l_0_1538
theorem l_0_1539 : look (tab 0) 1539 = some (.aload_n 1, 1, [], uu) := by decide +kernel
theorem e_0_1539 : den cf 0 1539 [v0, v1, v2, v3] st M = if isRf v1 = true then den cf 0 1540 [v0, v1, v2, v3] (v1 :: st) M else none := den_g l_0_1539 rfl
theorem l_0_1540 : look (tab 0) 1540 = some (.aload_n 0, 1, [], uu) := by decide +kernel
theorem e_0_1540 : den cf 0 1540 [v0, v1, v2, v3] st M = if isRf v0 = true then den cf 0 1541 [v0, v1, v2, v3] (v0 :: st) M else none := den_g l_0_1540 rfl
theorem l_0_1541 : look (tab 0) 1541 = some (.iload_n 3, 1, [], uu) := by decide +kernel
theorem e_0_1541 : den cf 0 1541 [v0, v1, v2, .int x] st M = den cf 0 1542 [v0, v1, v2, .int x] (.int x :: st) M := den_go l_0_1541 rfl
theorem l_0_1542 : look (tab 0) 1542 = some (.iconst 1, 1, [], .int (zI 1)) := by decide +kernel
theorem e_0_1542 : den cf 0 1542 L st M = den cf 0 1543 L (.int (zI 1) :: st) M := den_go l_0_1542 rfl
theorem l_0_1543 : look (tab 0) 1543 = some (.iadd, 1, [], uu) := by decide +kernel
theorem e_0_1543 : den cf 0 1543 L (.int y :: .int x :: st) M = den cf 0 1544 L (.int (x + y) :: st) M := den_go l_0_1543 rfl
theorem l_0_1544 : look (tab 0) 1544 = some (.iaload, 1, [], uu) := by decide +kernel
theorem e_0_1544 : den cf 0 1544 L (.int x :: .ref a :: st) M = oK (ldI (M.2.2 a) x) (fun v => den cf 0 1545 L (v :: st) M) := den_al (g := ldI) l_0_1544 rfl
theorem l_0_1545 : look (tab 0) 1545 = some (.aload_n 0, 1, [], uu) := by decide +kernel
theorem e_0_1545 : den cf 0 1545 [v0, v1, v2, v3] st M = if isRf v0 = true then den cf 0 1546 [v0, v1, v2, v3] (v0 :: st) M else none := den_g l_0_1545 rfl
theorem l_0_1546 : look (tab 0) 1546 = some (.iload_n 3, 1, [], uu) := by decide +kernel
theorem e_0_1546 : den cf 0 1546 [v0, v1, v2, .int x] st M = den cf 0 1547 [v0, v1, v2, .int x] (.int x :: st) M := den_go l_0_1546 rfl
theorem l_0_1547 : look (tab 0) 1547 = some (.iconst 2, 1, [], .int (zI 2)) := by decide +kernel
theorem e_0_1547 : den cf 0 1547 L st M = den cf 0 1548 L (.int (zI 2) :: st) M := den_go l_0_1547 rfl
theorem l_0_1548 : look (tab 0) 1548 = some (.iadd, 1, [], uu) := by decide +kernel
theorem e_0_1548 : den cf 0 1548 L (.int y :: .int x :: st) M = den cf 0 1549 L (.int (x + y) :: st) M := den_go l_0_1548 rfl
theorem l_0_1549 : look (tab 0) 1549 = some (.iaload, 1, [], uu) := by decide +kernel
theorem e_0_1549 : den cf 0 1549 L (.int x :: .ref a :: st) M = oK (ldI (M.2.2 a) x) (fun v => den cf 0 1550 L (v :: st) M) := den_al (g := ldI) l_0_1549 rfl
theorem l_0_1550 : look (tab 0) 1550 = some (.invokevirtual 199, 3, [5, 120, 3, 1086, 1087, 1088, 2], uu) := by decide +kernel
theorem e_0_1550 : den cf 0 1550 L (w2 :: w1 :: .ref a :: st) M = if rcv M 5 [.ref a, w1, w2] = true ∧ st.length ≤ 4 then rK (cf 120 [.ref a, w1, w2] M) (fun v M' => den cf 0 1553 L (pR v st) M') else none := den_iv [w1, w2] l_0_1550 rfl
theorem l_0_1553 : look (tab 0) 1553 = some (.aload_n 2, 1, [], uu) := by decide +kernel
theorem e_0_1553 : den cf 0 1553 [v0, v1, v2, v3] st M = if isRf v2 = true then den cf 0 1554 [v0, v1, v2, v3] (v2 :: st) M else none := den_g l_0_1553 rfl
theorem l_0_1554 : look (tab 0) 1554 = some (.aload_n 0, 1, [], uu) := by decide +kernel
theorem e_0_1554 : den cf 0 1554 [v0, v1, v2, v3] st M = if isRf v0 = true then den cf 0 1555 [v0, v1, v2, v3] (v0 :: st) M else none := den_g l_0_1554 rfl
theorem l_0_1555 : look (tab 0) 1555 = some (.iload_n 3, 1, [], uu) := by decide +kernel
theorem e_0_1555 : den cf 0 1555 [v0, v1, v2, .int x] st M = den cf 0 1556 [v0, v1, v2, .int x] (.int x :: st) M := den_go l_0_1555 rfl
theorem l_0_1556 : look (tab 0) 1556 = some (.iconst 1, 1, [], .int (zI 1)) := by decide +kernel
theorem e_0_1556 : den cf 0 1556 L st M = den cf 0 1557 L (.int (zI 1) :: st) M := den_go l_0_1556 rfl
theorem l_0_1557 : look (tab 0) 1557 = some (.iadd, 1, [], uu) := by decide +kernel
theorem e_0_1557 : den cf 0 1557 L (.int y :: .int x :: st) M = den cf 0 1558 L (.int (x + y) :: st) M := den_go l_0_1557 rfl
theorem l_0_1558 : look (tab 0) 1558 = some (.iaload, 1, [], uu) := by decide +kernel
theorem e_0_1558 : den cf 0 1558 L (.int x :: .ref a :: st) M = oK (ldI (M.2.2 a) x) (fun v => den cf 0 1559 L (v :: st) M) := den_al (g := ldI) l_0_1558 rfl
theorem l_0_1559 : look (tab 0) 1559 = some (.aload_n 0, 1, [], uu) := by decide +kernel
theorem e_0_1559 : den cf 0 1559 [v0, v1, v2, v3] st M = if isRf v0 = true then den cf 0 1560 [v0, v1, v2, v3] (v0 :: st) M else none := den_g l_0_1559 rfl
theorem l_0_1560 : look (tab 0) 1560 = some (.iload_n 3, 1, [], uu) := by decide +kernel
theorem e_0_1560 : den cf 0 1560 [v0, v1, v2, .int x] st M = den cf 0 1561 [v0, v1, v2, .int x] (.int x :: st) M := den_go l_0_1560 rfl
theorem l_0_1561 : look (tab 0) 1561 = some (.iconst 2, 1, [], .int (zI 2)) := by decide +kernel
theorem e_0_1561 : den cf 0 1561 L st M = den cf 0 1562 L (.int (zI 2) :: st) M := den_go l_0_1561 rfl
theorem l_0_1562 : look (tab 0) 1562 = some (.iadd, 1, [], uu) := by decide +kernel
theorem e_0_1562 : den cf 0 1562 L (.int y :: .int x :: st) M = den cf 0 1563 L (.int (x + y) :: st) M := den_go l_0_1562 rfl
theorem l_0_1563 : look (tab 0) 1563 = some (.iaload, 1, [], uu) := by decide +kernel
theorem e_0_1563 : den cf 0 1563 L (.int x :: .ref a :: st) M = oK (ldI (M.2.2 a) x) (fun v => den cf 0 1564 L (v :: st) M) := den_al (g := ldI) l_0_1563 rfl
theorem l_0_1564 : look (tab 0) 1564 = some (.invokevirtual 202, 3, [6, 227, 3, 1104, 1105, 1106, 5], uu) := by decide +kernel
theorem e_0_1564 : den cf 0 1564 L (w2 :: w1 :: .ref a :: st) M = if rcv M 6 [.ref a, w1, w2] = true ∧ st.length ≤ 4 then rK (cf 227 [.ref a, w1, w2] M) (fun v M' => den cf 0 1567 L (pR v st) M') else none := den_iv [w1, w2] l_0_1564 rfl
theorem l_0_1567 : look (tab 0) 1567 = some (.if_icmp .eq 189, 3, [1756], uu) := by decide +kernel
theorem e_0_1567 : den cf 0 1567 L (.int y :: .int x :: st) M = if x = y then den cf 0 1756 L st M else den cf 0 1570 L st M := den_ic_eq l_0_1567
theorem l_0_1570 : look (tab 0) 1570 = some (.iconst 0, 1, [], .int (zI 0)) := by decide +kernel
theorem e_0_1570 : den cf 0 1570 L st M = den cf 0 1571 L (.int (zI 0) :: st) M := den_go l_0_1570 rfl
theorem l_0_1571 : look (tab 0) 1571 = some (.ireturn, 1, [1], uu) := by decide +kernel
theorem e_0_1571 : den cf 0 1571 L [.int x] M = if x = zI 0 ∨ x = zI 1 then some (some (.int x), M) else none := den_e1 l_0_1571
theorem l_0_1572 : look (tab 0) 1572 = some (.aload_n 1, 1, [], uu) := by decide +kernel
theorem e_0_1572 : den cf 0 1572 [v0, v1, v2, v3] st M = if isRf v1 = true then den cf 0 1573 [v0, v1, v2, v3] (v1 :: st) M else none := den_g l_0_1572 rfl
theorem l_0_1573 : look (tab 0) 1573 = some (.aload_n 0, 1, [], uu) := by decide +kernel
theorem e_0_1573 : den cf 0 1573 [v0, v1, v2, v3] st M = if isRf v0 = true then den cf 0 1574 [v0, v1, v2, v3] (v0 :: st) M else none := den_g l_0_1573 rfl
theorem l_0_1574 : look (tab 0) 1574 = some (.iload_n 3, 1, [], uu) := by decide +kernel
theorem e_0_1574 : den cf 0 1574 [v0, v1, v2, .int x] st M = den cf 0 1575 [v0, v1, v2, .int x] (.int x :: st) M := den_go l_0_1574 rfl
theorem l_0_1575 : look (tab 0) 1575 = some (.iconst 1, 1, [], .int (zI 1)) := by decide +kernel
theorem e_0_1575 : den cf 0 1575 L st M = den cf 0 1576 L (.int (zI 1) :: st) M := den_go l_0_1575 rfl
theorem l_0_1576 : look (tab 0) 1576 = some (.iadd, 1, [], uu) := by decide +kernel
theorem e_0_1576 : den cf 0 1576 L (.int y :: .int x :: st) M = den cf 0 1577 L (.int (x + y) :: st) M := den_go l_0_1576 rfl
theorem l_0_1577 : look (tab 0) 1577 = some (.iaload, 1, [], uu) := by decide +kernel
theorem e_0_1577 : den cf 0 1577 L (.int x :: .ref a :: st) M = oK (ldI (M.2.2 a) x) (fun v => den cf 0 1578 L (v :: st) M) := den_al (g := ldI) l_0_1577 rfl
theorem l_0_1578 : look (tab 0) 1578 = some (.aload_n 0, 1, [], uu) := by decide +kernel
theorem e_0_1578 : den cf 0 1578 [v0, v1, v2, v3] st M = if isRf v0 = true then den cf 0 1579 [v0, v1, v2, v3] (v0 :: st) M else none := den_g l_0_1578 rfl
theorem l_0_1579 : look (tab 0) 1579 = some (.iload_n 3, 1, [], uu) := by decide +kernel
theorem e_0_1579 : den cf 0 1579 [v0, v1, v2, .int x] st M = den cf 0 1580 [v0, v1, v2, .int x] (.int x :: st) M := den_go l_0_1579 rfl
theorem l_0_1580 : look (tab 0) 1580 = some (.iconst 2, 1, [], .int (zI 2)) := by decide +kernel
theorem e_0_1580 : den cf 0 1580 L st M = den cf 0 1581 L (.int (zI 2) :: st) M := den_go l_0_1580 rfl
theorem l_0_1581 : look (tab 0) 1581 = some (.iadd, 1, [], uu) := by decide +kernel
theorem e_0_1581 : den cf 0 1581 L (.int y :: .int x :: st) M = den cf 0 1582 L (.int (x + y) :: st) M := den_go l_0_1581 rfl
theorem l_0_1582 : look (tab 0) 1582 = some (.iaload, 1, [], uu) := by decide +kernel
theorem e_0_1582 : den cf 0 1582 L (.int x :: .ref a :: st) M = oK (ldI (M.2.2 a) x) (fun v => den cf 0 1583 L (v :: st) M) := den_al (g := ldI) l_0_1582 rfl
theorem l_0_1583 : look (tab 0) 1583 = some (.aload_n 0, 1, [], uu) := by decide +kernel
theorem e_0_1583 : den cf 0 1583 [v0, v1, v2, v3] st M = if isRf v0 = true then den cf 0 1584 [v0, v1, v2, v3] (v0 :: st) M else none := den_g l_0_1583 rfl
theorem l_0_1584 : look (tab 0) 1584 = some (.iload_n 3, 1, [], uu) := by decide +kernel
theorem e_0_1584 : den cf 0 1584 [v0, v1, v2, .int x] st M = den cf 0 1585 [v0, v1, v2, .int x] (.int x :: st) M := den_go l_0_1584 rfl
theorem l_0_1585 : look (tab 0) 1585 = some (.iconst 3, 1, [], .int (zI 3)) := by decide +kernel
theorem e_0_1585 : den cf 0 1585 L st M = den cf 0 1586 L (.int (zI 3) :: st) M := den_go l_0_1585 rfl
theorem l_0_1586 : look (tab 0) 1586 = some (.iadd, 1, [], uu) := by decide +kernel
theorem e_0_1586 : den cf 0 1586 L (.int y :: .int x :: st) M = den cf 0 1587 L (.int (x + y) :: st) M := den_go l_0_1586 rfl
theorem l_0_1587 : look (tab 0) 1587 = some (.iaload, 1, [], uu) := by decide +kernel
theorem e_0_1587 : den cf 0 1587 L (.int x :: .ref a :: st) M = oK (ldI (M.2.2 a) x) (fun v => den cf 0 1588 L (v :: st) M) := den_al (g := ldI) l_0_1587 rfl
theorem l_0_1588 : look (tab 0) 1588 = some (.invokevirtual 203, 3, [5, 121, 4, 1120, 1121, 1122, 2], uu) := by decide +kernel
theorem e_0_1588 : den cf 0 1588 L (w3 :: w2 :: w1 :: .ref a :: st) M = if rcv M 5 [.ref a, w1, w2, w3] = true ∧ st.length ≤ 4 then rK (cf 121 [.ref a, w1, w2, w3] M) (fun v M' => den cf 0 1591 L (pR v st) M') else none := den_iv [w1, w2, w3] l_0_1588 rfl
theorem l_0_1591 : look (tab 0) 1591 = some (.aload_n 2, 1, [], uu) := by decide +kernel
theorem e_0_1591 : den cf 0 1591 [v0, v1, v2, v3] st M = if isRf v2 = true then den cf 0 1592 [v0, v1, v2, v3] (v2 :: st) M else none := den_g l_0_1591 rfl
theorem l_0_1592 : look (tab 0) 1592 = some (.aload_n 0, 1, [], uu) := by decide +kernel
theorem e_0_1592 : den cf 0 1592 [v0, v1, v2, v3] st M = if isRf v0 = true then den cf 0 1593 [v0, v1, v2, v3] (v0 :: st) M else none := den_g l_0_1592 rfl
theorem l_0_1593 : look (tab 0) 1593 = some (.iload_n 3, 1, [], uu) := by decide +kernel
theorem e_0_1593 : den cf 0 1593 [v0, v1, v2, .int x] st M = den cf 0 1594 [v0, v1, v2, .int x] (.int x :: st) M := den_go l_0_1593 rfl
theorem l_0_1594 : look (tab 0) 1594 = some (.iconst 1, 1, [], .int (zI 1)) := by decide +kernel
theorem e_0_1594 : den cf 0 1594 L st M = den cf 0 1595 L (.int (zI 1) :: st) M := den_go l_0_1594 rfl
theorem l_0_1595 : look (tab 0) 1595 = some (.iadd, 1, [], uu) := by decide +kernel
theorem e_0_1595 : den cf 0 1595 L (.int y :: .int x :: st) M = den cf 0 1596 L (.int (x + y) :: st) M := den_go l_0_1595 rfl
theorem l_0_1596 : look (tab 0) 1596 = some (.iaload, 1, [], uu) := by decide +kernel
theorem e_0_1596 : den cf 0 1596 L (.int x :: .ref a :: st) M = oK (ldI (M.2.2 a) x) (fun v => den cf 0 1597 L (v :: st) M) := den_al (g := ldI) l_0_1596 rfl
theorem l_0_1597 : look (tab 0) 1597 = some (.aload_n 0, 1, [], uu) := by decide +kernel
theorem e_0_1597 : den cf 0 1597 [v0, v1, v2, v3] st M = if isRf v0 = true then den cf 0 1598 [v0, v1, v2, v3] (v0 :: st) M else none := den_g l_0_1597 rfl
theorem l_0_1598 : look (tab 0) 1598 = some (.iload_n 3, 1, [], uu) := by decide +kernel
theorem e_0_1598 : den cf 0 1598 [v0, v1, v2, .int x] st M = den cf 0 1599 [v0, v1, v2, .int x] (.int x :: st) M := den_go l_0_1598 rfl
theorem l_0_1599 : look (tab 0) 1599 = some (.iconst 2, 1, [], .int (zI 2)) := by decide +kernel
theorem e_0_1599 : den cf 0 1599 L st M = den cf 0 1600 L (.int (zI 2) :: st) M := den_go l_0_1599 rfl
theorem l_0_1600 : look (tab 0) 1600 = some (.iadd, 1, [], uu) := by decide +kernel
theorem e_0_1600 : den cf 0 1600 L (.int y :: .int x :: st) M = den cf 0 1601 L (.int (x + y) :: st) M := den_go l_0_1600 rfl
theorem l_0_1601 : look (tab 0) 1601 = some (.iaload, 1, [], uu) := by decide +kernel
theorem e_0_1601 : den cf 0 1601 L (.int x :: .ref a :: st) M = oK (ldI (M.2.2 a) x) (fun v => den cf 0 1602 L (v :: st) M) := den_al (g := ldI) l_0_1601 rfl
theorem l_0_1602 : look (tab 0) 1602 = some (.aload_n 0, 1, [], uu) := by decide +kernel
theorem e_0_1602 : den cf 0 1602 [v0, v1, v2, v3] st M = if isRf v0 = true then den cf 0 1603 [v0, v1, v2, v3] (v0 :: st) M else none := den_g l_0_1602 rfl
theorem l_0_1603 : look (tab 0) 1603 = some (.iload_n 3, 1, [], uu) := by decide +kernel
theorem e_0_1603 : den cf 0 1603 [v0, v1, v2, .int x] st M = den cf 0 1604 [v0, v1, v2, .int x] (.int x :: st) M := den_go l_0_1603 rfl
theorem l_0_1604 : look (tab 0) 1604 = some (.iconst 3, 1, [], .int (zI 3)) := by decide +kernel
theorem e_0_1604 : den cf 0 1604 L st M = den cf 0 1605 L (.int (zI 3) :: st) M := den_go l_0_1604 rfl
theorem l_0_1605 : look (tab 0) 1605 = some (.iadd, 1, [], uu) := by decide +kernel
theorem e_0_1605 : den cf 0 1605 L (.int y :: .int x :: st) M = den cf 0 1606 L (.int (x + y) :: st) M := den_go l_0_1605 rfl
theorem l_0_1606 : look (tab 0) 1606 = some (.iaload, 1, [], uu) := by decide +kernel
theorem e_0_1606 : den cf 0 1606 L (.int x :: .ref a :: st) M = oK (ldI (M.2.2 a) x) (fun v => den cf 0 1607 L (v :: st) M) := den_al (g := ldI) l_0_1606 rfl
theorem l_0_1607 : look (tab 0) 1607 = some (.invokevirtual 206, 3, [6, 230, 4, 1132, 1133, 1134, 5], uu) := by decide +kernel
theorem e_0_1607 : den cf 0 1607 L (w3 :: w2 :: w1 :: .ref a :: st) M = if rcv M 6 [.ref a, w1, w2, w3] = true ∧ st.length ≤ 4 then rK (cf 230 [.ref a, w1, w2, w3] M) (fun v M' => den cf 0 1610 L (pR v st) M') else none := den_iv [w1, w2, w3] l_0_1607 rfl
theorem l_0_1610 : look (tab 0) 1610 = some (.if_icmp .eq 146, 3, [1756], uu) := by decide +kernel
theorem e_0_1610 : den cf 0 1610 L (.int y :: .int x :: st) M = if x = y then den cf 0 1756 L st M else den cf 0 1613 L st M := den_ic_eq l_0_1610
theorem l_0_1613 : look (tab 0) 1613 = some (.iconst 0, 1, [], .int (zI 0)) := by decide +kernel
theorem e_0_1613 : den cf 0 1613 L st M = den cf 0 1614 L (.int (zI 0) :: st) M := den_go l_0_1613 rfl
theorem l_0_1614 : look (tab 0) 1614 = some (.ireturn, 1, [1], uu) := by decide +kernel
theorem e_0_1614 : den cf 0 1614 L [.int x] M = if x = zI 0 ∨ x = zI 1 then some (some (.int x), M) else none := den_e1 l_0_1614
theorem l_0_1615 : look (tab 0) 1615 = some (.aload_n 1, 1, [], uu) := by decide +kernel
theorem e_0_1615 : den cf 0 1615 [v0, v1, v2, v3] st M = if isRf v1 = true then den cf 0 1616 [v0, v1, v2, v3] (v1 :: st) M else none := den_g l_0_1615 rfl
theorem l_0_1616 : look (tab 0) 1616 = some (.aload_n 0, 1, [], uu) := by decide +kernel
theorem e_0_1616 : den cf 0 1616 [v0, v1, v2, v3] st M = if isRf v0 = true then den cf 0 1617 [v0, v1, v2, v3] (v0 :: st) M else none := den_g l_0_1616 rfl
theorem l_0_1617 : look (tab 0) 1617 = some (.iload_n 3, 1, [], uu) := by decide +kernel
theorem e_0_1617 : den cf 0 1617 [v0, v1, v2, .int x] st M = den cf 0 1618 [v0, v1, v2, .int x] (.int x :: st) M := den_go l_0_1617 rfl
theorem l_0_1618 : look (tab 0) 1618 = some (.iconst 1, 1, [], .int (zI 1)) := by decide +kernel
theorem e_0_1618 : den cf 0 1618 L st M = den cf 0 1619 L (.int (zI 1) :: st) M := den_go l_0_1618 rfl
theorem l_0_1619 : look (tab 0) 1619 = some (.iadd, 1, [], uu) := by decide +kernel
theorem e_0_1619 : den cf 0 1619 L (.int y :: .int x :: st) M = den cf 0 1620 L (.int (x + y) :: st) M := den_go l_0_1619 rfl
theorem l_0_1620 : look (tab 0) 1620 = some (.iaload, 1, [], uu) := by decide +kernel
theorem e_0_1620 : den cf 0 1620 L (.int x :: .ref a :: st) M = oK (ldI (M.2.2 a) x) (fun v => den cf 0 1621 L (v :: st) M) := den_al (g := ldI) l_0_1620 rfl
theorem l_0_1621 : look (tab 0) 1621 = some (.aload_n 0, 1, [], uu) := by decide +kernel
theorem e_0_1621 : den cf 0 1621 [v0, v1, v2, v3] st M = if isRf v0 = true then den cf 0 1622 [v0, v1, v2, v3] (v0 :: st) M else none := den_g l_0_1621 rfl
theorem l_0_1622 : look (tab 0) 1622 = some (.iload_n 3, 1, [], uu) := by decide +kernel
theorem e_0_1622 : den cf 0 1622 [v0, v1, v2, .int x] st M = den cf 0 1623 [v0, v1, v2, .int x] (.int x :: st) M := den_go l_0_1622 rfl
theorem l_0_1623 : look (tab 0) 1623 = some (.iconst 2, 1, [], .int (zI 2)) := by decide +kernel
theorem e_0_1623 : den cf 0 1623 L st M = den cf 0 1624 L (.int (zI 2) :: st) M := den_go l_0_1623 rfl
theorem l_0_1624 : look (tab 0) 1624 = some (.iadd, 1, [], uu) := by decide +kernel
theorem e_0_1624 : den cf 0 1624 L (.int y :: .int x :: st) M = den cf 0 1625 L (.int (x + y) :: st) M := den_go l_0_1624 rfl
theorem l_0_1625 : look (tab 0) 1625 = some (.iaload, 1, [], uu) := by decide +kernel
theorem e_0_1625 : den cf 0 1625 L (.int x :: .ref a :: st) M = oK (ldI (M.2.2 a) x) (fun v => den cf 0 1626 L (v :: st) M) := den_al (g := ldI) l_0_1625 rfl
theorem l_0_1626 : look (tab 0) 1626 = some (.invokevirtual 207, 3, [5, 122, 3, 1144, 1145, 1146, 2], uu) := by decide +kernel
theorem e_0_1626 : den cf 0 1626 L (w2 :: w1 :: .ref a :: st) M = if rcv M 5 [.ref a, w1, w2] = true ∧ st.length ≤ 4 then rK (cf 122 [.ref a, w1, w2] M) (fun v M' => den cf 0 1629 L (pR v st) M') else none := den_iv [w1, w2] l_0_1626 rfl
theorem l_0_1629 : look (tab 0) 1629 = some (.aload_n 2, 1, [], uu) := by decide +kernel
theorem e_0_1629 : den cf 0 1629 [v0, v1, v2, v3] st M = if isRf v2 = true then den cf 0 1630 [v0, v1, v2, v3] (v2 :: st) M else none := den_g l_0_1629 rfl
theorem l_0_1630 : look (tab 0) 1630 = some (.aload_n 0, 1, [], uu) := by decide +kernel
theorem e_0_1630 : den cf 0 1630 [v0, v1, v2, v3] st M = if isRf v0 = true then den cf 0 1631 [v0, v1, v2, v3] (v0 :: st) M else none := den_g l_0_1630 rfl
theorem l_0_1631 : look (tab 0) 1631 = some (.iload_n 3, 1, [], uu) := by decide +kernel
theorem e_0_1631 : den cf 0 1631 [v0, v1, v2, .int x] st M = den cf 0 1632 [v0, v1, v2, .int x] (.int x :: st) M := den_go l_0_1631 rfl
theorem l_0_1632 : look (tab 0) 1632 = some (.iconst 1, 1, [], .int (zI 1)) := by decide +kernel
theorem e_0_1632 : den cf 0 1632 L st M = den cf 0 1633 L (.int (zI 1) :: st) M := den_go l_0_1632 rfl
theorem l_0_1633 : look (tab 0) 1633 = some (.iadd, 1, [], uu) := by decide +kernel
theorem e_0_1633 : den cf 0 1633 L (.int y :: .int x :: st) M = den cf 0 1634 L (.int (x + y) :: st) M := den_go l_0_1633 rfl
theorem l_0_1634 : look (tab 0) 1634 = some (.iaload, 1, [], uu) := by decide +kernel
theorem e_0_1634 : den cf 0 1634 L (.int x :: .ref a :: st) M = oK (ldI (M.2.2 a) x) (fun v => den cf 0 1635 L (v :: st) M) := den_al (g := ldI) l_0_1634 rfl
theorem l_0_1635 : look (tab 0) 1635 = some (.aload_n 0, 1, [], uu) := by decide +kernel
theorem e_0_1635 : den cf 0 1635 [v0, v1, v2, v3] st M = if isRf v0 = true then den cf 0 1636 [v0, v1, v2, v3] (v0 :: st) M else none := den_g l_0_1635 rfl
theorem l_0_1636 : look (tab 0) 1636 = some (.iload_n 3, 1, [], uu) := by decide +kernel
theorem e_0_1636 : den cf 0 1636 [v0, v1, v2, .int x] st M = den cf 0 1637 [v0, v1, v2, .int x] (.int x :: st) M := den_go l_0_1636 rfl
theorem l_0_1637 : look (tab 0) 1637 = some (.iconst 2, 1, [], .int (zI 2)) := by decide +kernel
theorem e_0_1637 : den cf 0 1637 L st M = den cf 0 1638 L (.int (zI 2) :: st) M := den_go l_0_1637 rfl
theorem l_0_1638 : look (tab 0) 1638 = some (.iadd, 1, [], uu) := by decide +kernel
theorem e_0_1638 : den cf 0 1638 L (.int y :: .int x :: st) M = den cf 0 1639 L (.int (x + y) :: st) M := den_go l_0_1638 rfl
theorem l_0_1639 : look (tab 0) 1639 = some (.iaload, 1, [], uu) := by decide +kernel
theorem e_0_1639 : den cf 0 1639 L (.int x :: .ref a :: st) M = oK (ldI (M.2.2 a) x) (fun v => den cf 0 1640 L (v :: st) M) := den_al (g := ldI) l_0_1639 rfl
theorem l_0_1640 : look (tab 0) 1640 = some (.invokevirtual 210, 3, [6, 231, 3, 1148, 1149, 1150, 5], uu) := by decide +kernel
theorem e_0_1640 : den cf 0 1640 L (w2 :: w1 :: .ref a :: st) M = if rcv M 6 [.ref a, w1, w2] = true ∧ st.length ≤ 4 then rK (cf 231 [.ref a, w1, w2] M) (fun v M' => den cf 0 1643 L (pR v st) M') else none := den_iv [w1, w2] l_0_1640 rfl
theorem l_0_1643 : look (tab 0) 1643 = some (.if_icmp .eq 113, 3, [1756], uu) := by decide +kernel
theorem e_0_1643 : den cf 0 1643 L (.int y :: .int x :: st) M = if x = y then den cf 0 1756 L st M else den cf 0 1646 L st M := den_ic_eq l_0_1643
theorem l_0_1646 : look (tab 0) 1646 = some (.iconst 0, 1, [], .int (zI 0)) := by decide +kernel
theorem e_0_1646 : den cf 0 1646 L st M = den cf 0 1647 L (.int (zI 0) :: st) M := den_go l_0_1646 rfl
theorem l_0_1647 : look (tab 0) 1647 = some (.ireturn, 1, [1], uu) := by decide +kernel
theorem e_0_1647 : den cf 0 1647 L [.int x] M = if x = zI 0 ∨ x = zI 1 then some (some (.int x), M) else none := den_e1 l_0_1647
theorem l_0_1648 : look (tab 0) 1648 = some (.aload_n 1, 1, [], uu) := by decide +kernel
theorem e_0_1648 : den cf 0 1648 [v0, v1, v2, v3] st M = if isRf v1 = true then den cf 0 1649 [v0, v1, v2, v3] (v1 :: st) M else none := den_g l_0_1648 rfl
theorem l_0_1649 : look (tab 0) 1649 = some (.aload_n 0, 1, [], uu) := by decide +kernel
theorem e_0_1649 : den cf 0 1649 [v0, v1, v2, v3] st M = if isRf v0 = true then den cf 0 1650 [v0, v1, v2, v3] (v0 :: st) M else none := den_g l_0_1649 rfl
theorem l_0_1650 : look (tab 0) 1650 = some (.iload_n 3, 1, [], uu) := by decide +kernel
theorem e_0_1650 : den cf 0 1650 [v0, v1, v2, .int x] st M = den cf 0 1651 [v0, v1, v2, .int x] (.int x :: st) M := den_go l_0_1650 rfl
theorem l_0_1651 : look (tab 0) 1651 = some (.iconst 1, 1, [], .int (zI 1)) := by decide +kernel
theorem e_0_1651 : den cf 0 1651 L st M = den cf 0 1652 L (.int (zI 1) :: st) M := den_go l_0_1651 rfl
theorem l_0_1652 : look (tab 0) 1652 = some (.iadd, 1, [], uu) := by decide +kernel
theorem e_0_1652 : den cf 0 1652 L (.int y :: .int x :: st) M = den cf 0 1653 L (.int (x + y) :: st) M := den_go l_0_1652 rfl
theorem l_0_1653 : look (tab 0) 1653 = some (.iaload, 1, [], uu) := by decide +kernel
theorem e_0_1653 : den cf 0 1653 L (.int x :: .ref a :: st) M = oK (ldI (M.2.2 a) x) (fun v => den cf 0 1654 L (v :: st) M) := den_al (g := ldI) l_0_1653 rfl
theorem l_0_1654 : look (tab 0) 1654 = some (.invokevirtual 211, 3, [5, 123, 2, 1152, 1153, 1154, 2], uu) := by decide +kernel
theorem e_0_1654 : den cf 0 1654 L (w1 :: .ref a :: st) M = if rcv M 5 [.ref a, w1] = true ∧ st.length ≤ 4 then rK (cf 123 [.ref a, w1] M) (fun v M' => den cf 0 1657 L (pR v st) M') else none := den_iv [w1] l_0_1654 rfl
theorem l_0_1657 : look (tab 0) 1657 = some (.aload_n 2, 1, [], uu) := by decide +kernel
theorem e_0_1657 : den cf 0 1657 [v0, v1, v2, v3] st M = if isRf v2 = true then den cf 0 1658 [v0, v1, v2, v3] (v2 :: st) M else none := den_g l_0_1657 rfl
theorem l_0_1658 : look (tab 0) 1658 = some (.aload_n 0, 1, [], uu) := by decide +kernel
theorem e_0_1658 : den cf 0 1658 [v0, v1, v2, v3] st M = if isRf v0 = true then den cf 0 1659 [v0, v1, v2, v3] (v0 :: st) M else none := den_g l_0_1658 rfl
theorem l_0_1659 : look (tab 0) 1659 = some (.iload_n 3, 1, [], uu) := by decide +kernel
theorem e_0_1659 : den cf 0 1659 [v0, v1, v2, .int x] st M = den cf 0 1660 [v0, v1, v2, .int x] (.int x :: st) M := den_go l_0_1659 rfl
theorem l_0_1660 : look (tab 0) 1660 = some (.iconst 1, 1, [], .int (zI 1)) := by decide +kernel
theorem e_0_1660 : den cf 0 1660 L st M = den cf 0 1661 L (.int (zI 1) :: st) M := den_go l_0_1660 rfl
theorem l_0_1661 : look (tab 0) 1661 = some (.iadd, 1, [], uu) := by decide +kernel
theorem e_0_1661 : den cf 0 1661 L (.int y :: .int x :: st) M = den cf 0 1662 L (.int (x + y) :: st) M := den_go l_0_1661 rfl
theorem l_0_1662 : look (tab 0) 1662 = some (.iaload, 1, [], uu) := by decide +kernel
theorem e_0_1662 : den cf 0 1662 L (.int x :: .ref a :: st) M = oK (ldI (M.2.2 a) x) (fun v => den cf 0 1663 L (v :: st) M) := den_al (g := ldI) l_0_1662 rfl
theorem l_0_1663 : look (tab 0) 1663 = some (.invokevirtual 214, 3, [6, 234, 2, 1165, 1166, 1167, 5], uu) := by decide +kernel
theorem e_0_1663 : den cf 0 1663 L (w1 :: .ref a :: st) M = if rcv M 6 [.ref a, w1] = true ∧ st.length ≤ 4 then rK (cf 234 [.ref a, w1] M) (fun v M' => den cf 0 1666 L (pR v st) M') else none := den_iv [w1] l_0_1663 rfl
theorem l_0_1666 : look (tab 0) 1666 = some (.if_icmp .eq 90, 3, [1756], uu) := by decide +kernel
theorem e_0_1666 : den cf 0 1666 L (.int y :: .int x :: st) M = if x = y then den cf 0 1756 L st M else den cf 0 1669 L st M := den_ic_eq l_0_1666
theorem l_0_1669 : look (tab 0) 1669 = some (.iconst 0, 1, [], .int (zI 0)) := by decide +kernel
theorem e_0_1669 : den cf 0 1669 L st M = den cf 0 1670 L (.int (zI 0) :: st) M := den_go l_0_1669 rfl
theorem l_0_1670 : look (tab 0) 1670 = some (.ireturn, 1, [1], uu) := by decide +kernel
theorem e_0_1670 : den cf 0 1670 L [.int x] M = if x = zI 0 ∨ x = zI 1 then some (some (.int x), M) else none := den_e1 l_0_1670
theorem l_0_1671 : look (tab 0) 1671 = some (.aload_n 1, 1, [], uu) := by decide +kernel
theorem e_0_1671 : den cf 0 1671 [v0, v1, v2, v3] st M = if isRf v1 = true then den cf 0 1672 [v0, v1, v2, v3] (v1 :: st) M else none := den_g l_0_1671 rfl
theorem l_0_1672 : look (tab 0) 1672 = some (.invokevirtual 215, 3, [5, 104, 1, 1179, 1180, 1181, 2], uu) := by decide +kernel
theorem e_0_1672 : den cf 0 1672 L (.ref a :: st) M = if rcv M 5 [.ref a] = true ∧ st.length ≤ 4 then rK (cf 104 [.ref a] M) (fun v M' => den cf 0 1675 L (pR v st) M') else none := den_iv [] l_0_1672 rfl
theorem l_0_1675 : look (tab 0) 1675 = some (.aload_n 2, 1, [], uu) := by decide +kernel
theorem e_0_1675 : den cf 0 1675 [v0, v1, v2, v3] st M = if isRf v2 = true then den cf 0 1676 [v0, v1, v2, v3] (v2 :: st) M else none := den_g l_0_1675 rfl
theorem l_0_1676 : look (tab 0) 1676 = some (.invokevirtual 218, 3, [6, 235, 1, 1184, 1185, 1186, 5], uu) := by decide +kernel
theorem e_0_1676 : den cf 0 1676 L (.ref a :: st) M = if rcv M 6 [.ref a] = true ∧ st.length ≤ 4 then rK (cf 235 [.ref a] M) (fun v M' => den cf 0 1679 L (pR v st) M') else none := den_iv [] l_0_1676 rfl
theorem l_0_1679 : look (tab 0) 1679 = some (.if_icmp .eq 77, 3, [1756], uu) := by decide +kernel
theorem e_0_1679 : den cf 0 1679 L (.int y :: .int x :: st) M = if x = y then den cf 0 1756 L st M else den cf 0 1682 L st M := den_ic_eq l_0_1679
theorem l_0_1682 : look (tab 0) 1682 = some (.iconst 0, 1, [], .int (zI 0)) := by decide +kernel
theorem e_0_1682 : den cf 0 1682 L st M = den cf 0 1683 L (.int (zI 0) :: st) M := den_go l_0_1682 rfl
theorem l_0_1683 : look (tab 0) 1683 = some (.ireturn, 1, [1], uu) := by decide +kernel
theorem e_0_1683 : den cf 0 1683 L [.int x] M = if x = zI 0 ∨ x = zI 1 then some (some (.int x), M) else none := den_e1 l_0_1683
theorem l_0_1684 : look (tab 0) 1684 = some (.aload_n 1, 1, [], uu) := by decide +kernel
theorem e_0_1684 : den cf 0 1684 [v0, v1, v2, v3] st M = if isRf v1 = true then den cf 0 1685 [v0, v1, v2, v3] (v1 :: st) M else none := den_g l_0_1684 rfl
theorem l_0_1685 : look (tab 0) 1685 = some (.aload_n 0, 1, [], uu) := by decide +kernel
theorem e_0_1685 : den cf 0 1685 [v0, v1, v2, v3] st M = if isRf v0 = true then den cf 0 1686 [v0, v1, v2, v3] (v0 :: st) M else none := den_g l_0_1685 rfl
theorem l_0_1686 : look (tab 0) 1686 = some (.iload_n 3, 1, [], uu) := by decide +kernel
theorem e_0_1686 : den cf 0 1686 [v0, v1, v2, .int x] st M = den cf 0 1687 [v0, v1, v2, .int x] (.int x :: st) M := den_go l_0_1686 rfl
theorem l_0_1687 : look (tab 0) 1687 = some (.iconst 1, 1, [], .int (zI 1)) := by decide +kernel
theorem e_0_1687 : den cf 0 1687 L st M = den cf 0 1688 L (.int (zI 1) :: st) M := den_go l_0_1687 rfl
theorem l_0_1688 : look (tab 0) 1688 = some (.iadd, 1, [], uu) := by decide +kernel
theorem e_0_1688 : den cf 0 1688 L (.int y :: .int x :: st) M = den cf 0 1689 L (.int (x + y) :: st) M := den_go l_0_1688 rfl
theorem l_0_1689 : look (tab 0) 1689 = some (.iaload, 1, [], uu) := by decide +kernel
theorem e_0_1689 : den cf 0 1689 L (.int x :: .ref a :: st) M = oK (ldI (M.2.2 a) x) (fun v => den cf 0 1690 L (v :: st) M) := den_al (g := ldI) l_0_1689 rfl
theorem l_0_1690 : look (tab 0) 1690 = some (.invokevirtual 219, 3, [5, 124, 2, 1188, 1189, 1190, 2], uu) := by decide +kernel
theorem e_0_1690 : den cf 0 1690 L (w1 :: .ref a :: st) M = if rcv M 5 [.ref a, w1] = true ∧ st.length ≤ 4 then rK (cf 124 [.ref a, w1] M) (fun v M' => den cf 0 1693 L (pR v st) M') else none := den_iv [w1] l_0_1690 rfl
theorem l_0_1693 : look (tab 0) 1693 = some (.aload_n 2, 1, [], uu) := by decide +kernel
theorem e_0_1693 : den cf 0 1693 [v0, v1, v2, v3] st M = if isRf v2 = true then den cf 0 1694 [v0, v1, v2, v3] (v2 :: st) M else none := den_g l_0_1693 rfl
theorem l_0_1694 : look (tab 0) 1694 = some (.aload_n 0, 1, [], uu) := by decide +kernel
theorem e_0_1694 : den cf 0 1694 [v0, v1, v2, v3] st M = if isRf v0 = true then den cf 0 1695 [v0, v1, v2, v3] (v0 :: st) M else none := den_g l_0_1694 rfl
theorem l_0_1695 : look (tab 0) 1695 = some (.iload_n 3, 1, [], uu) := by decide +kernel
theorem e_0_1695 : den cf 0 1695 [v0, v1, v2, .int x] st M = den cf 0 1696 [v0, v1, v2, .int x] (.int x :: st) M := den_go l_0_1695 rfl
theorem l_0_1696 : look (tab 0) 1696 = some (.iconst 1, 1, [], .int (zI 1)) := by decide +kernel
theorem e_0_1696 : den cf 0 1696 L st M = den cf 0 1697 L (.int (zI 1) :: st) M := den_go l_0_1696 rfl
theorem l_0_1697 : look (tab 0) 1697 = some (.iadd, 1, [], uu) := by decide +kernel
theorem e_0_1697 : den cf 0 1697 L (.int y :: .int x :: st) M = den cf 0 1698 L (.int (x + y) :: st) M := den_go l_0_1697 rfl
theorem l_0_1698 : look (tab 0) 1698 = some (.iaload, 1, [], uu) := by decide +kernel
theorem e_0_1698 : den cf 0 1698 L (.int x :: .ref a :: st) M = oK (ldI (M.2.2 a) x) (fun v => den cf 0 1699 L (v :: st) M) := den_al (g := ldI) l_0_1698 rfl
theorem l_0_1699 : look (tab 0) 1699 = some (.invokevirtual 222, 3, [6, 236, 2, 1193, 1194, 1195, 5], uu) := by decide +kernel
theorem e_0_1699 : den cf 0 1699 L (w1 :: .ref a :: st) M = if rcv M 6 [.ref a, w1] = true ∧ st.length ≤ 4 then rK (cf 236 [.ref a, w1] M) (fun v M' => den cf 0 1702 L (pR v st) M') else none := den_iv [w1] l_0_1699 rfl
theorem l_0_1702 : look (tab 0) 1702 = some (.if_icmp .eq 54, 3, [1756], uu) := by decide +kernel
theorem e_0_1702 : den cf 0 1702 L (.int y :: .int x :: st) M = if x = y then den cf 0 1756 L st M else den cf 0 1705 L st M := den_ic_eq l_0_1702
theorem l_0_1705 : look (tab 0) 1705 = some (.iconst 0, 1, [], .int (zI 0)) := by decide +kernel
theorem e_0_1705 : den cf 0 1705 L st M = den cf 0 1706 L (.int (zI 0) :: st) M := den_go l_0_1705 rfl
theorem l_0_1706 : look (tab 0) 1706 = some (.ireturn, 1, [1], uu) := by decide +kernel
theorem e_0_1706 : den cf 0 1706 L [.int x] M = if x = zI 0 ∨ x = zI 1 then some (some (.int x), M) else none := den_e1 l_0_1706
theorem l_0_1707 : look (tab 0) 1707 = some (.aload_n 1, 1, [], uu) := by decide +kernel
theorem e_0_1707 : den cf 0 1707 [v0, v1, v2, v3] st M = if isRf v1 = true then den cf 0 1708 [v0, v1, v2, v3] (v1 :: st) M else none := den_g l_0_1707 rfl
theorem l_0_1708 : look (tab 0) 1708 = some (.invokevirtual 223, 3, [5, 125, 1, 1197, 1198, 1199, 2], uu) := by decide +kernel
theorem e_0_1708 : den cf 0 1708 L (.ref a :: st) M = if rcv M 5 [.ref a] = true ∧ st.length ≤ 4 then rK (cf 125 [.ref a] M) (fun v M' => den cf 0 1711 L (pR v st) M') else none := den_iv [] l_0_1708 rfl
theorem l_0_1711 : look (tab 0) 1711 = some (.aload_n 2, 1, [], uu) := by decide +kernel
theorem e_0_1711 : den cf 0 1711 [v0, v1, v2, v3] st M = if isRf v2 = true then den cf 0 1712 [v0, v1, v2, v3] (v2 :: st) M else none := den_g l_0_1711 rfl
theorem l_0_1712 : look (tab 0) 1712 = some (.invokevirtual 226, 3, [6, 239, 1, 1201, 1202, 1203, 5], uu) := by decide +kernel
theorem e_0_1712 : den cf 0 1712 L (.ref a :: st) M = if rcv M 6 [.ref a] = true ∧ st.length ≤ 4 then rK (cf 239 [.ref a] M) (fun v M' => den cf 0 1715 L (pR v st) M') else none := den_iv [] l_0_1712 rfl
theorem l_0_1715 : look (tab 0) 1715 = some (.if_icmp .eq 41, 3, [1756], uu) := by decide +kernel
theorem e_0_1715 : den cf 0 1715 L (.int y :: .int x :: st) M = if x = y then den cf 0 1756 L st M else den cf 0 1718 L st M := den_ic_eq l_0_1715
theorem l_0_1718 : look (tab 0) 1718 = some (.iconst 0, 1, [], .int (zI 0)) := by decide +kernel
theorem e_0_1718 : den cf 0 1718 L st M = den cf 0 1719 L (.int (zI 0) :: st) M := den_go l_0_1718 rfl
theorem l_0_1719 : look (tab 0) 1719 = some (.ireturn, 1, [1], uu) := by decide +kernel
theorem e_0_1719 : den cf 0 1719 L [.int x] M = if x = zI 0 ∨ x = zI 1 then some (some (.int x), M) else none := den_e1 l_0_1719
theorem l_0_1720 : look (tab 0) 1720 = some (.aload_n 1, 1, [], uu) := by decide +kernel
theorem e_0_1720 : den cf 0 1720 [v0, v1, v2, v3] st M = if isRf v1 = true then den cf 0 1721 [v0, v1, v2, v3] (v1 :: st) M else none := den_g l_0_1720 rfl
theorem l_0_1721 : look (tab 0) 1721 = some (.invokevirtual 227, 3, [5, 126, 1, 1206, 1207, 1208, 2], uu) := by decide +kernel
theorem e_0_1721 : den cf 0 1721 L (.ref a :: st) M = if rcv M 5 [.ref a] = true ∧ st.length ≤ 4 then rK (cf 126 [.ref a] M) (fun v M' => den cf 0 1724 L (pR v st) M') else none := den_iv [] l_0_1721 rfl
theorem l_0_1724 : look (tab 0) 1724 = some (.aload_n 2, 1, [], uu) := by decide +kernel
theorem e_0_1724 : den cf 0 1724 [v0, v1, v2, v3] st M = if isRf v2 = true then den cf 0 1725 [v0, v1, v2, v3] (v2 :: st) M else none := den_g l_0_1724 rfl
theorem l_0_1725 : look (tab 0) 1725 = some (.invokevirtual 230, 3, [6, 240, 1, 1210, 1211, 1212, 5], uu) := by decide +kernel
theorem e_0_1725 : den cf 0 1725 L (.ref a :: st) M = if rcv M 6 [.ref a] = true ∧ st.length ≤ 4 then rK (cf 240 [.ref a] M) (fun v M' => den cf 0 1728 L (pR v st) M') else none := den_iv [] l_0_1725 rfl
theorem l_0_1728 : look (tab 0) 1728 = some (.if_icmp .eq 28, 3, [1756], uu) := by decide +kernel
theorem e_0_1728 : den cf 0 1728 L (.int y :: .int x :: st) M = if x = y then den cf 0 1756 L st M else den cf 0 1731 L st M := den_ic_eq l_0_1728
theorem l_0_1731 : look (tab 0) 1731 = some (.iconst 0, 1, [], .int (zI 0)) := by decide +kernel
theorem e_0_1731 : den cf 0 1731 L st M = den cf 0 1732 L (.int (zI 0) :: st) M := den_go l_0_1731 rfl
theorem l_0_1732 : look (tab 0) 1732 = some (.ireturn, 1, [1], uu) := by decide +kernel
theorem e_0_1732 : den cf 0 1732 L [.int x] M = if x = zI 0 ∨ x = zI 1 then some (some (.int x), M) else none := den_e1 l_0_1732
theorem l_0_1733 : look (tab 0) 1733 = some (.aload_n 1, 1, [], uu) := by decide +kernel
theorem e_0_1733 : den cf 0 1733 [v0, v1, v2, v3] st M = if isRf v1 = true then den cf 0 1734 [v0, v1, v2, v3] (v1 :: st) M else none := den_g l_0_1733 rfl
theorem l_0_1734 : look (tab 0) 1734 = some (.aload_n 0, 1, [], uu) := by decide +kernel
theorem e_0_1734 : den cf 0 1734 [v0, v1, v2, v3] st M = if isRf v0 = true then den cf 0 1735 [v0, v1, v2, v3] (v0 :: st) M else none := den_g l_0_1734 rfl
theorem l_0_1735 : look (tab 0) 1735 = some (.iload_n 3, 1, [], uu) := by decide +kernel
theorem e_0_1735 : den cf 0 1735 [v0, v1, v2, .int x] st M = den cf 0 1736 [v0, v1, v2, .int x] (.int x :: st) M := den_go l_0_1735 rfl
theorem l_0_1736 : look (tab 0) 1736 = some (.iconst 1, 1, [], .int (zI 1)) := by decide +kernel
theorem e_0_1736 : den cf 0 1736 L st M = den cf 0 1737 L (.int (zI 1) :: st) M := den_go l_0_1736 rfl
theorem l_0_1737 : look (tab 0) 1737 = some (.iadd, 1, [], uu) := by decide +kernel
theorem e_0_1737 : den cf 0 1737 L (.int y :: .int x :: st) M = den cf 0 1738 L (.int (x + y) :: st) M := den_go l_0_1737 rfl
theorem l_0_1738 : look (tab 0) 1738 = some (.iaload, 1, [], uu) := by decide +kernel
theorem e_0_1738 : den cf 0 1738 L (.int x :: .ref a :: st) M = oK (ldI (M.2.2 a) x) (fun v => den cf 0 1739 L (v :: st) M) := den_al (g := ldI) l_0_1738 rfl
theorem l_0_1739 : look (tab 0) 1739 = some (.invokevirtual 231, 3, [5, 127, 2, 1214, 1215, 1216, 2], uu) := by decide +kernel
theorem e_0_1739 : den cf 0 1739 L (w1 :: .ref a :: st) M = if rcv M 5 [.ref a, w1] = true ∧ st.length ≤ 4 then rK (cf 127 [.ref a, w1] M) (fun v M' => den cf 0 1742 L (pR v st) M') else none := den_iv [w1] l_0_1739 rfl
theorem l_0_1742 : look (tab 0) 1742 = some (.aload_n 2, 1, [], uu) := by decide +kernel
theorem e_0_1742 : den cf 0 1742 [v0, v1, v2, v3] st M = if isRf v2 = true then den cf 0 1743 [v0, v1, v2, v3] (v2 :: st) M else none := den_g l_0_1742 rfl
theorem l_0_1743 : look (tab 0) 1743 = some (.aload_n 0, 1, [], uu) := by decide +kernel
theorem e_0_1743 : den cf 0 1743 [v0, v1, v2, v3] st M = if isRf v0 = true then den cf 0 1744 [v0, v1, v2, v3] (v0 :: st) M else none := den_g l_0_1743 rfl
theorem l_0_1744 : look (tab 0) 1744 = some (.iload_n 3, 1, [], uu) := by decide +kernel
theorem e_0_1744 : den cf 0 1744 [v0, v1, v2, .int x] st M = den cf 0 1745 [v0, v1, v2, .int x] (.int x :: st) M := den_go l_0_1744 rfl
theorem l_0_1745 : look (tab 0) 1745 = some (.iconst 1, 1, [], .int (zI 1)) := by decide +kernel
theorem e_0_1745 : den cf 0 1745 L st M = den cf 0 1746 L (.int (zI 1) :: st) M := den_go l_0_1745 rfl
theorem l_0_1746 : look (tab 0) 1746 = some (.iadd, 1, [], uu) := by decide +kernel
theorem e_0_1746 : den cf 0 1746 L (.int y :: .int x :: st) M = den cf 0 1747 L (.int (x + y) :: st) M := den_go l_0_1746 rfl
theorem l_0_1747 : look (tab 0) 1747 = some (.iaload, 1, [], uu) := by decide +kernel
theorem e_0_1747 : den cf 0 1747 L (.int x :: .ref a :: st) M = oK (ldI (M.2.2 a) x) (fun v => den cf 0 1748 L (v :: st) M) := den_al (g := ldI) l_0_1747 rfl
theorem l_0_1748 : look (tab 0) 1748 = some (.invokevirtual 234, 3, [6, 241, 2, 1223, 1224, 1225, 5], uu) := by decide +kernel
theorem e_0_1748 : den cf 0 1748 L (w1 :: .ref a :: st) M = if rcv M 6 [.ref a, w1] = true ∧ st.length ≤ 4 then rK (cf 241 [.ref a, w1] M) (fun v M' => den cf 0 1751 L (pR v st) M') else none := den_iv [w1] l_0_1748 rfl
theorem l_0_1751 : look (tab 0) 1751 = some (.if_icmp .eq 5, 3, [1756], uu) := by decide +kernel
theorem e_0_1751 : den cf 0 1751 L (.int y :: .int x :: st) M = if x = y then den cf 0 1756 L st M else den cf 0 1754 L st M := den_ic_eq l_0_1751
theorem l_0_1754 : look (tab 0) 1754 = some (.iconst 0, 1, [], .int (zI 0)) := by decide +kernel
theorem e_0_1754 : den cf 0 1754 L st M = den cf 0 1755 L (.int (zI 0) :: st) M := den_go l_0_1754 rfl
theorem l_0_1755 : look (tab 0) 1755 = some (.ireturn, 1, [1], uu) := by decide +kernel
theorem e_0_1755 : den cf 0 1755 L [.int x] M = if x = zI 0 ∨ x = zI 1 then some (some (.int x), M) else none := den_e1 l_0_1755
theorem l_0_1756 : look (tab 0) 1756 = some (.iinc 3 6, 3, [], .int (zI 6)) := by decide +kernel
theorem e_0_1756 : den cf 0 1756 [v0, v1, v2, .int x] st M = den cf 0 1759 [v0, v1, kq v2, .int (x + (zI 6))] st M := den_st (k := 3) (v := .int (x + (zI 6))) l_0_1756 rfl
theorem l_0_1759 : look (tab 0) 1759 = some (.goto (-1741), 3, [18], uu) := by decide +kernel
theorem e_0_1759 : den cf 0 1759 L st M = den cf 0 18 L st M := den_go l_0_1759 rfl
theorem l_0_1762 : look (tab 0) 1762 = some (.iconst 1, 1, [], .int (zI 1)) := by decide +kernel
theorem e_0_1762 : den cf 0 1762 L st M = den cf 0 1763 L (.int (zI 1) :: st) M := den_go l_0_1762 rfl
theorem l_0_1763 : look (tab 0) 1763 = some (.ireturn, 1, [1], uu) := by decide +kernel
theorem e_0_1763 : den cf 0 1763 L [.int x] M = if x = zI 0 ∨ x = zI 1 then some (some (.int x), M) else none := den_e1 l_0_1763
