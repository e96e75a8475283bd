section LAW2
variable {L : Nat} {A : Nat → Int} {st : Stt}
def tgL : List Nat := [260, 303, 376, 439, 473, 496, 529, 562, 605, 664, 697, 720, 753, 776, 789, 802, 835, 868, 901, 924, 957, 990, 1023, 1046, 1059, 1082, 1105, 1118, 1131, 1144, 1177, 1190, 1213, 1236, 1269, 1292, 1315, 1358, 1381, 1424, 1457, 1470, 1483, 1496, 1539, 1572, 1615, 1648, 1671, 1684, 1707, 1720, 1733]
theorem law_sw {i : Nat} : ∀ (n : Nat), n ≤ 52 → LQ L A st → L ≤ 3072 → (i : Int) + 6 ≤ L → (∀ j, i32 (A j)) → ∃ st', oK tgL[n]? (fun t => den (callD 30) 0 t [.ref 1000000, .ref 0, .ref 68, .int (zI i)] [] (HP st)) = den (callD 30) 0 1756 [.ref 1000000, .ref 0, .ref 68, .int (zI i)] [] (HP st') ∧ LQ L A st'
  | 0, _, h, hL, hi, hA => w_0 h hL hi hA
  | 1, _, h, hL, hi, hA => w_1 h hL hi hA
  | 2, _, h, hL, hi, hA => w_2 h hL hi hA
  | 3, _, h, hL, hi, hA => w_3 h hL hi hA
  | 4, _, h, hL, hi, hA => w_4 h hL hi hA
  | 5, _, h, hL, hi, hA => w_5 h hL hi hA
  | 6, _, h, hL, hi, hA => w_6 h hL hi hA
  | 7, _, h, hL, hi, hA => w_7 h hL hi hA
  | 8, _, h, hL, hi, hA => w_8 h hL hi hA
  | 9, _, h, hL, hi, hA => w_9 h hL hi hA
  | 10, _, h, hL, hi, hA => w_10 h hL hi hA
  | 11, _, h, hL, hi, hA => w_11 h hL hi hA
  | 12, _, h, hL, hi, hA => w_12 h hL hi hA
  | 13, _, h, hL, hi, hA => w_13 h hL hi hA
  | 14, _, h, hL, hi, hA => w_14 h hL hi hA
  | 15, _, h, hL, hi, hA => w_15 h hL hi hA
  | 16, _, h, hL, hi, hA => w_16 h hL hi hA
  | 17, _, h, hL, hi, hA => w_17 h hL hi hA
  | 18, _, h, hL, hi, hA => w_18 h hL hi hA
  | 19, _, h, hL, hi, hA => w_19 h hL hi hA
  | 20, _, h, hL, hi, hA => w_20 h hL hi hA
  | 21, _, h, hL, hi, hA => w_21 h hL hi hA
  | 22, _, h, hL, hi, hA => w_22 h hL hi hA
  | 23, _, h, hL, hi, hA => w_23 h hL hi hA
  | 24, _, h, hL, hi, hA => w_24 h hL hi hA
  | 25, _, h, hL, hi, hA => w_25 h hL hi hA
  | 26, _, h, hL, hi, hA => w_26 h hL hi hA
  | 27, _, h, hL, hi, hA => w_27 h hL hi hA
  | 28, _, h, hL, hi, hA => w_28 h hL hi hA
  | 29, _, h, hL, hi, hA => w_29 h hL hi hA
  | 30, _, h, hL, hi, hA => w_30 h hL hi hA
  | 31, _, h, hL, hi, hA => w_31 h hL hi hA
  | 32, _, h, hL, hi, hA => w_32 h hL hi hA
  | 33, _, h, hL, hi, hA => w_33 h hL hi hA
  | 34, _, h, hL, hi, hA => w_34 h hL hi hA
  | 35, _, h, hL, hi, hA => w_35 h hL hi hA
  | 36, _, h, hL, hi, hA => w_36 h hL hi hA
  | 37, _, h, hL, hi, hA => w_37 h hL hi hA
  | 38, _, h, hL, hi, hA => w_38 h hL hi hA
  | 39, _, h, hL, hi, hA => w_39 h hL hi hA
  | 40, _, h, hL, hi, hA => w_40 h hL hi hA
  | 41, _, h, hL, hi, hA => w_41 h hL hi hA
  | 42, _, h, hL, hi, hA => w_42 h hL hi hA
  | 43, _, h, hL, hi, hA => w_43 h hL hi hA
  | 44, _, h, hL, hi, hA => w_44 h hL hi hA
  | 45, _, h, hL, hi, hA => w_45 h hL hi hA
  | 46, _, h, hL, hi, hA => w_46 h hL hi hA
  | 47, _, h, hL, hi, hA => w_47 h hL hi hA
  | 48, _, h, hL, hi, hA => w_48 h hL hi hA
  | 49, _, h, hL, hi, hA => w_49 h hL hi hA
  | 50, _, h, hL, hi, hA => w_50 h hL hi hA
  | 51, _, h, hL, hi, hA => w_51 h hL hi hA
  | 52, _, h, hL, hi, hA => w_52 h hL hi hA
  | n + 53, hn, _, _, _, _ => absurd hn (by omega)
theorem law_33 {i : Nat} {x : Int32} (h : LQ L A st) (hL : L ≤ 3072) (hi : (i : Int) + 6 ≤ L) (hA : ∀ j, i32 (A j)) : ∃ st', den (callD 30) 0 33 [.ref 1000000, .ref 0, .ref 68, .int (zI i)] [.int x] (HP st) = den (callD 30) 0 1756 [.ref 1000000, .ref 0, .ref 68, .int (zI i)] [] (HP st') ∧ LQ L A st' := by
  by_cases hx : x.toInt < 0 ∨ 52 < x.toInt
  · refine ⟨st, ?_, h⟩
    rw [e_0_33, if_pos hx]
  · obtain ⟨st', h1, h2⟩ := law_sw (x.toInt - 0).toNat (by omega) h hL hi hA
    refine ⟨st', ?_, h2⟩
    rw [e_0_33, if_neg hx]
    exact h1
theorem lenA_7 : lenA (scr L A) = some L := rfl
theorem law_loop (hL : L ≤ 3072) (hA : ∀ j, i32 (A j)) : ∀ (n i : Nat) (st : Stt), LQ L A st → L ≤ i + n → i ≤ 4000 → ∃ M', den (callD 30) 0 18 [.ref 1000000, .ref 0, .ref 68, .int (zI i)] [] (HP st) = some (some (.int (zI 1)), M') ∧ M'.1 ≤ 158 ∧ M'.2.1 ≤ 300000 := by
  intro n
  induction n with
  | zero =>
    intro i st h hn hi
    have hs := h.2
    have hb := HP_n h.1
    have hx : (L : Int) - 6 < i := by omega
    refine ⟨HP st, ?_, hb.2.1, hb.2.2⟩
    rw [e_0_18]
    simp (disch := omega) only [e_0_19, e_0_20, e_0_21, e_0_23, e_0_24, e_0_1762, e_0_1763, gfA_i, pfA_i, List.getElem?_cons_zero, List.getElem?_cons_succ, oK_some, rK_some, pR_some, pR_none, kq_i, kq_r, kq_n, kq_u, kq_o, kq_l, isRf_r, isRf_n, isRf_o, okv_r, okv_n, okv_o, is2_r, is2_o, is2_n, rcv_r, isC_i, if_true, if_pos, zI_add, zI_sub, zI_mul, nc_12, nc_8, nc_6, nc_40, nc_250, nc_3, len4_0, len4_1, len4_2, len4_3, len4_4, and_self, and_true, true_and, lenA_i, va_rf_s, va_rf_n, oN_none, oN_some, zI_lt, zI_eq, nat_tn, Int.lt_irrefl, Int.reduceEq, Int.reduceNe, Int.reduceLT, Int.reduceLE, Int.reduceSub, Int.reduceAdd, Int.reduceMul, Int.reduceDiv, Int.reduceNeg, Int.reduceToNat, or_self, or_false, false_or, if_false, if_true, not_true_eq_false, not_false_eq_true, or_true, true_or, and_false, false_and, Int.add_zero, ldI_7, eq_self, rcv_c, isRf_r, Nat.zero_le, Nat.reduceLeDiff, List.length_cons, List.length_nil, Nat.reduceAdd, hs, lenA_7, hx]
  | succ n ih =>
    intro i st h hn hi
    have hs := h.2
    have hb := HP_n h.1
    by_cases hx : (L : Int) - 6 < i
    · refine ⟨HP st, ?_, hb.2.1, hb.2.2⟩
      rw [e_0_18]
      simp (disch := omega) only [e_0_19, e_0_20, e_0_21, e_0_23, e_0_24, e_0_1762, e_0_1763, gfA_i, pfA_i, List.getElem?_cons_zero, List.getElem?_cons_succ, oK_some, rK_some, pR_some, pR_none, kq_i, kq_r, kq_n, kq_u, kq_o, kq_l, isRf_r, isRf_n, isRf_o, okv_r, okv_n, okv_o, is2_r, is2_o, is2_n, rcv_r, isC_i, if_true, if_pos, zI_add, zI_sub, zI_mul, nc_12, nc_8, nc_6, nc_40, nc_250, nc_3, len4_0, len4_1, len4_2, len4_3, len4_4, and_self, and_true, true_and, lenA_i, va_rf_s, va_rf_n, oN_none, oN_some, zI_lt, zI_eq, nat_tn, Int.lt_irrefl, Int.reduceEq, Int.reduceNe, Int.reduceLT, Int.reduceLE, Int.reduceSub, Int.reduceAdd, Int.reduceMul, Int.reduceDiv, Int.reduceNeg, Int.reduceToNat, or_self, or_false, false_or, if_false, if_true, not_true_eq_false, not_false_eq_true, or_true, true_or, and_false, false_and, Int.add_zero, ldI_7, eq_self, rcv_c, isRf_r, Nat.zero_le, Nat.reduceLeDiff, List.length_cons, List.length_nil, Nat.reduceAdd, hs, lenA_7, hx]
    · obtain ⟨st', h1, h2⟩ := law_33 (i := i) (x := zI (A i) &&& zI 63) h hL (by omega) hA
      obtain ⟨M', h3, h4⟩ := ih (i + 6) st' h2 (by omega) (by omega)
      refine ⟨M', ?_, h4⟩
      rw [← h3, e_0_18]
      simp (disch := omega) only [e_0_19, e_0_20, e_0_21, e_0_23, e_0_24, e_0_27, e_0_28, e_0_29, e_0_30, e_0_32, gfA_i, pfA_i, List.getElem?_cons_zero, List.getElem?_cons_succ, oK_some, rK_some, pR_some, pR_none, kq_i, kq_r, kq_n, kq_u, kq_o, kq_l, isRf_r, isRf_n, isRf_o, okv_r, okv_n, okv_o, is2_r, is2_o, is2_n, rcv_r, isC_i, if_true, if_pos, zI_add, zI_sub, zI_mul, nc_12, nc_8, nc_6, nc_40, nc_250, nc_3, len4_0, len4_1, len4_2, len4_3, len4_4, and_self, and_true, true_and, lenA_i, va_rf_s, va_rf_n, oN_none, oN_some, zI_lt, zI_eq, nat_tn, Int.lt_irrefl, Int.reduceEq, Int.reduceNe, Int.reduceLT, Int.reduceLE, Int.reduceSub, Int.reduceAdd, Int.reduceMul, Int.reduceDiv, Int.reduceNeg, Int.reduceToNat, or_self, or_false, false_or, if_false, if_true, not_true_eq_false, not_false_eq_true, or_true, true_or, and_false, false_and, Int.add_zero, ldI_7, eq_self, rcv_c, isRf_r, Nat.zero_le, Nat.reduceLeDiff, List.length_cons, List.length_nil, Nat.reduceAdd, hs, lenA_7, hx, h1, e_0_1756, e_0_1759]
      rfl
end LAW2
