theorem W6_cap {k c t s a len fri : Int} (hk : 0 ≤ k ∧ k ≤ 5) (hc : 0 ≤ c ∧ c ≤ 8) (ht : 0 ≤ t ∧ t ≤ 9) (ha : 0 ≤ a ∧ a ≤ 9) (hl : 0 ≤ len ∧ len ≤ 99) (hs : 99 ≤ s) : W6 k c t s a len fri = W6 k c t 99 a len fri := by
  unfold W6
  dsimp only
  have : k = 0 ∨ k = 1 ∨ k = 2 ∨ k = 3 ∨ k = 4 ∨ k = 5 := by omega
  rcases this with rfl | rfl | rfl | rfl | rfl | rfl <;> simp only [Int.reduceEq, if_true, if_false]
  · by_cases hf : fri = 1
    · rw [if_pos hf, if_pos hf, if_pos (by omega), if_pos (by omega)]
    · rw [if_neg hf, if_neg hf, if_pos (by omega), if_pos (by omega)]
  · by_cases hf : fri = 1
    · rw [if_pos hf, if_pos hf, if_pos (by omega), if_pos (by omega)]
    · rw [if_neg hf, if_neg hf, if_pos (by omega), if_pos (by omega)]
  · by_cases hf : fri = 1
    · rw [if_pos hf, if_pos hf, if_pos (by omega), if_pos (by omega)]
    · rw [if_neg hf, if_neg hf, if_pos (by omega), if_pos (by omega)]
  · by_cases hf : fri = 1
    · rw [if_pos hf, if_pos hf, if_pos (by omega), if_pos (by omega)]
    · rw [if_neg hf, if_neg hf, if_pos (by omega), if_pos (by omega)]
  · rw [if_neg (show ¬ s < a by omega), if_neg (show ¬ 99 < a by omega)]
  · by_cases hf : fri = 1
    · rw [if_pos hf, if_pos hf, if_pos (by omega), if_pos (by omega)]
    · rw [if_neg hf, if_neg hf, if_pos (by omega), if_pos (by omega)]
/-- one more silent, n weeks long -/
def siN (S : Sc) (k n : Nat) : Sc := sU S 6 k (if S 6 k + n < 99 then S 6 k + n else 99)
theorem siN_0 {S : Sc} {k : Nat} (h : S 6 k ≤ 99) : siN S k 0 = S := by
  funext g j
  unfold siN sU
  by_cases e : g = 6 ∧ j = k
  · rw [if_pos e, e.1, e.2]; split <;> omega
  · rw [if_neg e]
theorem siN_s {S : Sc} {k n : Nat} : siS (siN S k n) k = siN S k (n + 1) := by
  funext g j
  unfold siN siS sU
  by_cases e : g = 6
  · subst e
    by_cases e2 : j = k
    · subst e2
      simp only [and_self, if_true]
      (repeat' split) <;> omega
    · simp [e2]
  · simp [e]
theorem siN_back {S : Sc} {k n : Nat} : sU (siN S k n) 6 k (S 6 k) = S := by
  funext g j
  unfold siN sU
  by_cases e : g = 6 ∧ j = k
  · rw [if_pos e, e.1, e.2]
  · rw [if_neg e, if_neg e]
theorem siN_a (S : Sc) (k n f i : Nat) (h : ¬ f = 6) : siN S k n f i = S f i := if_neg (fun q => h q.1)
theorem wl_siN {S : Sc} {k n : Nat} (hB : Bd S) : wl (siN S k n) k = wlS S k (S 6 k + n) := by
  have hcm := cm_b S k (fr S k)
  have h82 := hB.2.1
  obtain ⟨h0, h1, -, -, -, -, h6, h7⟩ := hB.f k
  have e6 : siN S k n 6 k = (if S 6 k + n < 99 then S 6 k + n else 99) := if_pos ⟨rfl, rfl⟩
  show W6 (S 0 k) (cm S k (fr S k)) (S 8 2) (siN S k n 6 k) (S 1 k) (S 7 k) (S 8 3) = W6 (S 0 k) (cm S k (fr S k)) (S 8 2) (S 6 k + n) (S 1 k) (S 7 k) (S 8 3)
  rw [e6]
  split
  · rfl
  · exact (W6_cap h0 hcm h82 h1 h7 (by omega)).symm
theorem Bd_siN {S : Sc} {k n : Nat} (hB : Bd S) : Bd (siN S k n) := by
  refine ⟨hB.1, hB.2.1, hB.2.2.1, fun i => ?_⟩
  obtain ⟨h0, h1, h2, h3, h4, h5, h6, h7⟩ := hB.f i
  have h6k := (hB.f k).2.2.2.2.2.2.1
  refine ⟨h0, h1, h2, h3, h4, h5, ?_, h7⟩
  unfold siN sU
  split
  · split <;> omega
  · exact h6
section G3
variable {M : AM} {o : Nat} {S S' : Sc} {U U' : Nat → Int} {kt kt' : Option Nat × Option Nat} {F F' : Nat → Nat → Int32} {E E' : Nat → Nat → Int64} {mv mv' : Nat → Int64}
theorem r_stillOf {d i n : Nat} (hI : In S) (h : prd S i) (hn : n ≤ 12) : callD (d + 4) 187 [.ref o, .int (zI i), .int (zI n)] (G M o S U kt F E mv) = some (some (.int (zI (stl S i n))), (G M o S U kt F E mv)) := by
  obtain ⟨-, -, -, -, hi⟩ := prd_fr hI h
  obtain ⟨hd1, hd2, -, -⟩ := prd_dbt hI h
  have h6 := (hI.f (dbt S i)).2.2.2.2.2.2.1
  have hl := hI.2.1
  have hB := hI.bd
  rw [c_187]
  simp (disch := omega) only [e_187_0, e_187_1, e_187_2, e_187_5, e_187_6, e_187_7, e_187_10, e_187_11, e_187_12, e_187_14, e_187_17, e_187_19, e_187_20, gfA_i, pfA_i, List.getElem?_cons_zero, List.getElem?_cons_succ, oK_some, rK_some, pR_some, pR_none, kq_i, kq_r, kq_n, kq_u, kq_o, kq_l, isRf_r, isRf_n, isRf_o, okv_r, okv_n, okv_o, is2_r, is2_o, is2_n, rcv_r, isC_i, if_true, if_pos, zI_add, zI_sub, zI_mul, nc_12, nc_8, nc_6, nc_40, nc_250, nc_3, nc_s, len4_0, len4_1, len4_2, len4_3, len4_4, and_self, and_true, true_and, lenA_i, va_rf_s, va_rf_n, oN_none, oN_some, zI_lt, zI_eq, nat_tn, nc_s, Int.lt_irrefl, Int.reduceEq, Int.reduceNe, Int.reduceLT, Int.reduceLE, Int.reduceSub, Int.reduceAdd, Int.reduceMul, Int.reduceDiv, Int.reduceNeg, Int.reduceToNat, or_self, or_false, false_or, if_false, if_true, not_true_eq_false, not_false_eq_true, or_true, true_or, and_false, false_and, ldI_0, stI_0, isC_mcl, Int.add_zero, zJ_eq, Nat.reduceAdd, Nat.reduceLT, G_o, G_1, G_2, G_3, G_4, G_13, G_14, G_15, G_16, G_17, G_18, G_19, G_20, G_21, G_22, G_23, G_24, G_25, G_26, G_27, G_28, G_29, gm_0, gm_1, gm_2, gm_3, gm_4, gm_5, gm_6, gm_7, gm_8, gm_9, gm_10, gm_11, gm_12, gm_13, gm_14, gm_15, gm_16, gm_17, gm_18, gm_19, gm_20, gm_21, gm_22, gm_23, gm_24, gm_25, gm_26, gm_27, gm_28, gm_29, gm_30, gm_31, gm_32, gm_33, gm_34, gm_35, pm_7, pm_23, pm_24, pm_25, pm_26, pm_27, pm_29, pm_31, pm_34, pm_35, pm_9, pm_19, pm_20, pm_21, pm_22, mG_U, mG_8, mG_25, mG_1, mG_2, mG_3, mG_13, mG_14, mG_15, mG_16, mG_26, mG_27, mG_28, mG_29, mG_17, mG_18, mG_19, mG_20, mG_21, mG_22, mG_23, mG_24, r_debtor (M := M) (o := o) (U := U) (kt := kt) (F := F) (E := E) (mv := mv) (d := d + 2) hI.bd hi h, kq_l]
  have hst : den (callD (d + 3)) 187 22 [.ref o, .int (zI i), .int (zI n), .int (zI ((dbt S i : Nat) : Int)), .int (zI (S 6 (dbt S i))), .long (zJ 1000000), uu, .int (zI 0)] [] (G M o S U kt F E mv) = den (callD (d + 3)) 187 22 [.ref o, .int (zI i), .int (zI n), .int (zI ((dbt S i : Nat) : Int)), .int (zI (S 6 (dbt S i))), .long (zJ 1000000), uu, .int (zI ((0 : Nat) : Int))] [] (G M o ((siN S (dbt S i) 0)) U kt F E mv) := by
    rw [siN_0 h6.2]; rfl
  rw [hst]
  have hlo := loopI (fun j (a : Int) => den (callD (d + 3)) 187 22 [.ref o, .int (zI i), .int (zI n), .int (zI ((dbt S i : Nat) : Int)), .int (zI (S 6 (dbt S i))), .long (zJ a), uu, .int (zI j)] [] (G M o ((siN S (dbt S i) j)) U kt F E mv)) (fun j a => stF S (dbt S i) j a) (fun _ a => 0 ≤ a ∧ a ≤ 1000000) n (fun j a hj ha => by
    obtain ⟨b1, b2, b3⟩ := stF_b hI (dbt S i) j ha.1 ha.2
    have hw := wlS_b S (dbt S i) (S 6 (dbt S i) + j)
    try dsimp only at ha ⊢
    refine ⟨?_, b3⟩
    conv => lhs; rw [e_187_22]
    have hwl := r_wl (M := M) (o := o) (U := U) (kt := kt) (F := F) (E := E) (mv := mv) (d := d) (S := siN S (dbt S i) j) (Bd_siN hB) hd2 hd1.2
    rw [wl_siN hB, siN_a _ _ _ 0 _ (by omega)] at hwl
    have hsi := r_isSilent (M := M) (o := o) (U := U) (kt := kt) (F := F) (E := E) (mv := mv) (d := d + 2) (S := siN S (dbt S i) j) (Bd_siN hB) hd2
    rw [siN_s] at hsi
    unfold stF
    simp (disch := omega) only [e_187_24, e_187_25, e_187_28, e_187_30, e_187_33, e_187_34, e_187_35, e_187_36, e_187_39, e_187_40, e_187_41, e_187_44, e_187_46, e_187_47, e_187_50, e_187_51, e_187_52, e_187_53, e_187_54, e_187_55, e_187_56, e_187_57, e_187_60, e_187_61, e_187_63, e_187_64, e_187_65, e_187_68, e_187_71, gfA_i, pfA_i, List.getElem?_cons_zero, List.getElem?_cons_succ, oK_some, rK_some, pR_some, pR_none, kq_i, kq_r, kq_n, kq_u, kq_o, kq_l, isRf_r, isRf_n, isRf_o, okv_r, okv_n, okv_o, is2_r, is2_o, is2_n, rcv_r, isC_i, if_true, if_pos, zI_add, zI_sub, zI_mul, nc_12, nc_8, nc_6, nc_40, nc_250, nc_3, nc_s, len4_0, len4_1, len4_2, len4_3, len4_4, and_self, and_true, true_and, lenA_i, va_rf_s, va_rf_n, oN_none, oN_some, zI_lt, zI_eq, nat_tn, nc_s, Int.lt_irrefl, Int.reduceEq, Int.reduceNe, Int.reduceLT, Int.reduceLE, Int.reduceSub, Int.reduceAdd, Int.reduceMul, Int.reduceDiv, Int.reduceNeg, Int.reduceToNat, or_self, or_false, false_or, if_false, if_true, not_true_eq_false, not_false_eq_true, or_true, true_or, and_false, false_and, ldI_0, stI_0, isC_mcl, Int.add_zero, zJ_eq, Nat.reduceAdd, Nat.reduceLT, G_o, G_1, G_2, G_3, G_4, G_13, G_14, G_15, G_16, G_17, G_18, G_19, G_20, G_21, G_22, G_23, G_24, G_25, G_26, G_27, G_28, G_29, gm_0, gm_1, gm_2, gm_3, gm_4, gm_5, gm_6, gm_7, gm_8, gm_9, gm_10, gm_11, gm_12, gm_13, gm_14, gm_15, gm_16, gm_17, gm_18, gm_19, gm_20, gm_21, gm_22, gm_23, gm_24, gm_25, gm_26, gm_27, gm_28, gm_29, gm_30, gm_31, gm_32, gm_33, gm_34, gm_35, pm_7, pm_23, pm_24, pm_25, pm_26, pm_27, pm_29, pm_31, pm_34, pm_35, pm_9, pm_19, pm_20, pm_21, pm_22, mG_U, mG_8, mG_25, mG_1, mG_2, mG_3, mG_13, mG_14, mG_15, mG_16, mG_26, mG_27, mG_28, mG_29, mG_17, mG_18, mG_19, mG_20, mG_21, mG_22, mG_23, mG_24, siN_a, hwl, hsi, i2J, zJ_mul, zJ_div, kq_l, Nat.reduceAdd, Nat.reduceLT]) n 0 1000000 (by omega) ⟨by omega, by omega⟩
  refine hlo.1.trans ?_
  have hb := hlo.2
  try dsimp only
  rw [e_187_22]
  simp (disch := omega) only [e_187_24, e_187_25, e_187_28, e_187_30, e_187_33, e_187_34, e_187_35, e_187_36, e_187_39, e_187_40, e_187_41, e_187_44, e_187_46, e_187_47, e_187_50, e_187_51, e_187_52, e_187_53, e_187_54, e_187_55, e_187_56, e_187_57, e_187_60, e_187_61, e_187_63, e_187_64, e_187_65, e_187_68, e_187_71, e_187_74, e_187_75, e_187_78, e_187_79, e_187_81, e_187_82, e_187_85, e_187_87, e_187_88, e_187_89, gfA_i, pfA_i, List.getElem?_cons_zero, List.getElem?_cons_succ, oK_some, rK_some, pR_some, pR_none, kq_i, kq_r, kq_n, kq_u, kq_o, kq_l, isRf_r, isRf_n, isRf_o, okv_r, okv_n, okv_o, is2_r, is2_o, is2_n, rcv_r, isC_i, if_true, if_pos, zI_add, zI_sub, zI_mul, nc_12, nc_8, nc_6, nc_40, nc_250, nc_3, nc_s, len4_0, len4_1, len4_2, len4_3, len4_4, and_self, and_true, true_and, lenA_i, va_rf_s, va_rf_n, oN_none, oN_some, zI_lt, zI_eq, nat_tn, nc_s, Int.lt_irrefl, Int.reduceEq, Int.reduceNe, Int.reduceLT, Int.reduceLE, Int.reduceSub, Int.reduceAdd, Int.reduceMul, Int.reduceDiv, Int.reduceNeg, Int.reduceToNat, or_self, or_false, false_or, if_false, if_true, not_true_eq_false, not_false_eq_true, or_true, true_or, and_false, false_and, ldI_0, stI_0, isC_mcl, Int.add_zero, zJ_eq, Nat.reduceAdd, Nat.reduceLT, G_o, G_1, G_2, G_3, G_4, G_13, G_14, G_15, G_16, G_17, G_18, G_19, G_20, G_21, G_22, G_23, G_24, G_25, G_26, G_27, G_28, G_29, gm_0, gm_1, gm_2, gm_3, gm_4, gm_5, gm_6, gm_7, gm_8, gm_9, gm_10, gm_11, gm_12, gm_13, gm_14, gm_15, gm_16, gm_17, gm_18, gm_19, gm_20, gm_21, gm_22, gm_23, gm_24, gm_25, gm_26, gm_27, gm_28, gm_29, gm_30, gm_31, gm_32, gm_33, gm_34, gm_35, pm_7, pm_23, pm_24, pm_25, pm_26, pm_27, pm_29, pm_31, pm_34, pm_35, pm_9, pm_19, pm_20, pm_21, pm_22, mG_U, mG_8, mG_25, mG_1, mG_2, mG_3, mG_13, mG_14, mG_15, mG_16, mG_26, mG_27, mG_28, mG_29, mG_17, mG_18, mG_19, mG_20, mG_21, mG_22, mG_23, mG_24, zJ_sub, J2i, siN_back]
  rfl
theorem sU_back {S : Sc} {f i : Nat} {v : Int} : sU (sU S f i v) f i (S f i) = S := by
  funext g j
  unfold sU
  by_cases e : g = f ∧ j = i
  · rw [if_pos e, e.1, e.2]
  · rw [if_neg e, if_neg e]
theorem r_stillAll {d : Nat} {f : Int} (hI : In S) (hf : 0 ≤ f ∧ f ≤ 1) : callD (d + 5) 204 [.ref o, .int (zI f)] (G M o S U kt F E mv) = some (some (.int (zI (stTog (sU S 8 3 f) 4))), (G M o S U kt F E mv)) := by
  have hI' : In (sU S 8 3 f) := In_sU hI (by omega)
  obtain ⟨n, hn, hn2⟩ := hI.c
  have hp : stTog (sU S 8 3 f) 4 = fN (fun i a => if ldB S i = 1 then a + stl (sU S 8 3 f) i 4 else a) n 0 0 := fN_12 hn2 (fun i a hi => if_neg (by show ¬ ldB S i = 1; rw [ldB_n (by omega)]; omega)) 0
  rw [c_204, hp]
  have e80 : sU S 8 3 f 8 0 = (n : Int) := hn
  simp (disch := omega) only [e_204_0, e_204_1, e_204_4, e_204_5, e_204_6, e_204_7, e_204_8, e_204_11, e_204_12, e_204_13, e_204_14, e_204_15, e_204_16, e_204_17, gfA_i, pfA_i, List.getElem?_cons_zero, List.getElem?_cons_succ, oK_some, rK_some, pR_some, pR_none, kq_i, kq_r, kq_n, kq_u, kq_o, kq_l, isRf_r, isRf_n, isRf_o, okv_r, okv_n, okv_o, is2_r, is2_o, is2_n, rcv_r, isC_i, if_true, if_pos, zI_add, zI_sub, zI_mul, nc_12, nc_8, nc_6, nc_40, nc_250, nc_3, nc_s, len4_0, len4_1, len4_2, len4_3, len4_4, and_self, and_true, true_and, lenA_i, va_rf_s, va_rf_n, oN_none, oN_some, zI_lt, zI_eq, nat_tn, nc_s, Int.lt_irrefl, Int.reduceEq, Int.reduceNe, Int.reduceLT, Int.reduceLE, Int.reduceSub, Int.reduceAdd, Int.reduceMul, Int.reduceDiv, Int.reduceNeg, Int.reduceToNat, or_self, or_false, false_or, if_false, if_true, not_true_eq_false, not_false_eq_true, or_true, true_or, and_false, false_and, ldI_0, stI_0, isC_mcl, Int.add_zero, zJ_eq, Nat.reduceAdd, Nat.reduceLT, G_o, G_1, G_2, G_3, G_4, G_13, G_14, G_15, G_16, G_17, G_18, G_19, G_20, G_21, G_22, G_23, G_24, G_25, G_26, G_27, G_28, G_29, gm_0, gm_1, gm_2, gm_3, gm_4, gm_5, gm_6, gm_7, gm_8, gm_9, gm_10, gm_11, gm_12, gm_13, gm_14, gm_15, gm_16, gm_17, gm_18, gm_19, gm_20, gm_21, gm_22, gm_23, gm_24, gm_25, gm_26, gm_27, gm_28, gm_29, gm_30, gm_31, gm_32, gm_33, gm_34, gm_35, pm_7, pm_23, pm_24, pm_25, pm_26, pm_27, pm_29, pm_31, pm_34, pm_35, pm_9, pm_19, pm_20, pm_21, pm_22, mG_U, mG_8, mG_25, mG_1, mG_2, mG_3, mG_13, mG_14, mG_15, mG_16, mG_26, mG_27, mG_28, mG_29, mG_17, mG_18, mG_19, mG_20, mG_21, mG_22, mG_23, mG_24]
  refine (loopN (fun i (a : Int) => den (callD (d + 4)) 204 19 [.ref o, .int (zI f), .int (zI (S 8 3)), .int (zI a), .int (zI i)] [] (G M o ((sU S 8 3 f)) U kt F E mv)) (fun i a => if ldB S i = 1 then a + stl (sU S 8 3 f) i 4 else a) n (fun i a hi => ?_) n 0 0 (by omega)).trans ?_
  · try dsimp only
    have hlt : (i : Int) < S 8 0 := by omega
    have hfi := r_first (M := M) (o := o) (U := U) (kt := kt) (F := F) (E := E) (mv := mv) (d := d + 3) hI' hlt
    have el : ldB (sU S 8 3 f) i = ldB S i := rfl
    rw [el] at hfi
    conv => lhs; rw [e_204_19]
    rcases ldB_01 S i with h | h
    · rw [h] at hfi
      simp (disch := omega) only [e_204_21, e_204_22, e_204_25, e_204_28, e_204_29, e_204_30, e_204_32, e_204_35, e_204_38, e_204_39, e_204_41, e_204_42, e_204_45, e_204_48, e_204_49, e_204_50, e_204_51, e_204_54, hfi, h, gfA_i, pfA_i, List.getElem?_cons_zero, List.getElem?_cons_succ, oK_some, rK_some, pR_some, pR_none, kq_i, kq_r, kq_n, kq_u, kq_o, kq_l, isRf_r, isRf_n, isRf_o, okv_r, okv_n, okv_o, is2_r, is2_o, is2_n, rcv_r, isC_i, if_true, if_pos, zI_add, zI_sub, zI_mul, nc_12, nc_8, nc_6, nc_40, nc_250, nc_3, nc_s, len4_0, len4_1, len4_2, len4_3, len4_4, and_self, and_true, true_and, lenA_i, va_rf_s, va_rf_n, oN_none, oN_some, zI_lt, zI_eq, nat_tn, nc_s, Int.lt_irrefl, Int.reduceEq, Int.reduceNe, Int.reduceLT, Int.reduceLE, Int.reduceSub, Int.reduceAdd, Int.reduceMul, Int.reduceDiv, Int.reduceNeg, Int.reduceToNat, or_self, or_false, false_or, if_false, if_true, not_true_eq_false, not_false_eq_true, or_true, true_or, and_false, false_and, ldI_0, stI_0, isC_mcl, Int.add_zero, zJ_eq, Nat.reduceAdd, Nat.reduceLT, G_o, G_1, G_2, G_3, G_4, G_13, G_14, G_15, G_16, G_17, G_18, G_19, G_20, G_21, G_22, G_23, G_24, G_25, G_26, G_27, G_28, G_29, gm_0, gm_1, gm_2, gm_3, gm_4, gm_5, gm_6, gm_7, gm_8, gm_9, gm_10, gm_11, gm_12, gm_13, gm_14, gm_15, gm_16, gm_17, gm_18, gm_19, gm_20, gm_21, gm_22, gm_23, gm_24, gm_25, gm_26, gm_27, gm_28, gm_29, gm_30, gm_31, gm_32, gm_33, gm_34, gm_35, pm_7, pm_23, pm_24, pm_25, pm_26, pm_27, pm_29, pm_31, pm_34, pm_35, pm_9, pm_19, pm_20, pm_21, pm_22, mG_U, mG_8, mG_25, mG_1, mG_2, mG_3, mG_13, mG_14, mG_15, mG_16, mG_26, mG_27, mG_28, mG_29, mG_17, mG_18, mG_19, mG_20, mG_21, mG_22, mG_23, mG_24, e80]
    · rw [h] at hfi
      have hst := r_stillOf (M := M) (o := o) (U := U) (kt := kt) (F := F) (E := E) (mv := mv) (d := d) (n := 4) hI' (ldB_prd (S := S) h : prd (sU S 8 3 f) i) (by omega)
      have e4 : ((4 : Nat) : Int) = 4 := rfl
      rw [e4] at hst
      simp (disch := omega) only [e_204_21, e_204_22, e_204_25, e_204_28, e_204_29, e_204_30, e_204_32, e_204_35, e_204_38, e_204_39, e_204_41, e_204_42, e_204_45, e_204_48, e_204_49, e_204_50, e_204_51, e_204_54, hfi, hst, h, gfA_i, pfA_i, List.getElem?_cons_zero, List.getElem?_cons_succ, oK_some, rK_some, pR_some, pR_none, kq_i, kq_r, kq_n, kq_u, kq_o, kq_l, isRf_r, isRf_n, isRf_o, okv_r, okv_n, okv_o, is2_r, is2_o, is2_n, rcv_r, isC_i, if_true, if_pos, zI_add, zI_sub, zI_mul, nc_12, nc_8, nc_6, nc_40, nc_250, nc_3, nc_s, len4_0, len4_1, len4_2, len4_3, len4_4, and_self, and_true, true_and, lenA_i, va_rf_s, va_rf_n, oN_none, oN_some, zI_lt, zI_eq, nat_tn, nc_s, Int.lt_irrefl, Int.reduceEq, Int.reduceNe, Int.reduceLT, Int.reduceLE, Int.reduceSub, Int.reduceAdd, Int.reduceMul, Int.reduceDiv, Int.reduceNeg, Int.reduceToNat, or_self, or_false, false_or, if_false, if_true, not_true_eq_false, not_false_eq_true, or_true, true_or, and_false, false_and, ldI_0, stI_0, isC_mcl, Int.add_zero, zJ_eq, Nat.reduceAdd, Nat.reduceLT, G_o, G_1, G_2, G_3, G_4, G_13, G_14, G_15, G_16, G_17, G_18, G_19, G_20, G_21, G_22, G_23, G_24, G_25, G_26, G_27, G_28, G_29, gm_0, gm_1, gm_2, gm_3, gm_4, gm_5, gm_6, gm_7, gm_8, gm_9, gm_10, gm_11, gm_12, gm_13, gm_14, gm_15, gm_16, gm_17, gm_18, gm_19, gm_20, gm_21, gm_22, gm_23, gm_24, gm_25, gm_26, gm_27, gm_28, gm_29, gm_30, gm_31, gm_32, gm_33, gm_34, gm_35, pm_7, pm_23, pm_24, pm_25, pm_26, pm_27, pm_29, pm_31, pm_34, pm_35, pm_9, pm_19, pm_20, pm_21, pm_22, mG_U, mG_8, mG_25, mG_1, mG_2, mG_3, mG_13, mG_14, mG_15, mG_16, mG_26, mG_27, mG_28, mG_29, mG_17, mG_18, mG_19, mG_20, mG_21, mG_22, mG_23, mG_24, e80]
  · try dsimp only
    rw [e_204_19]
    simp (disch := omega) only [e_204_21, e_204_22, e_204_25, e_204_28, e_204_29, e_204_30, e_204_32, e_204_35, e_204_38, e_204_39, e_204_41, e_204_42, e_204_45, e_204_48, e_204_49, e_204_50, e_204_51, e_204_54, e_204_57, e_204_58, e_204_61, e_204_62, e_204_63, e_204_64, e_204_65, gfA_i, pfA_i, List.getElem?_cons_zero, List.getElem?_cons_succ, oK_some, rK_some, pR_some, pR_none, kq_i, kq_r, kq_n, kq_u, kq_o, kq_l, isRf_r, isRf_n, isRf_o, okv_r, okv_n, okv_o, is2_r, is2_o, is2_n, rcv_r, isC_i, if_true, if_pos, zI_add, zI_sub, zI_mul, nc_12, nc_8, nc_6, nc_40, nc_250, nc_3, nc_s, len4_0, len4_1, len4_2, len4_3, len4_4, and_self, and_true, true_and, lenA_i, va_rf_s, va_rf_n, oN_none, oN_some, zI_lt, zI_eq, nat_tn, nc_s, Int.lt_irrefl, Int.reduceEq, Int.reduceNe, Int.reduceLT, Int.reduceLE, Int.reduceSub, Int.reduceAdd, Int.reduceMul, Int.reduceDiv, Int.reduceNeg, Int.reduceToNat, or_self, or_false, false_or, if_false, if_true, not_true_eq_false, not_false_eq_true, or_true, true_or, and_false, false_and, ldI_0, stI_0, isC_mcl, Int.add_zero, zJ_eq, Nat.reduceAdd, Nat.reduceLT, G_o, G_1, G_2, G_3, G_4, G_13, G_14, G_15, G_16, G_17, G_18, G_19, G_20, G_21, G_22, G_23, G_24, G_25, G_26, G_27, G_28, G_29, gm_0, gm_1, gm_2, gm_3, gm_4, gm_5, gm_6, gm_7, gm_8, gm_9, gm_10, gm_11, gm_12, gm_13, gm_14, gm_15, gm_16, gm_17, gm_18, gm_19, gm_20, gm_21, gm_22, gm_23, gm_24, gm_25, gm_26, gm_27, gm_28, gm_29, gm_30, gm_31, gm_32, gm_33, gm_34, gm_35, pm_7, pm_23, pm_24, pm_25, pm_26, pm_27, pm_29, pm_31, pm_34, pm_35, pm_9, pm_19, pm_20, pm_21, pm_22, mG_U, mG_8, mG_25, mG_1, mG_2, mG_3, mG_13, mG_14, mG_15, mG_16, mG_26, mG_27, mG_28, mG_29, mG_17, mG_18, mG_19, mG_20, mG_21, mG_22, mG_23, mG_24, e80, sU_back]
end G3
