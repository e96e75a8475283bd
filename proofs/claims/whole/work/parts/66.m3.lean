theorem gaN_stop {p : Nat → Int} {lim q : Nat} (h : (gaN p lim q).1 = lim) : ∀ k, gaN p lim (q + k) = gaN p lim q := by
  intro k
  induction k with
  | zero => rfl
  | succ k ih =>
    rw [show q + (k + 1) = (q + k) + 1 by omega, gaN_s]
    unfold gaF
    rw [ih, if_neg (fun x => by omega)]
theorem rws_n {S : Sc} {n : Nat} (hn : S 8 0 = (n : Int)) (hn2 : n ≤ 12) : gaN (fre S 0) 6 n = rws S := by
  have : ∀ k, n + k ≤ 12 → gaN (fre S 0) 6 (n + k) = gaN (fre S 0) 6 n := by
    intro k
    induction k with
    | zero => intro _; rfl
    | succ k ih =>
      intro hk
      rw [show n + (k + 1) = (n + k) + 1 by omega, gaN_s]
      unfold gaF
      rw [if_neg (fun x => by have := x.1; unfold fre at this; rw [if_neg (by omega)] at this; omega)]
      exact ih (by omega)
  have h := this (12 - n) (by omega)
  rw [show n + (12 - n) = 12 by omega] at h
  exact h.symm
/-- all that comes of the search -/
def ptS (S : Sc) : Int × Int × (Nat → Int) := pt S (rws S).2 (cls S).2 (cls S).1 (rws S).1 (rws S).1 (fun _ => 0)
theorem ptS_b (S : Sc) : (0 ≤ (ptS S).1 ∧ (ptS S).1 ≤ 48) ∧ 0 ≤ (ptS S).2.1 ∧ (ptS S).2.1 ≤ 6 := by
  have h := pt_b (S := S) (row := (rws S).2) (col := (cls S).2) (cc := (cls S).1) (m := (rws S).1) (rws S).1 (fun _ => 0)
  have h2 := rws_le S
  unfold ptS
  omega
theorem tb_zero (j : Nat) : tb ((0 : Nat) : Int) j = 0 := by
  unfold tb
  rw [nat_tn, Nat.zero_div]
  rfl
section M3
variable {M : AM} {o : Nat} {S : Sc} {U : Nat → Int} {kt : Option Nat × Option Nat} {F : Nat → Nat → Int32} {E : Nat → Nat → Int64} {mv : Nat → Int64}
theorem r_find {d n : Nat} (hI : In S) (hn : S 8 0 = (n : Int)) (hn2 : n ≤ 12) : ∃ U' F', callD (d + 10) 192 [.ref o] (G M o S U kt F E mv) = some (none, (G M o S (U') kt (F') E mv)) ∧ (U' 7 = ((rws S).1 : Int) ∧ U' 8 = (ptS S).1 ∧ U' 9 = (ptS S).2.1) ∧ (∀ x, x < (rws S).1 → F' 7 x = zI ((rws S).2 x) ∧ F' 9 x = zI ((ptS S).2.2 x)) ∧ (∀ y, ¬ y = 7 → ¬ y = 8 → ¬ y = 9 → U' y = U y ∧ F' y = F y) := by
  have hm := rws_le S
  have hlo := loopQ (fun p (F1 : Nat → Nat → Int32) => den (callD (d + 9)) 192 7 [.ref o, .int (zI p)] [] (G M o S ((va_up U 7 ((gaN (fre S 0) 6 p).1 : Int))) kt (F1) E mv)) (fun x => ∃ F1 v, x = den (callD (d + 9)) 192 56 [.ref o, v] [] (G M o S ((va_up U 7 ((rws S).1 : Int))) kt (F1) E mv) ∧ (∀ y, ¬ y = 7 → F1 y = F y) ∧ ∀ x, x < (rws S).1 → F1 7 x = zI ((rws S).2 x)) (fun p F1 => (∀ y, ¬ y = 7 → F1 y = F y) ∧ ∀ x, x < (gaN (fre S 0) 6 p).1 → F1 7 x = zI ((gaN (fre S 0) 6 p).2 x)) n (fun p F1 hp hF => ?_) (fun F1 hF => ?_) n 0 F (by omega) ⟨fun y _ => rfl, fun x hx => absurd hx (Nat.not_lt_zero x)⟩
  · obtain ⟨F1, v, h1, h2, h3⟩ := hlo
    have h0 : va_up U 7 ((gaN (fre S 0) 6 0).1 : Int) = va_up U 7 0 := rfl
    rw [h0] at h1
    have eU : ∀ a b : Int, va_up (va_up (va_up U 7 ((rws S).1 : Int)) 8 a) 9 b 7 = ((rws S).1 : Int) := fun a b => by rw [va_up_ne _ _ (by omega), va_up_ne _ _ (by omega), va_up_at]
    obtain ⟨U', F', hs1, hs2⟩ := r_seek (M := M) (o := o) (kt := kt) (E := E) (mv := mv) (d := d + (6 - (rws S).1)) hI hn hn2 hm (row := (rws S).2) (fun x hx => (row_in hx).1) (rws S).1 0 (by omega) 0 0 0 (va_up (va_up (va_up U 7 ((rws S).1 : Int)) 8 (-1)) 9 (-1)) F1 (eU _ _) h3 (by omega) (by omega) (by omega) (Or.inl ⟨by rw [va_up_ne _ _ (by omega), va_up_at], va_up_at _ _ _⟩)
    rw [show d + (6 - (rws S).1) + (rws S).1 + 3 = d + 9 by omega] at hs1
    have hu0 : (fun j => tb ((0 : Nat) : Int) ((cls S).2 j)) = fun _ => 0 := by funext j; exact tb_zero _
    rw [hu0] at hs2
    have hpb := ptS_b S
    obtain ⟨k1, k2, k3, k4⟩ := hs2
    have hbv : bval (va_up (va_up (va_up U 7 ((rws S).1 : Int)) 8 (-1)) 9 (-1)) = -9 := by
      unfold bval
      rw [va_up_ne _ _ (show ¬ 8 = 9 by omega), va_up_at, va_up_at]
      omega
    rcases k4 with ⟨-, g2, g3, g4⟩ | ⟨g1, -⟩
    · refine ⟨U', F', ?_, ⟨?_, ?_, ?_⟩, fun x hx => ⟨?_, ?_⟩, fun y y7 y8 y9 => ⟨?_, ?_⟩⟩
      · rw [c_192]
        simp (disch := omega) only [e_192_0, e_192_1, e_192_2, e_192_5, e_192_6, gfA_i, pfA_i, List.getElem?_cons_zero, List.getElem?_cons_succ, oK_some, rK_some, pR_some, pR_none, kq_i, kq_r, kq_n, kq_u, kq_o, kq_l, isRf_r, isRf_n, isRf_o, okv_r, okv_n, okv_o, is2_r, is2_o, is2_n, rcv_r, isC_i, if_true, if_pos, zI_add, zI_sub, zI_mul, nc_12, nc_8, nc_6, nc_40, nc_250, nc_3, nc_s, len4_0, len4_1, len4_2, len4_3, len4_4, and_self, and_true, true_and, lenA_i, va_rf_s, va_rf_n, oN_none, oN_some, zI_lt, zI_eq, nat_tn, nc_s, Int.lt_irrefl, Int.reduceEq, Int.reduceNe, Int.reduceLT, Int.reduceLE, Int.reduceSub, Int.reduceAdd, Int.reduceMul, Int.reduceDiv, Int.reduceNeg, Int.reduceToNat, or_self, or_false, false_or, if_false, if_true, not_true_eq_false, not_false_eq_true, or_true, true_or, and_false, false_and, ldI_0, stI_0, isC_mcl, Int.add_zero, zJ_eq, Nat.reduceAdd, Nat.reduceLT, G_o, G_1, G_2, G_3, G_4, G_13, G_14, G_15, G_16, G_17, G_18, G_19, G_20, G_21, G_22, G_23, G_24, G_25, G_26, G_27, G_28, G_29, gm_0, gm_1, gm_2, gm_3, gm_4, gm_5, gm_6, gm_7, gm_8, gm_9, gm_10, gm_11, gm_12, gm_13, gm_14, gm_15, gm_16, gm_17, gm_18, gm_19, gm_20, gm_21, gm_22, gm_23, gm_24, gm_25, gm_26, gm_27, gm_28, gm_29, gm_30, gm_31, gm_32, gm_33, gm_34, gm_35, pm_7, pm_23, pm_24, pm_25, pm_26, pm_27, pm_29, pm_31, pm_34, pm_35, pm_9, pm_19, pm_20, pm_21, pm_22, mG_U, mG_8, mG_25, mG_1, mG_2, mG_3, mG_13, mG_14, mG_15, mG_16, mG_26, mG_27, mG_28, mG_29, mG_17, mG_18, mG_19, mG_20, mG_21, mG_22, mG_23, mG_24, kq_l, va_up_ne, va_up_self]
        refine h1.trans ?_
        have e0 : zI ((0 : Nat) : Int) = zI 0 := rfl
        rw [e0] at hs1
        simp (disch := omega) only [e_192_56, e_192_57, e_192_58, e_192_61, e_192_62, e_192_63, e_192_66, e_192_67, e_192_68, e_192_69, e_192_70, e_192_71, e_192_74, gfA_i, pfA_i, List.getElem?_cons_zero, List.getElem?_cons_succ, oK_some, rK_some, pR_some, pR_none, kq_i, kq_r, kq_n, kq_u, kq_o, kq_l, isRf_r, isRf_n, isRf_o, okv_r, okv_n, okv_o, is2_r, is2_o, is2_n, rcv_r, isC_i, if_true, if_pos, zI_add, zI_sub, zI_mul, nc_12, nc_8, nc_6, nc_40, nc_250, nc_3, nc_s, len4_0, len4_1, len4_2, len4_3, len4_4, and_self, and_true, true_and, lenA_i, va_rf_s, va_rf_n, oN_none, oN_some, zI_lt, zI_eq, nat_tn, nc_s, Int.lt_irrefl, Int.reduceEq, Int.reduceNe, Int.reduceLT, Int.reduceLE, Int.reduceSub, Int.reduceAdd, Int.reduceMul, Int.reduceDiv, Int.reduceNeg, Int.reduceToNat, or_self, or_false, false_or, if_false, if_true, not_true_eq_false, not_false_eq_true, or_true, true_or, and_false, false_and, ldI_0, stI_0, isC_mcl, Int.add_zero, zJ_eq, Nat.reduceAdd, Nat.reduceLT, G_o, G_1, G_2, G_3, G_4, G_13, G_14, G_15, G_16, G_17, G_18, G_19, G_20, G_21, G_22, G_23, G_24, G_25, G_26, G_27, G_28, G_29, gm_0, gm_1, gm_2, gm_3, gm_4, gm_5, gm_6, gm_7, gm_8, gm_9, gm_10, gm_11, gm_12, gm_13, gm_14, gm_15, gm_16, gm_17, gm_18, gm_19, gm_20, gm_21, gm_22, gm_23, gm_24, gm_25, gm_26, gm_27, gm_28, gm_29, gm_30, gm_31, gm_32, gm_33, gm_34, gm_35, pm_7, pm_23, pm_24, pm_25, pm_26, pm_27, pm_29, pm_31, pm_34, pm_35, pm_9, pm_19, pm_20, pm_21, pm_22, mG_U, mG_8, mG_25, mG_1, mG_2, mG_3, mG_13, mG_14, mG_15, mG_16, mG_26, mG_27, mG_28, mG_29, mG_17, mG_18, mG_19, mG_20, mG_21, mG_22, mG_23, mG_24, kq_l, va_up_ne, va_up_self, hs1]
      · rw [k1 7 (by omega) (by omega)]; exact eU _ _
      · rw [g2, Int.zero_add]; rfl
      · rw [g3, Int.zero_add]; rfl
      · rw [k2 7 (by omega) (by omega)]; exact h3 x hx
      · rw [g4 x hx, if_neg (Nat.not_lt_zero x)]; rfl
      · rw [k1 y y8 y9, va_up_ne _ _ y9, va_up_ne _ _ y8, va_up_ne _ _ y7]
      · rw [k2 y y8 y9]; exact h2 y y7
    · exfalso
      have hpb' : (0 ≤ (pt S (rws S).2 (cls S).2 (cls S).1 (rws S).1 (rws S).1 (fun _ => 0)).1 ∧ _) ∧ 0 ≤ (pt S (rws S).2 (cls S).2 (cls S).1 (rws S).1 (rws S).1 (fun _ => 0)).2.1 ∧ _ := hpb
      omega
  · obtain ⟨hF1, hF2⟩ := hF
    have hp12 : p < 12 := by omega
    have hle := gaN_le (fre S 0) 6 p
    have hmp := r_mayPair (o := o) (M := M) (U := va_up U 7 ((gaN (fre S 0) 6 p).1 : Int)) (kt := kt) (F := F1) (E := E) (mv := mv) (d := d + 8) hI.bd hp12 (s := 0) (Or.inl rfl)
    by_cases h6 : (gaN (fre S 0) 6 p).1 = 6
    · right
      have hs := gaN_stop h6 (12 - p)
      rw [show p + (12 - p) = 12 by omega] at hs
      have hr : rws S = gaN (fre S 0) 6 p := hs
      rw [hr]
      refine ⟨F1, .int (zI p), ?_, hF1, hF2⟩
      try dsimp only
      conv => lhs; rw [e_192_7]
      rw [h6]
      simp (disch := omega) only [e_192_8, e_192_9, e_192_12, e_192_15, e_192_16, e_192_19, e_192_21, gfA_i, pfA_i, List.getElem?_cons_zero, List.getElem?_cons_succ, oK_some, rK_some, pR_some, pR_none, kq_i, kq_r, kq_n, kq_u, kq_o, kq_l, isRf_r, isRf_n, isRf_o, okv_r, okv_n, okv_o, is2_r, is2_o, is2_n, rcv_r, isC_i, if_true, if_pos, zI_add, zI_sub, zI_mul, nc_12, nc_8, nc_6, nc_40, nc_250, nc_3, len4_0, len4_1, len4_2, len4_3, len4_4, and_self, and_true, true_and, lenA_i, va_rf_s, va_rf_n, oN_none, oN_some, zI_lt, zI_eq, nat_tn, Int.lt_irrefl, Int.reduceEq, Int.reduceNe, Int.reduceLT, Int.reduceLE, Int.reduceSub, Int.reduceAdd, Int.reduceMul, Int.reduceDiv, Int.reduceNeg, Int.reduceToNat, or_self, or_false, false_or, if_false, if_true, not_true_eq_false, not_false_eq_true, or_true, true_or, and_false, false_and, ldI_0, stI_0, isC_mcl, Int.add_zero, zJ_eq, Nat.reduceAdd, Nat.reduceLT, G_o, G_1, G_2, G_3, G_4, G_13, G_14, G_15, G_16, G_17, G_18, G_19, G_20, G_21, G_22, G_23, G_24, G_25, G_26, G_27, G_28, G_29, gm_0, gm_1, gm_2, gm_3, gm_4, gm_5, gm_6, gm_7, gm_8, gm_9, gm_10, gm_11, gm_12, gm_13, gm_14, gm_15, gm_16, gm_17, gm_18, gm_19, gm_20, gm_21, gm_22, gm_23, gm_24, gm_25, gm_26, gm_27, gm_28, gm_29, gm_30, gm_31, gm_32, gm_33, gm_34, gm_35, pm_7, pm_23, pm_24, pm_25, pm_26, pm_27, pm_29, pm_31, pm_34, pm_35, pm_9, pm_19, pm_20, pm_21, pm_22, mG_U, mG_8, mG_25, mG_1, mG_2, mG_3, mG_13, mG_14, mG_15, mG_16, mG_26, mG_27, mG_28, mG_29, mG_17, mG_18, mG_19, mG_20, mG_21, mG_22, mG_23, mG_24, kq_l, va_up_ne, va_up_self, hn, va_up_at, nc_6]
    · left
      have hlt : ((gaN (fre S 0) 6 p).1 : Int) < 6 := by omega
      rw [gaN_s]
      unfold gaF
      by_cases hfr : fre S 0 p = 1
      · have hcond : S 2 p = 0 ∧ S 4 p < 0 := by
          unfold fre at hfr
          split at hfr
          · rename_i x; exact x.2
          · omega
        rw [if_pos hcond] at hmp
        rw [if_pos ⟨hfr, by omega⟩]
        dsimp only
        refine ⟨va_up F1 7 (upd (F1 7) (gaN (fre S 0) 6 p).1 (zI p)), ?_, fun y y7 => (va_up_ne _ _ y7).trans (hF1 y y7), fun x hx => ?_⟩
        · conv => lhs; rw [e_192_7]
          simp (disch := omega) only [e_192_8, e_192_9, e_192_12, e_192_15, e_192_16, e_192_19, e_192_21, e_192_24, e_192_25, e_192_26, e_192_27, e_192_30, e_192_33, e_192_34, e_192_37, e_192_38, e_192_38_i, e_192_39, e_192_42, e_192_43, e_192_44, e_192_45, e_192_48, e_192_49, e_192_50, e_192_53, gfA_i, pfA_i, List.getElem?_cons_zero, List.getElem?_cons_succ, oK_some, rK_some, pR_some, pR_none, kq_i, kq_r, kq_n, kq_u, kq_o, kq_l, isRf_r, isRf_n, isRf_o, okv_r, okv_n, okv_o, is2_r, is2_o, is2_n, rcv_r, isC_i, if_true, if_pos, zI_add, zI_sub, zI_mul, nc_12, nc_8, nc_6, nc_40, nc_250, nc_3, nc_s, len4_0, len4_1, len4_2, len4_3, len4_4, and_self, and_true, true_and, lenA_i, va_rf_s, va_rf_n, oN_none, oN_some, zI_lt, zI_eq, nat_tn, nc_s, Int.lt_irrefl, Int.reduceEq, Int.reduceNe, Int.reduceLT, Int.reduceLE, Int.reduceSub, Int.reduceAdd, Int.reduceMul, Int.reduceDiv, Int.reduceNeg, Int.reduceToNat, or_self, or_false, false_or, if_false, if_true, not_true_eq_false, not_false_eq_true, or_true, true_or, and_false, false_and, ldI_0, stI_0, isC_mcl, Int.add_zero, zJ_eq, Nat.reduceAdd, Nat.reduceLT, G_o, G_1, G_2, G_3, G_4, G_13, G_14, G_15, G_16, G_17, G_18, G_19, G_20, G_21, G_22, G_23, G_24, G_25, G_26, G_27, G_28, G_29, gm_0, gm_1, gm_2, gm_3, gm_4, gm_5, gm_6, gm_7, gm_8, gm_9, gm_10, gm_11, gm_12, gm_13, gm_14, gm_15, gm_16, gm_17, gm_18, gm_19, gm_20, gm_21, gm_22, gm_23, gm_24, gm_25, gm_26, gm_27, gm_28, gm_29, gm_30, gm_31, gm_32, gm_33, gm_34, gm_35, pm_7, pm_23, pm_24, pm_25, pm_26, pm_27, pm_29, pm_31, pm_34, pm_35, pm_9, pm_19, pm_20, pm_21, pm_22, mG_U, mG_8, mG_25, mG_1, mG_2, mG_3, mG_13, mG_14, mG_15, mG_16, mG_26, mG_27, mG_28, mG_29, mG_17, mG_18, mG_19, mG_20, mG_21, mG_22, mG_23, mG_24, kq_l, va_up_ne, va_up_self, hn, va_up_at, hlt, hmp, va_up2, is2_i, is2_r, or_self, Bool.false_eq_true]
        · rw [va_up_at]
          unfold upd
          by_cases e : x = (gaN (fre S 0) 6 p).1
          · rw [if_pos e, e, va_up_at]
          · rw [if_neg e, va_up_ne _ _ e]
            exact hF2 x (by omega)
      · have hcond : ¬ (S 2 p = 0 ∧ S 4 p < 0) := fun x => hfr (if_pos ⟨by omega, x⟩)
        rw [if_neg hcond] at hmp
        rw [if_neg (fun x => hfr x.1)]
        refine ⟨F1, ?_, hF1, hF2⟩
        try dsimp only
        conv => lhs; rw [e_192_7]
        simp (disch := omega) only [e_192_8, e_192_9, e_192_12, e_192_15, e_192_16, e_192_19, e_192_21, e_192_24, e_192_25, e_192_26, e_192_27, e_192_30, e_192_33, e_192_34, e_192_37, e_192_38, e_192_38_i, e_192_39, e_192_42, e_192_43, e_192_44, e_192_45, e_192_48, e_192_49, e_192_50, e_192_53, gfA_i, pfA_i, List.getElem?_cons_zero, List.getElem?_cons_succ, oK_some, rK_some, pR_some, pR_none, kq_i, kq_r, kq_n, kq_u, kq_o, kq_l, isRf_r, isRf_n, isRf_o, okv_r, okv_n, okv_o, is2_r, is2_o, is2_n, rcv_r, isC_i, if_true, if_pos, zI_add, zI_sub, zI_mul, nc_12, nc_8, nc_6, nc_40, nc_250, nc_3, nc_s, len4_0, len4_1, len4_2, len4_3, len4_4, and_self, and_true, true_and, lenA_i, va_rf_s, va_rf_n, oN_none, oN_some, zI_lt, zI_eq, nat_tn, nc_s, Int.lt_irrefl, Int.reduceEq, Int.reduceNe, Int.reduceLT, Int.reduceLE, Int.reduceSub, Int.reduceAdd, Int.reduceMul, Int.reduceDiv, Int.reduceNeg, Int.reduceToNat, or_self, or_false, false_or, if_false, if_true, not_true_eq_false, not_false_eq_true, or_true, true_or, and_false, false_and, ldI_0, stI_0, isC_mcl, Int.add_zero, zJ_eq, Nat.reduceAdd, Nat.reduceLT, G_o, G_1, G_2, G_3, G_4, G_13, G_14, G_15, G_16, G_17, G_18, G_19, G_20, G_21, G_22, G_23, G_24, G_25, G_26, G_27, G_28, G_29, gm_0, gm_1, gm_2, gm_3, gm_4, gm_5, gm_6, gm_7, gm_8, gm_9, gm_10, gm_11, gm_12, gm_13, gm_14, gm_15, gm_16, gm_17, gm_18, gm_19, gm_20, gm_21, gm_22, gm_23, gm_24, gm_25, gm_26, gm_27, gm_28, gm_29, gm_30, gm_31, gm_32, gm_33, gm_34, gm_35, pm_7, pm_23, pm_24, pm_25, pm_26, pm_27, pm_29, pm_31, pm_34, pm_35, pm_9, pm_19, pm_20, pm_21, pm_22, mG_U, mG_8, mG_25, mG_1, mG_2, mG_3, mG_13, mG_14, mG_15, mG_16, mG_26, mG_27, mG_28, mG_29, mG_17, mG_18, mG_19, mG_20, mG_21, mG_22, mG_23, mG_24, kq_l, va_up_ne, va_up_self, hn, va_up_at, hlt, hmp]
  · obtain ⟨hF1, hF2⟩ := hF
    rw [rws_n hn hn2] at hF2
    refine ⟨F1, .int (zI n), ?_, hF1, hF2⟩
    rw [rws_n hn hn2]
    rw [e_192_7]
    simp (disch := omega) only [e_192_8, e_192_9, e_192_12, gfA_i, pfA_i, List.getElem?_cons_zero, List.getElem?_cons_succ, oK_some, rK_some, pR_some, pR_none, kq_i, kq_r, kq_n, kq_u, kq_o, kq_l, isRf_r, isRf_n, isRf_o, okv_r, okv_n, okv_o, is2_r, is2_o, is2_n, rcv_r, isC_i, if_true, if_pos, zI_add, zI_sub, zI_mul, nc_12, nc_8, nc_6, nc_40, nc_250, nc_3, nc_s, len4_0, len4_1, len4_2, len4_3, len4_4, and_self, and_true, true_and, lenA_i, va_rf_s, va_rf_n, oN_none, oN_some, zI_lt, zI_eq, nat_tn, nc_s, Int.lt_irrefl, Int.reduceEq, Int.reduceNe, Int.reduceLT, Int.reduceLE, Int.reduceSub, Int.reduceAdd, Int.reduceMul, Int.reduceDiv, Int.reduceNeg, Int.reduceToNat, or_self, or_false, false_or, if_false, if_true, not_true_eq_false, not_false_eq_true, or_true, true_or, and_false, false_and, ldI_0, stI_0, isC_mcl, Int.add_zero, zJ_eq, Nat.reduceAdd, Nat.reduceLT, G_o, G_1, G_2, G_3, G_4, G_13, G_14, G_15, G_16, G_17, G_18, G_19, G_20, G_21, G_22, G_23, G_24, G_25, G_26, G_27, G_28, G_29, gm_0, gm_1, gm_2, gm_3, gm_4, gm_5, gm_6, gm_7, gm_8, gm_9, gm_10, gm_11, gm_12, gm_13, gm_14, gm_15, gm_16, gm_17, gm_18, gm_19, gm_20, gm_21, gm_22, gm_23, gm_24, gm_25, gm_26, gm_27, gm_28, gm_29, gm_30, gm_31, gm_32, gm_33, gm_34, gm_35, pm_7, pm_23, pm_24, pm_25, pm_26, pm_27, pm_29, pm_31, pm_34, pm_35, pm_9, pm_19, pm_20, pm_21, pm_22, mG_U, mG_8, mG_25, mG_1, mG_2, mG_3, mG_13, mG_14, mG_15, mG_16, mG_26, mG_27, mG_28, mG_29, mG_17, mG_18, mG_19, mG_20, mG_21, mG_22, mG_23, mG_24, kq_l, va_up_ne, va_up_self, hn]
end M3
