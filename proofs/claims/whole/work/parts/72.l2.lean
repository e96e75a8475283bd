/-! tokens of the reference -/
def lkV (U : Nat → Int) (s fg t i : Int) : Nat → Int := fun x => if x = 1 then i else if x = 2 then t else if x = 3 then s else if x = 4 then fg else U x
section LK
variable {U : Nat → Int} {s fg t i j : Int}
theorem lkV_0 : lkV U s fg t i 0 = U 0 := rfl
theorem lkV_1 : lkV U s fg t i 1 = i := rfl
theorem lkV_2 : lkV U s fg t i 2 = t := rfl
theorem lkV_3 : lkV U s fg t i 3 = s := rfl
theorem lkV_4 : lkV U s fg t i 4 = fg := rfl
theorem lkV_5 : lkV U s fg t i 5 = U 5 := rfl
theorem lkV_6 : lkV U s fg t i 6 = U 6 := rfl
theorem lkV_u1 : va_up (lkV U s fg t i) 1 j = lkV U s fg t j := by
  funext x; unfold va_up lkV
  by_cases h : x = 1
  · simp [h]
  · simp only [h, if_false]
theorem lkV_u2 : va_up (lkV U s fg t i) 2 j = lkV U s fg j i := by
  funext x; unfold va_up lkV
  by_cases h : x = 2
  · simp [h]
  · simp only [h, if_false]
theorem lkV_u4 : va_up (lkV U s fg t i) 4 j = lkV U s j t i := by
  funext x; unfold va_up lkV
  by_cases h : x = 4
  · simp [h]
  · simp only [h, if_false]
theorem lkV_in : va_up (va_up (va_up (va_up U 1 s) 3 s) 4 fg) 2 t = lkV U s fg t s := by
  funext x; unfold va_up lkV
  by_cases h1 : x = 1
  · simp [h1]
  · by_cases h2 : x = 2
    · simp [h2]
    · by_cases h3 : x = 3
      · simp [h3]
      · simp only [h1, h2, h3, if_false]
theorem lkV_in3 : va_up (va_up (va_up U 1 s) 3 s) 4 fg = lkV U s fg (U 2) s := by
  rw [← lkV_in]
  funext x; unfold va_up
  by_cases h2 : x = 2
  · simp [h2]
  · simp only [h2, if_false]
theorem lkV_lkV {s' fg' t' i' : Int} : lkV (lkV U s fg t i) s' fg' t' i' = lkV U s' fg' t' i' := by
  funext x; unfold lkV
  (repeat' split) <;> rfl
end LK
def teR (B : Nat → Int32) (z s : Nat) : Nat := if tkn B z s = 4 then s + 1 else ten B z s
def fgR (B : Nat → Int32) (z s : Nat) : Int := if tkn B z s = 2 then nvl B z s else 0
def lkU (B : Nat → Int32) (z : Nat) (U : Nat → Int) (p : Nat) : Nat → Int := lkV U (tst B z p) (fgR B z (tst B z p)) (tkn B z (tst B z p)) (teR B z (tst B z p))
theorem sof_1 (x : Int) : sof x = 1 ↔ 97 ≤ x ∧ x ≤ 122 := by unfold sof; constructor <;> intro h <;> (repeat' split at *) <;> omega
theorem sof_2 (x : Int) : sof x = 2 ↔ 48 ≤ x ∧ x ≤ 57 := by unfold sof; constructor <;> intro h <;> (repeat' split at *) <;> omega
theorem sof_3 (x : Int) : sof x = 3 ↔ x = 59 := by unfold sof; constructor <;> intro h <;> (repeat' split at *) <;> omega
theorem sof_0 (x : Int) : sof x = 0 ↔ x = -1 := by unfold sof; constructor <;> intro h <;> (repeat' split at *) <;> omega
section RL2
variable {M : AM} {o : Nat} {S : Sc} {U : Nat → Int} {kt : Option Nat × Option Nat} {F : Nat → Nat → Int32} {E : Nat → Nat → Int64} {mv : Nat → Int64} {B : Nat → Int32} {zn : Nat}
theorem r_isLetter {d : Nat} {x : Int} (hx : 0 ≤ x ∧ x < 256) : callD (d + 1) 163 [.int (zI x)] M = some (some (.int (zI (if sof x = 1 then 1 else 0))), M) := by
  rw [c_163]
  by_cases h : sof x = 1
  · rw [if_pos h]
    have h1 := (sof_1 x).mp h
    have g1 : ¬ x < 97 := by omega
    have g2 : ¬ 122 < x := by omega
    simp (disch := omega) only [e_163_0, e_163_1, e_163_3, e_163_6, e_163_7, e_163_9, e_163_12, e_163_13, e_163_16, e_163_17, gfA_i, pfA_i, List.getElem?_cons_zero, List.getElem?_cons_succ, oK_some, rK_some, pR_some, pR_none, kq_i, kq_r, kq_n, kq_u, kq_o, kq_l, isRf_r, isRf_n, isRf_o, okv_r, okv_n, okv_o, is2_r, is2_o, is2_n, rcv_r, isC_i, if_true, if_pos, zI_add, zI_sub, zI_mul, nc_12, nc_8, nc_6, nc_40, nc_250, nc_3, nc_s, len4_0, len4_1, len4_2, len4_3, len4_4, and_self, and_true, true_and, lenA_i, va_rf_s, va_rf_n, oN_none, oN_some, zI_lt, zI_eq, Int.lt_irrefl, Int.reduceEq, Int.reduceNe, Int.reduceLT, Int.reduceLE, Int.reduceSub, Int.reduceAdd, Int.reduceMul, Int.reduceDiv, Int.reduceNeg, Int.reduceToNat, or_self, or_false, false_or, if_false, if_true, not_true_eq_false, not_false_eq_true, or_true, true_or, and_false, false_and, g1, g2]
  · rw [if_neg h]
    have h1 : ¬ (97 ≤ x ∧ x ≤ 122) := fun q => h ((sof_1 x).mpr q)
    by_cases g1 : x < 97
    · simp (disch := omega) only [e_163_0, e_163_1, e_163_3, e_163_6, e_163_7, e_163_9, e_163_12, e_163_13, e_163_16, e_163_17, gfA_i, pfA_i, List.getElem?_cons_zero, List.getElem?_cons_succ, oK_some, rK_some, pR_some, pR_none, kq_i, kq_r, kq_n, kq_u, kq_o, kq_l, isRf_r, isRf_n, isRf_o, okv_r, okv_n, okv_o, is2_r, is2_o, is2_n, rcv_r, isC_i, if_true, if_pos, zI_add, zI_sub, zI_mul, nc_12, nc_8, nc_6, nc_40, nc_250, nc_3, nc_s, len4_0, len4_1, len4_2, len4_3, len4_4, and_self, and_true, true_and, lenA_i, va_rf_s, va_rf_n, oN_none, oN_some, zI_lt, zI_eq, Int.lt_irrefl, Int.reduceEq, Int.reduceNe, Int.reduceLT, Int.reduceLE, Int.reduceSub, Int.reduceAdd, Int.reduceMul, Int.reduceDiv, Int.reduceNeg, Int.reduceToNat, or_self, or_false, false_or, if_false, if_true, not_true_eq_false, not_false_eq_true, or_true, true_or, and_false, false_and, g1]
    · have g2 : 122 < x := by omega
      simp (disch := omega) only [e_163_0, e_163_1, e_163_3, e_163_6, e_163_7, e_163_9, e_163_12, e_163_13, e_163_16, e_163_17, gfA_i, pfA_i, List.getElem?_cons_zero, List.getElem?_cons_succ, oK_some, rK_some, pR_some, pR_none, kq_i, kq_r, kq_n, kq_u, kq_o, kq_l, isRf_r, isRf_n, isRf_o, okv_r, okv_n, okv_o, is2_r, is2_o, is2_n, rcv_r, isC_i, if_true, if_pos, zI_add, zI_sub, zI_mul, nc_12, nc_8, nc_6, nc_40, nc_250, nc_3, nc_s, len4_0, len4_1, len4_2, len4_3, len4_4, and_self, and_true, true_and, lenA_i, va_rf_s, va_rf_n, oN_none, oN_some, zI_lt, zI_eq, Int.lt_irrefl, Int.reduceEq, Int.reduceNe, Int.reduceLT, Int.reduceLE, Int.reduceSub, Int.reduceAdd, Int.reduceMul, Int.reduceDiv, Int.reduceNeg, Int.reduceToNat, or_self, or_false, false_or, if_false, if_true, not_true_eq_false, not_false_eq_true, or_true, true_or, and_false, false_and, g1, g2]
theorem r_isDigit {d : Nat} {x : Int} (hx : 0 ≤ x ∧ x < 256) : callD (d + 1) 164 [.int (zI x)] M = some (some (.int (zI (if sof x = 2 then 1 else 0))), M) := by
  rw [c_164]
  by_cases h : sof x = 2
  · rw [if_pos h]
    have h1 := (sof_2 x).mp h
    have g1 : ¬ x < 48 := by omega
    have g2 : ¬ 57 < x := by omega
    simp (disch := omega) only [e_164_0, e_164_1, e_164_3, e_164_6, e_164_7, e_164_9, e_164_12, e_164_13, e_164_16, e_164_17, gfA_i, pfA_i, List.getElem?_cons_zero, List.getElem?_cons_succ, oK_some, rK_some, pR_some, pR_none, kq_i, kq_r, kq_n, kq_u, kq_o, kq_l, isRf_r, isRf_n, isRf_o, okv_r, okv_n, okv_o, is2_r, is2_o, is2_n, rcv_r, isC_i, if_true, if_pos, zI_add, zI_sub, zI_mul, nc_12, nc_8, nc_6, nc_40, nc_250, nc_3, nc_s, len4_0, len4_1, len4_2, len4_3, len4_4, and_self, and_true, true_and, lenA_i, va_rf_s, va_rf_n, oN_none, oN_some, zI_lt, zI_eq, Int.lt_irrefl, Int.reduceEq, Int.reduceNe, Int.reduceLT, Int.reduceLE, Int.reduceSub, Int.reduceAdd, Int.reduceMul, Int.reduceDiv, Int.reduceNeg, Int.reduceToNat, or_self, or_false, false_or, if_false, if_true, not_true_eq_false, not_false_eq_true, or_true, true_or, and_false, false_and, g1, g2]
  · rw [if_neg h]
    have h1 : ¬ (48 ≤ x ∧ x ≤ 57) := fun q => h ((sof_2 x).mpr q)
    by_cases g1 : x < 48
    · simp (disch := omega) only [e_164_0, e_164_1, e_164_3, e_164_6, e_164_7, e_164_9, e_164_12, e_164_13, e_164_16, e_164_17, gfA_i, pfA_i, List.getElem?_cons_zero, List.getElem?_cons_succ, oK_some, rK_some, pR_some, pR_none, kq_i, kq_r, kq_n, kq_u, kq_o, kq_l, isRf_r, isRf_n, isRf_o, okv_r, okv_n, okv_o, is2_r, is2_o, is2_n, rcv_r, isC_i, if_true, if_pos, zI_add, zI_sub, zI_mul, nc_12, nc_8, nc_6, nc_40, nc_250, nc_3, nc_s, len4_0, len4_1, len4_2, len4_3, len4_4, and_self, and_true, true_and, lenA_i, va_rf_s, va_rf_n, oN_none, oN_some, zI_lt, zI_eq, Int.lt_irrefl, Int.reduceEq, Int.reduceNe, Int.reduceLT, Int.reduceLE, Int.reduceSub, Int.reduceAdd, Int.reduceMul, Int.reduceDiv, Int.reduceNeg, Int.reduceToNat, or_self, or_false, false_or, if_false, if_true, not_true_eq_false, not_false_eq_true, or_true, true_or, and_false, false_and, g1]
    · have g2 : 57 < x := by omega
      simp (disch := omega) only [e_164_0, e_164_1, e_164_3, e_164_6, e_164_7, e_164_9, e_164_12, e_164_13, e_164_16, e_164_17, gfA_i, pfA_i, List.getElem?_cons_zero, List.getElem?_cons_succ, oK_some, rK_some, pR_some, pR_none, kq_i, kq_r, kq_n, kq_u, kq_o, kq_l, isRf_r, isRf_n, isRf_o, okv_r, okv_n, okv_o, is2_r, is2_o, is2_n, rcv_r, isC_i, if_true, if_pos, zI_add, zI_sub, zI_mul, nc_12, nc_8, nc_6, nc_40, nc_250, nc_3, nc_s, len4_0, len4_1, len4_2, len4_3, len4_4, and_self, and_true, true_and, lenA_i, va_rf_s, va_rf_n, oN_none, oN_some, zI_lt, zI_eq, Int.lt_irrefl, Int.reduceEq, Int.reduceNe, Int.reduceLT, Int.reduceLE, Int.reduceSub, Int.reduceAdd, Int.reduceMul, Int.reduceDiv, Int.reduceNeg, Int.reduceToNat, or_self, or_false, false_or, if_false, if_true, not_true_eq_false, not_false_eq_true, or_true, true_or, and_false, false_and, g1, g2]
/-- the figures up to a place -/
def fgI (B : Nat → Int32) (z s i : Nat) : Int := if i = s then 0 else if i = s + 1 then dg B z s else if i = s + 2 then 10 * dg B z s + dg B z (s + 1) else 1000
theorem r_look {d p : Nat} (hz2 : zn ≤ 250) (hb : BB B zn) (hp : p ≤ zn) (hU0 : U 0 = (zn : Int)) (hU1 : U 1 = (p : Int)) (hF4 : F 4 = B) : callD (d + 2) 165 [.ref o] (G M o S U kt F E mv) = some (none, (G M o S ((lkU B zn U p)) kt F E mv)) := by
  have hsb := tst_b (B := B) hp
  have heb := ten_b (B := B) hsb.2
  have htb := tkn_b B zn (tst B zn p)
  have hby : ∀ i, i < zn → F 4 i = zI (bt B zn i) := fun i hi => by rw [hF4]; exact (bt_b hb hi).2.2
  rw [c_165]
  have hst : den (callD (d + 1)) 165 0 [.ref o] [] (G M o S U kt F E mv) = den (callD (d + 1)) 165 38 [.ref o] [] (G M o S ((va_up U 1 (tst B zn p))) kt F E mv) := by
    have hf0 : U = va_up U 1 (p : Int) := by rw [← hU1, va_upI]
    rw [show (G M o S U kt F E mv) = (G M o S ((va_up U 1 (p : Int))) kt F E mv) by rw [← hf0]]
    refine loopQ (fun i (_ : Unit) => den (callD (d + 1)) 165 0 [.ref o] [] (G M o S ((va_up U 1 (i : Int))) kt F E mv)) (fun x => x = den (callD (d + 1)) 165 38 [.ref o] [] (G M o S ((va_up U 1 (tst B zn p))) kt F E mv)) (fun i _ => tst B zn p = rn (cBl B zn) (zn - i) i) zn (fun i c hi hI => ?_) (fun c hI => ?_) (zn - p) p () (by omega) rfl
    · have hbi := hby i hi
      have hbr := bt_b hb hi
      rw [show zn - i = (zn - (i + 1)) + 1 by omega] at hI
      by_cases h : bt B zn i = 32
      · left
        rw [rn_s (if_pos h)] at hI
        refine ⟨(), ?_, hI⟩
        try dsimp only
        conv => lhs; rw [e_165_0]
        rw [h] at hbi
        simp (disch := omega) only [e_165_1, e_165_4, e_165_5, e_165_8, e_165_11, e_165_12, e_165_15, e_165_16, e_165_19, e_165_20, e_165_22, e_165_25, e_165_26, e_165_26_i, e_165_27, e_165_30, e_165_31, e_165_32, e_165_35, gfA_i, pfA_i, List.getElem?_cons_zero, List.getElem?_cons_succ, oK_some, rK_some, pR_some, pR_none, kq_i, kq_r, kq_n, kq_u, kq_o, kq_l, isRf_r, isRf_n, isRf_o, okv_r, okv_n, okv_o, is2_r, is2_o, is2_n, rcv_r, isC_i, if_true, if_pos, zI_add, zI_sub, zI_mul, nc_12, nc_8, nc_6, nc_40, nc_250, nc_3, nc_s, len4_0, len4_1, len4_2, len4_3, len4_4, and_self, and_true, true_and, lenA_i, va_rf_s, va_rf_n, oN_none, oN_some, zI_lt, zI_eq, nat_tn, nc_s, Int.lt_irrefl, Int.reduceEq, Int.reduceNe, Int.reduceLT, Int.reduceLE, Int.reduceSub, Int.reduceAdd, Int.reduceMul, Int.reduceDiv, Int.reduceNeg, Int.reduceToNat, or_self, or_false, false_or, if_false, if_true, not_true_eq_false, not_false_eq_true, or_true, true_or, and_false, false_and, ldI_0, stI_0, isC_mcl, Int.add_zero, zJ_eq, Nat.reduceAdd, Nat.reduceLT, G_o, G_1, G_2, G_3, G_4, G_13, G_14, G_15, G_16, G_17, G_18, G_19, G_20, G_21, G_22, G_23, G_24, G_25, G_26, G_27, G_28, G_29, gm_0, gm_1, gm_2, gm_3, gm_4, gm_5, gm_6, gm_7, gm_8, gm_9, gm_10, gm_11, gm_12, gm_13, gm_14, gm_15, gm_16, gm_17, gm_18, gm_19, gm_20, gm_21, gm_22, gm_23, gm_24, gm_25, gm_26, gm_27, gm_28, gm_29, gm_30, gm_31, gm_32, gm_33, gm_34, gm_35, pm_7, pm_23, pm_24, pm_25, pm_26, pm_27, pm_29, pm_31, pm_34, pm_35, pm_9, pm_19, pm_20, pm_21, pm_22, mG_U, mG_8, mG_25, mG_1, mG_2, mG_3, mG_13, mG_14, mG_15, mG_16, mG_26, mG_27, mG_28, mG_29, mG_17, mG_18, mG_19, mG_20, mG_21, mG_22, mG_23, mG_24, kq_l, va_up_ne, va_up_self, hU0, hbi, va_up2]
      · right
        rw [rn_n (by unfold cBl; rw [if_neg h]; omega)] at hI
        rw [hI]
        try dsimp only
        conv => lhs; rw [e_165_0]
        simp (disch := omega) only [e_165_1, e_165_4, e_165_5, e_165_8, e_165_11, e_165_12, e_165_15, e_165_16, e_165_19, e_165_20, e_165_22, e_165_25, e_165_26, e_165_26_i, e_165_27, e_165_30, e_165_31, e_165_32, e_165_35, gfA_i, pfA_i, List.getElem?_cons_zero, List.getElem?_cons_succ, oK_some, rK_some, pR_some, pR_none, kq_i, kq_r, kq_n, kq_u, kq_o, kq_l, isRf_r, isRf_n, isRf_o, okv_r, okv_n, okv_o, is2_r, is2_o, is2_n, rcv_r, isC_i, if_true, if_pos, zI_add, zI_sub, zI_mul, nc_12, nc_8, nc_6, nc_40, nc_250, nc_3, nc_s, len4_0, len4_1, len4_2, len4_3, len4_4, and_self, and_true, true_and, lenA_i, va_rf_s, va_rf_n, oN_none, oN_some, zI_lt, zI_eq, nat_tn, nc_s, Int.lt_irrefl, Int.reduceEq, Int.reduceNe, Int.reduceLT, Int.reduceLE, Int.reduceSub, Int.reduceAdd, Int.reduceMul, Int.reduceDiv, Int.reduceNeg, Int.reduceToNat, or_self, or_false, false_or, if_false, if_true, not_true_eq_false, not_false_eq_true, or_true, true_or, and_false, false_and, ldI_0, stI_0, isC_mcl, Int.add_zero, zJ_eq, Nat.reduceAdd, Nat.reduceLT, G_o, G_1, G_2, G_3, G_4, G_13, G_14, G_15, G_16, G_17, G_18, G_19, G_20, G_21, G_22, G_23, G_24, G_25, G_26, G_27, G_28, G_29, gm_0, gm_1, gm_2, gm_3, gm_4, gm_5, gm_6, gm_7, gm_8, gm_9, gm_10, gm_11, gm_12, gm_13, gm_14, gm_15, gm_16, gm_17, gm_18, gm_19, gm_20, gm_21, gm_22, gm_23, gm_24, gm_25, gm_26, gm_27, gm_28, gm_29, gm_30, gm_31, gm_32, gm_33, gm_34, gm_35, pm_7, pm_23, pm_24, pm_25, pm_26, pm_27, pm_29, pm_31, pm_34, pm_35, pm_9, pm_19, pm_20, pm_21, pm_22, mG_U, mG_8, mG_25, mG_1, mG_2, mG_3, mG_13, mG_14, mG_15, mG_16, mG_26, mG_27, mG_28, mG_29, mG_17, mG_18, mG_19, mG_20, mG_21, mG_22, mG_23, mG_24, kq_l, va_up_ne, va_up_self, hU0, hbi, h]
    · rw [Nat.sub_self] at hI
      have hI' : tst B zn p = zn := hI
      rw [hI']
      try dsimp only
      rw [e_165_0]
      simp (disch := omega) only [e_165_1, e_165_4, e_165_5, e_165_8, e_165_11, e_165_12, e_165_15, e_165_16, e_165_19, e_165_20, e_165_22, e_165_25, e_165_26, e_165_26_i, e_165_27, e_165_30, e_165_31, e_165_32, e_165_35, gfA_i, pfA_i, List.getElem?_cons_zero, List.getElem?_cons_succ, oK_some, rK_some, pR_some, pR_none, kq_i, kq_r, kq_n, kq_u, kq_o, kq_l, isRf_r, isRf_n, isRf_o, okv_r, okv_n, okv_o, is2_r, is2_o, is2_n, rcv_r, isC_i, if_true, if_pos, zI_add, zI_sub, zI_mul, nc_12, nc_8, nc_6, nc_40, nc_250, nc_3, nc_s, len4_0, len4_1, len4_2, len4_3, len4_4, and_self, and_true, true_and, lenA_i, va_rf_s, va_rf_n, oN_none, oN_some, zI_lt, zI_eq, nat_tn, nc_s, Int.lt_irrefl, Int.reduceEq, Int.reduceNe, Int.reduceLT, Int.reduceLE, Int.reduceSub, Int.reduceAdd, Int.reduceMul, Int.reduceDiv, Int.reduceNeg, Int.reduceToNat, or_self, or_false, false_or, if_false, if_true, not_true_eq_false, not_false_eq_true, or_true, true_or, and_false, false_and, ldI_0, stI_0, isC_mcl, Int.add_zero, zJ_eq, Nat.reduceAdd, Nat.reduceLT, G_o, G_1, G_2, G_3, G_4, G_13, G_14, G_15, G_16, G_17, G_18, G_19, G_20, G_21, G_22, G_23, G_24, G_25, G_26, G_27, G_28, G_29, gm_0, gm_1, gm_2, gm_3, gm_4, gm_5, gm_6, gm_7, gm_8, gm_9, gm_10, gm_11, gm_12, gm_13, gm_14, gm_15, gm_16, gm_17, gm_18, gm_19, gm_20, gm_21, gm_22, gm_23, gm_24, gm_25, gm_26, gm_27, gm_28, gm_29, gm_30, gm_31, gm_32, gm_33, gm_34, gm_35, pm_7, pm_23, pm_24, pm_25, pm_26, pm_27, pm_29, pm_31, pm_34, pm_35, pm_9, pm_19, pm_20, pm_21, pm_22, mG_U, mG_8, mG_25, mG_1, mG_2, mG_3, mG_13, mG_14, mG_15, mG_16, mG_26, mG_27, mG_28, mG_29, mG_17, mG_18, mG_19, mG_20, mG_21, mG_22, mG_23, mG_24, kq_l, va_up_ne, va_up_self, hU0]
  refine hst.trans ?_
  unfold lkU
  by_cases hs : tst B zn p < zn
  · have hbs := hby _ hs
    have hbb := bt_b hb hs
    have hne : ¬ ((tst B zn p : Nat) : Int) = (zn : Int) := by omega
    have hle := r_isLetter (d := d) (M := (G M o S ((lkV U (tst B zn p) 0 (U 2) (tst B zn p))) kt F E mv)) (x := bt B zn (tst B zn p)) ⟨hbb.1, hbb.2.1⟩
    have hdi := r_isDigit (d := d) (M := (G M o S ((lkV U (tst B zn p) 0 (U 2) (tst B zn p))) kt F E mv)) (x := bt B zn (tst B zn p)) ⟨hbb.1, hbb.2.1⟩
    by_cases h1 : sof (bt B zn (tst B zn p)) = 1
    · have htk : tkn B zn (tst B zn p) = 1 := h1
      have hen : ten B zn (tst B zn p) = rn (cTk B zn 1) (zn - tst B zn p) (tst B zn p) := by unfold ten; rw [htk, if_pos (Or.inl rfl)]
      rw [if_pos h1] at hle
      have hgo : den (callD (d + 1)) 165 38 [.ref o] [] (G M o S ((va_up U 1 (tst B zn p))) kt F E mv) = den (callD (d + 1)) 165 90 [.ref o] [] (G M o S ((lkV U (tst B zn p) 0 1 (tst B zn p))) kt F E mv) := by
        simp (disch := omega) only [e_165_38, e_165_39, e_165_40, e_165_43, e_165_46, e_165_47, e_165_48, e_165_51, e_165_52, e_165_55, e_165_56, e_165_59, e_165_62, e_165_63, e_165_64, e_165_67, e_165_70, e_165_71, e_165_74, e_165_75, e_165_78, e_165_79, e_165_82, e_165_85, e_165_86, e_165_87, gfA_i, pfA_i, List.getElem?_cons_zero, List.getElem?_cons_succ, oK_some, rK_some, pR_some, pR_none, kq_i, kq_r, kq_n, kq_u, kq_o, kq_l, isRf_r, isRf_n, isRf_o, okv_r, okv_n, okv_o, is2_r, is2_o, is2_n, rcv_r, isC_i, if_true, if_pos, zI_add, zI_sub, zI_mul, nc_12, nc_8, nc_6, nc_40, nc_250, nc_3, nc_s, len4_0, len4_1, len4_2, len4_3, len4_4, and_self, and_true, true_and, lenA_i, va_rf_s, va_rf_n, oN_none, oN_some, zI_lt, zI_eq, nat_tn, nc_s, Int.lt_irrefl, Int.reduceEq, Int.reduceNe, Int.reduceLT, Int.reduceLE, Int.reduceSub, Int.reduceAdd, Int.reduceMul, Int.reduceDiv, Int.reduceNeg, Int.reduceToNat, or_self, or_false, false_or, if_false, if_true, not_true_eq_false, not_false_eq_true, or_true, true_or, and_false, false_and, ldI_0, stI_0, isC_mcl, Int.add_zero, zJ_eq, Nat.reduceAdd, Nat.reduceLT, G_o, G_1, G_2, G_3, G_4, G_13, G_14, G_15, G_16, G_17, G_18, G_19, G_20, G_21, G_22, G_23, G_24, G_25, G_26, G_27, G_28, G_29, gm_0, gm_1, gm_2, gm_3, gm_4, gm_5, gm_6, gm_7, gm_8, gm_9, gm_10, gm_11, gm_12, gm_13, gm_14, gm_15, gm_16, gm_17, gm_18, gm_19, gm_20, gm_21, gm_22, gm_23, gm_24, gm_25, gm_26, gm_27, gm_28, gm_29, gm_30, gm_31, gm_32, gm_33, gm_34, gm_35, pm_7, pm_23, pm_24, pm_25, pm_26, pm_27, pm_29, pm_31, pm_34, pm_35, pm_9, pm_19, pm_20, pm_21, pm_22, mG_U, mG_8, mG_25, mG_1, mG_2, mG_3, mG_13, mG_14, mG_15, mG_16, mG_26, mG_27, mG_28, mG_29, mG_17, mG_18, mG_19, mG_20, mG_21, mG_22, mG_23, mG_24, kq_l, va_up_ne, va_up_self, hU0, lkV_in3, lkV_0, lkV_1, lkV_u2, hne, hbs, hle]
      refine hgo.trans ?_
      rw [htk, show fgR B zn (tst B zn p) = 0 by unfold fgR; rw [htk, if_neg (by omega)], show teR B zn (tst B zn p) = ten B zn (tst B zn p) by unfold teR; rw [htk, if_neg (by omega)]]
      refine loopQ (fun i (_ : Unit) => den (callD (d + 1)) 165 90 [.ref o] [] (G M o S ((lkV U (tst B zn p) 0 1 (i : Int))) kt F E mv)) (fun x => x = some (none, (G M o S ((lkV U (tst B zn p) 0 1 (ten B zn (tst B zn p)))) kt F E mv))) (fun i _ => ten B zn (tst B zn p) = rn (cTk B zn 1) (zn - i) i) zn (fun i c hi hI => ?_) (fun c hI => ?_) (zn - tst B zn p) (tst B zn p) () (by omega) hen
      · have hbi := hby i hi
        have hbr := bt_b hb hi
        have hli := r_isLetter (d := d) (M := (G M o S ((lkV U (tst B zn p) 0 1 (i : Int))) kt F E mv)) (x := bt B zn i) ⟨hbr.1, hbr.2.1⟩
        rw [show zn - i = (zn - (i + 1)) + 1 by omega] at hI
        by_cases h : sof (bt B zn i) = 1
        · left
          rw [rn_s (if_pos h)] at hI
          rw [if_pos h] at hli
          refine ⟨(), ?_, hI⟩
          try dsimp only
          conv => lhs; rw [e_165_90]
          simp (disch := omega) only [e_165_91, e_165_94, e_165_95, e_165_98, e_165_101, e_165_102, e_165_105, e_165_106, e_165_109, e_165_110, e_165_113, e_165_116, e_165_117, e_165_117_i, e_165_118, e_165_121, e_165_122, e_165_123, e_165_126, gfA_i, pfA_i, List.getElem?_cons_zero, List.getElem?_cons_succ, oK_some, rK_some, pR_some, pR_none, kq_i, kq_r, kq_n, kq_u, kq_o, kq_l, isRf_r, isRf_n, isRf_o, okv_r, okv_n, okv_o, is2_r, is2_o, is2_n, rcv_r, isC_i, if_true, if_pos, zI_add, zI_sub, zI_mul, nc_12, nc_8, nc_6, nc_40, nc_250, nc_3, nc_s, len4_0, len4_1, len4_2, len4_3, len4_4, and_self, and_true, true_and, lenA_i, va_rf_s, va_rf_n, oN_none, oN_some, zI_lt, zI_eq, nat_tn, nc_s, Int.lt_irrefl, Int.reduceEq, Int.reduceNe, Int.reduceLT, Int.reduceLE, Int.reduceSub, Int.reduceAdd, Int.reduceMul, Int.reduceDiv, Int.reduceNeg, Int.reduceToNat, or_self, or_false, false_or, if_false, if_true, not_true_eq_false, not_false_eq_true, or_true, true_or, and_false, false_and, ldI_0, stI_0, isC_mcl, Int.add_zero, zJ_eq, Nat.reduceAdd, Nat.reduceLT, G_o, G_1, G_2, G_3, G_4, G_13, G_14, G_15, G_16, G_17, G_18, G_19, G_20, G_21, G_22, G_23, G_24, G_25, G_26, G_27, G_28, G_29, gm_0, gm_1, gm_2, gm_3, gm_4, gm_5, gm_6, gm_7, gm_8, gm_9, gm_10, gm_11, gm_12, gm_13, gm_14, gm_15, gm_16, gm_17, gm_18, gm_19, gm_20, gm_21, gm_22, gm_23, gm_24, gm_25, gm_26, gm_27, gm_28, gm_29, gm_30, gm_31, gm_32, gm_33, gm_34, gm_35, pm_7, pm_23, pm_24, pm_25, pm_26, pm_27, pm_29, pm_31, pm_34, pm_35, pm_9, pm_19, pm_20, pm_21, pm_22, mG_U, mG_8, mG_25, mG_1, mG_2, mG_3, mG_13, mG_14, mG_15, mG_16, mG_26, mG_27, mG_28, mG_29, mG_17, mG_18, mG_19, mG_20, mG_21, mG_22, mG_23, mG_24, kq_l, va_up_ne, va_up_self, hU0, lkV_0, lkV_1, lkV_u1, hbi, hli]
        · right
          rw [rn_n (by unfold cTk; rw [if_neg h]; omega)] at hI
          rw [if_neg h] at hli
          rw [hI]
          try dsimp only
          conv => lhs; rw [e_165_90]
          simp (disch := omega) only [e_165_91, e_165_94, e_165_95, e_165_98, e_165_101, e_165_102, e_165_105, e_165_106, e_165_109, e_165_110, e_165_113, e_165_116, e_165_117, e_165_117_i, e_165_118, e_165_121, e_165_122, e_165_123, e_165_126, e_165_264, gfA_i, pfA_i, List.getElem?_cons_zero, List.getElem?_cons_succ, oK_some, rK_some, pR_some, pR_none, kq_i, kq_r, kq_n, kq_u, kq_o, kq_l, isRf_r, isRf_n, isRf_o, okv_r, okv_n, okv_o, is2_r, is2_o, is2_n, rcv_r, isC_i, if_true, if_pos, zI_add, zI_sub, zI_mul, nc_12, nc_8, nc_6, nc_40, nc_250, nc_3, nc_s, len4_0, len4_1, len4_2, len4_3, len4_4, and_self, and_true, true_and, lenA_i, va_rf_s, va_rf_n, oN_none, oN_some, zI_lt, zI_eq, nat_tn, nc_s, Int.lt_irrefl, Int.reduceEq, Int.reduceNe, Int.reduceLT, Int.reduceLE, Int.reduceSub, Int.reduceAdd, Int.reduceMul, Int.reduceDiv, Int.reduceNeg, Int.reduceToNat, or_self, or_false, false_or, if_false, if_true, not_true_eq_false, not_false_eq_true, or_true, true_or, and_false, false_and, ldI_0, stI_0, isC_mcl, Int.add_zero, zJ_eq, Nat.reduceAdd, Nat.reduceLT, G_o, G_1, G_2, G_3, G_4, G_13, G_14, G_15, G_16, G_17, G_18, G_19, G_20, G_21, G_22, G_23, G_24, G_25, G_26, G_27, G_28, G_29, gm_0, gm_1, gm_2, gm_3, gm_4, gm_5, gm_6, gm_7, gm_8, gm_9, gm_10, gm_11, gm_12, gm_13, gm_14, gm_15, gm_16, gm_17, gm_18, gm_19, gm_20, gm_21, gm_22, gm_23, gm_24, gm_25, gm_26, gm_27, gm_28, gm_29, gm_30, gm_31, gm_32, gm_33, gm_34, gm_35, pm_7, pm_23, pm_24, pm_25, pm_26, pm_27, pm_29, pm_31, pm_34, pm_35, pm_9, pm_19, pm_20, pm_21, pm_22, mG_U, mG_8, mG_25, mG_1, mG_2, mG_3, mG_13, mG_14, mG_15, mG_16, mG_26, mG_27, mG_28, mG_29, mG_17, mG_18, mG_19, mG_20, mG_21, mG_22, mG_23, mG_24, kq_l, va_up_ne, va_up_self, hU0, lkV_0, lkV_1, hbi, hli]
      · rw [Nat.sub_self] at hI
        have hI' : ten B zn (tst B zn p) = zn := hI
        rw [hI']
        try dsimp only
        rw [e_165_90]
        simp (disch := omega) only [e_165_91, e_165_94, e_165_95, e_165_98, e_165_101, e_165_102, e_165_105, e_165_106, e_165_109, e_165_110, e_165_113, e_165_116, e_165_117, e_165_117_i, e_165_118, e_165_121, e_165_122, e_165_123, e_165_126, e_165_264, gfA_i, pfA_i, List.getElem?_cons_zero, List.getElem?_cons_succ, oK_some, rK_some, pR_some, pR_none, kq_i, kq_r, kq_n, kq_u, kq_o, kq_l, isRf_r, isRf_n, isRf_o, okv_r, okv_n, okv_o, is2_r, is2_o, is2_n, rcv_r, isC_i, if_true, if_pos, zI_add, zI_sub, zI_mul, nc_12, nc_8, nc_6, nc_40, nc_250, nc_3, nc_s, len4_0, len4_1, len4_2, len4_3, len4_4, and_self, and_true, true_and, lenA_i, va_rf_s, va_rf_n, oN_none, oN_some, zI_lt, zI_eq, nat_tn, nc_s, Int.lt_irrefl, Int.reduceEq, Int.reduceNe, Int.reduceLT, Int.reduceLE, Int.reduceSub, Int.reduceAdd, Int.reduceMul, Int.reduceDiv, Int.reduceNeg, Int.reduceToNat, or_self, or_false, false_or, if_false, if_true, not_true_eq_false, not_false_eq_true, or_true, true_or, and_false, false_and, ldI_0, stI_0, isC_mcl, Int.add_zero, zJ_eq, Nat.reduceAdd, Nat.reduceLT, G_o, G_1, G_2, G_3, G_4, G_13, G_14, G_15, G_16, G_17, G_18, G_19, G_20, G_21, G_22, G_23, G_24, G_25, G_26, G_27, G_28, G_29, gm_0, gm_1, gm_2, gm_3, gm_4, gm_5, gm_6, gm_7, gm_8, gm_9, gm_10, gm_11, gm_12, gm_13, gm_14, gm_15, gm_16, gm_17, gm_18, gm_19, gm_20, gm_21, gm_22, gm_23, gm_24, gm_25, gm_26, gm_27, gm_28, gm_29, gm_30, gm_31, gm_32, gm_33, gm_34, gm_35, pm_7, pm_23, pm_24, pm_25, pm_26, pm_27, pm_29, pm_31, pm_34, pm_35, pm_9, pm_19, pm_20, pm_21, pm_22, mG_U, mG_8, mG_25, mG_1, mG_2, mG_3, mG_13, mG_14, mG_15, mG_16, mG_26, mG_27, mG_28, mG_29, mG_17, mG_18, mG_19, mG_20, mG_21, mG_22, mG_23, mG_24, kq_l, va_up_ne, va_up_self, hU0, lkV_0, lkV_1]
    · rw [if_neg h1] at hle
      by_cases h2 : sof (bt B zn (tst B zn p)) = 2
      · have htk : tkn B zn (tst B zn p) = 2 := h2
        have hen : ten B zn (tst B zn p) = rn (cTk B zn 2) (zn - tst B zn p) (tst B zn p) := by unfold ten; rw [htk, if_pos (Or.inr rfl)]
        rw [if_pos h2] at hdi
        have hgo : den (callD (d + 1)) 165 38 [.ref o] [] (G M o S ((va_up U 1 (tst B zn p))) kt F E mv) = den (callD (d + 1)) 165 149 [.ref o] [] (G M o S ((lkV U (tst B zn p) (fgI B zn (tst B zn p) (tst B zn p)) 2 (tst B zn p))) kt F E mv) := by
          rw [show fgI B zn (tst B zn p) (tst B zn p) = 0 from if_pos rfl]
          simp (disch := omega) only [e_165_38, e_165_39, e_165_40, e_165_43, e_165_46, e_165_47, e_165_48, e_165_51, e_165_52, e_165_55, e_165_56, e_165_59, e_165_62, e_165_63, e_165_64, e_165_67, e_165_70, e_165_71, e_165_74, e_165_75, e_165_78, e_165_79, e_165_82, e_165_129, e_165_130, e_165_133, e_165_134, e_165_137, e_165_138, e_165_141, e_165_144, e_165_145, e_165_146, gfA_i, pfA_i, List.getElem?_cons_zero, List.getElem?_cons_succ, oK_some, rK_some, pR_some, pR_none, kq_i, kq_r, kq_n, kq_u, kq_o, kq_l, isRf_r, isRf_n, isRf_o, okv_r, okv_n, okv_o, is2_r, is2_o, is2_n, rcv_r, isC_i, if_true, if_pos, zI_add, zI_sub, zI_mul, nc_12, nc_8, nc_6, nc_40, nc_250, nc_3, nc_s, len4_0, len4_1, len4_2, len4_3, len4_4, and_self, and_true, true_and, lenA_i, va_rf_s, va_rf_n, oN_none, oN_some, zI_lt, zI_eq, nat_tn, nc_s, Int.lt_irrefl, Int.reduceEq, Int.reduceNe, Int.reduceLT, Int.reduceLE, Int.reduceSub, Int.reduceAdd, Int.reduceMul, Int.reduceDiv, Int.reduceNeg, Int.reduceToNat, or_self, or_false, false_or, if_false, if_true, not_true_eq_false, not_false_eq_true, or_true, true_or, and_false, false_and, ldI_0, stI_0, isC_mcl, Int.add_zero, zJ_eq, Nat.reduceAdd, Nat.reduceLT, G_o, G_1, G_2, G_3, G_4, G_13, G_14, G_15, G_16, G_17, G_18, G_19, G_20, G_21, G_22, G_23, G_24, G_25, G_26, G_27, G_28, G_29, gm_0, gm_1, gm_2, gm_3, gm_4, gm_5, gm_6, gm_7, gm_8, gm_9, gm_10, gm_11, gm_12, gm_13, gm_14, gm_15, gm_16, gm_17, gm_18, gm_19, gm_20, gm_21, gm_22, gm_23, gm_24, gm_25, gm_26, gm_27, gm_28, gm_29, gm_30, gm_31, gm_32, gm_33, gm_34, gm_35, pm_7, pm_23, pm_24, pm_25, pm_26, pm_27, pm_29, pm_31, pm_34, pm_35, pm_9, pm_19, pm_20, pm_21, pm_22, mG_U, mG_8, mG_25, mG_1, mG_2, mG_3, mG_13, mG_14, mG_15, mG_16, mG_26, mG_27, mG_28, mG_29, mG_17, mG_18, mG_19, mG_20, mG_21, mG_22, mG_23, mG_24, kq_l, va_up_ne, va_up_self, hU0, lkV_in3, lkV_0, lkV_1, lkV_u2, hne, hbs, hle, hdi]
        refine hgo.trans ?_
        have hfe : fgI B zn (tst B zn p) (ten B zn (tst B zn p)) = nvl B zn (tst B zn p) := by
          have := heb.2.2 (by omega)
          unfold fgI nvl
          rw [if_neg (by omega)]
        rw [htk, show fgR B zn (tst B zn p) = nvl B zn (tst B zn p) by unfold fgR; rw [htk, if_pos rfl], show teR B zn (tst B zn p) = ten B zn (tst B zn p) by unfold teR; rw [htk, if_neg (by omega)], ← hfe]
        refine loopQ (fun i (_ : Unit) => den (callD (d + 1)) 165 149 [.ref o] [] (G M o S ((lkV U (tst B zn p) (fgI B zn (tst B zn p) i) 2 (i : Int))) kt F E mv)) (fun x => x = some (none, (G M o S ((lkV U (tst B zn p) (fgI B zn (tst B zn p) (ten B zn (tst B zn p))) 2 (ten B zn (tst B zn p)))) kt F E mv))) (fun i _ => tst B zn p ≤ i ∧ ten B zn (tst B zn p) = rn (cTk B zn 2) (zn - i) i) zn (fun i c hi hI => ?_) (fun c hI => ?_) (zn - tst B zn p) (tst B zn p) () (by omega) ⟨Nat.le_refl _, hen⟩
        · obtain ⟨hI0, hI⟩ := hI
          have hbi := hby i hi
          have hbr := bt_b hb hi
          have hli := r_isDigit (d := d) (M := (G M o S ((lkV U (tst B zn p) (fgI B zn (tst B zn p) i) 2 (i : Int))) kt F E mv)) (x := bt B zn i) ⟨hbr.1, hbr.2.1⟩
          rw [show zn - i = (zn - (i + 1)) + 1 by omega] at hI
          by_cases h : sof (bt B zn i) = 2
          · left
            rw [rn_s (if_pos h)] at hI
            rw [if_pos h] at hli
            refine ⟨(), ?_, by omega, hI⟩
            have hstep : fgI B zn (tst B zn p) (i + 1) = if (i : Int) - ((tst B zn p : Nat) : Int) < 2 then fgI B zn (tst B zn p) i * 10 + bt B zn i - 48 else 1000 := by
              unfold fgI
              by_cases g0 : i = tst B zn p
              · rw [if_neg (by omega), if_pos (by omega), if_pos (by omega), if_pos g0, ← g0]
                unfold dg
                omega
              · by_cases g1 : i = tst B zn p + 1
                · rw [if_neg (by omega), if_neg (by omega), if_pos (by omega), if_pos (by omega), if_neg g0, if_pos g1, ← g1]
                  unfold dg
                  omega
                · rw [if_neg (by omega), if_neg (by omega), if_neg (by omega), if_neg (by omega)]
            try dsimp only
            conv => lhs; rw [e_165_149]
            rw [hstep]
            by_cases g : (i : Int) - ((tst B zn p : Nat) : Int) < 2
            · rw [if_pos g]
              simp (disch := omega) only [e_165_150, e_165_153, e_165_154, e_165_157, e_165_160, e_165_161, e_165_164, e_165_165, e_165_168, e_165_169, e_165_172, e_165_175, e_165_176, e_165_177, e_165_180, e_165_181, e_165_184, e_165_185, e_165_186, e_165_189, e_165_190, e_165_193, e_165_195, e_165_196, e_165_197, e_165_200, e_165_201, e_165_204, e_165_205, e_165_206, e_165_208, e_165_209, e_165_212, e_165_215, e_165_218, e_165_219, e_165_219_i, e_165_220, e_165_223, e_165_224, e_165_225, e_165_228, gfA_i, pfA_i, List.getElem?_cons_zero, List.getElem?_cons_succ, oK_some, rK_some, pR_some, pR_none, kq_i, kq_r, kq_n, kq_u, kq_o, kq_l, isRf_r, isRf_n, isRf_o, okv_r, okv_n, okv_o, is2_r, is2_o, is2_n, rcv_r, isC_i, if_true, if_pos, zI_add, zI_sub, zI_mul, nc_12, nc_8, nc_6, nc_40, nc_250, nc_3, nc_s, len4_0, len4_1, len4_2, len4_3, len4_4, and_self, and_true, true_and, lenA_i, va_rf_s, va_rf_n, oN_none, oN_some, zI_lt, zI_eq, nat_tn, nc_s, Int.lt_irrefl, Int.reduceEq, Int.reduceNe, Int.reduceLT, Int.reduceLE, Int.reduceSub, Int.reduceAdd, Int.reduceMul, Int.reduceDiv, Int.reduceNeg, Int.reduceToNat, or_self, or_false, false_or, if_false, if_true, not_true_eq_false, not_false_eq_true, or_true, true_or, and_false, false_and, ldI_0, stI_0, isC_mcl, Int.add_zero, zJ_eq, Nat.reduceAdd, Nat.reduceLT, G_o, G_1, G_2, G_3, G_4, G_13, G_14, G_15, G_16, G_17, G_18, G_19, G_20, G_21, G_22, G_23, G_24, G_25, G_26, G_27, G_28, G_29, gm_0, gm_1, gm_2, gm_3, gm_4, gm_5, gm_6, gm_7, gm_8, gm_9, gm_10, gm_11, gm_12, gm_13, gm_14, gm_15, gm_16, gm_17, gm_18, gm_19, gm_20, gm_21, gm_22, gm_23, gm_24, gm_25, gm_26, gm_27, gm_28, gm_29, gm_30, gm_31, gm_32, gm_33, gm_34, gm_35, pm_7, pm_23, pm_24, pm_25, pm_26, pm_27, pm_29, pm_31, pm_34, pm_35, pm_9, pm_19, pm_20, pm_21, pm_22, mG_U, mG_8, mG_25, mG_1, mG_2, mG_3, mG_13, mG_14, mG_15, mG_16, mG_26, mG_27, mG_28, mG_29, mG_17, mG_18, mG_19, mG_20, mG_21, mG_22, mG_23, mG_24, kq_l, va_up_ne, va_up_self, hU0, lkV_0, lkV_1, lkV_3, lkV_4, lkV_u1, lkV_u4, hbi, hli, g]
            · rw [if_neg g]
              simp (disch := omega) only [e_165_150, e_165_153, e_165_154, e_165_157, e_165_160, e_165_161, e_165_164, e_165_165, e_165_168, e_165_169, e_165_172, e_165_175, e_165_176, e_165_177, e_165_180, e_165_181, e_165_184, e_165_185, e_165_186, e_165_189, e_165_190, e_165_193, e_165_195, e_165_196, e_165_197, e_165_200, e_165_201, e_165_204, e_165_205, e_165_206, e_165_208, e_165_209, e_165_212, e_165_215, e_165_218, e_165_219, e_165_219_i, e_165_220, e_165_223, e_165_224, e_165_225, e_165_228, gfA_i, pfA_i, List.getElem?_cons_zero, List.getElem?_cons_succ, oK_some, rK_some, pR_some, pR_none, kq_i, kq_r, kq_n, kq_u, kq_o, kq_l, isRf_r, isRf_n, isRf_o, okv_r, okv_n, okv_o, is2_r, is2_o, is2_n, rcv_r, isC_i, if_true, if_pos, zI_add, zI_sub, zI_mul, nc_12, nc_8, nc_6, nc_40, nc_250, nc_3, nc_s, len4_0, len4_1, len4_2, len4_3, len4_4, and_self, and_true, true_and, lenA_i, va_rf_s, va_rf_n, oN_none, oN_some, zI_lt, zI_eq, nat_tn, nc_s, Int.lt_irrefl, Int.reduceEq, Int.reduceNe, Int.reduceLT, Int.reduceLE, Int.reduceSub, Int.reduceAdd, Int.reduceMul, Int.reduceDiv, Int.reduceNeg, Int.reduceToNat, or_self, or_false, false_or, if_false, if_true, not_true_eq_false, not_false_eq_true, or_true, true_or, and_false, false_and, ldI_0, stI_0, isC_mcl, Int.add_zero, zJ_eq, Nat.reduceAdd, Nat.reduceLT, G_o, G_1, G_2, G_3, G_4, G_13, G_14, G_15, G_16, G_17, G_18, G_19, G_20, G_21, G_22, G_23, G_24, G_25, G_26, G_27, G_28, G_29, gm_0, gm_1, gm_2, gm_3, gm_4, gm_5, gm_6, gm_7, gm_8, gm_9, gm_10, gm_11, gm_12, gm_13, gm_14, gm_15, gm_16, gm_17, gm_18, gm_19, gm_20, gm_21, gm_22, gm_23, gm_24, gm_25, gm_26, gm_27, gm_28, gm_29, gm_30, gm_31, gm_32, gm_33, gm_34, gm_35, pm_7, pm_23, pm_24, pm_25, pm_26, pm_27, pm_29, pm_31, pm_34, pm_35, pm_9, pm_19, pm_20, pm_21, pm_22, mG_U, mG_8, mG_25, mG_1, mG_2, mG_3, mG_13, mG_14, mG_15, mG_16, mG_26, mG_27, mG_28, mG_29, mG_17, mG_18, mG_19, mG_20, mG_21, mG_22, mG_23, mG_24, kq_l, va_up_ne, va_up_self, hU0, lkV_0, lkV_1, lkV_3, lkV_4, lkV_u1, lkV_u4, hbi, hli, g]
          · right
            rw [rn_n (by unfold cTk; rw [if_neg h]; omega)] at hI
            rw [if_neg h] at hli
            rw [hI]
            try dsimp only
            conv => lhs; rw [e_165_149]
            simp (disch := omega) only [e_165_150, e_165_153, e_165_154, e_165_157, e_165_160, e_165_161, e_165_164, e_165_165, e_165_168, e_165_169, e_165_172, e_165_264, gfA_i, pfA_i, List.getElem?_cons_zero, List.getElem?_cons_succ, oK_some, rK_some, pR_some, pR_none, kq_i, kq_r, kq_n, kq_u, kq_o, kq_l, isRf_r, isRf_n, isRf_o, okv_r, okv_n, okv_o, is2_r, is2_o, is2_n, rcv_r, isC_i, if_true, if_pos, zI_add, zI_sub, zI_mul, nc_12, nc_8, nc_6, nc_40, nc_250, nc_3, nc_s, len4_0, len4_1, len4_2, len4_3, len4_4, and_self, and_true, true_and, lenA_i, va_rf_s, va_rf_n, oN_none, oN_some, zI_lt, zI_eq, nat_tn, nc_s, Int.lt_irrefl, Int.reduceEq, Int.reduceNe, Int.reduceLT, Int.reduceLE, Int.reduceSub, Int.reduceAdd, Int.reduceMul, Int.reduceDiv, Int.reduceNeg, Int.reduceToNat, or_self, or_false, false_or, if_false, if_true, not_true_eq_false, not_false_eq_true, or_true, true_or, and_false, false_and, ldI_0, stI_0, isC_mcl, Int.add_zero, zJ_eq, Nat.reduceAdd, Nat.reduceLT, G_o, G_1, G_2, G_3, G_4, G_13, G_14, G_15, G_16, G_17, G_18, G_19, G_20, G_21, G_22, G_23, G_24, G_25, G_26, G_27, G_28, G_29, gm_0, gm_1, gm_2, gm_3, gm_4, gm_5, gm_6, gm_7, gm_8, gm_9, gm_10, gm_11, gm_12, gm_13, gm_14, gm_15, gm_16, gm_17, gm_18, gm_19, gm_20, gm_21, gm_22, gm_23, gm_24, gm_25, gm_26, gm_27, gm_28, gm_29, gm_30, gm_31, gm_32, gm_33, gm_34, gm_35, pm_7, pm_23, pm_24, pm_25, pm_26, pm_27, pm_29, pm_31, pm_34, pm_35, pm_9, pm_19, pm_20, pm_21, pm_22, mG_U, mG_8, mG_25, mG_1, mG_2, mG_3, mG_13, mG_14, mG_15, mG_16, mG_26, mG_27, mG_28, mG_29, mG_17, mG_18, mG_19, mG_20, mG_21, mG_22, mG_23, mG_24, kq_l, va_up_ne, va_up_self, hU0, lkV_0, lkV_1, hbi, hli]
        · obtain ⟨hI0, hI⟩ := hI
          rw [Nat.sub_self] at hI
          have hI' : ten B zn (tst B zn p) = zn := hI
          rw [hI']
          try dsimp only
          rw [e_165_149]
          simp (disch := omega) only [e_165_150, e_165_153, e_165_154, e_165_157, e_165_160, e_165_161, e_165_164, e_165_165, e_165_168, e_165_169, e_165_172, e_165_264, gfA_i, pfA_i, List.getElem?_cons_zero, List.getElem?_cons_succ, oK_some, rK_some, pR_some, pR_none, kq_i, kq_r, kq_n, kq_u, kq_o, kq_l, isRf_r, isRf_n, isRf_o, okv_r, okv_n, okv_o, is2_r, is2_o, is2_n, rcv_r, isC_i, if_true, if_pos, zI_add, zI_sub, zI_mul, nc_12, nc_8, nc_6, nc_40, nc_250, nc_3, nc_s, len4_0, len4_1, len4_2, len4_3, len4_4, and_self, and_true, true_and, lenA_i, va_rf_s, va_rf_n, oN_none, oN_some, zI_lt, zI_eq, nat_tn, nc_s, Int.lt_irrefl, Int.reduceEq, Int.reduceNe, Int.reduceLT, Int.reduceLE, Int.reduceSub, Int.reduceAdd, Int.reduceMul, Int.reduceDiv, Int.reduceNeg, Int.reduceToNat, or_self, or_false, false_or, if_false, if_true, not_true_eq_false, not_false_eq_true, or_true, true_or, and_false, false_and, ldI_0, stI_0, isC_mcl, Int.add_zero, zJ_eq, Nat.reduceAdd, Nat.reduceLT, G_o, G_1, G_2, G_3, G_4, G_13, G_14, G_15, G_16, G_17, G_18, G_19, G_20, G_21, G_22, G_23, G_24, G_25, G_26, G_27, G_28, G_29, gm_0, gm_1, gm_2, gm_3, gm_4, gm_5, gm_6, gm_7, gm_8, gm_9, gm_10, gm_11, gm_12, gm_13, gm_14, gm_15, gm_16, gm_17, gm_18, gm_19, gm_20, gm_21, gm_22, gm_23, gm_24, gm_25, gm_26, gm_27, gm_28, gm_29, gm_30, gm_31, gm_32, gm_33, gm_34, gm_35, pm_7, pm_23, pm_24, pm_25, pm_26, pm_27, pm_29, pm_31, pm_34, pm_35, pm_9, pm_19, pm_20, pm_21, pm_22, mG_U, mG_8, mG_25, mG_1, mG_2, mG_3, mG_13, mG_14, mG_15, mG_16, mG_26, mG_27, mG_28, mG_29, mG_17, mG_18, mG_19, mG_20, mG_21, mG_22, mG_23, mG_24, kq_l, va_up_ne, va_up_self, hU0, lkV_0, lkV_1]
      · rw [if_neg h2] at hdi
        have hfg : fgR B zn (tst B zn p) = 0 := if_neg h2
        by_cases h3 : bt B zn (tst B zn p) = 59
        · have htk : tkn B zn (tst B zn p) = 3 := (sof_3 _).mpr h3
          have hte : teR B zn (tst B zn p) = tst B zn p + 1 := by unfold teR ten; rw [htk, if_neg (by omega), if_neg (by omega), if_pos rfl]
          have e1 : ((tst B zn p + 1 : Nat) : Int) = ((tst B zn p : Nat) : Int) + 1 := rfl
          rw [hfg, htk, hte, e1]
          rw [h3] at hbs hle hdi
          simp (disch := omega) only [e_165_38, e_165_39, e_165_40, e_165_43, e_165_46, e_165_47, e_165_48, e_165_51, e_165_52, e_165_55, e_165_56, e_165_59, e_165_62, e_165_63, e_165_64, e_165_67, e_165_70, e_165_71, e_165_74, e_165_75, e_165_78, e_165_79, e_165_82, e_165_129, e_165_130, e_165_133, e_165_134, e_165_137, e_165_138, e_165_141, e_165_231, e_165_232, e_165_233, e_165_236, e_165_237, e_165_240, e_165_241, e_165_243, e_165_246, e_165_247, e_165_250, e_165_251, e_165_254, e_165_255, e_165_255_i, e_165_256, e_165_259, e_165_260, e_165_261, e_165_264, gfA_i, pfA_i, List.getElem?_cons_zero, List.getElem?_cons_succ, oK_some, rK_some, pR_some, pR_none, kq_i, kq_r, kq_n, kq_u, kq_o, kq_l, isRf_r, isRf_n, isRf_o, okv_r, okv_n, okv_o, is2_r, is2_o, is2_n, rcv_r, isC_i, if_true, if_pos, zI_add, zI_sub, zI_mul, nc_12, nc_8, nc_6, nc_40, nc_250, nc_3, len4_0, len4_1, len4_2, len4_3, len4_4, and_self, and_true, true_and, lenA_i, va_rf_s, va_rf_n, oN_none, oN_some, zI_lt, zI_eq, nat_tn, Int.lt_irrefl, Int.reduceEq, Int.reduceNe, Int.reduceLT, Int.reduceLE, Int.reduceSub, Int.reduceAdd, Int.reduceMul, Int.reduceDiv, Int.reduceNeg, Int.reduceToNat, or_self, or_false, false_or, if_false, if_true, not_true_eq_false, not_false_eq_true, or_true, true_or, and_false, false_and, ldI_0, stI_0, ldQ_q, gfA_0, gfA_43, gfA_65, H_0, H_43, H_48, H_65, H_66, H_67, kq_l, isC_0, isC_43, isC_65, isC_sh, gfA_sh, gfA_i, pfA_i, List.getElem?_cons_zero, List.getElem?_cons_succ, oK_some, rK_some, pR_some, pR_none, kq_i, kq_r, kq_n, kq_u, kq_o, kq_l, isRf_r, isRf_n, isRf_o, okv_r, okv_n, okv_o, is2_r, is2_o, is2_n, rcv_r, isC_i, if_true, if_pos, zI_add, zI_sub, zI_mul, nc_12, nc_8, nc_6, nc_40, nc_250, nc_3, len4_0, len4_1, len4_2, len4_3, len4_4, and_self, and_true, true_and, lenA_i, va_rf_s, va_rf_n, oN_none, oN_some, zI_lt, zI_eq, nat_tn, Int.lt_irrefl, Int.reduceEq, Int.reduceNe, Int.reduceLT, Int.reduceLE, Int.reduceSub, Int.reduceAdd, Int.reduceMul, Int.reduceDiv, Int.reduceNeg, Int.reduceToNat, or_self, or_false, false_or, if_false, if_true, not_true_eq_false, not_false_eq_true, or_true, true_or, and_false, false_and, ldI_0, stI_0, isC_mcl, Int.add_zero, zJ_eq, Nat.reduceAdd, Nat.reduceLT, G_o, G_1, G_2, G_3, G_4, G_13, G_14, G_15, G_16, G_17, G_18, G_19, G_20, G_21, G_22, G_23, G_24, G_25, G_26, G_27, G_28, G_29, gm_0, gm_1, gm_2, gm_3, gm_4, gm_5, gm_6, gm_7, gm_8, gm_9, gm_10, gm_11, gm_12, gm_13, gm_14, gm_15, gm_16, gm_17, gm_18, gm_19, gm_20, gm_21, gm_22, gm_23, gm_24, gm_25, gm_26, gm_27, gm_28, gm_29, gm_30, gm_31, gm_32, gm_33, gm_34, gm_35, pm_7, pm_23, pm_24, pm_25, pm_26, pm_27, pm_29, pm_31, pm_34, pm_35, pm_9, pm_19, pm_20, pm_21, pm_22, mG_U, mG_8, mG_25, mG_1, mG_2, mG_3, mG_13, mG_14, mG_15, mG_16, mG_26, mG_27, mG_28, mG_29, mG_17, mG_18, mG_19, mG_20, mG_21, mG_22, mG_23, mG_24, kq_l, va_up_ne, va_up_self, hU0, lkV_in3, lkV_0, lkV_1, lkV_u2, lkV_u1, hne, hbs, hle, hdi]
        · have htk : tkn B zn (tst B zn p) = 4 := by
            have h0 : ¬ sof (bt B zn (tst B zn p)) = 0 := fun q => by have := (sof_0 _).mp q; omega
            have h33 : ¬ sof (bt B zn (tst B zn p)) = 3 := fun q => h3 ((sof_3 _).mp q)
            have := sof_b (bt B zn (tst B zn p))
            show sof (bt B zn (tst B zn p)) = 4
            omega
          have hte : teR B zn (tst B zn p) = tst B zn p + 1 := if_pos htk
          have e1 : ((tst B zn p + 1 : Nat) : Int) = ((tst B zn p : Nat) : Int) + 1 := rfl
          rw [hfg, htk, hte, e1]
          simp (disch := omega) only [e_165_38, e_165_39, e_165_40, e_165_43, e_165_46, e_165_47, e_165_48, e_165_51, e_165_52, e_165_55, e_165_56, e_165_59, e_165_62, e_165_63, e_165_64, e_165_67, e_165_70, e_165_71, e_165_74, e_165_75, e_165_78, e_165_79, e_165_82, e_165_129, e_165_130, e_165_133, e_165_134, e_165_137, e_165_138, e_165_141, e_165_231, e_165_232, e_165_233, e_165_236, e_165_237, e_165_240, e_165_241, e_165_243, e_165_246, e_165_247, e_165_250, e_165_251, e_165_254, e_165_255, e_165_255_i, e_165_256, e_165_259, e_165_260, e_165_261, e_165_264, gfA_i, pfA_i, List.getElem?_cons_zero, List.getElem?_cons_succ, oK_some, rK_some, pR_some, pR_none, kq_i, kq_r, kq_n, kq_u, kq_o, kq_l, isRf_r, isRf_n, isRf_o, okv_r, okv_n, okv_o, is2_r, is2_o, is2_n, rcv_r, isC_i, if_true, if_pos, zI_add, zI_sub, zI_mul, nc_12, nc_8, nc_6, nc_40, nc_250, nc_3, len4_0, len4_1, len4_2, len4_3, len4_4, and_self, and_true, true_and, lenA_i, va_rf_s, va_rf_n, oN_none, oN_some, zI_lt, zI_eq, nat_tn, Int.lt_irrefl, Int.reduceEq, Int.reduceNe, Int.reduceLT, Int.reduceLE, Int.reduceSub, Int.reduceAdd, Int.reduceMul, Int.reduceDiv, Int.reduceNeg, Int.reduceToNat, or_self, or_false, false_or, if_false, if_true, not_true_eq_false, not_false_eq_true, or_true, true_or, and_false, false_and, ldI_0, stI_0, ldQ_q, gfA_0, gfA_43, gfA_65, H_0, H_43, H_48, H_65, H_66, H_67, kq_l, isC_0, isC_43, isC_65, isC_sh, gfA_sh, gfA_i, pfA_i, List.getElem?_cons_zero, List.getElem?_cons_succ, oK_some, rK_some, pR_some, pR_none, kq_i, kq_r, kq_n, kq_u, kq_o, kq_l, isRf_r, isRf_n, isRf_o, okv_r, okv_n, okv_o, is2_r, is2_o, is2_n, rcv_r, isC_i, if_true, if_pos, zI_add, zI_sub, zI_mul, nc_12, nc_8, nc_6, nc_40, nc_250, nc_3, len4_0, len4_1, len4_2, len4_3, len4_4, and_self, and_true, true_and, lenA_i, va_rf_s, va_rf_n, oN_none, oN_some, zI_lt, zI_eq, nat_tn, Int.lt_irrefl, Int.reduceEq, Int.reduceNe, Int.reduceLT, Int.reduceLE, Int.reduceSub, Int.reduceAdd, Int.reduceMul, Int.reduceDiv, Int.reduceNeg, Int.reduceToNat, or_self, or_false, false_or, if_false, if_true, not_true_eq_false, not_false_eq_true, or_true, true_or, and_false, false_and, ldI_0, stI_0, isC_mcl, Int.add_zero, zJ_eq, Nat.reduceAdd, Nat.reduceLT, G_o, G_1, G_2, G_3, G_4, G_13, G_14, G_15, G_16, G_17, G_18, G_19, G_20, G_21, G_22, G_23, G_24, G_25, G_26, G_27, G_28, G_29, gm_0, gm_1, gm_2, gm_3, gm_4, gm_5, gm_6, gm_7, gm_8, gm_9, gm_10, gm_11, gm_12, gm_13, gm_14, gm_15, gm_16, gm_17, gm_18, gm_19, gm_20, gm_21, gm_22, gm_23, gm_24, gm_25, gm_26, gm_27, gm_28, gm_29, gm_30, gm_31, gm_32, gm_33, gm_34, gm_35, pm_7, pm_23, pm_24, pm_25, pm_26, pm_27, pm_29, pm_31, pm_34, pm_35, pm_9, pm_19, pm_20, pm_21, pm_22, mG_U, mG_8, mG_25, mG_1, mG_2, mG_3, mG_13, mG_14, mG_15, mG_16, mG_26, mG_27, mG_28, mG_29, mG_17, mG_18, mG_19, mG_20, mG_21, mG_22, mG_23, mG_24, kq_l, va_up_ne, va_up_self, hU0, lkV_in3, lkV_0, lkV_1, lkV_u2, lkV_u1, hne, hbs, hle, hdi, h3]
  · have he : tst B zn p = zn := by omega
    have htk : tkn B zn (tst B zn p) = 0 := by unfold tkn; rw [bt_n hs]; rfl
    have hte : teR B zn (tst B zn p) = tst B zn p := by unfold teR ten; rw [htk, if_neg (by omega), if_neg (by omega), if_neg (by omega)]
    have hfg : fgR B zn (tst B zn p) = 0 := by unfold fgR; rw [htk, if_neg (by omega)]
    rw [hte, hfg, htk, he]
    simp (disch := omega) only [e_165_38, e_165_39, e_165_40, e_165_43, e_165_46, e_165_47, e_165_48, e_165_51, e_165_52, e_165_55, e_165_56, e_165_59, e_165_62, e_165_63, e_165_64, e_165_67, e_165_264, gfA_i, pfA_i, List.getElem?_cons_zero, List.getElem?_cons_succ, oK_some, rK_some, pR_some, pR_none, kq_i, kq_r, kq_n, kq_u, kq_o, kq_l, isRf_r, isRf_n, isRf_o, okv_r, okv_n, okv_o, is2_r, is2_o, is2_n, rcv_r, isC_i, if_true, if_pos, zI_add, zI_sub, zI_mul, nc_12, nc_8, nc_6, nc_40, nc_250, nc_3, nc_s, len4_0, len4_1, len4_2, len4_3, len4_4, and_self, and_true, true_and, lenA_i, va_rf_s, va_rf_n, oN_none, oN_some, zI_lt, zI_eq, nat_tn, nc_s, Int.lt_irrefl, Int.reduceEq, Int.reduceNe, Int.reduceLT, Int.reduceLE, Int.reduceSub, Int.reduceAdd, Int.reduceMul, Int.reduceDiv, Int.reduceNeg, Int.reduceToNat, or_self, or_false, false_or, if_false, if_true, not_true_eq_false, not_false_eq_true, or_true, true_or, and_false, false_and, ldI_0, stI_0, isC_mcl, Int.add_zero, zJ_eq, Nat.reduceAdd, Nat.reduceLT, G_o, G_1, G_2, G_3, G_4, G_13, G_14, G_15, G_16, G_17, G_18, G_19, G_20, G_21, G_22, G_23, G_24, G_25, G_26, G_27, G_28, G_29, gm_0, gm_1, gm_2, gm_3, gm_4, gm_5, gm_6, gm_7, gm_8, gm_9, gm_10, gm_11, gm_12, gm_13, gm_14, gm_15, gm_16, gm_17, gm_18, gm_19, gm_20, gm_21, gm_22, gm_23, gm_24, gm_25, gm_26, gm_27, gm_28, gm_29, gm_30, gm_31, gm_32, gm_33, gm_34, gm_35, pm_7, pm_23, pm_24, pm_25, pm_26, pm_27, pm_29, pm_31, pm_34, pm_35, pm_9, pm_19, pm_20, pm_21, pm_22, mG_U, mG_8, mG_25, mG_1, mG_2, mG_3, mG_13, mG_14, mG_15, mG_16, mG_26, mG_27, mG_28, mG_29, mG_17, mG_18, mG_19, mG_20, mG_21, mG_22, mG_23, mG_24, kq_l, va_up_ne, va_up_self, hU0, lkV_in3, lkV_0, lkV_1, lkV_u2]
end RL2
