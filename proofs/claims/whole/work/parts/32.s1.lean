theorem nc_12 : ((12 : Nat) : Int) = 12 := rfl
theorem nc_8 : ((8 : Nat) : Int) = 8 := rfl
theorem nc_6 : ((6 : Nat) : Int) = 6 := rfl
theorem nc_40 : ((40 : Nat) : Int) = 40 := rfl
theorem nc_250 : ((250 : Nat) : Int) = 250 := rfl
theorem nc_3 : ((3 : Nat) : Int) = 3 := rfl
theorem nc_s (i : Nat) : ((i + 1 : Nat) : Int) = (i : Int) + 1 := rfl
theorem nat_tn (i : Nat) : ((i : Int)).toNat = i := Int.toNat_natCast i
theorem len4_0 : (([] : List Value).length ≤ 4) = True := by simp
theorem len4_1 (a : Value) : ([a].length ≤ 4) = True := by simp
theorem len4_2 (a b : Value) : ([a, b].length ≤ 4) = True := by simp
theorem len4_3 (a b c : Value) : ([a, b, c].length ≤ 4) = True := by simp
theorem len4_4 (a b c e : Value) : ([a, b, c, e].length ≤ 4) = True := by simp
theorem ldB_01 (S : Sc) (i : Nat) : ldB S i = 0 ∨ ldB S i = 1 := by unfold ldB; split <;> simp
theorem fN_fst {α β : Type} (g : Nat → α → α) (h : Nat → α × β → β) : ∀ (k i : Nat) (a : α × β), (fN (fun i (a : α × β) => (g i a.1, h i a)) k i a).1 = fN g k i a.1 := by
  intro k
  induction k with
  | zero => intro i a; rfl
  | succ k ih => intro i a; exact ih (i + 1) _
def pairsN (S : Sc) : Int := fN (fun i a => a + ldB S i) 12 0 0
theorem m_countPairs {d : Nat} {M : AM} {o : Nat} {S : Sc} (hI : In S) (hR : RS M o S) : callD (d + 2) 40 [.ref o] M = some (some (.int (zI (pairsN S))), M) := by
  have h0 := hR.1
  have h1 := hR.2.1
  rw [c_40]
  simp (disch := omega) only [e_40_0, e_40_1, e_40_2, e_40_3, e_40_6, e_40_7, e_40_8, e_40_9, e_40_10, e_40_11, h0, h1, gfA_i, pfA_i, List.getElem?_cons_zero, List.getElem?_cons_succ, oK_some, rK_some, pR_some, pR_none, kq_i, kq_r, kq_n, kq_u, kq_o, kq_l, isRf_r, isRf_n, isRf_o, okv_r, okv_n, okv_o, is2_r, is2_o, is2_n, rcv_r, isC_i, if_true, if_pos, zI_add, zI_sub, zI_mul, nc_12, nc_8, nc_6, nc_40, nc_250, nc_3, nc_s, len4_0, len4_1, len4_2, len4_3, len4_4, and_self, and_true, true_and, lenA_i, va_rf_s, va_rf_n, oN_none, oN_some]
  refine (loopN (fun i (a : Int × Value) => den (callD (d + 1)) 40 13 [.ref o, .int (zI a.1), .ref (o + 1), .int (zI 12), .int (zI i), a.2] [] M) (fun i a => (a.1 + ldB S i, .ref (o + 2 + i))) 12 (fun i a hi => ?_) 12 0 (0, uu) rfl).trans ?_
  · dsimp only
    conv => lhs; rw [e_40_13]
    simp (disch := omega) only [e_40_15, e_40_16, e_40_19, e_40_20, e_40_22, e_40_23, e_40_25, e_40_27, e_40_30, e_40_33, e_40_36, e_40_39, h0, h1, gfA_i, pfA_i, List.getElem?_cons_zero, List.getElem?_cons_succ, oK_some, rK_some, pR_some, pR_none, kq_i, kq_r, kq_n, kq_u, kq_o, kq_l, isRf_r, isRf_n, isRf_o, okv_r, okv_n, okv_o, is2_r, is2_o, is2_n, rcv_r, isC_i, if_true, if_pos, zI_add, zI_sub, zI_mul, nc_12, nc_8, nc_6, nc_40, nc_250, nc_3, nc_s, len4_0, len4_1, len4_2, len4_3, len4_4, and_self, and_true, true_and, lenA_i, va_rf_s, va_rf_n, oN_none, oN_some, ldQ_q, zI_lt, nat_tn, hi, m_leads hI hR hi, hR.2.2 i hi, pcl]
    rcases ldB_01 S i with h | h <;> simp (disch := omega) [h, zI_eq]
  · rw [e_40_13]
    simp (disch := omega) only [e_40_15, e_40_16, e_40_19, e_40_20, e_40_22, e_40_23, e_40_25, e_40_27, e_40_30, e_40_33, e_40_36, e_40_39, e_40_42, e_40_43, gfA_i, pfA_i, List.getElem?_cons_zero, List.getElem?_cons_succ, oK_some, rK_some, pR_some, pR_none, kq_i, kq_r, kq_n, kq_u, kq_o, kq_l, isRf_r, isRf_n, isRf_o, okv_r, okv_n, okv_o, is2_r, is2_o, is2_n, rcv_r, isC_i, if_true, if_pos, zI_add, zI_sub, zI_mul, nc_12, nc_8, nc_6, nc_40, nc_250, nc_3, nc_s, len4_0, len4_1, len4_2, len4_3, len4_4, and_self, and_true, true_and, lenA_i, va_rf_s, va_rf_n, oN_none, oN_some, zI_lt, fN_fst (fun i a => a + ldB S i)]
    simp [pairsN]
