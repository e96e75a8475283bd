/-- whom a choice names -/
def optR (c : Int) : Option Nat := if c < 0 then none else some (1 + 2 + c.toNat)
theorem elc_2 : elc 2 = 1 := rfl
section K5
variable {S S2 K : Sc} {kp : Int} {X X' : Xm} {T : Sc} {nC : Nat → Int} {E : Nat → Nat → Int64} {z : Int} {B : Nat → Int32} {Y : Yt} {Rf : Nat → Int32} {D : AM} {y5 y3 y4 : Value}
theorem mU43_x {v w : Int} : mU (H S S2 K kp X T nC E z B Y Rf D) 43 (.inl (0, [.ref 44, .ref 45, .ref 46, .ref 47, .int (zI v), .int (zI w), .int (zI (X.1 2)), .int (zI (X.1 3))])) = (H S S2 K kp ((va_up (va_up X.1 0 v) 1 w, X.2)) T nC E z B Y Rf D) := mU_43 (f := va_up (va_up X.1 0 v) 1 w)
theorem k_gather {d : Nat} (hI : In S) : ∃ X', callD (d + 2) 6 [.ref 43, .ref 1] (H S S2 K kp X T nC E z B Y Rf D) = some (none, (H S S2 K kp (X') T nC E z B Y Rf D)) ∧ gth S X' := by
  have hR : ∀ X, RS (H S S2 K kp (X) T nC E z B Y Rf D) 1 S := fun X => RS_1
  rw [c_6 (is2_r _)]
  simp (disch := omega) only [e_6_0, e_6_1, e_6_2, e_6_5, e_6_6, e_6_7, e_6_10, e_6_11, e_6_14, e_6_15, e_6_16, e_6_17, e_6_18, e_6_19, gfA_i, pfA_i, List.getElem?_cons_zero, List.getElem?_cons_succ, oK_some, rK_some, pR_some, pR_none, kq_i, kq_r, kq_n, kq_u, kq_o, kq_l, isRf_r, isRf_n, isRf_o, okv_r, okv_n, okv_o, is2_r, is2_o, is2_n, rcv_r, isC_i, if_true, if_pos, zI_add, zI_sub, zI_mul, nc_12, nc_8, nc_6, nc_40, nc_250, nc_3, nc_s, len4_0, len4_1, len4_2, len4_3, len4_4, and_self, and_true, true_and, lenA_i, va_rf_s, va_rf_n, oN_none, oN_some, zI_lt, zI_eq, nat_tn, nc_s, Int.lt_irrefl, Int.reduceEq, Int.reduceNe, Int.reduceLT, Int.reduceLE, Int.reduceSub, Int.reduceAdd, Int.reduceMul, Int.reduceDiv, Int.reduceNeg, Int.reduceToNat, or_self, or_false, false_or, if_false, if_true, not_true_eq_false, not_false_eq_true, or_true, true_or, and_false, false_and, ldI_0, stI_0, ldQ_q, gfA_0, gfA_43, gfA_65, H_0, H_43, H_48, H_65, H_66, H_67, kq_l, isC_0, isC_43, isC_65, isC_sh, gfA_sh, c43, mU_at, mU_mU, List.set_cons_succ, List.set_cons_zero, okv_0, okv_1, okv_i, okv_r, okv_n, okv_o, List.length_cons, List.length_nil, Nat.reduceAdd, Nat.reduceLT, Nat.zero_le, Nat.reduceLeDiff, mU43_x, (hR _).1, (hR _).2.1]
  refine loopQ (fun q (y : Xm × Value) => den (callD (d + 1)) 6 21 [.ref 43, .ref 1, .ref (1 + 1), .int (zI 12), .int (zI q), y.2] [] (H S S2 K kp ((y.1)) T nC E z B Y Rf D)) (fun x => ∃ X', x = some (none, (H S S2 K kp (X') T nC E z B Y Rf D)) ∧ gth S X') (fun q y => (y.1.1 0 = ((gaN (fre S 0) 6 q).1 : Int) ∧ y.1.1 1 = ((gaN (fre S 1) 12 q).1 : Int)) ∧ (∀ x, x < (gaN (fre S 0) 6 q).1 → y.1.2.1 x = some (1 + 2 + (gaN (fre S 0) 6 q).2 x)) ∧ ∀ x, x < (gaN (fre S 1) 12 q).1 → y.1.2.2.1 x = some (1 + 2 + (gaN (fre S 1) 12 q).2 x)) 12 (fun q y hq hy => ?_) (fun y hy => ?_) 12 0 ((va_up (va_up X.1 0 0) 1 0, X.2), uu) rfl ⟨⟨rfl, rfl⟩, (fun x hx => absurd hx (Nat.not_lt_zero x)), fun x hx => absurd hx (Nat.not_lt_zero x)⟩
  · obtain ⟨X, y5⟩ := y
    obtain ⟨⟨h0, h1⟩, h2, h3⟩ := hy
    try dsimp only at h0 h1 h2 h3 ⊢
    have l0 := gaN_le (fre S 0) 6 q
    have l1 := gaN_le (fre S 1) 12 q
    have f0 := m_free (d := d) (s := 0) hI (hR X) hq (Or.inl rfl)
    have f1 := fun X => m_free (d := d) (s := 1) hI (hR X) hq (Or.inr rfl)
    have f0' : callD (d + 1) 15 [.ref (1 + 2 + q), .int (zI 0)] (H S S2 K kp (X) T nC E z B Y Rf D) = some (some (.int (zI (fre S 0 q))), (H S S2 K kp (X) T nC E z B Y Rf D)) := f0
    have f1' : ∀ X, callD (d + 1) 15 [.ref (1 + 2 + q), .int (zI 1)] (H S S2 K kp (X) T nC E z B Y Rf D) = some (some (.int (zI (fre S 1 q))), (H S S2 K kp (X) T nC E z B Y Rf D)) := f1
    have hiq : ∀ X, isC ((H S S2 K kp (X) T nC E z B Y Rf D).2.2 (1 + 2 + q)) 1 = true := fun X => by rw [(hR X).2.2 q hq]; rfl
    have hne : ∀ c : Int, c = 0 ∨ c = 1 → ∀ v : Value, True := fun _ _ _ => trivial
    left
    by_cases e0 : fre S 0 q = 1
    · have e1 : fre S 1 q = 0 := by
        rcases fre_01 S 1 q with h | h
        · exact h
        · exfalso
          unfold fre at e0 h
          split at e0
          · split at h
            · omega
            · omega
          · omega
      rw [e0] at f0'
      simp only [e1] at f1'
      have g1 : gaN (fre S 1) 12 (q + 1) = gaN (fre S 1) 12 q := by rw [gaN_s]; exact if_neg (fun x => by omega)
      by_cases h6 : (gaN (fre S 0) 6 q).1 < 6
      · have g0 : gaN (fre S 0) 6 (q + 1) = ((gaN (fre S 0) 6 q).1 + 1, va_up (gaN (fre S 0) 6 q).2 (gaN (fre S 0) 6 q).1 q) := by rw [gaN_s]; exact if_pos ⟨e0, h6⟩
        have hst := stQ_r (M := (H S S2 K kp (X) T nC E z B Y Rf D)) (t := 2) (n := 6) (f := X.2.1) (a := ((gaN (fre S 0) 6 q).1 : Int)) (q := 1 + 2 + q) (Or.inl rfl) (by omega) (by omega) (by omega) (hiq X)
        rw [nat_tn] at hst
        rw [g0, g1]
        refine ⟨((va_up X.1 0 (((gaN (fre S 0) 6 q).1 : Int) + 1), va_up X.2.1 (gaN (fre S 0) 6 q).1 (some (1 + 2 + q)), X.2.2), .ref (1 + 2 + q)), ?_, ⟨rfl, h1⟩, fun x hx => ?_, h3⟩
        · conv => lhs; rw [e_6_21]
          simp (disch := omega) only [e_6_23, e_6_24, e_6_27, e_6_28, e_6_30, e_6_31, e_6_33, e_6_35, e_6_36, e_6_39, e_6_42, e_6_43, e_6_46, e_6_48, e_6_51, e_6_52, e_6_55, e_6_56, e_6_59, e_6_61, e_6_62, e_6_63, e_6_63_i, e_6_64, e_6_67, e_6_68, e_6_69, e_6_72, e_6_74, e_6_75, e_6_78, e_6_81, e_6_82, e_6_85, e_6_87, e_6_90, e_6_91, e_6_94, e_6_95, e_6_98, e_6_100, e_6_101, e_6_102, e_6_102_i, e_6_103, e_6_106, e_6_107, e_6_108, e_6_111, e_6_114, gfA_i, pfA_i, List.getElem?_cons_zero, List.getElem?_cons_succ, oK_some, rK_some, pR_some, pR_none, kq_i, kq_r, kq_n, kq_u, kq_o, kq_l, isRf_r, isRf_n, isRf_o, okv_r, okv_n, okv_o, is2_r, is2_o, is2_n, rcv_r, isC_i, if_true, if_pos, zI_add, zI_sub, zI_mul, nc_12, nc_8, nc_6, nc_40, nc_250, nc_3, nc_s, len4_0, len4_1, len4_2, len4_3, len4_4, and_self, and_true, true_and, lenA_i, va_rf_s, va_rf_n, oN_none, oN_some, zI_lt, zI_eq, nat_tn, nc_s, Int.lt_irrefl, Int.reduceEq, Int.reduceNe, Int.reduceLT, Int.reduceLE, Int.reduceSub, Int.reduceAdd, Int.reduceMul, Int.reduceDiv, Int.reduceNeg, Int.reduceToNat, or_self, or_false, false_or, if_false, if_true, not_true_eq_false, not_false_eq_true, or_true, true_or, and_false, false_and, ldI_0, stI_0, ldQ_q, gfA_0, gfA_43, gfA_65, H_0, H_43, H_48, H_65, H_66, H_67, kq_l, isC_0, isC_43, isC_65, isC_sh, gfA_sh, (hR _).2.1, hq, hiq, f0', h0, H_44, hst, mU_44, c43, mU_at, mU_mU, List.set_cons_succ, List.set_cons_zero, okv_0, okv_1, okv_i, okv_r, okv_n, okv_o, List.length_cons, List.length_nil, Nat.reduceAdd, Nat.reduceLT, Nat.zero_le, Nat.reduceLeDiff, mU43_0, f1']
        · show va_up X.2.1 (gaN (fre S 0) 6 q).1 (some (1 + 2 + q)) x = some (1 + 2 + va_up (gaN (fre S 0) 6 q).2 (gaN (fre S 0) 6 q).1 q x)
          have hx' : x < (gaN (fre S 0) 6 q).1 + 1 := hx
          by_cases ex : x = (gaN (fre S 0) 6 q).1
          · rw [ex, va_up_at, va_up_at]
          · rw [va_up_ne _ _ ex, va_up_ne _ _ ex]
            exact h2 x (by omega)
      · have g0 : gaN (fre S 0) 6 (q + 1) = gaN (fre S 0) 6 q := by rw [gaN_s]; exact if_neg (fun x => h6 x.2)
        have h6' : ¬ ((gaN (fre S 0) 6 q).1 : Int) < 6 := by omega
        rw [g0, g1]
        refine ⟨(X, .ref (1 + 2 + q)), ?_, ⟨h0, h1⟩, h2, h3⟩
        conv => lhs; rw [e_6_21]
        simp (disch := omega) only [e_6_23, e_6_24, e_6_27, e_6_28, e_6_30, e_6_31, e_6_33, e_6_35, e_6_36, e_6_39, e_6_42, e_6_43, e_6_46, e_6_48, e_6_51, e_6_52, e_6_55, e_6_56, e_6_59, e_6_61, e_6_62, e_6_63, e_6_63_i, e_6_64, e_6_67, e_6_68, e_6_69, e_6_72, e_6_74, e_6_75, e_6_78, e_6_81, e_6_82, e_6_85, e_6_87, e_6_90, e_6_91, e_6_94, e_6_95, e_6_98, e_6_100, e_6_101, e_6_102, e_6_102_i, e_6_103, e_6_106, e_6_107, e_6_108, e_6_111, e_6_114, gfA_i, pfA_i, List.getElem?_cons_zero, List.getElem?_cons_succ, oK_some, rK_some, pR_some, pR_none, kq_i, kq_r, kq_n, kq_u, kq_o, kq_l, isRf_r, isRf_n, isRf_o, okv_r, okv_n, okv_o, is2_r, is2_o, is2_n, rcv_r, isC_i, if_true, if_pos, zI_add, zI_sub, zI_mul, nc_12, nc_8, nc_6, nc_40, nc_250, nc_3, nc_s, len4_0, len4_1, len4_2, len4_3, len4_4, and_self, and_true, true_and, lenA_i, va_rf_s, va_rf_n, oN_none, oN_some, zI_lt, zI_eq, nat_tn, nc_s, Int.lt_irrefl, Int.reduceEq, Int.reduceNe, Int.reduceLT, Int.reduceLE, Int.reduceSub, Int.reduceAdd, Int.reduceMul, Int.reduceDiv, Int.reduceNeg, Int.reduceToNat, or_self, or_false, false_or, if_false, if_true, not_true_eq_false, not_false_eq_true, or_true, true_or, and_false, false_and, ldI_0, stI_0, ldQ_q, gfA_0, gfA_43, gfA_65, H_0, H_43, H_48, H_65, H_66, H_67, kq_l, isC_0, isC_43, isC_65, isC_sh, gfA_sh, (hR _).2.1, hq, hiq, f0', h0, h6', f1']
    · have e00 : fre S 0 q = 0 := by rcases fre_01 S 0 q with h | h; exact h; exact absurd h e0
      rw [e00] at f0'
      have g0 : gaN (fre S 0) 6 (q + 1) = gaN (fre S 0) 6 q := by rw [gaN_s]; exact if_neg (fun x => e0 x.1)
      by_cases e1 : fre S 1 q = 1
      · simp only [e1] at f1'
        have g1 : gaN (fre S 1) 12 (q + 1) = ((gaN (fre S 1) 12 q).1 + 1, va_up (gaN (fre S 1) 12 q).2 (gaN (fre S 1) 12 q).1 q) := by rw [gaN_s]; exact if_pos ⟨e1, by omega⟩
        have hst := stQ_r (M := (H S S2 K kp (X) T nC E z B Y Rf D)) (t := 2) (n := 12) (f := X.2.2.1) (a := ((gaN (fre S 1) 12 q).1 : Int)) (q := 1 + 2 + q) (Or.inl rfl) (by omega) (by omega) (by omega) (hiq X)
        rw [nat_tn] at hst
        rw [g0, g1]
        refine ⟨((va_up X.1 1 (((gaN (fre S 1) 12 q).1 : Int) + 1), X.2.1, va_up X.2.2.1 (gaN (fre S 1) 12 q).1 (some (1 + 2 + q)), X.2.2.2), .ref (1 + 2 + q)), ?_, ⟨h0, rfl⟩, h2, fun x hx => ?_⟩
        · conv => lhs; rw [e_6_21]
          simp (disch := omega) only [e_6_23, e_6_24, e_6_27, e_6_28, e_6_30, e_6_31, e_6_33, e_6_35, e_6_36, e_6_39, e_6_42, e_6_43, e_6_46, e_6_48, e_6_51, e_6_52, e_6_55, e_6_56, e_6_59, e_6_61, e_6_62, e_6_63, e_6_63_i, e_6_64, e_6_67, e_6_68, e_6_69, e_6_72, e_6_74, e_6_75, e_6_78, e_6_81, e_6_82, e_6_85, e_6_87, e_6_90, e_6_91, e_6_94, e_6_95, e_6_98, e_6_100, e_6_101, e_6_102, e_6_102_i, e_6_103, e_6_106, e_6_107, e_6_108, e_6_111, e_6_114, gfA_i, pfA_i, List.getElem?_cons_zero, List.getElem?_cons_succ, oK_some, rK_some, pR_some, pR_none, kq_i, kq_r, kq_n, kq_u, kq_o, kq_l, isRf_r, isRf_n, isRf_o, okv_r, okv_n, okv_o, is2_r, is2_o, is2_n, rcv_r, isC_i, if_true, if_pos, zI_add, zI_sub, zI_mul, nc_12, nc_8, nc_6, nc_40, nc_250, nc_3, nc_s, len4_0, len4_1, len4_2, len4_3, len4_4, and_self, and_true, true_and, lenA_i, va_rf_s, va_rf_n, oN_none, oN_some, zI_lt, zI_eq, nat_tn, nc_s, Int.lt_irrefl, Int.reduceEq, Int.reduceNe, Int.reduceLT, Int.reduceLE, Int.reduceSub, Int.reduceAdd, Int.reduceMul, Int.reduceDiv, Int.reduceNeg, Int.reduceToNat, or_self, or_false, false_or, if_false, if_true, not_true_eq_false, not_false_eq_true, or_true, true_or, and_false, false_and, ldI_0, stI_0, ldQ_q, gfA_0, gfA_43, gfA_65, H_0, H_43, H_48, H_65, H_66, H_67, kq_l, isC_0, isC_43, isC_65, isC_sh, gfA_sh, (hR _).2.1, hq, hiq, f0', h1, H_45, hst, mU_45, c43, mU_at, mU_mU, List.set_cons_succ, List.set_cons_zero, okv_0, okv_1, okv_i, okv_r, okv_n, okv_o, List.length_cons, List.length_nil, Nat.reduceAdd, Nat.reduceLT, Nat.zero_le, Nat.reduceLeDiff, mU43_1, f1']
        · show va_up X.2.2.1 (gaN (fre S 1) 12 q).1 (some (1 + 2 + q)) x = some (1 + 2 + va_up (gaN (fre S 1) 12 q).2 (gaN (fre S 1) 12 q).1 q x)
          have hx' : x < (gaN (fre S 1) 12 q).1 + 1 := hx
          by_cases ex : x = (gaN (fre S 1) 12 q).1
          · rw [ex, va_up_at, va_up_at]
          · rw [va_up_ne _ _ ex, va_up_ne _ _ ex]
            exact h3 x (by omega)
      · have e10 : fre S 1 q = 0 := by rcases fre_01 S 1 q with h | h; exact h; exact absurd h e1
        simp only [e10] at f1'
        have g1 : gaN (fre S 1) 12 (q + 1) = gaN (fre S 1) 12 q := by rw [gaN_s]; exact if_neg (fun x => e1 x.1)
        rw [g0, g1]
        refine ⟨(X, .ref (1 + 2 + q)), ?_, ⟨h0, h1⟩, h2, h3⟩
        conv => lhs; rw [e_6_21]
        simp (disch := omega) only [e_6_23, e_6_24, e_6_27, e_6_28, e_6_30, e_6_31, e_6_33, e_6_35, e_6_36, e_6_39, e_6_42, e_6_43, e_6_46, e_6_48, e_6_51, e_6_52, e_6_55, e_6_56, e_6_59, e_6_61, e_6_62, e_6_63, e_6_63_i, e_6_64, e_6_67, e_6_68, e_6_69, e_6_72, e_6_74, e_6_75, e_6_78, e_6_81, e_6_82, e_6_85, e_6_87, e_6_90, e_6_91, e_6_94, e_6_95, e_6_98, e_6_100, e_6_101, e_6_102, e_6_102_i, e_6_103, e_6_106, e_6_107, e_6_108, e_6_111, e_6_114, gfA_i, pfA_i, List.getElem?_cons_zero, List.getElem?_cons_succ, oK_some, rK_some, pR_some, pR_none, kq_i, kq_r, kq_n, kq_u, kq_o, kq_l, isRf_r, isRf_n, isRf_o, okv_r, okv_n, okv_o, is2_r, is2_o, is2_n, rcv_r, isC_i, if_true, if_pos, zI_add, zI_sub, zI_mul, nc_12, nc_8, nc_6, nc_40, nc_250, nc_3, nc_s, len4_0, len4_1, len4_2, len4_3, len4_4, and_self, and_true, true_and, lenA_i, va_rf_s, va_rf_n, oN_none, oN_some, zI_lt, zI_eq, nat_tn, nc_s, Int.lt_irrefl, Int.reduceEq, Int.reduceNe, Int.reduceLT, Int.reduceLE, Int.reduceSub, Int.reduceAdd, Int.reduceMul, Int.reduceDiv, Int.reduceNeg, Int.reduceToNat, or_self, or_false, false_or, if_false, if_true, not_true_eq_false, not_false_eq_true, or_true, true_or, and_false, false_and, ldI_0, stI_0, ldQ_q, gfA_0, gfA_43, gfA_65, H_0, H_43, H_48, H_65, H_66, H_67, kq_l, isC_0, isC_43, isC_65, isC_sh, gfA_sh, (hR _).2.1, hq, hiq, f0', f1']
  · obtain ⟨X, y5⟩ := y
    obtain ⟨⟨h0, h1⟩, h2, h3⟩ := hy
    try dsimp only at h0 h1 h2 h3 ⊢
    refine ⟨X, ?_, h0, h1, h2, h3⟩
    rw [e_6_21]
    simp (disch := omega) only [e_6_23, e_6_24, e_6_117, gfA_i, pfA_i, List.getElem?_cons_zero, List.getElem?_cons_succ, oK_some, rK_some, pR_some, pR_none, kq_i, kq_r, kq_n, kq_u, kq_o, kq_l, isRf_r, isRf_n, isRf_o, okv_r, okv_n, okv_o, is2_r, is2_o, is2_n, rcv_r, isC_i, if_true, if_pos, zI_add, zI_sub, zI_mul, nc_12, nc_8, nc_6, nc_40, nc_250, nc_3, len4_0, len4_1, len4_2, len4_3, len4_4, and_self, and_true, true_and, lenA_i, va_rf_s, va_rf_n, oN_none, oN_some, zI_lt, zI_eq, nat_tn, Int.lt_irrefl, Int.reduceEq, Int.reduceNe, Int.reduceLT, Int.reduceLE, Int.reduceSub, Int.reduceAdd, Int.reduceMul, Int.reduceDiv, Int.reduceNeg, Int.reduceToNat, or_self, or_false, false_or, if_false, if_true, not_true_eq_false, not_false_eq_true, or_true, true_or, and_false, false_and, ldI_0, stI_0, ldQ_q, gfA_0, gfA_43, gfA_65, H_0, H_43, H_48, H_65, H_66, H_67, kq_l, isC_0, isC_43, isC_65, isC_sh, gfA_sh]
theorem k_solveL {d : Nat} (hI : In S) : ∀ r : Nat, r ≤ (rws S).1 → ∀ (X : Xm) (y3 : Value), gth S X → tblR S X r → ∃ X' y, den (callD (d + 4)) 5 12 [.ref 43, .ref 1, .int (zI ((r : Int) + -1)), y3] [] (H S S2 K kp X T nC E z B Y Rf D) = den (callD (d + 4)) 5 54 [.ref 43, .ref 1, .int (zI (-1)), y] [] (H S S2 K kp (X') T nC E z B Y Rf D) ∧ gth S X' ∧ tblR S X' 0 := by
  intro r
  induction r with
  | zero =>
    intro _ X y3 hg ht
    refine ⟨X, y3, ?_, hg, ht⟩
    rw [show (((0 : Nat) : Int) + -1) = -1 from rfl, e_5_12]
    simp (disch := omega) only [e_5_13, gfA_i, pfA_i, List.getElem?_cons_zero, List.getElem?_cons_succ, oK_some, rK_some, pR_some, pR_none, kq_i, kq_r, kq_n, kq_u, kq_o, kq_l, isRf_r, isRf_n, isRf_o, okv_r, okv_n, okv_o, is2_r, is2_o, is2_n, rcv_r, isC_i, if_true, if_pos, zI_add, zI_sub, zI_mul, nc_12, nc_8, nc_6, nc_40, nc_250, nc_3, len4_0, len4_1, len4_2, len4_3, len4_4, and_self, and_true, true_and, lenA_i, va_rf_s, va_rf_n, oN_none, oN_some, zI_lt, zI_eq, nat_tn, Int.lt_irrefl, Int.reduceEq, Int.reduceNe, Int.reduceLT, Int.reduceLE, Int.reduceSub, Int.reduceAdd, Int.reduceMul, Int.reduceDiv, Int.reduceNeg, Int.reduceToNat, or_self, or_false, false_or, if_false, if_true, not_true_eq_false, not_false_eq_true, or_true, true_or, and_false, false_and, ldI_0, stI_0, ldQ_q, gfA_0, gfA_43, gfA_65, H_0, H_43, H_48, H_65, H_66, H_67, kq_l, isC_0, isC_43, isC_65, isC_sh, gfA_sh]
  | succ r ih =>
    intro hr X y3 hg ht
    have hc := rcp (S := S) (r := r) (by omega)
    have h6 := rws_le S
    have hP0 := Nat.two_pow_pos (cls S).1
    have hsh := sh_dec (cls S).1 (by omega)
    have e0 : ¬ (r : Int) < 0 := by omega
    rw [show (((r + 1 : Nat) : Int) + -1) = (r : Int) by omega]
    have hin := loopQ (fun t (X : Xm) => den (callD (d + 4)) 5 18 [.ref 43, .ref 1, .int (zI r), .int (zI t)] [] (H S S2 K kp X T nC E z B Y Rf D)) (fun x => ∃ X' y, x = den (callD (d + 4)) 5 48 [.ref 43, .ref 1, .int (zI r), y] [] (H S S2 K kp (X') T nC E z B Y Rf D) ∧ gth S X' ∧ tblR S X' r) (fun t X => gth S X ∧ tblR S X (r + 1) ∧ ∀ t', t' < t → pop12 t' ≤ r → X.2.2.2.2 (r * 2 ^ (cls S).1 + t') = zI (dvS S ((rws S).1 - r) t').1) (2 ^ (cls S).1) (fun t X ht hX => ?_) (fun X hX => ?_) (2 ^ (cls S).1) 0 X (by omega) ⟨hg, ht, fun t' h => absurd h (Nat.not_lt_zero t')⟩
    · obtain ⟨X1, y1, h1, h2, h3⟩ := hin
      obtain ⟨X2, y2, h4, h5, h7⟩ := ih (by omega) X1 y1 h2 h3
      refine ⟨X2, y2, ?_, h5, h7⟩
      rw [e_5_12]
      simp (disch := omega) only [e_5_13, e_5_16, e_5_17, gfA_i, pfA_i, List.getElem?_cons_zero, List.getElem?_cons_succ, oK_some, rK_some, pR_some, pR_none, kq_i, kq_r, kq_n, kq_u, kq_o, kq_l, isRf_r, isRf_n, isRf_o, okv_r, okv_n, okv_o, is2_r, is2_o, is2_n, rcv_r, isC_i, if_true, if_pos, zI_add, zI_sub, zI_mul, nc_12, nc_8, nc_6, nc_40, nc_250, nc_3, len4_0, len4_1, len4_2, len4_3, len4_4, and_self, and_true, true_and, lenA_i, va_rf_s, va_rf_n, oN_none, oN_some, zI_lt, zI_eq, nat_tn, Int.lt_irrefl, Int.reduceEq, Int.reduceNe, Int.reduceLT, Int.reduceLE, Int.reduceSub, Int.reduceAdd, Int.reduceMul, Int.reduceDiv, Int.reduceNeg, Int.reduceToNat, or_self, or_false, false_or, if_false, if_true, not_true_eq_false, not_false_eq_true, or_true, true_or, and_false, false_and, ldI_0, stI_0, ldQ_q, gfA_0, gfA_43, gfA_65, H_0, H_43, H_48, H_65, H_66, H_67, kq_l, isC_0, isC_43, isC_65, isC_sh, gfA_sh, e0]
      have e00 : zI ((0 : Nat) : Int) = zI 0 := rfl
      try dsimp only at h1
      rw [e00] at h1
      refine h1.trans ?_
      refine Eq.trans ?_ h4
      simp (disch := omega) only [e_5_48, e_5_51, gfA_i, pfA_i, List.getElem?_cons_zero, List.getElem?_cons_succ, oK_some, rK_some, pR_some, pR_none, kq_i, kq_r, kq_n, kq_u, kq_o, kq_l, isRf_r, isRf_n, isRf_o, okv_r, okv_n, okv_o, is2_r, is2_o, is2_n, rcv_r, isC_i, if_true, if_pos, zI_add, zI_sub, zI_mul, nc_12, nc_8, nc_6, nc_40, nc_250, nc_3, len4_0, len4_1, len4_2, len4_3, len4_4, and_self, and_true, true_and, lenA_i, va_rf_s, va_rf_n, oN_none, oN_some, zI_lt, zI_eq, nat_tn, Int.lt_irrefl, Int.reduceEq, Int.reduceNe, Int.reduceLT, Int.reduceLE, Int.reduceSub, Int.reduceAdd, Int.reduceMul, Int.reduceDiv, Int.reduceNeg, Int.reduceToNat, or_self, or_false, false_or, if_false, if_true, not_true_eq_false, not_false_eq_true, or_true, true_or, and_false, false_and, ldI_0, stI_0, ldQ_q, gfA_0, gfA_43, gfA_65, H_0, H_43, H_48, H_65, H_66, H_67, kq_l, isC_0, isC_43, isC_65, isC_sh, gfA_sh]
    · obtain ⟨hg, htb, hrow⟩ := hX
      have hg2 := hg.2.1
      have hbc := m_bits12 (d := d + 3) (M := (H S S2 K kp X T nC E z B Y Rf D)) (t := t) (by omega)
      have hpb := pop12_b t
      left
      by_cases hp : pop12 t ≤ r
      · have hw := k_weigh (X := X) (S := S) (S2 := S2) (K := K) (kp := kp) (T := T) (nC := nC) (E := E) (z := z) (B := B) (Y := Y) (Rf := Rf) (D := D) (d := d) hI hg htb (by omega) ht hp
        have hp' : ¬ (r : Int) < ((pop12 t : Nat) : Int) := by omega
        refine ⟨(X.1, X.2.1, X.2.2.1, X.2.2.2.1, upd X.2.2.2.2 (r * 2 ^ (cls S).1 + t) (zI (dvS S ((rws S).1 - r) t).1)), ?_, hg, fun r' h1 h2 t' h3 h4 => ?_, fun t' h3 h4 => ?_⟩
        · conv => lhs; rw [e_5_18]
          simp (disch := omega) only [e_5_19, e_5_20, e_5_21, e_5_24, e_5_25, e_5_28, e_5_29, e_5_32, e_5_33, e_5_36, e_5_37, e_5_38, e_5_39, e_5_42, e_5_45, gfA_i, pfA_i, List.getElem?_cons_zero, List.getElem?_cons_succ, oK_some, rK_some, pR_some, pR_none, kq_i, kq_r, kq_n, kq_u, kq_o, kq_l, isRf_r, isRf_n, isRf_o, okv_r, okv_n, okv_o, is2_r, is2_o, is2_n, rcv_r, isC_i, if_true, if_pos, zI_add, zI_sub, zI_mul, nc_12, nc_8, nc_6, nc_40, nc_250, nc_3, nc_s, len4_0, len4_1, len4_2, len4_3, len4_4, and_self, and_true, true_and, lenA_i, va_rf_s, va_rf_n, oN_none, oN_some, zI_lt, zI_eq, nat_tn, nc_s, Int.lt_irrefl, Int.reduceEq, Int.reduceNe, Int.reduceLT, Int.reduceLE, Int.reduceSub, Int.reduceAdd, Int.reduceMul, Int.reduceDiv, Int.reduceNeg, Int.reduceToNat, or_self, or_false, false_or, if_false, if_true, not_true_eq_false, not_false_eq_true, or_true, true_or, and_false, false_and, ldI_0, stI_0, ldQ_q, gfA_0, gfA_43, gfA_65, H_0, H_43, H_48, H_65, H_66, H_67, kq_l, isC_0, isC_43, isC_65, isC_sh, gfA_sh, isC_43, hg2, hsh, hbc, hp', hw]
        · show (if r' * 2 ^ (cls S).1 + t' = r * 2 ^ (cls S).1 + t then _ else X.2.2.2.2 (r' * 2 ^ (cls S).1 + t')) = _
          rw [if_neg (fun q => by have := (idx_inj h3 ht q).1; omega)]
          exact htb r' h1 h2 t' h3 h4
        · show (if r * 2 ^ (cls S).1 + t' = r * 2 ^ (cls S).1 + t then _ else X.2.2.2.2 (r * 2 ^ (cls S).1 + t')) = _
          by_cases et : t' = t
          · rw [if_pos (by rw [et]), et]
          · rw [if_neg (by omega)]
            exact hrow t' (by omega) h4
      · have hp' : (r : Int) < ((pop12 t : Nat) : Int) := by omega
        refine ⟨X, ?_, hg, htb, fun t' h3 h4 => hrow t' (by
          have : ¬ t' = t := fun q => hp (by rw [← q]; exact h4)
          omega) h4⟩
        conv => lhs; rw [e_5_18]
        simp (disch := omega) only [e_5_19, e_5_20, e_5_21, e_5_24, e_5_25, e_5_28, e_5_29, e_5_32, e_5_33, e_5_36, e_5_37, e_5_38, e_5_39, e_5_42, e_5_45, gfA_i, pfA_i, List.getElem?_cons_zero, List.getElem?_cons_succ, oK_some, rK_some, pR_some, pR_none, kq_i, kq_r, kq_n, kq_u, kq_o, kq_l, isRf_r, isRf_n, isRf_o, okv_r, okv_n, okv_o, is2_r, is2_o, is2_n, rcv_r, isC_i, if_true, if_pos, zI_add, zI_sub, zI_mul, nc_12, nc_8, nc_6, nc_40, nc_250, nc_3, nc_s, len4_0, len4_1, len4_2, len4_3, len4_4, and_self, and_true, true_and, lenA_i, va_rf_s, va_rf_n, oN_none, oN_some, zI_lt, zI_eq, nat_tn, nc_s, Int.lt_irrefl, Int.reduceEq, Int.reduceNe, Int.reduceLT, Int.reduceLE, Int.reduceSub, Int.reduceAdd, Int.reduceMul, Int.reduceDiv, Int.reduceNeg, Int.reduceToNat, or_self, or_false, false_or, if_false, if_true, not_true_eq_false, not_false_eq_true, or_true, true_or, and_false, false_and, ldI_0, stI_0, ldQ_q, gfA_0, gfA_43, gfA_65, H_0, H_43, H_48, H_65, H_66, H_67, kq_l, isC_0, isC_43, isC_65, isC_sh, gfA_sh, isC_43, hg2, hsh, hbc, hp']
    · obtain ⟨hg, htb, hrow⟩ := hX
      have hg2 := hg.2.1
      refine ⟨X, .int (zI ((2 ^ (cls S).1 : Nat) : Int)), ?_, hg, fun r' h1 h2 t h3 h4 => ?_⟩
      · conv => lhs; rw [e_5_18]
        simp (disch := omega) only [e_5_19, e_5_20, e_5_21, e_5_24, e_5_25, gfA_i, pfA_i, List.getElem?_cons_zero, List.getElem?_cons_succ, oK_some, rK_some, pR_some, pR_none, kq_i, kq_r, kq_n, kq_u, kq_o, kq_l, isRf_r, isRf_n, isRf_o, okv_r, okv_n, okv_o, is2_r, is2_o, is2_n, rcv_r, isC_i, if_true, if_pos, zI_add, zI_sub, zI_mul, nc_12, nc_8, nc_6, nc_40, nc_250, nc_3, nc_s, len4_0, len4_1, len4_2, len4_3, len4_4, and_self, and_true, true_and, lenA_i, va_rf_s, va_rf_n, oN_none, oN_some, zI_lt, zI_eq, nat_tn, nc_s, Int.lt_irrefl, Int.reduceEq, Int.reduceNe, Int.reduceLT, Int.reduceLE, Int.reduceSub, Int.reduceAdd, Int.reduceMul, Int.reduceDiv, Int.reduceNeg, Int.reduceToNat, or_self, or_false, false_or, if_false, if_true, not_true_eq_false, not_false_eq_true, or_true, true_or, and_false, false_and, ldI_0, stI_0, ldQ_q, gfA_0, gfA_43, gfA_65, H_0, H_43, H_48, H_65, H_66, H_67, kq_l, isC_0, isC_43, isC_65, isC_sh, gfA_sh, hg2, hsh]
      · by_cases er : r' = r
        · subst er; exact hrow t h3 h4
        · exact htb r' (by omega) h2 t h3 h4
theorem k_firstBest {d r t : Nat} (hI : In S) (hg : gth S X) (ht : tblR S X r) (hr : r < (rws S).1) (h2 : t < 2 ^ (cls S).1) (hp : pop12 t ≤ r) : callD (d + 4) 11 [.ref 43, .int (zI r), .int (zI t)] (H S S2 K kp X T nC E z B Y Rf D) = some (some (.int (zI (dvS S ((rws S).1 - r) t).2)), (H S S2 K kp X T nC E z B Y Rf D)) := by
  have hc := rcp hr
  have h6 := rws_le S
  have ht1 : tblR S X (r + 1) := fun r' h1 h2 t' h3 h4 => ht r' (by omega) h2 t' h3 h4
  have hwf := k_worthFrom (X := X) (S := S) (S2 := S2) (K := K) (kp := kp) (T := T) (nC := nC) (E := E) (z := z) (B := B) (Y := Y) (Rf := Rf) (D := D) (d := d + 2) hg ht (by omega) (by omega) h2 hp
  have hn := k_worthOf_n (X := X) (S := S) (S2 := S2) (K := K) (kp := kp) (T := T) (nC := nC) (E := E) (z := z) (B := B) (Y := Y) (Rf := Rf) (D := D) (d := d + 1) hg ht1 hr h2 hp
  have hk1 : (rws S).1 - r = ((rws S).1 - (r + 1)) + 1 := by omega
  have hk2 : (rws S).1 - ((rws S).1 - (r + 1) + 1) = r := by omega
  have hdv : dvS S ((rws S).1 - r) t = fN (dF S ((rws S).2 r) (cls S).2 (fun u' => (dV S (rws S).2 (cls S).2 (cls S).1 (rws S).1 ((rws S).1 - (r + 1)) u').1) (fun x => tb (t : Int) x)) (cls S).1 0 ((dvS S ((rws S).1 - (r + 1)) t).1, -1) := by
    unfold dvS
    rw [hk1]
    show fN (dF S ((rws S).2 ((rws S).1 - ((rws S).1 - (r + 1) + 1))) _ _ _) _ _ _ = _
    rw [hk2]
  have g2 := hg.2.1
  have hfs := dF_first (S := S) (r := (rws S).2 r) (col := (cls S).2) (Vn := fun u' => (dV S (rws S).2 (cls S).2 (cls S).1 (rws S).1 ((rws S).1 - (r + 1)) u').1) (u := fun x => tb (t : Int) x) (cls S).1 0 ((dvS S ((rws S).1 - (r + 1)) t).1, -1)
  rw [← hdv] at hfs
  have hb0 : 0 ≤ (dvS S ((rws S).1 - (r + 1)) t).1 ∧ (dvS S ((rws S).1 - (r + 1)) t).1 ≤ 65 * ((rws S).1 - (r + 1) : Nat) := dV_b
  have hb1 : 0 ≤ (dvS S ((rws S).1 - r) t).1 ∧ (dvS S ((rws S).1 - r) t).1 ≤ 65 * ((rws S).1 - r : Nat) := dV_b
  have hpos : (-1 : Int) < ((cls S).1 : Int) := by omega
  rw [c_11]
  rcases hfs with h | ⟨h1, j, hj0, hj, h3, h4, h5, h7⟩
  · have e2 : (dvS S ((rws S).1 - r) t).2 = -1 := by rw [h]
    have e1 : (dvS S ((rws S).1 - r) t).1 = (dvS S ((rws S).1 - (r + 1)) t).1 := by rw [h]
    rw [e2]
    rw [e1] at hwf
    simp (disch := omega) only [e_11_0, e_11_1, e_11_2, e_11_3, e_11_6, e_11_7, e_11_8, gfA_i, pfA_i, List.getElem?_cons_zero, List.getElem?_cons_succ, oK_some, rK_some, pR_some, pR_none, kq_i, kq_r, kq_n, kq_u, kq_o, kq_l, isRf_r, isRf_n, isRf_o, okv_r, okv_n, okv_o, is2_r, is2_o, is2_n, rcv_r, isC_i, if_true, if_pos, zI_add, zI_sub, zI_mul, nc_12, nc_8, nc_6, nc_40, nc_250, nc_3, len4_0, len4_1, len4_2, len4_3, len4_4, and_self, and_true, true_and, lenA_i, va_rf_s, va_rf_n, oN_none, oN_some, zI_lt, zI_eq, nat_tn, Int.lt_irrefl, Int.reduceEq, Int.reduceNe, Int.reduceLT, Int.reduceLE, Int.reduceSub, Int.reduceAdd, Int.reduceMul, Int.reduceDiv, Int.reduceNeg, Int.reduceToNat, or_self, or_false, false_or, if_false, if_true, not_true_eq_false, not_false_eq_true, or_true, true_or, and_false, false_and, ldI_0, stI_0, ldQ_q, gfA_0, gfA_43, gfA_65, H_0, H_43, H_48, H_65, H_66, H_67, kq_l, isC_0, isC_43, isC_65, isC_sh, gfA_sh, isC_43, hwf]
    rw [e_11_10]
    simp (disch := omega) only [e_11_12, e_11_13, e_11_16, e_11_19, e_11_21, e_11_22, e_11_25, e_11_26, e_11_28, e_11_29, e_11_30, e_11_31, e_11_34, e_11_35, e_11_38, e_11_39, e_11_41, e_11_43, e_11_46, e_11_47, e_11_48, e_11_50, e_11_51, e_11_54, e_11_55, e_11_58, e_11_60, gfA_i, pfA_i, List.getElem?_cons_zero, List.getElem?_cons_succ, oK_some, rK_some, pR_some, pR_none, kq_i, kq_r, kq_n, kq_u, kq_o, kq_l, isRf_r, isRf_n, isRf_o, okv_r, okv_n, okv_o, is2_r, is2_o, is2_n, rcv_r, isC_i, if_true, if_pos, zI_add, zI_sub, zI_mul, nc_12, nc_8, nc_6, nc_40, nc_250, nc_3, len4_0, len4_1, len4_2, len4_3, len4_4, and_self, and_true, true_and, lenA_i, va_rf_s, va_rf_n, oN_none, oN_some, zI_lt, zI_eq, nat_tn, Int.lt_irrefl, Int.reduceEq, Int.reduceNe, Int.reduceLT, Int.reduceLE, Int.reduceSub, Int.reduceAdd, Int.reduceMul, Int.reduceDiv, Int.reduceNeg, Int.reduceToNat, or_self, or_false, false_or, if_false, if_true, not_true_eq_false, not_false_eq_true, or_true, true_or, and_false, false_and, ldI_0, stI_0, ldQ_q, gfA_0, gfA_43, gfA_65, H_0, H_43, H_48, H_65, H_66, H_67, kq_l, isC_0, isC_43, isC_65, isC_sh, gfA_sh, isC_43, g2, hpos, hn]
  · have hne : ¬ (dvS S ((rws S).1 - (r + 1)) t).1 = (dvS S ((rws S).1 - r) t).1 := by dsimp only at h1; omega
    have hjc : j < (cls S).1 := by omega
    rw [h3]
    have hb0' : 0 ≤ (dvS S ((rws S).1 - (r + 1)) t).1 ∧ (dvS S ((rws S).1 - (r + 1)) t).1 ≤ 1000 := by omega
    have hb1' : 0 ≤ (dvS S ((rws S).1 - r) t).1 ∧ (dvS S ((rws S).1 - r) t).1 ≤ 1000 := by omega
    have e00 : (-1 : Int) + 1 = 0 := rfl
    have hlo := loopQ (fun x (y : Value) => den (callD (d + 3)) 11 10 [.ref 43, .int (zI r), .int (zI t), .int (zI (dvS S ((rws S).1 - r) t).1), .int (zI x), y] [] (H S S2 K kp X T nC E z B Y Rf D)) (fun x => x = some (some (.int (zI j)), (H S S2 K kp X T nC E z B Y Rf D))) (fun x y => x ≤ j) (cls S).1 (fun x y hx hy => ?_) (fun y hy => by omega) (cls S).1 0 (.int (zI 1)) (by omega) (Nat.zero_le _)
    · simp (disch := omega) only [e_11_0, e_11_1, e_11_2, e_11_3, e_11_6, e_11_7, e_11_8, gfA_i, pfA_i, List.getElem?_cons_zero, List.getElem?_cons_succ, oK_some, rK_some, pR_some, pR_none, kq_i, kq_r, kq_n, kq_u, kq_o, kq_l, isRf_r, isRf_n, isRf_o, okv_r, okv_n, okv_o, is2_r, is2_o, is2_n, rcv_r, isC_i, if_true, if_pos, zI_add, zI_sub, zI_mul, nc_12, nc_8, nc_6, nc_40, nc_250, nc_3, len4_0, len4_1, len4_2, len4_3, len4_4, and_self, and_true, true_and, lenA_i, va_rf_s, va_rf_n, oN_none, oN_some, zI_lt, zI_eq, nat_tn, Int.lt_irrefl, Int.reduceEq, Int.reduceNe, Int.reduceLT, Int.reduceLE, Int.reduceSub, Int.reduceAdd, Int.reduceMul, Int.reduceDiv, Int.reduceNeg, Int.reduceToNat, or_self, or_false, false_or, if_false, if_true, not_true_eq_false, not_false_eq_true, or_true, true_or, and_false, false_and, ldI_0, stI_0, ldQ_q, gfA_0, gfA_43, gfA_65, H_0, H_43, H_48, H_65, H_66, H_67, kq_l, isC_0, isC_43, isC_65, isC_sh, gfA_sh, isC_43, hwf]
      rw [e_11_10]
      simp (disch := omega) only [e_11_12, e_11_13, e_11_16, e_11_19, e_11_21, e_11_22, e_11_25, e_11_26, e_11_28, e_11_29, e_11_30, e_11_31, e_11_34, e_11_35, e_11_38, e_11_39, e_11_41, e_11_43, e_11_46, e_11_47, e_11_48, e_11_50, e_11_51, e_11_54, e_11_55, e_11_58, e_11_60, e_11_61, e_11_64, gfA_i, pfA_i, List.getElem?_cons_zero, List.getElem?_cons_succ, oK_some, rK_some, pR_some, pR_none, kq_i, kq_r, kq_n, kq_u, kq_o, kq_l, isRf_r, isRf_n, isRf_o, okv_r, okv_n, okv_o, is2_r, is2_o, is2_n, rcv_r, isC_i, if_true, if_pos, zI_add, zI_sub, zI_mul, nc_12, nc_8, nc_6, nc_40, nc_250, nc_3, len4_0, len4_1, len4_2, len4_3, len4_4, and_self, and_true, true_and, lenA_i, va_rf_s, va_rf_n, oN_none, oN_some, zI_lt, zI_eq, nat_tn, Int.lt_irrefl, Int.reduceEq, Int.reduceNe, Int.reduceLT, Int.reduceLE, Int.reduceSub, Int.reduceAdd, Int.reduceMul, Int.reduceDiv, Int.reduceNeg, Int.reduceToNat, or_self, or_false, false_or, if_false, if_true, not_true_eq_false, not_false_eq_true, or_true, true_or, and_false, false_and, ldI_0, stI_0, ldQ_q, gfA_0, gfA_43, gfA_65, H_0, H_43, H_48, H_65, H_66, H_67, kq_l, isC_0, isC_43, isC_65, isC_sh, gfA_sh, isC_43, g2, hpos, hn, hne, e00]
      exact hlo
    · have ho := k_worthOf_s (X := X) (S := S) (S2 := S2) (K := K) (kp := kp) (T := T) (nC := nC) (E := E) (z := z) (B := B) (Y := Y) (Rf := Rf) (D := D) (d := d) hI hg ht1 hr hx h2 hp
      have hbt := zI_tb12 (t := t) (j := x) (by omega) (by omega)
      have hcb := cm_b S ((rws S).2 r) ((cls S).2 x)
      have hvb := dV_b (S := S) (row := (rws S).2) (col := (cls S).2) (cc := (cls S).1) (m := (rws S).1) (k := (rws S).1 - (r + 1)) (u := va_up (fun x => tb (t : Int) x) x 1)
      have e9 : ¬ (x : Int) = -1 := by omega
      by_cases ex : x = j
      · subst ex
        right
        have h4' : tb t x = 0 := h4
        try dsimp only
        conv => lhs; rw [e_11_10]
        have h5' : 8 * cm S ((rws S).2 r) ((cls S).2 x) + 1 + (dV S (rws S).2 (cls S).2 (cls S).1 (rws S).1 ((rws S).1 - (r + 1)) (va_up (fun x => tb (t : Int) x) x 1)).1 = (dvS S ((rws S).1 - r) t).1 := h5.symm
        simp (disch := omega) only [e_11_12, e_11_13, e_11_16, e_11_19, e_11_21, e_11_22, e_11_25, e_11_26, e_11_28, e_11_29, e_11_30, e_11_31, e_11_34, e_11_35, e_11_38, e_11_39, e_11_41, e_11_43, e_11_46, e_11_47, e_11_48, e_11_50, e_11_51, e_11_54, e_11_55, e_11_58, e_11_60, e_11_61, e_11_64, gfA_i, pfA_i, List.getElem?_cons_zero, List.getElem?_cons_succ, oK_some, rK_some, pR_some, pR_none, kq_i, kq_r, kq_n, kq_u, kq_o, kq_l, isRf_r, isRf_n, isRf_o, okv_r, okv_n, okv_o, is2_r, is2_o, is2_n, rcv_r, isC_i, if_true, if_pos, zI_add, zI_sub, zI_mul, nc_12, nc_8, nc_6, nc_40, nc_250, nc_3, nc_s, len4_0, len4_1, len4_2, len4_3, len4_4, and_self, and_true, true_and, lenA_i, va_rf_s, va_rf_n, oN_none, oN_some, zI_lt, zI_eq, nat_tn, nc_s, Int.lt_irrefl, Int.reduceEq, Int.reduceNe, Int.reduceLT, Int.reduceLE, Int.reduceSub, Int.reduceAdd, Int.reduceMul, Int.reduceDiv, Int.reduceNeg, Int.reduceToNat, or_self, or_false, false_or, if_false, if_true, not_true_eq_false, not_false_eq_true, or_true, true_or, and_false, false_and, ldI_0, stI_0, ldQ_q, gfA_0, gfA_43, gfA_65, H_0, H_43, H_48, H_65, H_66, H_67, kq_l, isC_0, isC_43, isC_65, isC_sh, gfA_sh, isC_43, g2, e9, hbt, h4', ho, h5']
      · left
        by_cases hu : tb t x = 0
        · have h8 := h7 x (by omega) (by omega) hu
          have h8' : ¬ 8 * cm S ((rws S).2 r) ((cls S).2 x) + 1 + (dV S (rws S).2 (cls S).2 (cls S).1 (rws S).1 ((rws S).1 - (r + 1)) (va_up (fun x => tb (t : Int) x) x 1)).1 = (dvS S ((rws S).1 - r) t).1 := by
            try dsimp only at h8
            omega
          refine ⟨.int (zI 1), ?_, by omega⟩
          try dsimp only
          conv => lhs; rw [e_11_10]
          simp (disch := omega) only [e_11_12, e_11_13, e_11_16, e_11_19, e_11_21, e_11_22, e_11_25, e_11_26, e_11_28, e_11_29, e_11_30, e_11_31, e_11_34, e_11_35, e_11_38, e_11_39, e_11_41, e_11_43, e_11_46, e_11_47, e_11_48, e_11_50, e_11_51, e_11_54, e_11_55, e_11_58, e_11_60, e_11_61, e_11_64, gfA_i, pfA_i, List.getElem?_cons_zero, List.getElem?_cons_succ, oK_some, rK_some, pR_some, pR_none, kq_i, kq_r, kq_n, kq_u, kq_o, kq_l, isRf_r, isRf_n, isRf_o, okv_r, okv_n, okv_o, is2_r, is2_o, is2_n, rcv_r, isC_i, if_true, if_pos, zI_add, zI_sub, zI_mul, nc_12, nc_8, nc_6, nc_40, nc_250, nc_3, nc_s, len4_0, len4_1, len4_2, len4_3, len4_4, and_self, and_true, true_and, lenA_i, va_rf_s, va_rf_n, oN_none, oN_some, zI_lt, zI_eq, nat_tn, nc_s, Int.lt_irrefl, Int.reduceEq, Int.reduceNe, Int.reduceLT, Int.reduceLE, Int.reduceSub, Int.reduceAdd, Int.reduceMul, Int.reduceDiv, Int.reduceNeg, Int.reduceToNat, or_self, or_false, false_or, if_false, if_true, not_true_eq_false, not_false_eq_true, or_true, true_or, and_false, false_and, ldI_0, stI_0, ldQ_q, gfA_0, gfA_43, gfA_65, H_0, H_43, H_48, H_65, H_66, H_67, kq_l, isC_0, isC_43, isC_65, isC_sh, gfA_sh, isC_43, g2, e9, hbt, hu, ho, h8']
        · have hu1 : tb t x = 1 := by rcases tb_01 (t : Int) x with h | h; exact absurd h hu; exact h
          refine ⟨.int (zI 0), ?_, by omega⟩
          try dsimp only
          conv => lhs; rw [e_11_10]
          simp (disch := omega) only [e_11_12, e_11_13, e_11_16, e_11_19, e_11_21, e_11_22, e_11_25, e_11_26, e_11_28, e_11_29, e_11_30, e_11_31, e_11_34, e_11_35, e_11_38, e_11_39, e_11_41, e_11_43, e_11_46, e_11_47, e_11_48, e_11_50, e_11_51, e_11_54, e_11_55, e_11_58, e_11_60, e_11_61, e_11_64, gfA_i, pfA_i, List.getElem?_cons_zero, List.getElem?_cons_succ, oK_some, rK_some, pR_some, pR_none, kq_i, kq_r, kq_n, kq_u, kq_o, kq_l, isRf_r, isRf_n, isRf_o, okv_r, okv_n, okv_o, is2_r, is2_o, is2_n, rcv_r, isC_i, if_true, if_pos, zI_add, zI_sub, zI_mul, nc_12, nc_8, nc_6, nc_40, nc_250, nc_3, nc_s, len4_0, len4_1, len4_2, len4_3, len4_4, and_self, and_true, true_and, lenA_i, va_rf_s, va_rf_n, oN_none, oN_some, zI_lt, zI_eq, nat_tn, nc_s, Int.lt_irrefl, Int.reduceEq, Int.reduceNe, Int.reduceLT, Int.reduceLE, Int.reduceSub, Int.reduceAdd, Int.reduceMul, Int.reduceDiv, Int.reduceNeg, Int.reduceToNat, or_self, or_false, false_or, if_false, if_true, not_true_eq_false, not_false_eq_true, or_true, true_or, and_false, false_and, ldI_0, stI_0, ldQ_q, gfA_0, gfA_43, gfA_65, H_0, H_43, H_48, H_65, H_66, H_67, kq_l, isC_0, isC_43, isC_65, isC_sh, gfA_sh, isC_43, g2, e9, hbt, hu1]
end K5
