/-- the number of the draws set on -/
def sdS (S : Sc) : Sc := sU S 8 5 (nsd (S 8 5))
theorem sdS_a (S : Sc) (f i : Nat) (h : ¬ (f = 8 ∧ i = 5)) : sdS S f i = S f i := if_neg h
theorem sdS_5 (S : Sc) : sdS S 8 5 = nsd (S 8 5) := rfl
theorem In_sd {S : Sc} (hI : In S) : In (sdS S) := In_sU hI (by omega)
theorem m_draw {d : Nat} {M : AM} {o : Nat} {S : Sc} (hR : RS M o S) : callD (d + 1) 47 [.ref o] M = some (some (.int (zI (dwI (sdS S 8 5)))), putS M o (sdS S)) := m_drawWay hR
def pwF (i : Nat) (a : Sc × Int) : Sc × Int := if ldB a.1 i = 1 then (if wl (sdS a.1) (dbt a.1 i) ≤ dwI (sdS a.1 8 5) then (siS (sdS a.1) (dbt a.1 i), a.2) else if a.1 8 1 ≤ dwI (sdS (sdS a.1) 8 5) then (wrS (sdS (sdS a.1)) (dbt a.1 i) 1, a.2 + 1) else (wrS (sdS (sdS a.1)) (dbt a.1 i) 0, a.2)) else a
def pwk (S : Sc) : Sc × Int := fN pwF 12 0 (sU S 8 4 (S 8 4 + 1), 0)
theorem In_pwF {i : Nat} {a : Sc × Int} (hI : In a.1) : In (pwF i a).1 := by
  unfold pwF
  by_cases e : ldB a.1 i = 1
  · rw [if_pos e]
    have hp := ldB_prd e
    obtain ⟨h1, h2, h3, h4⟩ := prd_dbt hI hp
    have hpd : prd (sdS (sdS a.1)) (dbt a.1 i) := h1
    by_cases e1 : wl (sdS a.1) (dbt a.1 i) ≤ dwI (sdS a.1 8 5)
    · rw [if_pos e1]; exact In_si (In_sd hI) h1.1
    · rw [if_neg e1]
      by_cases e2 : a.1 8 1 ≤ dwI (sdS (sdS a.1) 8 5)
      · rw [if_pos e2]; exact In_wr1 (In_sd (In_sd hI)) hpd h3
      · rw [if_neg e2]; exact In_wr0 (In_sd (In_sd hI)) h1.1
  · rw [if_neg e]; exact hI
theorem In_wk {S : Sc} (hI : In S) (v : Int) : In (sU S 8 4 v) := In_sU hI (by omega)
theorem In_pwk {S : Sc} (hI : In S) : In (pwk S).1 := by
  have : ∀ (k i : Nat) (a : Sc × Int), In a.1 → In (fN pwF k i a).1 := by
    intro k
    induction k with
    | zero => intro i a h; exact h
    | succ k ih => intro i a h; exact ih (i + 1) _ (In_pwF h)
  exact this 12 0 _ (In_wk hI _)
theorem m_passWeek {d : Nat} {M : AM} {o : Nat} {S : Sc} (hI : In S) (hR : RS M o S) : callD (d + 6) 46 [.ref o] M = some (some (.int (zI (pwk S).2)), putS M o (pwk S).1) := by
  rw [c_46]
  have hst : mU M o (.inl (2, [.ref (o + 1), .int (zI (S 8 0)), .int (zI (S 8 1)), .int (zI (S 8 2)), .int (zI (S 8 3)), .int (zI (S 8 4 + 1)), .int (zI (S 8 5))])) = putS M o (sU S 8 4 (S 8 4 + 1)) := put0 hR rfl rfl (fun f j hf => if_neg (by omega))
  simp (disch := omega) only [e_46_0, e_46_1, e_46_1_i, e_46_2, e_46_5, e_46_6, e_46_7, e_46_10, e_46_11, e_46_12, e_46_13, e_46_16, e_46_17, e_46_18, e_46_19, e_46_20, e_46_21, hR.1, hR.2.1, gfA_i, pfA_i, List.getElem?_cons_zero, List.getElem?_cons_succ, oK_some, rK_some, pR_some, pR_none, kq_i, kq_r, kq_n, kq_u, kq_o, kq_l, isRf_r, isRf_n, isRf_o, okv_r, okv_n, okv_o, is2_r, is2_o, is2_n, rcv_r, isC_i, if_true, if_pos, zI_add, zI_sub, zI_mul, nc_12, nc_8, nc_6, nc_40, nc_250, nc_3, nc_s, len4_0, len4_1, len4_2, len4_3, len4_4, and_self, and_true, true_and, lenA_i, va_rf_s, va_rf_n, oN_none, oN_some, mU_at, mU_mU, List.set_cons_succ, List.set_cons_zero, okv_0, okv_1, okv_i, okv_r, okv_n, okv_o, List.length_cons, List.length_nil, Nat.reduceAdd, Nat.reduceLT, Nat.zero_le, Nat.reduceLeDiff, hst, (RS_put M o (sU S 8 4 (S 8 4 + 1))).1, (RS_put M o (sU S 8 4 (S 8 4 + 1))).2.1]
  refine loopQ (fun i (a : (Sc × Int) × Value × Value × Value) => den (callD (d + 5)) 46 23 [.ref o, .int (zI a.1.2), .ref (o + 1), .int (zI 12), .int (zI i), a.2.1, a.2.2.1, a.2.2.2] [] (putS M o a.1.1)) (fun x => x = some (some (.int (zI (pwk S).2)), putS M o (pwk S).1)) (fun i a => In a.1.1 ∧ pwk S = fN pwF (12 - i) i a.1) 12 (fun i a hi ha => ?_) (fun a ha => ?_) 12 0 ((sU S 8 4 (S 8 4 + 1), 0), uu, uu, uu) rfl ⟨In_wk hI _, rfl⟩
  · obtain ⟨⟨T, n⟩, c1, c2, c3⟩ := a
    obtain ⟨hT, hf⟩ := ha
    rw [show 12 - i = (12 - (i + 1)) + 1 by omega] at hf
    have hf' : pwk S = fN pwF (12 - (i + 1)) (i + 1) (pwF i (T, n)) := hf
    have hRT := RS_put M o T
    try dsimp only at hT hf' ⊢
    left
    rcases ldB_01 T i with h | h
    · have e : pwF i (T, n) = (T, n) := if_neg (by show ¬ ldB T i = 1; omega)
      refine ⟨((T, n), .ref (o + 2 + i), .null, c3), ?_, hT, ?_⟩
      · conv => lhs; rw [e_46_23]
        simp (disch := omega) only [e_46_25, e_46_26, e_46_29, e_46_30, e_46_32, e_46_33, e_46_35, e_46_37, e_46_40, e_46_43, e_46_45, e_46_48, e_46_51, e_46_52, e_46_54, e_46_56, e_46_56_n, e_46_56_r, e_46_59, e_46_60, e_46_63, e_46_64, e_46_66, e_46_68, e_46_71, e_46_74, e_46_77, e_46_78, e_46_80, e_46_83, e_46_86, e_46_87, e_46_90, e_46_91, e_46_94, e_46_97, e_46_98, e_46_101, e_46_102, e_46_104, e_46_105, e_46_107, e_46_109, e_46_112, e_46_113, e_46_115, e_46_118, e_46_119, e_46_122, e_46_123, e_46_124, e_46_125, e_46_128, hRT.1, hRT.2.1, m_leads (d := d + 4) hT hRT hi, hRT.2.2 i hi, hi, gfA_i, pfA_i, List.getElem?_cons_zero, List.getElem?_cons_succ, oK_some, rK_some, pR_some, pR_none, kq_i, kq_r, kq_n, kq_u, kq_o, kq_l, isRf_r, isRf_n, isRf_o, okv_r, okv_n, okv_o, is2_r, is2_o, is2_n, rcv_r, isC_i, if_true, if_pos, zI_add, zI_sub, zI_mul, nc_12, nc_8, nc_6, nc_40, nc_250, nc_3, nc_s, len4_0, len4_1, len4_2, len4_3, len4_4, and_self, and_true, true_and, lenA_i, va_rf_s, va_rf_n, oN_none, oN_some, ldQ_q, zI_lt, zI_eq, nat_tn, pcl, nc_s, Int.lt_irrefl, Int.reduceEq, Int.reduceNe, Int.reduceLT, Int.reduceLE, Int.reduceSub, Int.reduceAdd, Int.reduceMul, Int.reduceDiv, Int.reduceNeg, Int.reduceToNat, or_self, or_false, false_or, if_false, if_true, not_true_eq_false, not_false_eq_true, or_true, true_or, and_false, false_and, h]
      · rw [hf', e]
    · have hp := ldB_prd h
      obtain ⟨h1, h2, h3, h4⟩ := prd_dbt hT hp
      have hde := m_debtor (d := d + 4) (o := o) hT hRT hi
      rw [dbt_o hp] at hde
      have hT1 := In_sd hT
      have hR1 := RS_put M o (sdS T)
      have hT2 := In_sd hT1
      have hR2 := RS_put M o (sdS (sdS T))
      have hp1 : prd (sdS T) (dbt T i) := h1
      have hp2 : prd (sdS (sdS T)) (dbt T i) := h1
      have hfr1 := frO_p (o := o) hp1
      have hdr1 := m_draw (d := d + 4) hRT
      have hdr2 := m_draw (d := d + 4) hR1
      have hwl := m_wl (d := d + 1) hT1 hR1 hp1
      have hwb := wl_b (sdS T) (dbt T i)
      have hb1 := dwI_b (nsd (T 8 5))
      have hb2 := dwI_b (nsd (sdS T 8 5))
      have hlo := hT.2.1
      by_cases e1 : wl (sdS T) (dbt T i) ≤ dwI (sdS T 8 5)
      · have hks := m_keepSilent (d := d + 3) hT1 hR1 h2
        have e : pwF i (T, n) = (siS (sdS T) (dbt T i), n) := by unfold pwF; rw [if_pos h, if_pos e1]
        have e1' : ¬ dwI (sdS T 8 5) < wl (sdS T) (dbt T i) := by omega
        rw [sdS_5] at e1' hdr1
        refine ⟨((siS (sdS T) (dbt T i), n), .ref (o + 2 + i), .ref (o + 2 + dbt T i), c3), ?_, In_si hT1 h1.1, ?_⟩
        · conv => lhs; rw [e_46_23]
          simp (disch := omega) only [e_46_25, e_46_26, e_46_29, e_46_30, e_46_32, e_46_33, e_46_35, e_46_37, e_46_40, e_46_43, e_46_45, e_46_48, e_46_51, e_46_52, e_46_54, e_46_56, e_46_56_n, e_46_56_r, e_46_59, e_46_60, e_46_63, e_46_64, e_46_66, e_46_68, e_46_71, e_46_74, e_46_77, e_46_78, e_46_80, e_46_83, e_46_86, e_46_87, e_46_90, e_46_91, e_46_94, e_46_97, e_46_98, e_46_101, e_46_102, e_46_104, e_46_105, e_46_107, e_46_109, e_46_112, e_46_113, e_46_115, e_46_118, e_46_119, e_46_122, e_46_123, e_46_124, e_46_125, e_46_128, hRT.1, hRT.2.1, m_leads (d := d + 4) hT hRT hi, hRT.2.2 i hi, hR1.1, hR1.2.2 _ h2, hfr1, hi, hde, hdr1, put_put, hwl, hks, gfA_i, pfA_i, List.getElem?_cons_zero, List.getElem?_cons_succ, oK_some, rK_some, pR_some, pR_none, kq_i, kq_r, kq_n, kq_u, kq_o, kq_l, isRf_r, isRf_n, isRf_o, okv_r, okv_n, okv_o, is2_r, is2_o, is2_n, rcv_r, isC_i, if_true, if_pos, zI_add, zI_sub, zI_mul, nc_12, nc_8, nc_6, nc_40, nc_250, nc_3, nc_s, len4_0, len4_1, len4_2, len4_3, len4_4, and_self, and_true, true_and, lenA_i, va_rf_s, va_rf_n, oN_none, oN_some, ldQ_q, zI_lt, zI_eq, nat_tn, pcl, nc_s, Int.lt_irrefl, Int.reduceEq, Int.reduceNe, Int.reduceLT, Int.reduceLE, Int.reduceSub, Int.reduceAdd, Int.reduceMul, Int.reduceDiv, Int.reduceNeg, Int.reduceToNat, or_self, or_false, false_or, if_false, if_true, not_true_eq_false, not_false_eq_true, or_true, true_or, and_false, false_and, h, e1']
        · rw [hf', e]
      · have e1' : dwI (sdS T 8 5) < wl (sdS T) (dbt T i) := by omega
        rw [sdS_5] at e1' hdr1 hdr2
        by_cases e2 : T 8 1 ≤ dwI (sdS (sdS T) 8 5)
        · have hwr := m_write (d := d + 2) hT2 hR2 hp2 (Or.inr rfl : (1 : Int) = 0 ∨ (1 : Int) = 1)
          have e : pwF i (T, n) = (wrS (sdS (sdS T)) (dbt T i) 1, n + 1) := by unfold pwF; rw [if_pos h, if_neg e1, if_pos e2]
          have e2' : ¬ dwI (sdS (sdS T) 8 5) < sdS (sdS T) 8 1 := by show ¬ _ < T 8 1; omega
          have hlo2 : 0 ≤ sdS (sdS T) 8 1 ∧ sdS (sdS T) 8 1 ≤ 12 := hlo
          rw [sdS_5] at e2'
          refine ⟨((wrS (sdS (sdS T)) (dbt T i) 1, n + 1), .ref (o + 2 + i), .ref (o + 2 + dbt T i), .int (zI 1)), ?_, In_wr1 hT2 hp2 h3, ?_⟩
          · conv => lhs; rw [e_46_23]
            simp (disch := omega) only [e_46_25, e_46_26, e_46_29, e_46_30, e_46_32, e_46_33, e_46_35, e_46_37, e_46_40, e_46_43, e_46_45, e_46_48, e_46_51, e_46_52, e_46_54, e_46_56, e_46_56_n, e_46_56_r, e_46_59, e_46_60, e_46_63, e_46_64, e_46_66, e_46_68, e_46_71, e_46_74, e_46_77, e_46_78, e_46_80, e_46_83, e_46_86, e_46_87, e_46_90, e_46_91, e_46_94, e_46_97, e_46_98, e_46_101, e_46_102, e_46_104, e_46_105, e_46_107, e_46_109, e_46_112, e_46_113, e_46_115, e_46_118, e_46_119, e_46_122, e_46_123, e_46_124, e_46_125, e_46_128, hRT.1, hRT.2.1, m_leads (d := d + 4) hT hRT hi, hRT.2.2 i hi, hR1.1, hR1.2.2 _ h2, hR2.1, hfr1, hi, hde, hdr1, hdr2, put_put, hwl, hwr, gfA_i, pfA_i, List.getElem?_cons_zero, List.getElem?_cons_succ, oK_some, rK_some, pR_some, pR_none, kq_i, kq_r, kq_n, kq_u, kq_o, kq_l, isRf_r, isRf_n, isRf_o, okv_r, okv_n, okv_o, is2_r, is2_o, is2_n, rcv_r, isC_i, if_true, if_pos, zI_add, zI_sub, zI_mul, nc_12, nc_8, nc_6, nc_40, nc_250, nc_3, nc_s, len4_0, len4_1, len4_2, len4_3, len4_4, and_self, and_true, true_and, lenA_i, va_rf_s, va_rf_n, oN_none, oN_some, ldQ_q, zI_lt, zI_eq, nat_tn, pcl, nc_s, Int.lt_irrefl, Int.reduceEq, Int.reduceNe, Int.reduceLT, Int.reduceLE, Int.reduceSub, Int.reduceAdd, Int.reduceMul, Int.reduceDiv, Int.reduceNeg, Int.reduceToNat, or_self, or_false, false_or, if_false, if_true, not_true_eq_false, not_false_eq_true, or_true, true_or, and_false, false_and, h, e1', e2']
          · rw [hf', e]
        · have hwr := m_write (d := d + 2) hT2 hR2 hp2 (Or.inl rfl : (0 : Int) = 0 ∨ (0 : Int) = 1)
          have e : pwF i (T, n) = (wrS (sdS (sdS T)) (dbt T i) 0, n) := by unfold pwF; rw [if_pos h, if_neg e1, if_neg e2]
          have e2' : dwI (sdS (sdS T) 8 5) < sdS (sdS T) 8 1 := by show _ < T 8 1; omega
          have hlo2 : 0 ≤ sdS (sdS T) 8 1 ∧ sdS (sdS T) 8 1 ≤ 12 := hlo
          rw [sdS_5] at e2'
          have en : n + 0 = n := by omega
          refine ⟨((wrS (sdS (sdS T)) (dbt T i) 0, n), .ref (o + 2 + i), .ref (o + 2 + dbt T i), .int (zI 0)), ?_, In_wr0 hT2 h1.1, ?_⟩
          · conv => lhs; rw [e_46_23]
            simp (disch := omega) only [e_46_25, e_46_26, e_46_29, e_46_30, e_46_32, e_46_33, e_46_35, e_46_37, e_46_40, e_46_43, e_46_45, e_46_48, e_46_51, e_46_52, e_46_54, e_46_56, e_46_56_n, e_46_56_r, e_46_59, e_46_60, e_46_63, e_46_64, e_46_66, e_46_68, e_46_71, e_46_74, e_46_77, e_46_78, e_46_80, e_46_83, e_46_86, e_46_87, e_46_90, e_46_91, e_46_94, e_46_97, e_46_98, e_46_101, e_46_102, e_46_104, e_46_105, e_46_107, e_46_109, e_46_112, e_46_113, e_46_115, e_46_118, e_46_119, e_46_122, e_46_123, e_46_124, e_46_125, e_46_128, hRT.1, hRT.2.1, m_leads (d := d + 4) hT hRT hi, hRT.2.2 i hi, hR1.1, hR1.2.2 _ h2, hR2.1, hfr1, hi, hde, hdr1, hdr2, put_put, hwl, hwr, gfA_i, pfA_i, List.getElem?_cons_zero, List.getElem?_cons_succ, oK_some, rK_some, pR_some, pR_none, kq_i, kq_r, kq_n, kq_u, kq_o, kq_l, isRf_r, isRf_n, isRf_o, okv_r, okv_n, okv_o, is2_r, is2_o, is2_n, rcv_r, isC_i, if_true, if_pos, zI_add, zI_sub, zI_mul, nc_12, nc_8, nc_6, nc_40, nc_250, nc_3, nc_s, len4_0, len4_1, len4_2, len4_3, len4_4, and_self, and_true, true_and, lenA_i, va_rf_s, va_rf_n, oN_none, oN_some, ldQ_q, zI_lt, zI_eq, nat_tn, pcl, nc_s, Int.lt_irrefl, Int.reduceEq, Int.reduceNe, Int.reduceLT, Int.reduceLE, Int.reduceSub, Int.reduceAdd, Int.reduceMul, Int.reduceDiv, Int.reduceNeg, Int.reduceToNat, or_self, or_false, false_or, if_false, if_true, not_true_eq_false, not_false_eq_true, or_true, true_or, and_false, false_and, h, e1', e2', en]
          · rw [hf', e]
  · obtain ⟨⟨T, n⟩, c1, c2, c3⟩ := a
    obtain ⟨hT, hf⟩ := ha
    have hf' : pwk S = (T, n) := hf
    rw [hf']
    show den (callD (d + 5)) 46 23 [.ref o, .int (zI n), .ref (o + 1), .int (zI 12), .int (zI 12), c1, c2, c3] [] (putS M o T) = _
    rw [e_46_23]
    simp (disch := omega) only [e_46_25, e_46_26, e_46_29, e_46_30, e_46_32, e_46_33, e_46_35, e_46_37, e_46_40, e_46_43, e_46_45, e_46_48, e_46_51, e_46_52, e_46_54, e_46_56, e_46_56_n, e_46_56_r, e_46_59, e_46_60, e_46_63, e_46_64, e_46_66, e_46_68, e_46_71, e_46_74, e_46_77, e_46_78, e_46_80, e_46_83, e_46_86, e_46_87, e_46_90, e_46_91, e_46_94, e_46_97, e_46_98, e_46_101, e_46_102, e_46_104, e_46_105, e_46_107, e_46_109, e_46_112, e_46_113, e_46_115, e_46_118, e_46_119, e_46_122, e_46_123, e_46_124, e_46_125, e_46_128, e_46_131, e_46_132, gfA_i, pfA_i, List.getElem?_cons_zero, List.getElem?_cons_succ, oK_some, rK_some, pR_some, pR_none, kq_i, kq_r, kq_n, kq_u, kq_o, kq_l, isRf_r, isRf_n, isRf_o, okv_r, okv_n, okv_o, is2_r, is2_o, is2_n, rcv_r, isC_i, if_true, if_pos, zI_add, zI_sub, zI_mul, nc_12, nc_8, nc_6, nc_40, nc_250, nc_3, nc_s, len4_0, len4_1, len4_2, len4_3, len4_4, and_self, and_true, true_and, lenA_i, va_rf_s, va_rf_n, oN_none, oN_some, ldQ_q, zI_lt, zI_eq, nat_tn, pcl, nc_s, Int.lt_irrefl, Int.reduceEq, Int.reduceNe, Int.reduceLT, Int.reduceLE, Int.reduceSub, Int.reduceAdd, Int.reduceMul, Int.reduceDiv, Int.reduceNeg, Int.reduceToNat, or_self, or_false, false_or, if_false, if_true, not_true_eq_false, not_false_eq_true, or_true, true_or, and_false, false_and]
