section KL8
variable {Sn S K : Sc} {kp : Int} {X : Xm} {T : Sc} {nC : Nat → Int} {E : Nat → Nat → Int64} {z : Int} {zn : Nat} {B : Nat → Int32} {f : Nat → Int} {t : Option Nat} {Rf : Nat → Int32} {D : AM}
theorem pall_o {B : Nat → Int32} {z : Nat} : ∀ (k : Nat) (S : Sc) (p n : Nat) (S' : Sc) (n' : Nat), In S → p ≤ z → pall B z k S p n = .inr (S', n') → In S' ∧ S 8 0 ≤ S' 8 0 ∧ n ≤ n' ∧ n' ≤ n + k := by
  intro k
  induction k with
  | zero => intro S p n S' n' hI hp h; cases h
  | succ k ih =>
    intro S p n S' n' hI hp h
    cases hs : stmP B z S p with
    | inl s => rw [pall_f hs] at h; cases h
    | inr r =>
      obtain ⟨S1, p1⟩ := r
      rw [pall_s hs] at h
      obtain ⟨o1, o2, o3, o4⟩ := stmP_o hI hp hs
      have ht := tst_b (B := B) o3
      have he := ten_b (B := B) ht.2
      unfold rst at h
      by_cases h0 : tkn B z (tst B z p1) = 0
      · rw [if_pos h0] at h; cases h; exact ⟨o1, o4, by omega, by omega⟩
      · rw [if_neg h0] at h
        by_cases h3 : tkn B z (tst B z p1) = 3
        · rw [if_pos h3] at h
          obtain ⟨a1, a2, a3, a4⟩ := ih _ _ _ _ _ o1 he.2.1 h
          exact ⟨a1, by omega, by omega, by omega⟩
        · rw [if_neg h3] at h; cases h
theorem k_all {d : Nat} (hz : z = (zn : Int)) (hz2 : zn ≤ 250) (hb : BB B z) : ∀ (k : Nat) (S : Sc) (p n : Nat) (a b c : Int), In S → p ≤ zn → 1 ≤ n → 2 * (n - 1) ≤ p → zn < p + k → ∃ Sx a' b' c' e', den (callD (d + 6)) 62 12 [.ref 65, .ref 15, .int (zI n)] [] (H Sn S K kp X T nC E z B (yV f a b c p, some 15) Rf D) = some (some (.int (zI (okN (pall B zn k S p n)))), H Sn Sx K kp X T nC E z B (yV f a' b' c' e', some 15) Rf D) ∧ (∀ s, pall B zn k S p n = .inl s → a' = (s : Int)) ∧ ∀ S' n', pall B zn k S p n = .inr (S', n') → Sx = S' := by
  intro k
  induction k with
  | zero => intro S p n a b c hI hp h1 h2 h3; omega
  | succ k ih =>
    intro S p n a b c hI hp h1 h2 h3
    have hn : (n : Int) ≤ 200 := by omega
    have hn' : ¬ (250 : Int) < (n : Int) := by omega
    obtain ⟨Sx, a1, b1, c1, e1, g1, g2⟩ := k_stm (f := f) (Sn := Sn) (S := S) (K := K) (kp := kp) (X := X) (T := T) (nC := nC) (E := E) (z := z) (B := B) (Rf := Rf) (D := D) (zn := zn) (d := d) (p := p) (a := a) (b := b) (c := c) hI hz hz2 hb hp
    cases hs : stmP B zn S p with
    | inl s =>
      rw [hs] at g1 g2
      rw [pall_f hs]
      refine ⟨Sx, a1, b1, c1, e1, ?_, fun s' h' => (by cases h'; exact g2.1 s rfl), fun S' n' h' => (by cases h')⟩
      rw [e_62_12]
      simp (disch := omega) only [e_62_13, e_62_16, e_62_19, e_62_20, e_62_23, e_62_26, e_62_27, e_62_28, e_62_29, e_62_32, e_62_33, e_62_36, e_62_39, e_62_40, e_62_41, e_62_42, e_62_45, e_62_46, e_62_49, e_62_50, e_62_53, e_62_54, e_62_55, e_62_56, e_62_59, e_62_62, e_62_63, gfA_i, pfA_i, List.getElem?_cons_zero, List.getElem?_cons_succ, oK_some, rK_some, pR_some, pR_none, kq_i, kq_r, kq_n, kq_u, kq_o, kq_l, isRf_r, isRf_n, isRf_o, okv_r, okv_n, okv_o, is2_r, is2_o, is2_n, rcv_r, isC_i, if_true, if_pos, zI_add, zI_sub, zI_mul, nc_12, nc_8, nc_6, nc_40, nc_250, nc_3, len4_0, len4_1, len4_2, len4_3, len4_4, and_self, and_true, true_and, lenA_i, va_rf_s, va_rf_n, oN_none, oN_some, zI_lt, zI_eq, nat_tn, Int.lt_irrefl, Int.reduceEq, Int.reduceNe, Int.reduceLT, Int.reduceLE, Int.reduceSub, Int.reduceAdd, Int.reduceMul, Int.reduceDiv, Int.reduceNeg, Int.reduceToNat, or_self, or_false, false_or, if_false, if_true, not_true_eq_false, not_false_eq_true, or_true, true_or, and_false, false_and, ldI_0, stI_0, ldQ_q, gfA_0, gfA_43, gfA_65, H_0, H_43, H_48, H_65, H_66, H_67, kq_l, isC_0, isC_43, isC_65, isC_sh, gfA_sh, isC_65, H_65, g1, okS, okN, hn']
    | inr r =>
      obtain ⟨S', p'⟩ := r
      rw [hs] at g1 g2
      obtain ⟨q1, q2⟩ := g2.2 S' p' rfl
      subst q1 q2
      rw [pall_s hs]
      obtain ⟨o1, o2, o3, o4⟩ := stmP_o hI hp hs
      have ht := tst_b (B := B) o3
      have he := ten_b (B := B) ht.2
      have htk := tkn_b B zn (tst B zn p')
      have hnx := k_next (S := Sn) (S2 := Sx) (K := K) (kp := kp) (X := X) (T := T) (nC := nC) (E := E) (z := z) (B := B) (Rf := Rf) (D := D) (zn := zn) (f := f) (t := some 15) (d := d + 4) (a := a1) (b := b1) (c := c1) hz hz2 hb o3
      unfold rst
      by_cases h0 : tkn B zn (tst B zn p') = 0
      · rw [if_pos h0]
        rw [h0] at hnx
        refine ⟨Sx, a1, 0, ((tst B zn p' : Nat) : Int), ((ten B zn (tst B zn p') : Nat) : Int), ?_, fun s' h' => (by cases h'), fun S' n' h' => (by cases h'; rfl)⟩
        rw [e_62_12]
        simp (disch := omega) only [e_62_13, e_62_16, e_62_19, e_62_20, e_62_23, e_62_26, e_62_27, e_62_28, e_62_29, e_62_32, e_62_33, e_62_36, e_62_39, e_62_40, e_62_41, e_62_42, e_62_45, e_62_46, e_62_49, e_62_50, e_62_53, e_62_54, e_62_55, e_62_56, e_62_59, e_62_62, e_62_63, gfA_i, pfA_i, List.getElem?_cons_zero, List.getElem?_cons_succ, oK_some, rK_some, pR_some, pR_none, kq_i, kq_r, kq_n, kq_u, kq_o, kq_l, isRf_r, isRf_n, isRf_o, okv_r, okv_n, okv_o, is2_r, is2_o, is2_n, rcv_r, isC_i, if_true, if_pos, zI_add, zI_sub, zI_mul, nc_12, nc_8, nc_6, nc_40, nc_250, nc_3, len4_0, len4_1, len4_2, len4_3, len4_4, and_self, and_true, true_and, lenA_i, va_rf_s, va_rf_n, oN_none, oN_some, zI_lt, zI_eq, nat_tn, Int.lt_irrefl, Int.reduceEq, Int.reduceNe, Int.reduceLT, Int.reduceLE, Int.reduceSub, Int.reduceAdd, Int.reduceMul, Int.reduceDiv, Int.reduceNeg, Int.reduceToNat, or_self, or_false, false_or, if_false, if_true, not_true_eq_false, not_false_eq_true, or_true, true_or, and_false, false_and, ldI_0, stI_0, ldQ_q, gfA_0, gfA_43, gfA_65, H_0, H_43, H_48, H_65, H_66, H_67, kq_l, isC_0, isC_43, isC_65, isC_sh, gfA_sh, isC_65, H_65, c65_y, g1, okS, okN, hn', hnx]
      · rw [if_neg h0]
        by_cases h3 : tkn B zn (tst B zn p') = 3
        · rw [if_pos h3]
          rw [h3] at hnx
          have hlt := he.2.2 (Or.inr (Or.inr h3))
          obtain ⟨Sy, a2, b2, c2, e2, g3, g4, g5⟩ := ih Sx (ten B zn (tst B zn p')) (n + 1) a1 3 (tst B zn p') o1 he.2.1 (by omega) (by omega) (by omega)
          refine ⟨Sy, a2, b2, c2, e2, ?_, g4, g5⟩
          rw [← g3, e_62_12]
          simp (disch := omega) only [e_62_13, e_62_16, e_62_19, e_62_20, e_62_23, e_62_26, e_62_27, e_62_28, e_62_29, e_62_32, e_62_33, e_62_36, e_62_39, e_62_40, e_62_41, e_62_42, e_62_45, e_62_46, e_62_49, e_62_50, e_62_53, e_62_54, e_62_55, e_62_56, e_62_59, e_62_62, e_62_63, gfA_i, pfA_i, List.getElem?_cons_zero, List.getElem?_cons_succ, oK_some, rK_some, pR_some, pR_none, kq_i, kq_r, kq_n, kq_u, kq_o, kq_l, isRf_r, isRf_n, isRf_o, okv_r, okv_n, okv_o, is2_r, is2_o, is2_n, rcv_r, isC_i, if_true, if_pos, zI_add, zI_sub, zI_mul, nc_12, nc_8, nc_6, nc_40, nc_250, nc_3, nc_s, len4_0, len4_1, len4_2, len4_3, len4_4, and_self, and_true, true_and, lenA_i, va_rf_s, va_rf_n, oN_none, oN_some, zI_lt, zI_eq, nat_tn, nc_s, Int.lt_irrefl, Int.reduceEq, Int.reduceNe, Int.reduceLT, Int.reduceLE, Int.reduceSub, Int.reduceAdd, Int.reduceMul, Int.reduceDiv, Int.reduceNeg, Int.reduceToNat, or_self, or_false, false_or, if_false, if_true, not_true_eq_false, not_false_eq_true, or_true, true_or, and_false, false_and, ldI_0, stI_0, ldQ_q, gfA_0, gfA_43, gfA_65, H_0, H_43, H_48, H_65, H_66, H_67, kq_l, isC_0, isC_43, isC_65, isC_sh, gfA_sh, isC_65, H_65, c65_y, g1, okS, hn', hnx]
        · rw [if_neg h3]
          refine ⟨Sx, ((tst B zn p' : Nat) : Int), tkn B zn (tst B zn p'), ((tst B zn p' : Nat) : Int), ((ten B zn (tst B zn p') : Nat) : Int), ?_, fun s' h' => (by cases h'; rfl), fun S' n' h' => (by cases h')⟩
          rw [e_62_12]
          simp (disch := omega) only [e_62_13, e_62_16, e_62_19, e_62_20, e_62_23, e_62_26, e_62_27, e_62_28, e_62_29, e_62_32, e_62_33, e_62_36, e_62_39, e_62_40, e_62_41, e_62_42, e_62_45, e_62_46, e_62_49, e_62_50, e_62_53, e_62_54, e_62_55, e_62_56, e_62_59, e_62_62, e_62_63, gfA_i, pfA_i, List.getElem?_cons_zero, List.getElem?_cons_succ, oK_some, rK_some, pR_some, pR_none, kq_i, kq_r, kq_n, kq_u, kq_o, kq_l, isRf_r, isRf_n, isRf_o, okv_r, okv_n, okv_o, is2_r, is2_o, is2_n, rcv_r, isC_i, if_true, if_pos, zI_add, zI_sub, zI_mul, nc_12, nc_8, nc_6, nc_40, nc_250, nc_3, len4_0, len4_1, len4_2, len4_3, len4_4, and_self, and_true, true_and, lenA_i, va_rf_s, va_rf_n, oN_none, oN_some, zI_lt, zI_eq, nat_tn, Int.lt_irrefl, Int.reduceEq, Int.reduceNe, Int.reduceLT, Int.reduceLE, Int.reduceSub, Int.reduceAdd, Int.reduceMul, Int.reduceDiv, Int.reduceNeg, Int.reduceToNat, or_self, or_false, false_or, if_false, if_true, not_true_eq_false, not_false_eq_true, or_true, true_or, and_false, false_and, ldI_0, stI_0, ldQ_q, gfA_0, gfA_43, gfA_65, H_0, H_43, H_48, H_65, H_66, H_67, kq_l, isC_0, isC_43, isC_65, isC_sh, gfA_sh, isC_65, H_65, c65_y, g1, okS, okN, hn', hnx, h0, h3, k_faulty]
theorem k_into {d : Nat} {Y : Yt} (hI : In S) (hz : z = (zn : Int)) (hz2 : zn ≤ 250) (hb : BB B z) : ∃ Sx Yx, callD (d + 7) 62 [.ref 65, .ref 15] (H Sn S K kp X T nC E z B Y Rf D) = some (some (.int (zI (okN (pall B zn 251 S 0 1)))), H Sn Sx K kp X T nC E z B Yx Rf D) ∧ (∀ s, pall B zn 251 S 0 1 = .inl s → Yx.1 0 = (s : Int)) ∧ ∀ S' n', pall B zn 251 S 0 1 = .inr (S', n') → Sx = S' := by
  obtain ⟨f, t⟩ := Y
  obtain ⟨Sx, a, b, c, e, g1, g2, g3⟩ := k_all (f := f) (Sn := Sn) (K := K) (kp := kp) (X := X) (T := T) (nC := nC) (E := E) (z := z) (B := B) (Rf := Rf) (D := D) (zn := zn) (d := d) hz hz2 hb 251 S 0 1 (f 0) (f 1) (f 2) hI (by omega) (by omega) (by omega) (by omega)
  refine ⟨Sx, (yV f a b c e, some 15), ?_, fun s h => g2 s h, g3⟩
  have hm0 : mU (H Sn S K kp X T nC E z B (yV f (f 0) (f 1) (f 2) (f 3), t) Rf D) 65 (.inl (4, [.ref 66, .int (zI z), .int (zI (f 0)), .ref 15, .int (zI (f 1)), .int (zI (f 2)), .int (zI 0)])) = H Sn S K kp X T nC E z B (yV f (f 0) (f 1) (f 2) 0, some 15) Rf D := mU65_y (t' := some 15)
  rw [← g1, c_62 (is2_r _)]
  rw [show H Sn S K kp X T nC E z B (f, t) Rf D = H Sn S K kp X T nC E z B (yV f (f 0) (f 1) (f 2) (f 3), t) Rf D by rw [yV_self]]
  simp (disch := omega) only [e_62_0, e_62_1, e_62_2, e_62_5, e_62_6, e_62_7, e_62_10, e_62_11, gfA_i, pfA_i, List.getElem?_cons_zero, List.getElem?_cons_succ, oK_some, rK_some, pR_some, pR_none, kq_i, kq_r, kq_n, kq_u, kq_o, kq_l, isRf_r, isRf_n, isRf_o, okv_r, okv_n, okv_o, is2_r, is2_o, is2_n, rcv_r, isC_i, if_true, if_pos, zI_add, zI_sub, zI_mul, nc_12, nc_8, nc_6, nc_40, nc_250, nc_3, nc_s, len4_0, len4_1, len4_2, len4_3, len4_4, and_self, and_true, true_and, lenA_i, va_rf_s, va_rf_n, oN_none, oN_some, zI_lt, zI_eq, nat_tn, nc_s, Int.lt_irrefl, Int.reduceEq, Int.reduceNe, Int.reduceLT, Int.reduceLE, Int.reduceSub, Int.reduceAdd, Int.reduceMul, Int.reduceDiv, Int.reduceNeg, Int.reduceToNat, or_self, or_false, false_or, if_false, if_true, not_true_eq_false, not_false_eq_true, or_true, true_or, and_false, false_and, ldI_0, stI_0, ldQ_q, gfA_0, gfA_43, gfA_65, H_0, H_43, H_48, H_65, H_66, H_67, kq_l, isC_0, isC_43, isC_65, isC_sh, gfA_sh, isC_65, H_65, c65_y, mU_at, mU_mU, List.set_cons_succ, List.set_cons_zero, okv_0, okv_1, okv_i, okv_r, okv_n, okv_o, List.length_cons, List.length_nil, Nat.reduceAdd, Nat.reduceLT, Nat.zero_le, Nat.reduceLeDiff, hm0]
  rfl
end KL8
section RL8
variable {M : AM} {o : Nat} {S : Sc} {U : Nat → Int} {kt : Option Nat × Option Nat} {F : Nat → Nat → Int32} {E : Nat → Nat → Int64} {mv : Nat → Int64} {B : Nat → Int32} {zn : Nat}
theorem lkU_6 {p : Nat} {v : Int} : va_up (lkU B zn U p) 6 v = lkU B zn (va_up U 6 v) p := by
  funext y
  by_cases h : y = 6
  · subst h; rfl
  · rw [va_up_ne _ _ h]
    unfold lkU lkV
    rw [va_up_ne _ _ h]
def rok (r : Nat ⊕ (Sc × Nat)) (Sx : Sc) (Ux : Nat → Int) (F Fx : Nat → Nat → Int32) : Prop := (∀ s, r = .inl s → Ux 5 = (s : Int)) ∧ (∀ S' n', r = .inr (S', n') → Sx = S' ∧ Ux 6 = (n' : Int)) ∧ In Sx ∧ ∀ y, ¬ y = 6 → Fx y = F y
theorem r_all {d : Nat} (hz2 : zn ≤ 250) (hb : BB B zn) : ∀ (k : Nat) (S : Sc) (p n : Nat) (U : Nat → Int) (F : Nat → Nat → Int32), In S → p ≤ zn → zn < p + k → U 0 = (zn : Int) → U 6 = (n : Int) → F 4 = B → ∃ Sx Ux Fx, den (callD (d + 6)) 173 23 [.ref o] [] (G M o S ((lkU B zn U p)) kt F E mv) = some (some (.int (zI (okS (rst B zn k S p n)))), (G M o (Sx) (Ux) kt (Fx) E mv)) ∧ rok (rst B zn k S p n) Sx Ux F Fx := by
  intro k
  induction k with
  | zero => intro S p n U F hI hp h; omega
  | succ k ih =>
    intro S p n U F hI hp h hU0 hU6 hF4
    have ht := tst_b (B := B) hp
    have he := ten_b (B := B) ht.2
    have htk := tkn_b B zn (tst B zn p)
    have e2 : lkU B zn U p 2 = tkn B zn (tst B zn p) := rfl
    unfold rst
    by_cases h0 : tkn B zn (tst B zn p) = 0
    · rw [if_pos h0]
      refine ⟨S, lkU B zn U p, F, ?_, fun s h' => (by cases h'), fun S' n' h' => (by cases h'; exact ⟨rfl, (lkU_f (by omega)).trans hU6⟩), hI, fun y _ => rfl⟩
      rw [e_173_23]
      simp (disch := omega) only [e_173_24, e_173_27, e_173_30, e_173_31, e_173_34, e_173_35, e_173_38, e_173_39, e_173_42, e_173_43, e_173_44, e_173_47, e_173_48, e_173_51, e_173_54, e_173_55, e_173_56, e_173_57, e_173_57_i, e_173_58, e_173_61, e_173_62, e_173_63, e_173_66, e_173_69, e_173_70, gfA_i, pfA_i, List.getElem?_cons_zero, List.getElem?_cons_succ, oK_some, rK_some, pR_some, pR_none, kq_i, kq_r, kq_n, kq_u, kq_o, kq_l, isRf_r, isRf_n, isRf_o, okv_r, okv_n, okv_o, is2_r, is2_o, is2_n, rcv_r, isC_i, if_true, if_pos, zI_add, zI_sub, zI_mul, nc_12, nc_8, nc_6, nc_40, nc_250, nc_3, len4_0, len4_1, len4_2, len4_3, len4_4, and_self, and_true, true_and, lenA_i, va_rf_s, va_rf_n, oN_none, oN_some, zI_lt, zI_eq, nat_tn, Int.lt_irrefl, Int.reduceEq, Int.reduceNe, Int.reduceLT, Int.reduceLE, Int.reduceSub, Int.reduceAdd, Int.reduceMul, Int.reduceDiv, Int.reduceNeg, Int.reduceToNat, or_self, or_false, false_or, if_false, if_true, not_true_eq_false, not_false_eq_true, or_true, true_or, and_false, false_and, ldI_0, stI_0, isC_mcl, Int.add_zero, zJ_eq, Nat.reduceAdd, Nat.reduceLT, G_o, G_1, G_2, G_3, G_4, G_13, G_14, G_15, G_16, G_17, G_18, G_19, G_20, G_21, G_22, G_23, G_24, G_25, G_26, G_27, G_28, G_29, gm_0, gm_1, gm_2, gm_3, gm_4, gm_5, gm_6, gm_7, gm_8, gm_9, gm_10, gm_11, gm_12, gm_13, gm_14, gm_15, gm_16, gm_17, gm_18, gm_19, gm_20, gm_21, gm_22, gm_23, gm_24, gm_25, gm_26, gm_27, gm_28, gm_29, gm_30, gm_31, gm_32, gm_33, gm_34, gm_35, pm_7, pm_23, pm_24, pm_25, pm_26, pm_27, pm_29, pm_31, pm_34, pm_35, pm_9, pm_19, pm_20, pm_21, pm_22, mG_U, mG_8, mG_25, mG_1, mG_2, mG_3, mG_13, mG_14, mG_15, mG_16, mG_26, mG_27, mG_28, mG_29, mG_17, mG_18, mG_19, mG_20, mG_21, mG_22, mG_23, mG_24, kq_l, va_up_ne, va_up_self, e2, h0, okS]
    · rw [if_neg h0]
      by_cases h3 : tkn B zn (tst B zn p) = 3
      · rw [if_pos h3]
        have hlt := he.2.2 (Or.inr (Or.inr h3))
        have hlw := r_lookW (M := M) (o := o) (kt := kt) (E := E) (mv := mv) (S := S) (F := F) (d := d + 4) (U := U) hz2 hb hp hU0 hF4 (by omega)
        obtain ⟨Sx, Ux, Fx, g1, g2⟩ := r_stm (M := M) (o := o) (kt := kt) (E := E) (mv := mv) (F := F) (d := d) (U := U) hI hz2 hb he.2.1 hU0 hF4
        obtain ⟨⟨w1, w2⟩, w3, w4⟩ := g2
        cases hs : stmP B zn S (ten B zn (tst B zn p)) with
        | inl s =>
          rw [hs] at g1 w1 w2
          rw [pall_f hs]
          obtain ⟨x1, x2⟩ := w1 s rfl
          refine ⟨Sx, Ux, Fx, ?_, fun s h' => (by cases h'; exact x1), fun S' n' h' => (by cases h'), by rw [x2]; exact hI, w3⟩
          rw [e_173_23]
          simp (disch := omega) only [e_173_24, e_173_27, e_173_30, e_173_31, e_173_34, e_173_35, e_173_38, e_173_39, e_173_42, e_173_43, e_173_44, e_173_47, e_173_48, e_173_51, e_173_54, e_173_55, e_173_56, e_173_57, e_173_57_i, e_173_58, e_173_61, e_173_62, e_173_63, e_173_66, e_173_69, e_173_70, gfA_i, pfA_i, List.getElem?_cons_zero, List.getElem?_cons_succ, oK_some, rK_some, pR_some, pR_none, kq_i, kq_r, kq_n, kq_u, kq_o, kq_l, isRf_r, isRf_n, isRf_o, okv_r, okv_n, okv_o, is2_r, is2_o, is2_n, rcv_r, isC_i, if_true, if_pos, zI_add, zI_sub, zI_mul, nc_12, nc_8, nc_6, nc_40, nc_250, nc_3, len4_0, len4_1, len4_2, len4_3, len4_4, and_self, and_true, true_and, lenA_i, va_rf_s, va_rf_n, oN_none, oN_some, zI_lt, zI_eq, nat_tn, Int.lt_irrefl, Int.reduceEq, Int.reduceNe, Int.reduceLT, Int.reduceLE, Int.reduceSub, Int.reduceAdd, Int.reduceMul, Int.reduceDiv, Int.reduceNeg, Int.reduceToNat, or_self, or_false, false_or, if_false, if_true, not_true_eq_false, not_false_eq_true, or_true, true_or, and_false, false_and, ldI_0, stI_0, isC_mcl, Int.add_zero, zJ_eq, Nat.reduceAdd, Nat.reduceLT, G_o, G_1, G_2, G_3, G_4, G_13, G_14, G_15, G_16, G_17, G_18, G_19, G_20, G_21, G_22, G_23, G_24, G_25, G_26, G_27, G_28, G_29, gm_0, gm_1, gm_2, gm_3, gm_4, gm_5, gm_6, gm_7, gm_8, gm_9, gm_10, gm_11, gm_12, gm_13, gm_14, gm_15, gm_16, gm_17, gm_18, gm_19, gm_20, gm_21, gm_22, gm_23, gm_24, gm_25, gm_26, gm_27, gm_28, gm_29, gm_30, gm_31, gm_32, gm_33, gm_34, gm_35, pm_7, pm_23, pm_24, pm_25, pm_26, pm_27, pm_29, pm_31, pm_34, pm_35, pm_9, pm_19, pm_20, pm_21, pm_22, mG_U, mG_8, mG_25, mG_1, mG_2, mG_3, mG_13, mG_14, mG_15, mG_16, mG_26, mG_27, mG_28, mG_29, mG_17, mG_18, mG_19, mG_20, mG_21, mG_22, mG_23, mG_24, kq_l, va_up_ne, va_up_self, e2, h3, hlw, g1, okS]
        | inr r =>
          obtain ⟨S', p'⟩ := r
          rw [hs] at g1 w1 w2
          rw [pall_s hs]
          obtain ⟨x1, x2⟩ := w2 S' p' rfl
          subst x1 x2
          obtain ⟨o1, o2, o3, o4⟩ := stmP_o hI he.2.1 hs
          obtain ⟨Sy, Uy, Fy, g3, g4, g5, g6, g7⟩ := ih Sx p' (n + 1) (va_up U 6 ((n : Int) + 1)) Fx o1 o3 (by omega) hU0 (va_up_self _ _ _) ((w3 4 (by omega)).trans hF4)
          have e6 : lkU B zn U p' 6 = (n : Int) := (lkU_f (by omega)).trans hU6
          refine ⟨Sy, Uy, Fy, ?_, g4, g5, g6, fun y hy => (g7 y hy).trans (w3 y hy)⟩
          rw [← g3, e_173_23]
          simp (disch := omega) only [e_173_24, e_173_27, e_173_30, e_173_31, e_173_34, e_173_35, e_173_38, e_173_39, e_173_42, e_173_43, e_173_44, e_173_47, e_173_48, e_173_51, e_173_54, e_173_55, e_173_56, e_173_57, e_173_57_i, e_173_58, e_173_61, e_173_62, e_173_63, e_173_66, e_173_69, e_173_70, gfA_i, pfA_i, List.getElem?_cons_zero, List.getElem?_cons_succ, oK_some, rK_some, pR_some, pR_none, kq_i, kq_r, kq_n, kq_u, kq_o, kq_l, isRf_r, isRf_n, isRf_o, okv_r, okv_n, okv_o, is2_r, is2_o, is2_n, rcv_r, isC_i, if_true, if_pos, zI_add, zI_sub, zI_mul, nc_12, nc_8, nc_6, nc_40, nc_250, nc_3, nc_s, len4_0, len4_1, len4_2, len4_3, len4_4, and_self, and_true, true_and, lenA_i, va_rf_s, va_rf_n, oN_none, oN_some, zI_lt, zI_eq, nat_tn, nc_s, Int.lt_irrefl, Int.reduceEq, Int.reduceNe, Int.reduceLT, Int.reduceLE, Int.reduceSub, Int.reduceAdd, Int.reduceMul, Int.reduceDiv, Int.reduceNeg, Int.reduceToNat, or_self, or_false, false_or, if_false, if_true, not_true_eq_false, not_false_eq_true, or_true, true_or, and_false, false_and, ldI_0, stI_0, isC_mcl, Int.add_zero, zJ_eq, Nat.reduceAdd, Nat.reduceLT, G_o, G_1, G_2, G_3, G_4, G_13, G_14, G_15, G_16, G_17, G_18, G_19, G_20, G_21, G_22, G_23, G_24, G_25, G_26, G_27, G_28, G_29, gm_0, gm_1, gm_2, gm_3, gm_4, gm_5, gm_6, gm_7, gm_8, gm_9, gm_10, gm_11, gm_12, gm_13, gm_14, gm_15, gm_16, gm_17, gm_18, gm_19, gm_20, gm_21, gm_22, gm_23, gm_24, gm_25, gm_26, gm_27, gm_28, gm_29, gm_30, gm_31, gm_32, gm_33, gm_34, gm_35, pm_7, pm_23, pm_24, pm_25, pm_26, pm_27, pm_29, pm_31, pm_34, pm_35, pm_9, pm_19, pm_20, pm_21, pm_22, mG_U, mG_8, mG_25, mG_1, mG_2, mG_3, mG_13, mG_14, mG_15, mG_16, mG_26, mG_27, mG_28, mG_29, mG_17, mG_18, mG_19, mG_20, mG_21, mG_22, mG_23, mG_24, kq_l, va_up_ne, va_up_self, e2, e6, h3, hlw, g1, okS, lkU_6]
      · rw [if_neg h3]
        have hwr := r_wrong (M := M) (o := o) (kt := kt) (E := E) (mv := mv) (S := S) (F := F) (d := d + 5) (U := lkU B zn U p)
        refine ⟨S, va_up (lkU B zn U p) 5 (tst B zn p), F, ?_, fun s h' => (by cases h'; exact va_up_self _ _ _), fun S' n' h' => (by cases h'), hI, fun y _ => rfl⟩
        rw [e_173_23]
        simp (disch := omega) only [e_173_24, e_173_27, e_173_30, e_173_31, e_173_34, e_173_35, e_173_38, e_173_39, e_173_42, e_173_43, e_173_44, e_173_47, e_173_48, e_173_51, e_173_54, e_173_55, e_173_56, e_173_57, e_173_57_i, e_173_58, e_173_61, e_173_62, e_173_63, e_173_66, e_173_69, e_173_70, gfA_i, pfA_i, List.getElem?_cons_zero, List.getElem?_cons_succ, oK_some, rK_some, pR_some, pR_none, kq_i, kq_r, kq_n, kq_u, kq_o, kq_l, isRf_r, isRf_n, isRf_o, okv_r, okv_n, okv_o, is2_r, is2_o, is2_n, rcv_r, isC_i, if_true, if_pos, zI_add, zI_sub, zI_mul, nc_12, nc_8, nc_6, nc_40, nc_250, nc_3, len4_0, len4_1, len4_2, len4_3, len4_4, and_self, and_true, true_and, lenA_i, va_rf_s, va_rf_n, oN_none, oN_some, zI_lt, zI_eq, nat_tn, Int.lt_irrefl, Int.reduceEq, Int.reduceNe, Int.reduceLT, Int.reduceLE, Int.reduceSub, Int.reduceAdd, Int.reduceMul, Int.reduceDiv, Int.reduceNeg, Int.reduceToNat, or_self, or_false, false_or, if_false, if_true, not_true_eq_false, not_false_eq_true, or_true, true_or, and_false, false_and, ldI_0, stI_0, isC_mcl, Int.add_zero, zJ_eq, Nat.reduceAdd, Nat.reduceLT, G_o, G_1, G_2, G_3, G_4, G_13, G_14, G_15, G_16, G_17, G_18, G_19, G_20, G_21, G_22, G_23, G_24, G_25, G_26, G_27, G_28, G_29, gm_0, gm_1, gm_2, gm_3, gm_4, gm_5, gm_6, gm_7, gm_8, gm_9, gm_10, gm_11, gm_12, gm_13, gm_14, gm_15, gm_16, gm_17, gm_18, gm_19, gm_20, gm_21, gm_22, gm_23, gm_24, gm_25, gm_26, gm_27, gm_28, gm_29, gm_30, gm_31, gm_32, gm_33, gm_34, gm_35, pm_7, pm_23, pm_24, pm_25, pm_26, pm_27, pm_29, pm_31, pm_34, pm_35, pm_9, pm_19, pm_20, pm_21, pm_22, mG_U, mG_8, mG_25, mG_1, mG_2, mG_3, mG_13, mG_14, mG_15, mG_16, mG_26, mG_27, mG_28, mG_29, mG_17, mG_18, mG_19, mG_20, mG_21, mG_22, mG_23, mG_24, kq_l, va_up_ne, va_up_self, e2, h0, h3, hwr, okS]
        rfl
theorem r_readAll {d : Nat} (hI : In S) (hz2 : zn ≤ 250) (hb : BB B zn) (hU0 : U 0 = (zn : Int)) (hF4 : F 4 = B) : ∃ Sx Ux Fx, callD (d + 7) 173 [.ref o] (G M o S U kt F E mv) = some (some (.int (zI (okS (pall B zn 251 S 0 1)))), (G M o (Sx) (Ux) kt (Fx) E mv)) ∧ rok (pall B zn 251 S 0 1) Sx Ux F Fx := by
  have hu6 : va_up (va_up U 6 1) 1 0 6 = 1 := rfl
  have hlk := r_look (M := M) (o := o) (kt := kt) (E := E) (mv := mv) (S := S) (d := d + 4) (U := va_up (va_up U 6 1) 1 0) (F := F) (p := 0) hz2 hb (by omega) hU0 rfl hF4
  obtain ⟨Sx, Ux, Fx, g1, g2⟩ := r_stm (M := M) (o := o) (kt := kt) (E := E) (mv := mv) (F := F) (d := d) (U := va_up (va_up U 6 1) 1 0) hI hz2 hb (Nat.zero_le _) hU0 hF4
  obtain ⟨⟨w1, w2⟩, w3, w4⟩ := g2
  cases hs : stmP B zn S 0 with
  | inl s =>
    rw [hs] at g1 w1 w2
    rw [pall_f hs]
    obtain ⟨x1, x2⟩ := w1 s rfl
    refine ⟨Sx, Ux, Fx, ?_, fun s h' => (by cases h'; exact x1), fun S' n' h' => (by cases h'), by rw [x2]; exact hI, w3⟩
    rw [c_173]
    simp (disch := omega) only [e_173_0, e_173_1, e_173_2, e_173_5, e_173_6, e_173_7, e_173_10, e_173_11, e_173_14, e_173_15, e_173_18, e_173_21, e_173_22, gfA_i, pfA_i, List.getElem?_cons_zero, List.getElem?_cons_succ, oK_some, rK_some, pR_some, pR_none, kq_i, kq_r, kq_n, kq_u, kq_o, kq_l, isRf_r, isRf_n, isRf_o, okv_r, okv_n, okv_o, is2_r, is2_o, is2_n, rcv_r, isC_i, if_true, if_pos, zI_add, zI_sub, zI_mul, nc_12, nc_8, nc_6, nc_40, nc_250, nc_3, nc_s, len4_0, len4_1, len4_2, len4_3, len4_4, and_self, and_true, true_and, lenA_i, va_rf_s, va_rf_n, oN_none, oN_some, zI_lt, zI_eq, nat_tn, nc_s, Int.lt_irrefl, Int.reduceEq, Int.reduceNe, Int.reduceLT, Int.reduceLE, Int.reduceSub, Int.reduceAdd, Int.reduceMul, Int.reduceDiv, Int.reduceNeg, Int.reduceToNat, or_self, or_false, false_or, if_false, if_true, not_true_eq_false, not_false_eq_true, or_true, true_or, and_false, false_and, ldI_0, stI_0, isC_mcl, Int.add_zero, zJ_eq, Nat.reduceAdd, Nat.reduceLT, G_o, G_1, G_2, G_3, G_4, G_13, G_14, G_15, G_16, G_17, G_18, G_19, G_20, G_21, G_22, G_23, G_24, G_25, G_26, G_27, G_28, G_29, gm_0, gm_1, gm_2, gm_3, gm_4, gm_5, gm_6, gm_7, gm_8, gm_9, gm_10, gm_11, gm_12, gm_13, gm_14, gm_15, gm_16, gm_17, gm_18, gm_19, gm_20, gm_21, gm_22, gm_23, gm_24, gm_25, gm_26, gm_27, gm_28, gm_29, gm_30, gm_31, gm_32, gm_33, gm_34, gm_35, pm_7, pm_23, pm_24, pm_25, pm_26, pm_27, pm_29, pm_31, pm_34, pm_35, pm_9, pm_19, pm_20, pm_21, pm_22, mG_U, mG_8, mG_25, mG_1, mG_2, mG_3, mG_13, mG_14, mG_15, mG_16, mG_26, mG_27, mG_28, mG_29, mG_17, mG_18, mG_19, mG_20, mG_21, mG_22, mG_23, mG_24, kq_l, va_up_ne, va_up_self, hlk, g1, okS]
  | inr r =>
    obtain ⟨S', p'⟩ := r
    rw [hs] at g1 w1 w2
    rw [pall_s hs]
    obtain ⟨x1, x2⟩ := w2 S' p' rfl
    subst x1 x2
    obtain ⟨o1, o2, o3, o4⟩ := stmP_o hI (Nat.zero_le _) hs
    obtain ⟨Sy, Uy, Fy, g3, g4, g5, g6, g7⟩ := r_all (M := M) (o := o) (kt := kt) (E := E) (mv := mv) (d := d) hz2 hb 250 Sx p' 1 (va_up (va_up U 6 1) 1 0) Fx o1 o3 (by omega) hU0 hu6 ((w3 4 (by omega)).trans hF4)
    refine ⟨Sy, Uy, Fy, ?_, g4, g5, g6, fun y hy => (g7 y hy).trans (w3 y hy)⟩
    rw [← g3, c_173]
    simp (disch := omega) only [e_173_0, e_173_1, e_173_2, e_173_5, e_173_6, e_173_7, e_173_10, e_173_11, e_173_14, e_173_15, e_173_18, e_173_21, e_173_22, gfA_i, pfA_i, List.getElem?_cons_zero, List.getElem?_cons_succ, oK_some, rK_some, pR_some, pR_none, kq_i, kq_r, kq_n, kq_u, kq_o, kq_l, isRf_r, isRf_n, isRf_o, okv_r, okv_n, okv_o, is2_r, is2_o, is2_n, rcv_r, isC_i, if_true, if_pos, zI_add, zI_sub, zI_mul, nc_12, nc_8, nc_6, nc_40, nc_250, nc_3, nc_s, len4_0, len4_1, len4_2, len4_3, len4_4, and_self, and_true, true_and, lenA_i, va_rf_s, va_rf_n, oN_none, oN_some, zI_lt, zI_eq, nat_tn, nc_s, Int.lt_irrefl, Int.reduceEq, Int.reduceNe, Int.reduceLT, Int.reduceLE, Int.reduceSub, Int.reduceAdd, Int.reduceMul, Int.reduceDiv, Int.reduceNeg, Int.reduceToNat, or_self, or_false, false_or, if_false, if_true, not_true_eq_false, not_false_eq_true, or_true, true_or, and_false, false_and, ldI_0, stI_0, isC_mcl, Int.add_zero, zJ_eq, Nat.reduceAdd, Nat.reduceLT, G_o, G_1, G_2, G_3, G_4, G_13, G_14, G_15, G_16, G_17, G_18, G_19, G_20, G_21, G_22, G_23, G_24, G_25, G_26, G_27, G_28, G_29, gm_0, gm_1, gm_2, gm_3, gm_4, gm_5, gm_6, gm_7, gm_8, gm_9, gm_10, gm_11, gm_12, gm_13, gm_14, gm_15, gm_16, gm_17, gm_18, gm_19, gm_20, gm_21, gm_22, gm_23, gm_24, gm_25, gm_26, gm_27, gm_28, gm_29, gm_30, gm_31, gm_32, gm_33, gm_34, gm_35, pm_7, pm_23, pm_24, pm_25, pm_26, pm_27, pm_29, pm_31, pm_34, pm_35, pm_9, pm_19, pm_20, pm_21, pm_22, mG_U, mG_8, mG_25, mG_1, mG_2, mG_3, mG_13, mG_14, mG_15, mG_16, mG_26, mG_27, mG_28, mG_29, mG_17, mG_18, mG_19, mG_20, mG_21, mG_22, mG_23, mG_24, kq_l, va_up_ne, va_up_self, hlk, g1, okS]
end RL8
