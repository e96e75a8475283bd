theorem mN_1 {M : AM} {k : Nat} {c : AC} : (mN M k c).1 = M.1 + 1 := rfl
theorem mU_1 {M : AM} {a : Nat} {c : AC} : (mU M a c).1 = M.1 := rfl
theorem mN_a {M : AM} {k : Nat} {c : AC} : (mN M k c).2.2 M.1 = c := if_pos rfl
theorem mN_ne {M : AM} {k q : Nat} {c : AC} (h : ¬ q = M.1) : (mN M k c).2.2 q = M.2.2 q := if_neg h
section IN3
variable {M : AM} {b i s : Nat} {C : Nat → AC}
def Sst (C : Nat → AC) (b i s : Nat) : AM := (b + 2 + i, s, fun q => if q = b then .inl (2, [.ref (b + 1), .int 0, .int 0, .int 0, .int 0, .int 0, .int 0]) else if q = b + 1 then .inr (2, 12, .inr (.inr fun j => if j < i then some (b + 2 + j) else none)) else if b + 2 ≤ q ∧ q < b + 2 + i then pcl sc0 b (q - (b + 2)) else C q)
theorem Sst_1 : (Sst C b i s).1 = b + 2 + i := rfl
theorem Sst_b : (Sst C b i s).2.2 b = .inl (2, [.ref (b + 1), .int 0, .int 0, .int 0, .int 0, .int 0, .int 0]) := if_pos rfl
theorem Sst_a : (Sst C b i s).2.2 (b + 1) = .inr (2, 12, .inr (.inr fun j => if j < i then some (b + 2 + j) else none)) := (if_neg (by omega)).trans (if_pos rfl)
theorem Sst_s : mU (mU (mN (Sst C b i s) 10 (.inl (1, dflA 1))) (b + 2 + i) (pcl sc0 b i)) (b + 1) (.inr (2, 12, .inr (.inr (va_up (fun j => if j < i then some (b + 2 + j) else none) i (some (b + 2 + i)))))) = Sst C b (i + 1) (s + 10) := by
  refine Prod.ext rfl (Prod.ext rfl (funext fun q => ?_))
  show (if q = b + 1 then (_ : AC) else if q = b + 2 + i then _ else if q = b + 2 + i then _ else if q = b then _ else if q = b + 1 then _ else if b + 2 ≤ q ∧ q < b + 2 + i then _ else C q) = (if q = b then (_ : AC) else if q = b + 1 then _ else if b + 2 ≤ q ∧ q < b + 2 + (i + 1) then _ else C q)
  by_cases e1 : q = b + 1
  · rw [if_pos e1, if_neg (by omega), if_pos e1]
    refine congrArg (fun f => (Sum.inr (2, 12, Sum.inr (Sum.inr f)) : AC)) (funext fun j => ?_)
    unfold va_up
    by_cases e : j = i
    · rw [if_pos e, if_pos (by omega), e]
    · rw [if_neg e]
      dsimp only
      by_cases e2 : j < i
      · rw [if_pos e2, if_pos (by omega)]
      · rw [if_neg e2, if_neg (by omega)]
  · rw [if_neg e1]
    by_cases e2 : q = b + 2 + i
    · rw [if_pos e2, if_neg (by omega), if_neg e1, if_pos (by omega), show q - (b + 2) = i by omega]
    · rw [if_neg e2, if_neg e2]
      by_cases e3 : q = b
      · rw [if_pos e3, if_pos e3]
      · rw [if_neg e3, if_neg e3, if_neg e1, if_neg e1]
        by_cases e4 : b + 2 ≤ q ∧ q < b + 2 + i
        · rw [if_pos e4, if_pos (by omega)]
        · rw [if_neg e4, if_neg (by omega)]
theorem pcl0 : pcl sc0 b i = .inl (1, [.int (zI i), .int 0, .int 0, .int 0, .int 0, .int 0, .null, .int 0, .int 0, .int 0]) := by
  unfold pcl hrI frO
  rw [if_neg (show ¬ (i : Int) < sc0 8 0 by rw [sc0_8.1]; omega), if_neg (fun q => absurd q.1 (by rw [sc0_8.1]; omega))]
  rfl
theorem m_pinit {d a : Nat} {x : Int32} (h : M.2.2 a = .inl (1, dflA 1)) : callD (d + 1) 12 [.ref a, .int x] M = some (none, mU M a (.inl (1, [.int x, .int 0, .int 0, .int 0, .int 0, .int 0, .null, .int 0, .int 0, .int 0]))) := by
  rw [c_12]
  have hp : pfA (.inl (1, dflA 1)) 1 0 (.int x) = some (.inl (1, [.int x, .int 0, .int 0, .int 0, .int 0, .int 0, .null, .int 0, .int 0, .int 0])) := rfl
  simp (disch := omega) only [e_12_0, e_12_1, e_12_4, e_12_5, e_12_6, e_12_9, gfA_i, pfA_i, List.getElem?_cons_zero, List.getElem?_cons_succ, oK_some, rK_some, pR_some, pR_none, kq_i, kq_r, kq_n, kq_u, kq_o, kq_l, isRf_r, isRf_n, isRf_o, okv_r, okv_n, okv_o, is2_r, is2_o, is2_n, rcv_r, isC_i, if_true, if_pos, zI_add, zI_sub, zI_mul, nc_12, nc_8, nc_6, nc_40, nc_250, nc_3, len4_0, len4_1, len4_2, len4_3, len4_4, and_self, and_true, true_and, lenA_i, va_rf_s, va_rf_n, oN_none, oN_some, zI_lt, zI_eq, nat_tn, Int.lt_irrefl, Int.reduceEq, Int.reduceNe, Int.reduceLT, Int.reduceLE, Int.reduceSub, Int.reduceAdd, Int.reduceMul, Int.reduceDiv, Int.reduceNeg, Int.reduceToNat, or_self, or_false, false_or, if_false, if_true, not_true_eq_false, not_false_eq_true, or_true, true_or, and_false, false_and, zI_toInt, zI_tn, rcv_c, List.length_cons, List.length_nil, Nat.reduceAdd, Nat.zero_le, Nat.reduceLeDiff, oK_some, okv_r, okv_i, mN_1, mU_1, mN_a, mU_at, mU_ne, mN_ne, h, hp]
theorem stQ_m {M : AM} {t n q i : Nat} {f : Nat → Option Nat} (ht : t = 2 ∨ t = 3) (hi : i < n) (hn : n < 1000) (h : isC (M.2.2 q) (elc t) = true) : stQ M (.inr (t, n, .inr (.inr f))) (zI i) (.ref q) = some (.inr (t, n, .inr (.inr (va_up f i (some q))))) := by
  unfold stQ
  dsimp only
  rw [if_pos ⟨ht, by rw [zI_toInt (by omega) (by omega)]; omega, by rw [zI_toInt (by omega) (by omega)]; omega⟩, if_pos h, zI_tn (by omega) (by omega), Int.toNat_natCast]
theorem sch_loop {d : Nat} (hb : b + 20 < 600000) : ∀ (k i s : Nat), i + k = 12 → den (callD (d + 1)) 23 15 [.ref b, .int (zI i)] [] (Sst C b i s) = den (callD (d + 1)) 23 41 [.ref b, .int (zI 12)] [] (Sst C b 12 (s + 10 * k)) := by
  intro k
  induction k with
  | zero =>
    intro i s h
    have e : i = 12 := by omega
    subst e
    rw [e_23_15]
    simp (disch := omega) only [e_23_16, e_23_18, gfA_i, pfA_i, List.getElem?_cons_zero, List.getElem?_cons_succ, oK_some, rK_some, pR_some, pR_none, kq_i, kq_r, kq_n, kq_u, kq_o, kq_l, isRf_r, isRf_n, isRf_o, okv_r, okv_n, okv_o, is2_r, is2_o, is2_n, rcv_r, isC_i, if_true, if_pos, zI_add, zI_sub, zI_mul, nc_12, nc_8, nc_6, nc_40, nc_250, nc_3, len4_0, len4_1, len4_2, len4_3, len4_4, and_self, and_true, true_and, lenA_i, va_rf_s, va_rf_n, oN_none, oN_some, zI_lt, zI_eq, nat_tn, Int.lt_irrefl, Int.reduceEq, Int.reduceNe, Int.reduceLT, Int.reduceLE, Int.reduceSub, Int.reduceAdd, Int.reduceMul, Int.reduceDiv, Int.reduceNeg, Int.reduceToNat, or_self, or_false, false_or, if_false, if_true, not_true_eq_false, not_false_eq_true, or_true, true_or, and_false, false_and, zI_toInt, zI_tn, rcv_c, List.length_cons, List.length_nil, Nat.reduceAdd, Nat.zero_le, Nat.reduceLeDiff, oK_some, okv_r, okv_i, mN_1, mU_1, mN_a, mU_at, mU_ne, mN_ne]
    rfl
  | succ k ih =>
    intro i s h
    have h2 := ih (i + 1) (s + 10) (by omega)
    have hi : i < 12 := by omega
    rw [show s + 10 + 10 * k = s + 10 * (k + 1) by omega] at h2
    have e1 : (mN (Sst C b i s) 10 (.inl (1, dflA 1))).2.2 (b + 2 + i) = .inl (1, dflA 1) := mN_a
    have hpi := m_pinit (d := d) (x := zI i) e1
    rw [← pcl0 (b := b)] at hpi
    have e2 : isC (.inl (1, dflA 1)) 1 = true := rfl
    have e3 : isC (pcl sc0 b i) (elc 2) = true := rfl
    have e4 : (mU (mN (Sst C b i s) 10 (.inl (1, dflA 1))) (b + 2 + i) (pcl sc0 b i)).2.2 (b + 1) = .inr (2, 12, .inr (.inr fun j => if j < i then some (b + 2 + j) else none)) := by
      rw [mU_ne (by omega), mN_ne (by rw [Sst_1]; omega), Sst_a]
    have e7 : (mN (Sst C b i s) 10 (.inl (1, dflA 1))).2.2 (b + 1) = .inr (2, 12, .inr (.inr fun j => if j < i then some (b + 2 + j) else none)) := by
      rw [mN_ne (by rw [Sst_1]; omega), Sst_a]
    have e5 : stQ (mU (mN (Sst C b i s) 10 (.inl (1, dflA 1))) (b + 2 + i) (pcl sc0 b i)) (.inr (2, 12, .inr (.inr fun j => if j < i then some (b + 2 + j) else none))) (zI i) (.ref (b + 2 + i)) = some (.inr (2, 12, .inr (.inr (va_up (fun j => if j < i then some (b + 2 + j) else none) i (some (b + 2 + i)))))) := stQ_m (Or.inl rfl) hi (by omega) (by rw [mU_at]; exact e3)
    have e6 : gfA (.inl (2, [.ref (b + 1), .int 0, .int 0, .int 0, .int 0, .int 0, .int 0])) 2 0 = some (.ref (b + 1)) := rfl
    rw [← h2, e_23_15]
    simp (disch := omega) only [e_23_16, e_23_18, e_23_21, e_23_22, e_23_25, e_23_26, e_23_29, e_23_29_i, e_23_30, e_23_31, e_23_34, e_23_35, e_23_38, gfA_i, pfA_i, List.getElem?_cons_zero, List.getElem?_cons_succ, oK_some, rK_some, pR_some, pR_none, kq_i, kq_r, kq_n, kq_u, kq_o, kq_l, isRf_r, isRf_n, isRf_o, okv_r, okv_n, okv_o, is2_r, is2_o, is2_n, rcv_r, isC_i, if_true, if_pos, zI_add, zI_sub, zI_mul, nc_12, nc_8, nc_6, nc_40, nc_250, nc_3, len4_0, len4_1, len4_2, len4_3, len4_4, and_self, and_true, true_and, lenA_i, va_rf_s, va_rf_n, oN_none, oN_some, zI_lt, zI_eq, nat_tn, Int.lt_irrefl, Int.reduceEq, Int.reduceNe, Int.reduceLT, Int.reduceLE, Int.reduceSub, Int.reduceAdd, Int.reduceMul, Int.reduceDiv, Int.reduceNeg, Int.reduceToNat, or_self, or_false, false_or, if_false, if_true, not_true_eq_false, not_false_eq_true, or_true, true_or, and_false, false_and, zI_toInt, zI_tn, rcv_c, List.length_cons, List.length_nil, Nat.reduceAdd, Nat.zero_le, Nat.reduceLeDiff, oK_some, okv_r, okv_i, mN_1, mU_1, mN_a, mU_at, mU_ne, mN_ne, Sst_1, Sst_b, e6, e1, e2, hpi, e4, e7, e5, Sst_s]
    rfl
theorem sch_init {d : Nat} (hb : M.1 + 20 < 600000) : callD (d + 2) 23 [.ref M.1] (mN M 7 (.inl (2, dflA 2))) = some (none, (M.1 + 14, M.2.1 + 139, (putS M M.1 sc0).2.2)) := by
  obtain ⟨b, s, C⟩ := M
  have hlo : den (callD (d + 1)) 23 15 [.ref b, .int (zI 0)] [] (Sst C b 0 (s + 19)) = den (callD (d + 1)) 23 41 [.ref b, .int (zI 12)] [] (Sst C b 12 (s + 19 + 10 * 12)) := sch_loop (C := C) (b := b) (d := d) hb 12 0 (s + 19) (by omega)
  have e1 : (mN (b, s, C) 7 (.inl (2, dflA 2))).2.2 b = .inl (2, dflA 2) := mN_a
  have e2 : pfA (.inl (2, dflA 2)) 2 0 (.ref (b + 1)) = some (.inl (2, [.ref (b + 1), .int 0, .int 0, .int 0, .int 0, .int 0, .int 0])) := rfl
  have e3 : mU (mN (mN (b, s, C) 7 (.inl (2, dflA 2))) 12 (nwA 2 12)) b (.inl (2, [.ref (b + 1), .int 0, .int 0, .int 0, .int 0, .int 0, .int 0])) = Sst C b 0 (s + 19) := by
    refine Prod.ext rfl (Prod.ext rfl (funext fun q => ?_))
    show (if q = b then (_ : AC) else if q = b + 1 then _ else if q = b then _ else C q) = (if q = b then (_ : AC) else if q = b + 1 then _ else if b + 2 ≤ q ∧ q < b + 2 + 0 then _ else C q)
    by_cases h1 : q = b
    · rw [if_pos h1, if_pos h1]
    · rw [if_neg h1, if_neg h1, if_neg h1, if_neg (show ¬ (b + 2 ≤ q ∧ q < b + 2 + 0) by omega)]
      by_cases h2 : q = b + 1
      · rw [if_pos h2, if_pos h2]
        refine congrArg (fun f => (Sum.inr (2, 12, Sum.inr (Sum.inr f)) : AC)) (funext fun j => ?_)
        exact (if_neg (by omega)).symm
      · rw [if_neg h2, if_neg h2]
  have e4 : (mN (mN (b, s, C) 7 (.inl (2, dflA 2))) 12 (nwA 2 12)).2.2 b = .inl (2, dflA 2) := by
    rw [mN_ne (by show ¬ b = b + 1; omega)]; exact e1
  have e5 : mU (Sst C b 12 (s + 19 + 10 * 12)) b (scl sc0 b) = (b + 14, s + 139, (putS (b, s, C) b sc0).2.2) := by
    refine Prod.ext rfl (Prod.ext rfl (funext fun q => ?_))
    show (if q = b then scl sc0 b else if q = b then _ else if q = b + 1 then _ else if b + 2 ≤ q ∧ q < b + 2 + 12 then _ else C q) = (if q = b then scl sc0 b else if q = b + 1 then parr b else if b + 2 ≤ q ∧ q < b + 14 then _ else C q)
    by_cases h1 : q = b
    · rw [if_pos h1, if_pos h1]
    · rw [if_neg h1, if_neg h1, if_neg h1]
      rfl
  have p : ∀ (k : Nat) (x1 x2 x3 x4 x5 x6 y : Value) (fs' : List Value), [.ref (b + 1), x1, x2, x3, x4, x5, x6].set k y = fs' → k < 7 → pfA (.inl (2, [.ref (b + 1), x1, x2, x3, x4, x5, x6])) 2 k y = some (.inl (2, fs')) := fun k x1 x2 x3 x4 x5 x6 y fs' h hk => by
    unfold pfA
    dsimp only
    rw [if_pos ⟨rfl, hk⟩, h]
  rw [c_23]
  have e6 : scl sc0 b = .inl (2, [.ref (b + 1), .int (zI 0), .int (zI 1), .int (zI 1), .int (zI 0), .int (zI 0), .int (zI 1)]) := rfl
  rw [e6] at e5
  have z0 : (Value.int 0) = .int (zI 0) := rfl
  have p1 := p 1 (.int 0) (.int 0) (.int 0) (.int 0) (.int 0) (.int 0) (.int (zI 0)) _ rfl (by omega)
  have p2 := p 2 (.int (zI 0)) (.int 0) (.int 0) (.int 0) (.int 0) (.int 0) (.int (zI 1)) _ rfl (by omega)
  have p3 := p 3 (.int (zI 0)) (.int (zI 1)) (.int 0) (.int 0) (.int 0) (.int 0) (.int (zI 1)) _ rfl (by omega)
  have p4 := p 4 (.int (zI 0)) (.int (zI 1)) (.int (zI 1)) (.int 0) (.int 0) (.int 0) (.int (zI 0)) _ rfl (by omega)
  have p5 := p 5 (.int (zI 0)) (.int (zI 1)) (.int (zI 1)) (.int (zI 0)) (.int 0) (.int 0) (.int (zI 0)) _ rfl (by omega)
  have p6 := p 6 (.int (zI 0)) (.int (zI 1)) (.int (zI 1)) (.int (zI 0)) (.int (zI 0)) (.int 0) (.int (zI 1)) _ rfl (by omega)
  simp only [List.set_cons_succ, List.set_cons_zero] at p1 p2 p3 p4 p5 p6
  have x1 : ((b, s, C) : AM).1 = b := rfl
  simp (disch := omega) only [e_23_0, e_23_1, e_23_4, e_23_5, e_23_7, e_23_10, e_23_13, e_23_14, gfA_i, pfA_i, List.getElem?_cons_zero, List.getElem?_cons_succ, oK_some, rK_some, pR_some, pR_none, kq_i, kq_r, kq_n, kq_u, kq_o, kq_l, isRf_r, isRf_n, isRf_o, okv_r, okv_n, okv_o, is2_r, is2_o, is2_n, rcv_r, isC_i, if_true, if_pos, zI_add, zI_sub, zI_mul, nc_12, nc_8, nc_6, nc_40, nc_250, nc_3, len4_0, len4_1, len4_2, len4_3, len4_4, and_self, and_true, true_and, lenA_i, va_rf_s, va_rf_n, oN_none, oN_some, zI_lt, zI_eq, nat_tn, Int.lt_irrefl, Int.reduceEq, Int.reduceNe, Int.reduceLT, Int.reduceLE, Int.reduceSub, Int.reduceAdd, Int.reduceMul, Int.reduceDiv, Int.reduceNeg, Int.reduceToNat, or_self, or_false, false_or, if_false, if_true, not_true_eq_false, not_false_eq_true, or_true, true_or, and_false, false_and, zI_toInt, zI_tn, rcv_c, List.length_cons, List.length_nil, Nat.reduceAdd, Nat.zero_le, Nat.reduceLeDiff, oK_some, okv_r, okv_i, mN_1, mU_1, mN_a, mU_at, mU_ne, mN_ne, x1, e4, e2, e3]
  rw [hlo]
  simp (disch := omega) only [e_23_41, e_23_42, e_23_43, e_23_46, e_23_47, e_23_48, e_23_51, e_23_52, e_23_53, e_23_56, e_23_57, e_23_58, e_23_61, e_23_62, e_23_63, e_23_66, e_23_67, e_23_68, e_23_71, gfA_i, pfA_i, List.getElem?_cons_zero, List.getElem?_cons_succ, oK_some, rK_some, pR_some, pR_none, kq_i, kq_r, kq_n, kq_u, kq_o, kq_l, isRf_r, isRf_n, isRf_o, okv_r, okv_n, okv_o, is2_r, is2_o, is2_n, rcv_r, isC_i, if_true, if_pos, zI_add, zI_sub, zI_mul, nc_12, nc_8, nc_6, nc_40, nc_250, nc_3, len4_0, len4_1, len4_2, len4_3, len4_4, and_self, and_true, true_and, lenA_i, va_rf_s, va_rf_n, oN_none, oN_some, zI_lt, zI_eq, nat_tn, Int.lt_irrefl, Int.reduceEq, Int.reduceNe, Int.reduceLT, Int.reduceLE, Int.reduceSub, Int.reduceAdd, Int.reduceMul, Int.reduceDiv, Int.reduceNeg, Int.reduceToNat, or_self, or_false, false_or, if_false, if_true, not_true_eq_false, not_false_eq_true, or_true, true_or, and_false, false_and, zI_toInt, zI_tn, rcv_c, List.length_cons, List.length_nil, Nat.reduceAdd, Nat.zero_le, Nat.reduceLeDiff, oK_some, okv_r, okv_i, mN_1, mU_1, mN_a, mU_at, mU_ne, mN_ne, Sst_b, p1, p2, p3, p4, p5, p6, mU_mU, e5]
end IN3
