section IN6
variable {F C : Nat → AC} {n s k : Nat} {fs fs' : List Value} {d : Nat} {c : AC}
theorem sha_s {i : Nat} : (.inr (3, 8, .inr (.inr (va_up (fun j => if j < i then some (49 + 2 * j) else none) i (some (49 + 2 * i))))) : AC) = shA (i + 1) := by
  refine congrArg (fun f => (Sum.inr (3, 8, Sum.inr (Sum.inr f)) : AC)) (funext fun j => ?_)
  unfold va_up
  by_cases e : j = i
  · rw [if_pos e, if_pos (by omega), e]
  · rw [if_neg e]
    dsimp only
    by_cases e2 : j < i
    · rw [if_pos e2, if_pos (by omega)]
    · rw [if_neg e2, if_neg (by omega)]
def fsL : List Value := [.ref 1, .ref 15, .ref 29, .int (zI 0), .ref 43, .ref 48, .null, .null]
theorem shl_loop (hs : ∀ i, i < 8 → F (49 + 2 * i) = shl (49 + 2 * i) 0 0 0 0) (hc : ∀ i, i < 8 → F (49 + 2 * i + 1) = cel (fun _ => 0)) : ∀ (k i s : Nat), i + k = 8 → den (callD (d + 1)) 74 64 [.ref 0, .int (zI i)] [] (Lst F C i s fsL) = den (callD (d + 1)) 74 89 [.ref 0, .int (zI 8)] [] (Lst F C 8 (s + 45 * k) fsL) := by
  intro k
  induction k with
  | zero =>
    intro i s h
    have e : i = 8 := by omega
    subst e
    rw [e_74_64]
    simp (disch := omega) only [e_74_65, e_74_67, gfA_i, pfA_i, List.getElem?_cons_zero, List.getElem?_cons_succ, oK_some, rK_some, pR_some, pR_none, kq_i, kq_r, kq_n, kq_u, kq_o, kq_l, isRf_r, isRf_n, isRf_o, okv_r, okv_n, okv_o, is2_r, is2_o, is2_n, rcv_r, isC_i, if_true, if_pos, zI_add, zI_sub, zI_mul, nc_12, nc_8, nc_6, nc_40, nc_250, nc_3, len4_0, len4_1, len4_2, len4_3, len4_4, and_self, and_true, true_and, lenA_i, va_rf_s, va_rf_n, oN_none, oN_some, zI_lt, zI_eq, nat_tn, Int.lt_irrefl, Int.reduceEq, Int.reduceNe, Int.reduceLT, Int.reduceLE, Int.reduceSub, Int.reduceAdd, Int.reduceMul, Int.reduceDiv, Int.reduceNeg, Int.reduceToNat, or_self, or_false, false_or, if_false, if_true, not_true_eq_false, not_false_eq_true, or_true, true_or, and_false, false_and, zI_toInt, zI_tn, rcv_c, List.length_cons, List.length_nil, Nat.reduceAdd, Nat.zero_le, Nat.reduceLeDiff, oK_some, okv_r, okv_i, mN_1, mU_1, mN_a, mU_at, mU_ne, mN_ne]
    rfl
  | succ k ih =>
    intro i s h
    have h2 := ih (i + 1) (s + 45) (by omega)
    have hi : i < 8 := by omega
    rw [show s + 45 + 45 * k = s + 45 * (k + 1) by omega] at h2
    have hL := shf_L (F := F) (C := C) (s := s) (fs := fsL) (d := d) hi (hs i hi) (hc i hi)
    have x1 : (Lst F C i s fsL).1 = 49 + 2 * i := rfl
    have x0 : (Lst F C i s fsL).2.2 0 = .inl (5, fsL) := rfl
    have g5 : gfA (.inl (5, fsL)) 5 5 = some (.ref 48) := rfl
    have e1 : (mN (Lst F C i s fsL) 5 (.inl (3, dflA 3))).2.2 (49 + 2 * i) = .inl (3, dflA 3) := mN_a
    have e2 : isC (.inl (3, dflA 3)) 3 = true := rfl
    have e3 : (Kst F C (49 + 2 * (i + 1)) (s + 45) fsL).2.2 (49 + 2 * i) = shl (49 + 2 * i) 0 0 0 0 := (K_in (by omega) (by omega)).trans (hs i hi)
    have e4 : stQ (mU (Kst F C (49 + 2 * (i + 1)) (s + 45) fsL) 48 (shA i)) (shA i) (zI i) (.ref (49 + 2 * i)) = some (.inr (3, 8, .inr (.inr (va_up (fun j => if j < i then some (49 + 2 * j) else none) i (some (49 + 2 * i)))))) := stQ_m (Or.inr rfl) hi (by omega) (by rw [mU_ne (by omega), e3]; rfl)
    rw [sha_s] at e4
    have e5 : mU (Kst F C (49 + 2 * (i + 1)) (s + 45) fsL) 48 (shA (i + 1)) = Lst F C (i + 1) (s + 45) fsL := rfl
    rw [← h2, e_74_64]
    simp (disch := omega) only [e_74_65, e_74_67, e_74_70, e_74_71, e_74_74, e_74_75, e_74_78, e_74_78_i, e_74_79, e_74_82, e_74_83, e_74_86, gfA_i, pfA_i, List.getElem?_cons_zero, List.getElem?_cons_succ, oK_some, rK_some, pR_some, pR_none, kq_i, kq_r, kq_n, kq_u, kq_o, kq_l, isRf_r, isRf_n, isRf_o, okv_r, okv_n, okv_o, is2_r, is2_o, is2_n, rcv_r, isC_i, if_true, if_pos, zI_add, zI_sub, zI_mul, nc_12, nc_8, nc_6, nc_40, nc_250, nc_3, len4_0, len4_1, len4_2, len4_3, len4_4, and_self, and_true, true_and, lenA_i, va_rf_s, va_rf_n, oN_none, oN_some, zI_lt, zI_eq, nat_tn, Int.lt_irrefl, Int.reduceEq, Int.reduceNe, Int.reduceLT, Int.reduceLE, Int.reduceSub, Int.reduceAdd, Int.reduceMul, Int.reduceDiv, Int.reduceNeg, Int.reduceToNat, or_self, or_false, false_or, if_false, if_true, not_true_eq_false, not_false_eq_true, or_true, true_or, and_false, false_and, zI_toInt, zI_tn, rcv_c, List.length_cons, List.length_nil, Nat.reduceAdd, Nat.zero_le, Nat.reduceLeDiff, oK_some, okv_r, okv_i, mN_1, mU_1, mN_a, mU_at, mU_ne, mN_ne, x1, x0, g5, e1, e2, hL, e4, mU_mU, e5]
    rfl
theorem car_init (a1 : F 1 = scl sc0 1) (a2 : F 2 = parr 1) (a3 : ∀ i, i < 12 → F (1 + 2 + i) = pcl sc0 1 i) (b1 : F 15 = scl sc0 15) (b2 : F 16 = parr 15) (b3 : ∀ i, i < 12 → F (15 + 2 + i) = pcl sc0 15 i) (c1 : F 29 = scl sc0 29) (c2 : F 30 = parr 29) (c3 : ∀ i, i < 12 → F (29 + 2 + i) = pcl sc0 29 i)
    (m0 : F 43 = .inl (0, [.ref 44, .ref 45, .ref 46, .ref 47, .int 0, .int 0, .int 0, .int 0])) (m1 : F 44 = .inr (2, 6, .inr (.inr fun _ => none))) (m2 : F 45 = .inr (2, 12, .inr (.inr fun _ => none))) (m3 : F 46 = .inr (2, 6, .inr (.inr fun _ => none))) (m4 : F 47 = .inr (0, 2048, .inl fun _ => 0)) (h48 : F 48 = shA 8) (hs : ∀ i, i < 8 → F (49 + 2 * i) = shl (49 + 2 * i) 0 0 0 0) (hc : ∀ i, i < 8 → F (49 + 2 * i + 1) = cel (fun _ => 0)) (t0 : F 65 = .inl (4, [.ref 66, .int (zI 0), .int 0, .null, .int 0, .int 0, .int 0])) (t1 : F 66 = .inr (0, 250, .inl fun _ => 0)) (r1 : F 67 = .inr (0, 7, .inl fun _ => 0)) :
    callD (d + 3) 74 [.ref 0] (Kst F C 1 s (dflA 5)) = some (none, Kst F C 68 (s + 3129) [.ref 1, .ref 15, .ref 29, .int (zI 0), .ref 43, .ref 48, .ref 65, .ref 67]) := by
  have i1 := fun s fs => sch_K (F := F) (C := C) (n := 1) (s := s) (fs := fs) (d := d) (by omega) (by omega) a1 a2 a3
  have i2 := fun s fs => sch_K (F := F) (C := C) (n := 15) (s := s) (fs := fs) (d := d) (by omega) (by omega) b1 b2 b3
  have i3 := fun s fs => sch_K (F := F) (C := C) (n := 29) (s := s) (fs := fs) (d := d) (by omega) (by omega) c1 c2 c3
  have i4 := fun s fs => mat_K (F := F) (C := C) (n := 43) (s := s) (fs := fs) (d := d + 1) (by omega) (by omega) m0 m1 m2 m3 m4
  have i6 := fun s fs => tap_K (F := F) (C := C) (n := 65) (s := s) (fs := fs) (d := d + 1) (by omega) (by omega) t0 t1
  have hlo : ∀ s, den (callD (d + 2)) 74 64 [.ref 0, .int (zI 0)] [] (Lst F C 0 s fsL) = den (callD (d + 2)) 74 89 [.ref 0, .int (zI 8)] [] (Lst F C 8 (s + 45 * 8) fsL) := fun s => shl_loop (F := F) (C := C) (d := d + 1) hs hc 8 0 s (by omega)
  have p0 : pfA (.inl (5, dflA 5)) 5 0 (.ref 1) = some (.inl (5, [.ref 1, .null, .null, .int 0, .null, .null, .null, .null])) := rfl
  have p1 : pfA (.inl (5, [.ref 1, .null, .null, .int 0, .null, .null, .null, .null])) 5 1 (.ref 15) = some (.inl (5, [.ref 1, .ref 15, .null, .int 0, .null, .null, .null, .null])) := rfl
  have p2 : pfA (.inl (5, [.ref 1, .ref 15, .null, .int 0, .null, .null, .null, .null])) 5 2 (.ref 29) = some (.inl (5, [.ref 1, .ref 15, .ref 29, .int 0, .null, .null, .null, .null])) := rfl
  have p3 : pfA (.inl (5, [.ref 1, .ref 15, .ref 29, .int 0, .null, .null, .null, .null])) 5 3 (.int (zI 0)) = some (.inl (5, [.ref 1, .ref 15, .ref 29, .int (zI 0), .null, .null, .null, .null])) := rfl
  have p4 : pfA (.inl (5, [.ref 1, .ref 15, .ref 29, .int (zI 0), .null, .null, .null, .null])) 5 4 (.ref 43) = some (.inl (5, [.ref 1, .ref 15, .ref 29, .int (zI 0), .ref 43, .null, .null, .null])) := rfl
  have p5 : pfA (.inl (5, [.ref 1, .ref 15, .ref 29, .int (zI 0), .ref 43, .null, .null, .null])) 5 5 (.ref 48) = some (.inl (5, fsL)) := rfl
  have p6 : pfA (.inl (5, fsL)) 5 6 (.ref 65) = some (.inl (5, [.ref 1, .ref 15, .ref 29, .int (zI 0), .ref 43, .ref 48, .ref 65, .null])) := rfl
  have p7 : pfA (.inl (5, [.ref 1, .ref 15, .ref 29, .int (zI 0), .ref 43, .ref 48, .ref 65, .null])) 5 7 (.ref 67) = some (.inl (5, [.ref 1, .ref 15, .ref 29, .int (zI 0), .ref 43, .ref 48, .ref 65, .ref 67])) := rfl
  have k0 : okv 1 (.int (zI 0)) = true := rfl
  have q2 : isC (.inl (2, dflA 2)) 2 = true := rfl
  have q0 : isC (.inl (0, dflA 0)) 0 = true := rfl
  have q4 : isC (.inl (4, dflA 4)) 4 = true := rfl
  have nb : ∀ {n s : Nat} {fs : List Value} {k : Nat} {c : AC}, 0 < n → (mN (Kst F C n s fs) k c).2.2 0 = .inl (5, fs) := fun h => (mN_ne (by rw [K_1]; omega)).trans K_0
  have eL : ∀ s fs, mU (mN (Kst F C 48 s fs) 8 (nwA 3 8)) 0 (.inl (5, fsL)) = Lst F C 0 (s + 8) fsL := fun s fs => by
    refine Prod.ext rfl (Prod.ext rfl (funext fun q => ?_))
    show (if q = 0 then _ else if q = 48 then _ else if q = 0 then _ else if q < 48 then F q else C q) = (if q = 48 then (_ : AC) else if q = 0 then _ else if q < 49 + 2 * 0 then F q else C q)
    by_cases e0 : q = 0
    · rw [if_pos e0, if_neg (by omega), if_pos e0]
    · rw [if_neg e0, if_neg e0, if_neg e0]
      by_cases e1 : q = 48
      · rw [if_pos e1, if_pos e1]
        refine congrArg (fun f => (Sum.inr (3, 8, Sum.inr (Sum.inr f)) : AC)) (funext fun j => ?_)
        exact (if_neg (by omega)).symm
      · rw [if_neg e1, if_neg e1]
        by_cases e2 : q < 48
        · rw [if_pos e2, if_pos (by omega)]
        · rw [if_neg e2, if_neg (by omega)]
  have eL8 : ∀ s, Lst F C 8 s fsL = Kst F C 65 s fsL := fun s => mU_self ((K_in (by omega) (by omega)).trans h48)
  have n7 : ∀ s fs, mN (Kst F C 67 s fs) 7 (nwA 0 7) = Kst F C 68 (s + 7) fs := fun s fs => K_al r1.symm (by omega)
  rw [c_74]
  simp (disch := omega) only [e_74_0, e_74_1, e_74_4, e_74_5, e_74_8, e_74_8_i, e_74_9, e_74_12, e_74_15, e_74_16, e_74_19, e_74_19_i, e_74_20, e_74_23, e_74_26, e_74_27, e_74_30, e_74_30_i, e_74_31, e_74_34, e_74_37, e_74_38, e_74_39, e_74_42, e_74_43, e_74_46, e_74_46_i, e_74_47, e_74_50, e_74_53, e_74_54, e_74_56, e_74_59, e_74_62, e_74_63, gfA_i, pfA_i, List.getElem?_cons_zero, List.getElem?_cons_succ, oK_some, rK_some, pR_some, pR_none, kq_i, kq_r, kq_n, kq_u, kq_o, kq_l, isRf_r, isRf_n, isRf_o, okv_r, okv_n, okv_o, is2_r, is2_o, is2_n, rcv_r, isC_i, if_true, if_pos, zI_add, zI_sub, zI_mul, nc_12, nc_8, nc_6, nc_40, nc_250, nc_3, len4_0, len4_1, len4_2, len4_3, len4_4, and_self, and_true, true_and, lenA_i, va_rf_s, va_rf_n, oN_none, oN_some, zI_lt, zI_eq, nat_tn, Int.lt_irrefl, Int.reduceEq, Int.reduceNe, Int.reduceLT, Int.reduceLE, Int.reduceSub, Int.reduceAdd, Int.reduceMul, Int.reduceDiv, Int.reduceNeg, Int.reduceToNat, or_self, or_false, false_or, if_false, if_true, not_true_eq_false, not_false_eq_true, or_true, true_or, and_false, false_and, zI_toInt, zI_tn, rcv_c, List.length_cons, List.length_nil, Nat.reduceAdd, Nat.zero_le, Nat.reduceLeDiff, oK_some, okv_r, okv_i, mN_1, mU_1, mN_a, mU_at, mU_ne, mN_ne, K_1, K_0, K_n, K_put, i1, i2, i3, i4, q2, q0, k0, p0, p1, p2, p3, p4, p5, nb, eL]
  rw [hlo]
  simp (disch := omega) only [e_74_89, e_74_90, e_74_93, e_74_93_i, e_74_94, e_74_97, e_74_100, e_74_101, e_74_103, e_74_105, e_74_108, gfA_i, pfA_i, List.getElem?_cons_zero, List.getElem?_cons_succ, oK_some, rK_some, pR_some, pR_none, kq_i, kq_r, kq_n, kq_u, kq_o, kq_l, isRf_r, isRf_n, isRf_o, okv_r, okv_n, okv_o, is2_r, is2_o, is2_n, rcv_r, isC_i, if_true, if_pos, zI_add, zI_sub, zI_mul, nc_12, nc_8, nc_6, nc_40, nc_250, nc_3, len4_0, len4_1, len4_2, len4_3, len4_4, and_self, and_true, true_and, lenA_i, va_rf_s, va_rf_n, oN_none, oN_some, zI_lt, zI_eq, nat_tn, Int.lt_irrefl, Int.reduceEq, Int.reduceNe, Int.reduceLT, Int.reduceLE, Int.reduceSub, Int.reduceAdd, Int.reduceMul, Int.reduceDiv, Int.reduceNeg, Int.reduceToNat, or_self, or_false, false_or, if_false, if_true, not_true_eq_false, not_false_eq_true, or_true, true_or, and_false, false_and, zI_toInt, zI_tn, rcv_c, List.length_cons, List.length_nil, Nat.reduceAdd, Nat.zero_le, Nat.reduceLeDiff, oK_some, okv_r, okv_i, mN_1, mU_1, mN_a, mU_at, mU_ne, mN_ne, K_1, K_0, K_n, K_put, eL8, i6, q4, p6, p7, n7, nb]
end IN6
