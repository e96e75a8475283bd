section IN4
variable {M : AM} {F C : Nat → AC} {n s : Nat} {fs fs' : List Value} {d : Nat}
theorem mat_init (hb : M.1 + 20 < 600000) : callD (d + 1) 1 [.ref M.1] (mN M 8 (.inl (0, dflA 0))) = some (none, (M.1 + 5, M.2.1 + 2080, fun q => if q = M.1 then .inl (0, [.ref (M.1 + 1), .ref (M.1 + 1 + 1), .ref (M.1 + 1 + 1 + 1), .ref (M.1 + 1 + 1 + 1 + 1), .int 0, .int 0, .int 0, .int 0]) else if q = M.1 + 1 then .inr (2, 6, .inr (.inr fun _ => none)) else if q = M.1 + 2 then .inr (2, 12, .inr (.inr fun _ => none)) else if q = M.1 + 3 then .inr (2, 6, .inr (.inr fun _ => none)) else if q = M.1 + 4 then .inr (0, 2048, .inl fun _ => 0) else M.2.2 q)) := by
  obtain ⟨b, s, C⟩ := M
  have x1 : ((b, s, C) : AM).1 = b := rfl
  have hb : b + 20 < 600000 := hb
  have p : ∀ (k : Nat) (x0 x1 x2 x3 y : Value) (fs' : List Value), [x0, x1, x2, x3, .int 0, .int 0, .int 0, .int 0].set k y = fs' → k < 8 → pfA (.inl (0, [x0, x1, x2, x3, .int 0, .int 0, .int 0, .int 0])) 0 k y = some (.inl (0, fs')) := fun k x0 x1 x2 x3 y fs' h hk => by
    unfold pfA
    dsimp only
    rw [if_pos ⟨rfl, hk⟩, h]
  have p0 := p 0 .null .null .null .null (.ref (b + 1)) _ rfl (by omega)
  have p1 := p 1 (.ref (b + 1)) .null .null .null (.ref (b + 1 + 1)) _ rfl (by omega)
  have p2 := p 2 (.ref (b + 1)) (.ref (b + 1 + 1)) .null .null (.ref (b + 1 + 1 + 1)) _ rfl (by omega)
  have p3 := p 3 (.ref (b + 1)) (.ref (b + 1 + 1)) (.ref (b + 1 + 1 + 1)) .null (.ref (b + 1 + 1 + 1 + 1)) _ rfl (by omega)
  simp only [List.set_cons_succ, List.set_cons_zero] at p0 p1 p2 p3
  have a0 : (mN (b, s, C) 8 (.inl (0, dflA 0))).2.2 b = .inl (0, [.null, .null, .null, .null, .int 0, .int 0, .int 0, .int 0]) := mN_a
  have nb : ∀ {M : AM} {k : Nat} {c : AC}, b < M.1 → (mN M k c).2.2 b = M.2.2 b := fun h => mN_ne (by omega)
  rw [x1, c_1]
  simp (disch := (first | omega | (simp only [mN_1, mU_1, x1]; omega))) only [e_1_0, e_1_1, e_1_4, e_1_5, e_1_7, e_1_10, e_1_13, e_1_14, e_1_16, e_1_19, e_1_22, e_1_23, e_1_25, e_1_28, e_1_31, e_1_32, e_1_35, e_1_37, e_1_40, gfA_i, pfA_i, List.getElem?_cons_zero, List.getElem?_cons_succ, oK_some, rK_some, pR_some, pR_none, kq_i, kq_r, kq_n, kq_u, kq_o, kq_l, isRf_r, isRf_n, isRf_o, okv_r, okv_n, okv_o, is2_r, is2_o, is2_n, rcv_r, isC_i, if_true, if_pos, zI_add, zI_sub, zI_mul, nc_12, nc_8, nc_6, nc_40, nc_250, nc_3, len4_0, len4_1, len4_2, len4_3, len4_4, and_self, and_true, true_and, lenA_i, va_rf_s, va_rf_n, oN_none, oN_some, zI_lt, zI_eq, nat_tn, Int.lt_irrefl, Int.reduceEq, Int.reduceNe, Int.reduceLT, Int.reduceLE, Int.reduceSub, Int.reduceAdd, Int.reduceMul, Int.reduceDiv, Int.reduceNeg, Int.reduceToNat, or_self, or_false, false_or, if_false, if_true, not_true_eq_false, not_false_eq_true, or_true, true_or, and_false, false_and, zI_toInt, zI_tn, rcv_c, List.length_cons, List.length_nil, Nat.reduceAdd, Nat.zero_le, Nat.reduceLeDiff, oK_some, okv_r, okv_i, mN_1, mU_1, mN_a, mU_at, mU_ne, mN_ne, x1, a0, nb, p0, p1, p2, p3]
  refine congrArg (fun z => some (none, z)) (Prod.ext rfl (Prod.ext rfl (funext fun q => ?_)))
  simp only [mU, mN]
  by_cases h0 : q = b
  · simp only [h0, if_true]
  · by_cases h1 : q = b + 1
    · subst h1; simp [nwA, h0]
    · by_cases h2 : q = b + 2
      · subst h2; simp [nwA, h0]
      · by_cases h3 : q = b + 3
        · subst h3; simp [nwA, h0]
        · by_cases h4 : q = b + 4
          · subst h4; simp [nwA, h0]
          · have h2' : ¬ q = b + 1 + 1 := h2
            have h3' : ¬ q = b + 1 + 1 + 1 := h3
            have h4' : ¬ q = b + 1 + 1 + 1 + 1 := h4
            simp only [h0, h1, h2, h3, h4, h2', h3', h4', if_false]
theorem shf_init (hb : M.1 + 20 < 600000) : callD (d + 1) 48 [.ref M.1] (mN M 5 (.inl (3, dflA 3))) = some (none, (M.1 + 2, M.2.1 + 45, fun q => if q = M.1 then shl M.1 0 0 0 0 else if q = M.1 + 1 then cel (fun _ => 0) else M.2.2 q)) := by
  obtain ⟨b, s, C⟩ := M
  have x1 : ((b, s, C) : AM).1 = b := rfl
  have hb : b + 20 < 600000 := hb
  have a0 : (mN (b, s, C) 5 (.inl (3, dflA 3))).2.2 b = .inl (3, dflA 3) := mN_a
  have nb : ∀ {M : AM} {k : Nat} {c : AC}, b < M.1 → (mN M k c).2.2 b = M.2.2 b := fun h => mN_ne (by omega)
  have p0 : pfA (.inl (3, dflA 3)) 3 0 (.int (zI 0)) = some (.inl (3, dflA 3)) := rfl
  have p1 : pfA (.inl (3, dflA 3)) 3 4 (.ref (b + 1)) = some (shl b 0 0 0 0) := rfl
  rw [x1, c_48]
  simp (disch := (first | omega | (simp only [mN_1, mU_1, x1]; omega))) only [e_48_0, e_48_1, e_48_4, e_48_5, e_48_6, e_48_9, e_48_10, e_48_12, e_48_14, e_48_17, gfA_i, pfA_i, List.getElem?_cons_zero, List.getElem?_cons_succ, oK_some, rK_some, pR_some, pR_none, kq_i, kq_r, kq_n, kq_u, kq_o, kq_l, isRf_r, isRf_n, isRf_o, okv_r, okv_n, okv_o, is2_r, is2_o, is2_n, rcv_r, isC_i, if_true, if_pos, zI_add, zI_sub, zI_mul, nc_12, nc_8, nc_6, nc_40, nc_250, nc_3, len4_0, len4_1, len4_2, len4_3, len4_4, and_self, and_true, true_and, lenA_i, va_rf_s, va_rf_n, oN_none, oN_some, zI_lt, zI_eq, nat_tn, Int.lt_irrefl, Int.reduceEq, Int.reduceNe, Int.reduceLT, Int.reduceLE, Int.reduceSub, Int.reduceAdd, Int.reduceMul, Int.reduceDiv, Int.reduceNeg, Int.reduceToNat, or_self, or_false, false_or, if_false, if_true, not_true_eq_false, not_false_eq_true, or_true, true_or, and_false, false_and, zI_toInt, zI_tn, rcv_c, List.length_cons, List.length_nil, Nat.reduceAdd, Nat.zero_le, Nat.reduceLeDiff, oK_some, okv_r, okv_i, mN_1, mU_1, mN_a, mU_at, mU_ne, mN_ne, x1, a0, nb, p0, p1]
  refine congrArg (fun z => some (none, z)) (Prod.ext rfl (Prod.ext rfl (funext fun q => ?_)))
  simp only [mU, mN]
  by_cases h0 : q = b
  · simp only [h0, if_true]
  · by_cases h1 : q = b + 1
    · subst h1; simp only [h0, if_true, if_false]; rfl
    · simp only [h0, h1, if_false]
theorem tap_init (hb : M.1 + 20 < 600000) : callD (d + 1) 59 [.ref M.1] (mN M 7 (.inl (4, dflA 4))) = some (none, (M.1 + 2, M.2.1 + 257, fun q => if q = M.1 then .inl (4, [.ref (M.1 + 1), .int (zI 0), .int 0, .null, .int 0, .int 0, .int 0]) else if q = M.1 + 1 then .inr (0, 250, .inl fun _ => 0) else M.2.2 q)) := by
  obtain ⟨b, s, C⟩ := M
  have x1 : ((b, s, C) : AM).1 = b := rfl
  have hb : b + 20 < 600000 := hb
  have a0 : (mN (b, s, C) 7 (.inl (4, dflA 4))).2.2 b = .inl (4, dflA 4) := mN_a
  have nb : ∀ {M : AM} {k : Nat} {c : AC}, b < M.1 → (mN M k c).2.2 b = M.2.2 b := fun h => mN_ne (by omega)
  have p0 : pfA (.inl (4, dflA 4)) 4 0 (.ref (b + 1)) = some (.inl (4, [.ref (b + 1), .int 0, .int 0, .null, .int 0, .int 0, .int 0])) := rfl
  have p1 : pfA (.inl (4, [.ref (b + 1), .int 0, .int 0, .null, .int 0, .int 0, .int 0])) 4 1 (.int (zI 0)) = some (.inl (4, [.ref (b + 1), .int (zI 0), .int 0, .null, .int 0, .int 0, .int 0])) := rfl
  rw [x1, c_59]
  simp (disch := (first | omega | (simp only [mN_1, mU_1, x1]; omega))) only [e_59_0, e_59_1, e_59_4, e_59_5, e_59_8, e_59_10, e_59_13, e_59_14, e_59_15, e_59_18, gfA_i, pfA_i, List.getElem?_cons_zero, List.getElem?_cons_succ, oK_some, rK_some, pR_some, pR_none, kq_i, kq_r, kq_n, kq_u, kq_o, kq_l, isRf_r, isRf_n, isRf_o, okv_r, okv_n, okv_o, is2_r, is2_o, is2_n, rcv_r, isC_i, if_true, if_pos, zI_add, zI_sub, zI_mul, nc_12, nc_8, nc_6, nc_40, nc_250, nc_3, len4_0, len4_1, len4_2, len4_3, len4_4, and_self, and_true, true_and, lenA_i, va_rf_s, va_rf_n, oN_none, oN_some, zI_lt, zI_eq, nat_tn, Int.lt_irrefl, Int.reduceEq, Int.reduceNe, Int.reduceLT, Int.reduceLE, Int.reduceSub, Int.reduceAdd, Int.reduceMul, Int.reduceDiv, Int.reduceNeg, Int.reduceToNat, or_self, or_false, false_or, if_false, if_true, not_true_eq_false, not_false_eq_true, or_true, true_or, and_false, false_and, zI_toInt, zI_tn, rcv_c, List.length_cons, List.length_nil, Nat.reduceAdd, Nat.zero_le, Nat.reduceLeDiff, oK_some, okv_r, okv_i, mN_1, mU_1, mN_a, mU_at, mU_ne, mN_ne, x1, a0, nb, p0, p1]
  refine congrArg (fun z => some (none, z)) (Prod.ext rfl (Prod.ext rfl (funext fun q => ?_)))
  simp only [mU, mN]
  by_cases h0 : q = b
  · simp only [h0, if_true]
  · by_cases h1 : q = b + 1
    · subst h1; simp only [h0, if_true, if_false]; rfl
    · simp only [h0, h1, if_false]
end IN4
