theorem loopI {α β : Type} (P : Nat → α → β) (f : Nat → α → α) (I : Nat → α → Prop) (n : Nat) (h : ∀ i a, i < n → I i a → P i a = P (i + 1) (f i a) ∧ I (i + 1) (f i a)) : ∀ (k i : Nat) (a : α), i + k = n → I i a → P i a = P n (fN f k i a) ∧ I n (fN f k i a) := by
  intro k
  induction k with
  | zero => intro i a hi ha; rw [show i = n by omega] at ha ⊢; exact ⟨rfl, ha⟩
  | succ k ih =>
    intro i a hi ha
    obtain ⟨h1, h2⟩ := h i a (by omega) ha
    obtain ⟨h3, h4⟩ := ih (i + 1) (f i a) (by omega) h2
    exact ⟨h1.trans h3, h4⟩
theorem In.f {S : Sc} (h : In S) (i : Nat) : (0 ≤ S 0 i ∧ S 0 i ≤ 5) ∧ (0 ≤ S 1 i ∧ S 1 i ≤ 9) ∧ (0 ≤ S 2 i ∧ S 2 i ≤ 1) ∧ (0 ≤ S 3 i ∧ S 3 i ≤ 255) ∧ (-1 ≤ S 4 i ∧ S 4 i ≤ 11) ∧ (0 ≤ S 5 i ∧ S 5 i ≤ 1) ∧ (0 ≤ S 6 i ∧ S 6 i ≤ 99) ∧ (0 ≤ S 7 i ∧ S 7 i ≤ 99) := h.2.2.2.2.1 i
theorem m_willTo {d : Nat} {M : AM} {o i j : Nat} {S : Sc} (hI : In S) (hR : RS M o S) (hi : i < 12) (hj : j < 12) : callD (d + 4) 27 [.ref o, .ref (o + 2 + i), .ref (o + 2 + j)] M = some (some (.int (zI (W6 (S 0 i) (cm S i j) (S 8 2) (S 6 i) (S 1 i) (S 7 i) (S 8 3)))), M) := by
  have h6 := (hI.f i).2.2.2.2.2.2.1
  rw [c_27 (is2_r _) (is2_r _)]
  simp (disch := omega) only [e_27_0, e_27_1, e_27_2, e_27_3, e_27_4, e_27_7, e_27_10, hR.1, hR.2.2 i hi, pcl, gfA_i, pfA_i, List.getElem?_cons_zero, List.getElem?_cons_succ, oK_some, rK_some, pR_some, pR_none, kq_i, kq_r, kq_n, kq_u, kq_o, kq_l, isRf_r, isRf_n, isRf_o, okv_r, okv_n, okv_o, is2_r, is2_o, is2_n, rcv_r, isC_i, if_true, if_pos, zI_add, zI_sub, zI_mul, nc_12, nc_8, nc_6, nc_40, nc_250, nc_3, nc_s, len4_0, len4_1, len4_2, len4_3, len4_4, and_self, and_true, true_and, lenA_i, va_rf_s, va_rf_n, oN_none, oN_some, m_will hI hR hi hj]
theorem zI_ite (c : Prop) {h : Decidable c} (a b : Int) : (if c then zI a else zI b) = zI (if c then a else b) := by split <;> rfl
def L6 (k a fl sil fri : Int) : Int :=
  let p := 5 + a + fl / 2
  let v := if k = 1 then 2 * p else if k = 3 then 2 * p + 5 else if k = 2 ∨ k = 4 then p - sil else if k = 5 then fl else p
  let m := if fri = 1 then 10 else 99
  if v < 1 then 1 else if m < v then m else v
set_option maxHeartbeats 4000000 in
theorem m_lines {d : Nat} {M : AM} {o i j : Nat} {S : Sc} (hI : In S) (hR : RS M o S) (hi : i < 12) (hj : j < 12) : callD (d + 2) 29 [.ref o, .ref (o + 2 + i), .ref (o + 2 + j)] M = some (some (.int (zI (L6 (S 0 i) (S 1 i) (S 7 j) (S 6 i) (S 8 3)))), M) := by
  have hp := hR.2.2 i hi
  have hq := hR.2.2 j hj
  have h0 := hR.1
  unfold pcl at hp hq
  obtain ⟨⟨h00, h01⟩, ⟨h10, h11⟩, -, -, -, -, ⟨h60, h61⟩, -⟩ := hI.f i
  obtain ⟨-, -, -, -, -, -, -, ⟨h70, h71⟩⟩ := hI.f j
  have h83 := hI.2.2.2.1
  rw [c_29 (is2_r _) (is2_r _)]
  have hk : S 0 i = 0 ∨ S 0 i = 1 ∨ S 0 i = 2 ∨ S 0 i = 3 ∨ S 0 i = 4 ∨ S 0 i = 5 := by omega
  have hfr : S 8 3 = 0 ∨ S 8 3 = 1 := by omega
  have hd2 : 0 ≤ S 7 j / 2 ∧ S 7 j / 2 ≤ 50 := by omega
  generalize S 1 i = a at *
  generalize S 6 i = sil at *
  generalize S 7 j = fl at *
  rcases hk with h | h | h | h | h | h <;> rcases hfr with hf | hf <;> rw [h] at hp <;> rw [hf] at h0 <;> rw [h, hf] <;>
    simp (disch := omega) only [e_29_0, e_29_1, e_29_1_n, e_29_1_r, e_29_4, e_29_5, e_29_8, e_29_9, e_29_12, e_29_13, e_29_14, e_29_15, e_29_18, e_29_19, e_29_20, e_29_21, e_29_22, e_29_23, e_29_25, e_29_26, e_29_29, e_29_64, e_29_65, e_29_67, e_29_68, e_29_70, e_29_73, e_29_74, e_29_76, e_29_77, e_29_78, e_29_79, e_29_81, e_29_84, e_29_85, e_29_87, e_29_88, e_29_91, e_29_92, e_29_95, e_29_97, e_29_100, e_29_101, e_29_102, e_29_105, e_29_107, e_29_110, e_29_111, e_29_114, e_29_115, e_29_118, e_29_120, e_29_123, e_29_125, e_29_127, e_29_130, h0, hp, hq, gfA_i, pfA_i, List.getElem?_cons_zero, List.getElem?_cons_succ, oK_some, rK_some, pR_some, pR_none, kq_i, kq_r, kq_n, kq_u, kq_o, kq_l, isRf_r, isRf_n, isRf_o, okv_r, okv_n, okv_o, is2_r, is2_o, is2_n, rcv_r, isC_i, if_true, if_pos, zI_add, zI_sub, zI_mul, nc_12, nc_8, nc_6, nc_40, nc_250, nc_3, nc_s, len4_0, len4_1, len4_2, len4_3, len4_4, and_self, and_true, true_and, lenA_i, va_rf_s, va_rf_n, oN_none, oN_some, zI_eq, zI_lt, zI_div, zI_toInt, m_min, m_max, zI_ite, L6, Int.reduceEq, Int.reduceNe, Int.reduceLT, Int.reduceLE, Int.reduceSub, Int.reduceAdd, Int.reduceMul, Int.reduceDiv, Int.reduceNeg, Int.reduceToNat, or_self, or_false, false_or, if_false, if_true, not_true_eq_false, not_false_eq_true, or_true, true_or, and_false, false_and]
  all_goals (refine congrArg (fun z => some (some (Value.int z), M)) ?_; (repeat' split) <;> first | rfl | (exfalso; omega) | (congr 1; omega))
def dbt (S : Sc) (i : Nat) : Nat := if S 5 i = 1 then i else (S 4 i).toNat
def fr (S : Sc) (i : Nat) : Nat := (S 4 i).toNat
theorem m_debtor {d : Nat} {M : AM} {o i : Nat} {S : Sc} (hI : In S) (hR : RS M o S) (hi : i < 12) : callD (d + 1) 19 [.ref (o + 2 + i)] M = some (some (va_rf (if S 5 i = 1 then some (o + 2 + i) else frO S o i)), M) := by
  have h5 := (hI.f i).2.2.2.2.2.1
  rw [c_19]
  simp (disch := omega) only [e_19_0, e_19_1, e_19_4, e_19_7, e_19_8, e_19_11, e_19_12, e_19_15, hR.2.2 i hi, gfA_i, pfA_i, List.getElem?_cons_zero, List.getElem?_cons_succ, oK_some, rK_some, pR_some, pR_none, kq_i, kq_r, kq_n, kq_u, kq_o, kq_l, isRf_r, isRf_n, isRf_o, okv_r, okv_n, okv_o, is2_r, is2_o, is2_n, rcv_r, isC_i, if_true, if_pos, zI_add, zI_sub, zI_mul, nc_12, nc_8, nc_6, nc_40, nc_250, nc_3, nc_s, len4_0, len4_1, len4_2, len4_3, len4_4, and_self, and_true, true_and, lenA_i, va_rf_s, va_rf_n, oN_none, oN_some, ldQ_q, zI_lt, zI_eq, nat_tn, pcl, Int.reduceEq, Int.reduceNe, Int.reduceLT, Int.reduceLE, Int.reduceSub, Int.reduceAdd, Int.reduceMul, Int.reduceDiv, Int.reduceNeg, Int.reduceToNat, or_self, or_false, false_or, if_false, if_true, not_true_eq_false, not_false_eq_true, or_true, true_or, and_false, false_and]
  by_cases h : S 5 i = 1
  · simp only [h, Int.reduceEq, Int.reduceNe, Int.reduceLT, Int.reduceLE, Int.reduceSub, Int.reduceAdd, Int.reduceMul, Int.reduceDiv, Int.reduceNeg, Int.reduceToNat, or_self, or_false, false_or, if_false, if_true, not_true_eq_false, not_false_eq_true, or_true, true_or, and_false, false_and, va_rf_s]
  · have h0 : S 5 i = 0 := by omega
    simp only [h0, Int.reduceEq, Int.reduceNe, Int.reduceLT, Int.reduceLE, Int.reduceSub, Int.reduceAdd, Int.reduceMul, Int.reduceDiv, Int.reduceNeg, Int.reduceToNat, or_self, or_false, false_or, if_false, if_true, not_true_eq_false, not_false_eq_true, or_true, true_or, and_false, false_and]
/-- paired: he is there and has a friend -/
def prd (S : Sc) (i : Nat) : Prop := (i : Int) < S 8 0 ∧ 0 ≤ S 4 i
theorem frO_p {S : Sc} {o i : Nat} (h : prd S i) : frO S o i = some (o + 2 + fr S i) := if_pos h
theorem prd_fr {S : Sc} {i : Nat} (hI : In S) (h : prd S i) : prd S (fr S i) ∧ fr S (fr S i) = i ∧ fr S i < 12 ∧ S 5 (fr S i) = 1 - S 5 i ∧ i < 12 := by
  obtain ⟨h1, h2, h3, h4⟩ := hI.2.2.2.2.2.2.1 i h.1 h.2
  have hc := hI.1
  have h2' : S 4 (fr S i) = i := h2
  have := h.1
  have := h.2
  refine ⟨⟨?_, ?_⟩, ?_, ?_, h4, by omega⟩
  · show ((S 4 i).toNat : Int) < _
    omega
  · rw [h2']; omega
  · show (S 4 (fr S i)).toNat = i
    rw [h2']; omega
  · show (S 4 i).toNat < 12
    omega
theorem prd_dbt {S : Sc} {i : Nat} (hI : In S) (h : prd S i) : prd S (dbt S i) ∧ dbt S i < 12 ∧ S 5 (dbt S i) = 1 ∧ (dbt S i = i ∨ dbt S i = fr S i) := by
  obtain ⟨h1, -, h3, h4, h5⟩ := prd_fr hI h
  have h6 := (hI.f i).2.2.2.2.2.1
  unfold dbt
  by_cases e : S 5 i = 1
  · rw [if_pos e]; exact ⟨h, h5, e, Or.inl rfl⟩
  · rw [if_neg e]
    refine ⟨h1, h3, ?_, Or.inr rfl⟩
    show S 5 (fr S i) = 1
    omega
theorem dbt_o {S : Sc} {o i : Nat} (h : prd S i) : (if S 5 i = 1 then some (o + 2 + i) else frO S o i) = some (o + 2 + dbt S i) := by
  unfold dbt
  by_cases e : S 5 i = 1
  · rw [if_pos e, if_pos e]
  · rw [if_neg e, if_neg e, frO_p h]; rfl
/-- WILL of one to his friend -/
def wl (S : Sc) (i : Nat) : Int := W6 (S 0 i) (cm S i (fr S i)) (S 8 2) (S 6 i) (S 1 i) (S 7 i) (S 8 3)
def bI (p : Prop) (h : Decidable p) : Int := @ite Int p h 1 0
def ovB (S : Sc) (i : Nat) : Int := if wl S (dbt S i) = 0 then 1 else 0
theorem m_isOver {d : Nat} {M : AM} {o i : Nat} {S : Sc} (hI : In S) (hR : RS M o S) (h : prd S i) : callD (d + 5) 32 [.ref o, .ref (o + 2 + i)] M = some (some (.int (zI (ovB S i))), M) := by
  obtain ⟨-, -, -, -, hi⟩ := prd_fr hI h
  obtain ⟨hd1, hd2, -, -⟩ := prd_dbt hI h
  obtain ⟨-, -, hd3, -, -⟩ := prd_fr hI hd1
  have hw := W6_b (S 0 (dbt S i)) (cm S (dbt S i) (fr S (dbt S i))) (S 8 2) (S 6 (dbt S i)) (S 1 (dbt S i)) (S 7 (dbt S i)) (S 8 3)
  rw [c_32 (is2_r _)]
  simp (disch := omega) only [e_32_0, e_32_1, e_32_4, e_32_5, e_32_6, e_32_6_n, e_32_6_r, e_32_9, e_32_10, e_32_11, e_32_12, e_32_15, e_32_18, e_32_21, e_32_22, e_32_25, e_32_26, hR.1, hR.2.2 i hi, hR.2.2 _ hd2, m_debtor hI hR hi, dbt_o h, frO_p hd1, m_willTo hI hR hd2 hd3, gfA_i, pfA_i, List.getElem?_cons_zero, List.getElem?_cons_succ, oK_some, rK_some, pR_some, pR_none, kq_i, kq_r, kq_n, kq_u, kq_o, kq_l, isRf_r, isRf_n, isRf_o, okv_r, okv_n, okv_o, is2_r, is2_o, is2_n, rcv_r, isC_i, if_true, if_pos, zI_add, zI_sub, zI_mul, nc_12, nc_8, nc_6, nc_40, nc_250, nc_3, nc_s, len4_0, len4_1, len4_2, len4_3, len4_4, and_self, and_true, true_and, lenA_i, va_rf_s, va_rf_n, oN_none, oN_some, ldQ_q, zI_lt, zI_eq, nat_tn, pcl, Int.reduceEq, Int.reduceNe, Int.reduceLT, Int.reduceLE, Int.reduceSub, Int.reduceAdd, Int.reduceMul, Int.reduceDiv, Int.reduceNeg, Int.reduceToNat, or_self, or_false, false_or, if_false, if_true, not_true_eq_false, not_false_eq_true, or_true, true_or, and_false, false_and]
  unfold ovB wl
  by_cases e : W6 (S 0 (dbt S i)) (cm S (dbt S i) (fr S (dbt S i))) (S 8 2) (S 6 (dbt S i)) (S 1 (dbt S i)) (S 7 (dbt S i)) (S 8 3) = 0 <;> simp only [e, Int.reduceEq, Int.reduceNe, Int.reduceLT, Int.reduceLE, Int.reduceSub, Int.reduceAdd, Int.reduceMul, Int.reduceDiv, Int.reduceNeg, Int.reduceToNat, or_self, or_false, false_or, if_false, if_true, not_true_eq_false, not_false_eq_true, or_true, true_or, and_false, false_and]
