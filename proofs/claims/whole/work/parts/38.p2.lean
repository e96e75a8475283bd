theorem loopG {β γ ρ : Type} (P : Nat → γ → ρ) (fin : β → ρ) (f : Nat → Option β) (n : Nat) (h : ∀ i c, i < n → ∃ c', P i c = mO (f i) fin (P (i + 1) c')) : ∀ (k i : Nat) (c : γ), i + k = n → ∃ c', P i c = mO (fF f k i) fin (P n c') := by
  intro k
  induction k with
  | zero => intro i c hi; exact ⟨c, by rw [show i = n by omega]; rfl⟩
  | succ k ih =>
    intro i c hi
    obtain ⟨c1, h1⟩ := h i c (by omega)
    obtain ⟨c', hc⟩ := ih (i + 1) c1 (by omega)
    refine ⟨c', ?_⟩
    rw [h1]
    unfold fF
    cases f i with
    | some b => rfl
    | none => exact hc
theorem loopQ {α β : Type} (P : Nat → α → β) (Q : β → Prop) (I : Nat → α → Prop) (n : Nat) (step : ∀ i a, i < n → I i a → (∃ a', P i a = P (i + 1) a' ∧ I (i + 1) a') ∨ Q (P i a)) (fin : ∀ a, I n a → Q (P n a)) : ∀ (k i : Nat) (a : α), i + k = n → I i a → Q (P i a) := by
  intro k
  induction k with
  | zero => intro i a hi ha; rw [show i = n by omega] at ha ⊢; exact fin a ha
  | succ k ih =>
    intro i a hi ha
    rcases step i a (by omega) ha with ⟨a', h1, h2⟩ | h
    · rw [h1]; exact ih (i + 1) a' (by omega) h2
    · exact h
def i32 (a : Int) : Prop := -2147483648 ≤ a ∧ a < 2147483648
theorem m_at0 {d : Nat} {M : AM} {o : Nat} {a c : Int} {r : List Value} (h0 : M.2.2 o = .inl (2, .ref (o + 1) :: .int (zI c) :: r)) (h1 : M.2.2 (o + 1) = parr o) (hc : 0 ≤ c ∧ c ≤ 12) (ha : i32 a) : callD (d + 1) 24 [.ref o, .int (zI a)] M = some (some (va_rf (if 0 ≤ a ∧ a < c then some (o + 2 + a.toNat) else none)), M) := by
  unfold i32 at ha
  unfold parr at h1
  rw [c_24]
  by_cases e : a < 0
  · rw [if_neg (by omega)]
    simp (disch := omega) only [e_24_0, e_24_1, e_24_4, e_24_5, e_24_6, e_24_9, e_24_12, e_24_13, e_24_15, e_24_18, e_24_19, e_24_22, e_24_23, e_24_24, e_24_27, e_24_28, h0, h1, gfA_i, pfA_i, List.getElem?_cons_zero, List.getElem?_cons_succ, oK_some, rK_some, pR_some, pR_none, kq_i, kq_r, kq_n, kq_u, kq_o, kq_l, isRf_r, isRf_n, isRf_o, okv_r, okv_n, okv_o, is2_r, is2_o, is2_n, rcv_r, isC_i, if_true, if_pos, zI_add, zI_sub, zI_mul, nc_12, nc_8, nc_6, nc_40, nc_250, nc_3, nc_s, len4_0, len4_1, len4_2, len4_3, len4_4, and_self, and_true, true_and, lenA_i, va_rf_s, va_rf_n, oN_none, oN_some, ldQ_q, zI_lt, zI_eq, nat_tn, pcl, nc_s, Int.lt_irrefl, Int.reduceEq, Int.reduceNe, Int.reduceLT, Int.reduceLE, Int.reduceSub, Int.reduceAdd, Int.reduceMul, Int.reduceDiv, Int.reduceNeg, Int.reduceToNat, or_self, or_false, false_or, if_false, if_true, not_true_eq_false, not_false_eq_true, or_true, true_or, and_false, false_and, e]
  · by_cases e2 : a < c
    · rw [if_pos (by omega)]
      simp (disch := omega) only [e_24_0, e_24_1, e_24_4, e_24_5, e_24_6, e_24_9, e_24_12, e_24_13, e_24_15, e_24_18, e_24_19, e_24_22, e_24_23, e_24_24, e_24_27, e_24_28, h0, h1, gfA_i, pfA_i, List.getElem?_cons_zero, List.getElem?_cons_succ, oK_some, rK_some, pR_some, pR_none, kq_i, kq_r, kq_n, kq_u, kq_o, kq_l, isRf_r, isRf_n, isRf_o, okv_r, okv_n, okv_o, is2_r, is2_o, is2_n, rcv_r, isC_i, if_true, if_pos, zI_add, zI_sub, zI_mul, nc_12, nc_8, nc_6, nc_40, nc_250, nc_3, nc_s, len4_0, len4_1, len4_2, len4_3, len4_4, and_self, and_true, true_and, lenA_i, va_rf_s, va_rf_n, oN_none, oN_some, ldQ_q, zI_lt, zI_eq, nat_tn, pcl, nc_s, Int.lt_irrefl, Int.reduceEq, Int.reduceNe, Int.reduceLT, Int.reduceLE, Int.reduceSub, Int.reduceAdd, Int.reduceMul, Int.reduceDiv, Int.reduceNeg, Int.reduceToNat, or_self, or_false, false_or, if_false, if_true, not_true_eq_false, not_false_eq_true, or_true, true_or, and_false, false_and, e, e2]
    · rw [if_neg (by omega)]
      simp (disch := omega) only [e_24_0, e_24_1, e_24_4, e_24_5, e_24_6, e_24_9, e_24_12, e_24_13, e_24_15, e_24_18, e_24_19, e_24_22, e_24_23, e_24_24, e_24_27, e_24_28, h0, h1, gfA_i, pfA_i, List.getElem?_cons_zero, List.getElem?_cons_succ, oK_some, rK_some, pR_some, pR_none, kq_i, kq_r, kq_n, kq_u, kq_o, kq_l, isRf_r, isRf_n, isRf_o, okv_r, okv_n, okv_o, is2_r, is2_o, is2_n, rcv_r, isC_i, if_true, if_pos, zI_add, zI_sub, zI_mul, nc_12, nc_8, nc_6, nc_40, nc_250, nc_3, nc_s, len4_0, len4_1, len4_2, len4_3, len4_4, and_self, and_true, true_and, lenA_i, va_rf_s, va_rf_n, oN_none, oN_some, ldQ_q, zI_lt, zI_eq, nat_tn, pcl, nc_s, Int.lt_irrefl, Int.reduceEq, Int.reduceNe, Int.reduceLT, Int.reduceLE, Int.reduceSub, Int.reduceAdd, Int.reduceMul, Int.reduceDiv, Int.reduceNeg, Int.reduceToNat, or_self, or_false, false_or, if_false, if_true, not_true_eq_false, not_false_eq_true, or_true, true_or, and_false, false_and, e, e2]
def atO (S : Sc) (a : Int) : Option Nat := if 0 ≤ a ∧ a < S 8 0 then some a.toNat else none
theorem m_at {d : Nat} {M : AM} {o : Nat} {S : Sc} {a : Int} (hI : In S) (hR : RS M o S) (ha : i32 a) : callD (d + 1) 24 [.ref o, .int (zI a)] M = some (some (va_rf ((atO S a).map (fun q => o + 2 + q))), M) := by
  rw [m_at0 hR.1 hR.2.1 hI.1 ha]
  unfold atO
  split <;> rfl
theorem m_at_s {d : Nat} {M : AM} {o i : Nat} {S : Sc} (hI : In S) (hR : RS M o S) (hi : (i : Int) < S 8 0) : callD (d + 1) 24 [.ref o, .int (zI i)] M = some (some (.ref (o + 2 + i)), M) := by
  have hc := hI.1
  rw [m_at0 hR.1 hR.2.1 hI.1 (by unfold i32; omega), if_pos ⟨by omega, hi⟩]
  rfl
theorem m_at_n {d : Nat} {M : AM} {o : Nat} {a : Int} {S : Sc} (hI : In S) (hR : RS M o S) (ha : i32 a) (h : ¬ (0 ≤ a ∧ a < S 8 0)) : callD (d + 1) 24 [.ref o, .int (zI a)] M = some (some .null, M) := by
  rw [m_at0 hR.1 hR.2.1 hI.1 ha, if_neg h]
  rfl
def adS (S : Sc) (k a s : Int) : Sc := fun f j => if f = 8 then (if j = 0 then S 8 0 + 1 else S 8 j) else if (j : Int) = S 8 0 ∧ f < 8 then (if f = 0 then k else if f = 1 then a else if f = 2 then s else if f = 4 then -1 else 0) else S f j
theorem m_add {d n : Nat} {M : AM} {o : Nat} {S : Sc} {k a s : Int} (hI : In S) (hR : RS M o S) (hn : (n : Int) = S 8 0) (h : S 8 0 < 12) : callD (d + 3) 25 [.ref o, .int (zI k), .int (zI a), .int (zI s)] M = some (some (.int (zI n)), putS M o (adS S k a s)) := by
  have hn2 : n < 12 := by omega
  have hp := hR.2.2 n hn2
  unfold pcl at hp
  rw [c_25]
  have h0 := hR.1
  rw [← hn] at h0
  have hen := m_enter (d := d) (x1 := zI k) (x2 := zI a) (x3 := zI s) hp
  have e1 : (n : Int) + 1 - 1 = n := by omega
  have e0 : ¬ (n : Int) < 0 := by omega
  simp (disch := omega) only [e_25_0, e_25_1, e_25_4, e_25_7, e_25_8, e_25_11, e_25_13, e_25_16, e_25_17, e_25_18, e_25_19, e_25_22, e_25_23, e_25_26, e_25_27, e_25_28, e_25_29, e_25_30, e_25_33, e_25_34, e_25_34_i, e_25_35, e_25_38, e_25_39, e_25_40, e_25_43, e_25_44, e_25_47, e_25_48, e_25_49, h0, hp, hR.2.1, hen, e0, mU_ne, gfA_i, pfA_i, List.getElem?_cons_zero, List.getElem?_cons_succ, oK_some, rK_some, pR_some, pR_none, kq_i, kq_r, kq_n, kq_u, kq_o, kq_l, isRf_r, isRf_n, isRf_o, okv_r, okv_n, okv_o, is2_r, is2_o, is2_n, rcv_r, isC_i, if_true, if_pos, zI_add, zI_sub, zI_mul, nc_12, nc_8, nc_6, nc_40, nc_250, nc_3, nc_s, len4_0, len4_1, len4_2, len4_3, len4_4, and_self, and_true, true_and, lenA_i, va_rf_s, va_rf_n, oN_none, oN_some, ldQ_q, zI_lt, zI_eq, nat_tn, pcl, nc_s, Int.lt_irrefl, Int.reduceEq, Int.reduceNe, Int.reduceLT, Int.reduceLE, Int.reduceSub, Int.reduceAdd, Int.reduceMul, Int.reduceDiv, Int.reduceNeg, Int.reduceToNat, or_self, or_false, false_or, if_false, if_true, not_true_eq_false, not_false_eq_true, or_true, true_or, and_false, false_and, mU_at, mU_mU, List.set_cons_succ, List.set_cons_zero, okv_0, okv_1, okv_i, okv_r, okv_n, okv_o, List.length_cons, List.length_nil, Nat.reduceAdd, Nat.reduceLT, Nat.zero_le, Nat.reduceLeDiff, e1]
  refine congrArg (fun z => some (some (Value.int (zI n)), z)) (put_of ⟨?_, ?_, fun j hj => ?_⟩ rfl rfl (fun q hq => ?_))
  · rw [mU_at]
    simp [adS, hn]
  · rw [mU_ne (by omega), mU_ne (by omega), hR.2.1]
  · rw [mU_ne (by omega)]
    by_cases e : j = n
    · subst e
      rw [mU_at]
      simp [pcl, adS, hn, hrI, frO]
      rw [if_pos (show S 8 0 < S 8 0 + 1 by omega)]
      exact ⟨rfl, rfl⟩
    · rw [mU_ne (by omega), hR.2.2 j hj]
      have e' : ¬ (j : Int) = S 8 0 := by omega
      have e3 : ((j : Int) < S 8 0 + 1) = ((j : Int) < S 8 0) := propext ⟨fun q => by omega, fun q => by omega⟩
      simp [pcl, adS, e', hrI, frO, e3]
  · rw [mU_ne (show ¬ q = o by omega), mU_ne (show ¬ q = o + 2 + n by omega)]
theorem m_takeFrom {d : Nat} {M : AM} {q r : Nat} {n h k a s l f w x y n' h' k' a' s' l' f' w' x' y' : Value} (hqr : ¬ r = q) (hc : M.2.2 q = .inl (1, [n, h, k, a, s, l, f, w, x, y])) (hc' : M.2.2 r = .inl (1, [n', h', k', a', s', l', f', w', x', y'])) (o1 : okv 1 h' = true) (o2 : okv 0 k' = true) (o3 : okv 0 a' = true) (o4 : okv 0 s' = true) (o5 : okv 0 l' = true) (o6 : okv 1 w' = true) (o7 : okv 0 x' = true) (o8 : okv 0 y' = true) : callD (d + 1) 22 [.ref q, .ref r] M = some (none, mU M q (.inl (1, [n, h', k', a', s', l', f, w', x', y']))) := by
  have i0 : ∀ v, okv 0 v = true → ∃ z, v = .int z := fun v hv => by
    cases v <;> first | exact ⟨_, rfl⟩ | cases hv
  obtain ⟨k1, rfl⟩ := i0 _ o2
  obtain ⟨k2, rfl⟩ := i0 _ o3
  obtain ⟨k3, rfl⟩ := i0 _ o4
  obtain ⟨k4, rfl⟩ := i0 _ o5
  obtain ⟨k5, rfl⟩ := i0 _ o7
  obtain ⟨k6, rfl⟩ := i0 _ o8
  rw [c_22 (is2_r _)]
  simp (disch := omega) only [e_22_0, e_22_1, e_22_2, e_22_5, e_22_8, e_22_9, e_22_10, e_22_13, e_22_16, e_22_17, e_22_18, e_22_21, e_22_24, e_22_25, e_22_26, e_22_29, e_22_32, e_22_33, e_22_34, e_22_37, e_22_40, e_22_41, e_22_42, e_22_45, e_22_48, e_22_49, e_22_50, e_22_53, e_22_56, e_22_57, e_22_58, e_22_61, e_22_64, hc, hc', o1, o6, mU_ne, gfA_i, pfA_i, List.getElem?_cons_zero, List.getElem?_cons_succ, oK_some, rK_some, pR_some, pR_none, kq_i, kq_r, kq_n, kq_u, kq_o, kq_l, isRf_r, isRf_n, isRf_o, okv_r, okv_n, okv_o, is2_r, is2_o, is2_n, rcv_r, isC_i, if_true, if_pos, zI_add, zI_sub, zI_mul, nc_12, nc_8, nc_6, nc_40, nc_250, nc_3, nc_s, len4_0, len4_1, len4_2, len4_3, len4_4, and_self, and_true, true_and, lenA_i, va_rf_s, va_rf_n, oN_none, oN_some, mU_at, mU_mU, List.set_cons_succ, List.set_cons_zero, okv_0, okv_1, okv_i, okv_r, okv_n, okv_o, List.length_cons, List.length_nil, Nat.reduceAdd, Nat.reduceLT, Nat.zero_le, Nat.reduceLeDiff]
def dw (s : Int) : Int32 := us32 (zI s) (zI 16) - us32 (zI s) (zI 16) / zI 12 * zI 12
def dwI (s : Int) : Int := (dw s).toInt
def nsd (s : Int) : Int := s * 1103515245 + 12345
theorem dwI_b (s : Int) : -2147483648 ≤ dwI s ∧ dwI s < 2147483648 := ⟨Int32.le_toInt _, Int32.toInt_lt _⟩
theorem m_drawWay {d : Nat} {M : AM} {o : Nat} {S : Sc} (hR : RS M o S) : callD (d + 1) 47 [.ref o] M = some (some (.int (zI (dwI (nsd (S 8 5))))), putS M o (sU S 8 5 (nsd (S 8 5)))) := by
  rw [c_47]
  simp (disch := omega) only [e_47_0, e_47_1, e_47_2, e_47_5, e_47_7, e_47_8, e_47_11, e_47_12, e_47_15, e_47_16, e_47_19, e_47_21, e_47_22, e_47_24, e_47_25, hR.1, gfA_i, pfA_i, List.getElem?_cons_zero, List.getElem?_cons_succ, oK_some, rK_some, pR_some, pR_none, kq_i, kq_r, kq_n, kq_u, kq_o, kq_l, isRf_r, isRf_n, isRf_o, okv_r, okv_n, okv_o, is2_r, is2_o, is2_n, rcv_r, isC_i, if_true, if_pos, zI_add, zI_sub, zI_mul, nc_12, nc_8, nc_6, nc_40, nc_250, nc_3, nc_s, len4_0, len4_1, len4_2, len4_3, len4_4, and_self, and_true, true_and, lenA_i, va_rf_s, va_rf_n, oN_none, oN_some, ldQ_q, zI_lt, zI_eq, nat_tn, pcl, nc_s, Int.lt_irrefl, Int.reduceEq, Int.reduceNe, Int.reduceLT, Int.reduceLE, Int.reduceSub, Int.reduceAdd, Int.reduceMul, Int.reduceDiv, Int.reduceNeg, Int.reduceToNat, or_self, or_false, false_or, if_false, if_true, not_true_eq_false, not_false_eq_true, or_true, true_or, and_false, false_and, mU_at, mU_mU, List.set_cons_succ, List.set_cons_zero, okv_0, okv_1, okv_i, okv_r, okv_n, okv_o, List.length_cons, List.length_nil, Nat.reduceAdd, Nat.reduceLT, Nat.zero_le, Nat.reduceLeDiff]
  rw [put0 (S' := sU S 8 5 (nsd (S 8 5))) hR (by simp [scl, sU, nsd]) (by simp [sU]) (fun f j hf => by simp [sU]; intro e; omega)]
  unfold dwI
  rw [zI_self]
  rfl
theorem m_free {d : Nat} {M : AM} {o i : Nat} {S : Sc} {s : Int} (hI : In S) (hR : RS M o S) (hi : i < 12) (hs : s = 0 ∨ s = 1) : callD (d + 1) 15 [.ref (o + 2 + i), .int (zI s)] M = some (some (.int (zI (if (i : Int) < S 8 0 ∧ S 2 i = s ∧ S 4 i < 0 then 1 else 0))), M) := by
  have h2 := (hI.f i).2.2.1
  have h4 := (hI.f i).2.2.2.2.1
  rw [c_15]
  have hs2 : 0 ≤ s ∧ s ≤ 1 := by omega
  rcases hr_c S i with ⟨h, h'⟩ | ⟨h, h'⟩
  · simp (disch := omega) only [e_15_0, e_15_1, e_15_4, e_15_7, e_15_8, e_15_11, e_15_12, e_15_15, e_15_16, e_15_19, e_15_19_n, e_15_19_r, e_15_22, e_15_23, e_15_26, e_15_27, hR.2.2 i hi, gfA_i, pfA_i, List.getElem?_cons_zero, List.getElem?_cons_succ, oK_some, rK_some, pR_some, pR_none, kq_i, kq_r, kq_n, kq_u, kq_o, kq_l, isRf_r, isRf_n, isRf_o, okv_r, okv_n, okv_o, is2_r, is2_o, is2_n, rcv_r, isC_i, if_true, if_pos, zI_add, zI_sub, zI_mul, nc_12, nc_8, nc_6, nc_40, nc_250, nc_3, nc_s, len4_0, len4_1, len4_2, len4_3, len4_4, and_self, and_true, true_and, lenA_i, va_rf_s, va_rf_n, oN_none, oN_some, ldQ_q, zI_lt, zI_eq, nat_tn, pcl, nc_s, Int.lt_irrefl, Int.reduceEq, Int.reduceNe, Int.reduceLT, Int.reduceLE, Int.reduceSub, Int.reduceAdd, Int.reduceMul, Int.reduceDiv, Int.reduceNeg, Int.reduceToNat, or_self, or_false, false_or, if_false, if_true, not_true_eq_false, not_false_eq_true, or_true, true_or, and_false, false_and, h, h']
  · by_cases e : S 2 i = s
    · by_cases e4 : S 4 i < 0
      · have e5 : frO S o i = none := if_neg (by omega)
        simp (disch := omega) only [e_15_0, e_15_1, e_15_4, e_15_7, e_15_8, e_15_11, e_15_12, e_15_15, e_15_16, e_15_19, e_15_19_n, e_15_19_r, e_15_22, e_15_23, e_15_26, e_15_27, hR.2.2 i hi, gfA_i, pfA_i, List.getElem?_cons_zero, List.getElem?_cons_succ, oK_some, rK_some, pR_some, pR_none, kq_i, kq_r, kq_n, kq_u, kq_o, kq_l, isRf_r, isRf_n, isRf_o, okv_r, okv_n, okv_o, is2_r, is2_o, is2_n, rcv_r, isC_i, if_true, if_pos, zI_add, zI_sub, zI_mul, nc_12, nc_8, nc_6, nc_40, nc_250, nc_3, nc_s, len4_0, len4_1, len4_2, len4_3, len4_4, and_self, and_true, true_and, lenA_i, va_rf_s, va_rf_n, oN_none, oN_some, ldQ_q, zI_lt, zI_eq, nat_tn, pcl, nc_s, Int.lt_irrefl, Int.reduceEq, Int.reduceNe, Int.reduceLT, Int.reduceLE, Int.reduceSub, Int.reduceAdd, Int.reduceMul, Int.reduceDiv, Int.reduceNeg, Int.reduceToNat, or_self, or_false, false_or, if_false, if_true, not_true_eq_false, not_false_eq_true, or_true, true_or, and_false, false_and, h, h', e, e4, e5]
      · have e5 : frO S o i = some (o + 2 + fr S i) := if_pos (by omega)
        simp (disch := omega) only [e_15_0, e_15_1, e_15_4, e_15_7, e_15_8, e_15_11, e_15_12, e_15_15, e_15_16, e_15_19, e_15_19_n, e_15_19_r, e_15_22, e_15_23, e_15_26, e_15_27, hR.2.2 i hi, gfA_i, pfA_i, List.getElem?_cons_zero, List.getElem?_cons_succ, oK_some, rK_some, pR_some, pR_none, kq_i, kq_r, kq_n, kq_u, kq_o, kq_l, isRf_r, isRf_n, isRf_o, okv_r, okv_n, okv_o, is2_r, is2_o, is2_n, rcv_r, isC_i, if_true, if_pos, zI_add, zI_sub, zI_mul, nc_12, nc_8, nc_6, nc_40, nc_250, nc_3, nc_s, len4_0, len4_1, len4_2, len4_3, len4_4, and_self, and_true, true_and, lenA_i, va_rf_s, va_rf_n, oN_none, oN_some, ldQ_q, zI_lt, zI_eq, nat_tn, pcl, nc_s, Int.lt_irrefl, Int.reduceEq, Int.reduceNe, Int.reduceLT, Int.reduceLE, Int.reduceSub, Int.reduceAdd, Int.reduceMul, Int.reduceDiv, Int.reduceNeg, Int.reduceToNat, or_self, or_false, false_or, if_false, if_true, not_true_eq_false, not_false_eq_true, or_true, true_or, and_false, false_and, h, h', e, e4, e5]
    · simp (disch := omega) only [e_15_0, e_15_1, e_15_4, e_15_7, e_15_8, e_15_11, e_15_12, e_15_15, e_15_16, e_15_19, e_15_19_n, e_15_19_r, e_15_22, e_15_23, e_15_26, e_15_27, hR.2.2 i hi, gfA_i, pfA_i, List.getElem?_cons_zero, List.getElem?_cons_succ, oK_some, rK_some, pR_some, pR_none, kq_i, kq_r, kq_n, kq_u, kq_o, kq_l, isRf_r, isRf_n, isRf_o, okv_r, okv_n, okv_o, is2_r, is2_o, is2_n, rcv_r, isC_i, if_true, if_pos, zI_add, zI_sub, zI_mul, nc_12, nc_8, nc_6, nc_40, nc_250, nc_3, nc_s, len4_0, len4_1, len4_2, len4_3, len4_4, and_self, and_true, true_and, lenA_i, va_rf_s, va_rf_n, oN_none, oN_some, ldQ_q, zI_lt, zI_eq, nat_tn, pcl, nc_s, Int.lt_irrefl, Int.reduceEq, Int.reduceNe, Int.reduceLT, Int.reduceLE, Int.reduceSub, Int.reduceAdd, Int.reduceMul, Int.reduceDiv, Int.reduceNeg, Int.reduceToNat, or_self, or_false, false_or, if_false, if_true, not_true_eq_false, not_false_eq_true, or_true, true_or, and_false, false_and, h, h', e]
def msr (S : Sc) (i : Nat) (w : Int) : Int := if w = 0 then S 7 i else if w = 1 then S 6 i else ((pop (S 3 i).toNat : Nat) : Int)
theorem m_bitsI {d : Nat} {M : AM} {a : Int} (h0 : 0 ≤ a) (h1 : a < 256) : callD (d + 1) 242 [.int (zI a)] M = some (some (.int (zI (pop a.toNat : Nat))), M) := by
  have := m_bits (d := d) (M := M) (n := a.toNat) (by omega)
  rwa [Int.toNat_of_nonneg h0] at this
theorem m_measure {d : Nat} {M : AM} {o i : Nat} {S : Sc} {w : Int} (hI : In S) (hR : RS M o S) (hi : i < 12) (hw : 0 ≤ w ∧ w ≤ 2) : callD (d + 2) 21 [.ref (o + 2 + i), .int (zI w)] M = some (some (.int (zI (msr S i w))), M) := by
  have h3 := (hI.f i).2.2.2.1
  rw [c_21]
  unfold msr
  have : w = 0 ∨ w = 1 ∨ w = 2 := by omega
  rcases this with rfl | rfl | rfl
  · simp (disch := omega) only [e_21_0, e_21_1, e_21_4, e_21_5, e_21_8, e_21_9, e_21_10, e_21_11, e_21_14, e_21_15, e_21_18, e_21_21, e_21_22, e_21_25, e_21_28, hR.2.2 i hi, gfA_i, pfA_i, List.getElem?_cons_zero, List.getElem?_cons_succ, oK_some, rK_some, pR_some, pR_none, kq_i, kq_r, kq_n, kq_u, kq_o, kq_l, isRf_r, isRf_n, isRf_o, okv_r, okv_n, okv_o, is2_r, is2_o, is2_n, rcv_r, isC_i, if_true, if_pos, zI_add, zI_sub, zI_mul, nc_12, nc_8, nc_6, nc_40, nc_250, nc_3, nc_s, len4_0, len4_1, len4_2, len4_3, len4_4, and_self, and_true, true_and, lenA_i, va_rf_s, va_rf_n, oN_none, oN_some, ldQ_q, zI_lt, zI_eq, nat_tn, pcl, nc_s, Int.lt_irrefl, Int.reduceEq, Int.reduceNe, Int.reduceLT, Int.reduceLE, Int.reduceSub, Int.reduceAdd, Int.reduceMul, Int.reduceDiv, Int.reduceNeg, Int.reduceToNat, or_self, or_false, false_or, if_false, if_true, not_true_eq_false, not_false_eq_true, or_true, true_or, and_false, false_and]
  · simp (disch := omega) only [e_21_0, e_21_1, e_21_4, e_21_5, e_21_8, e_21_9, e_21_10, e_21_11, e_21_14, e_21_15, e_21_18, e_21_21, e_21_22, e_21_25, e_21_28, hR.2.2 i hi, gfA_i, pfA_i, List.getElem?_cons_zero, List.getElem?_cons_succ, oK_some, rK_some, pR_some, pR_none, kq_i, kq_r, kq_n, kq_u, kq_o, kq_l, isRf_r, isRf_n, isRf_o, okv_r, okv_n, okv_o, is2_r, is2_o, is2_n, rcv_r, isC_i, if_true, if_pos, zI_add, zI_sub, zI_mul, nc_12, nc_8, nc_6, nc_40, nc_250, nc_3, nc_s, len4_0, len4_1, len4_2, len4_3, len4_4, and_self, and_true, true_and, lenA_i, va_rf_s, va_rf_n, oN_none, oN_some, ldQ_q, zI_lt, zI_eq, nat_tn, pcl, nc_s, Int.lt_irrefl, Int.reduceEq, Int.reduceNe, Int.reduceLT, Int.reduceLE, Int.reduceSub, Int.reduceAdd, Int.reduceMul, Int.reduceDiv, Int.reduceNeg, Int.reduceToNat, or_self, or_false, false_or, if_false, if_true, not_true_eq_false, not_false_eq_true, or_true, true_or, and_false, false_and]
  · simp (disch := omega) only [e_21_0, e_21_1, e_21_4, e_21_5, e_21_8, e_21_9, e_21_10, e_21_11, e_21_14, e_21_15, e_21_18, e_21_21, e_21_22, e_21_25, e_21_28, hR.2.2 i hi, m_bitsI, gfA_i, pfA_i, List.getElem?_cons_zero, List.getElem?_cons_succ, oK_some, rK_some, pR_some, pR_none, kq_i, kq_r, kq_n, kq_u, kq_o, kq_l, isRf_r, isRf_n, isRf_o, okv_r, okv_n, okv_o, is2_r, is2_o, is2_n, rcv_r, isC_i, if_true, if_pos, zI_add, zI_sub, zI_mul, nc_12, nc_8, nc_6, nc_40, nc_250, nc_3, nc_s, len4_0, len4_1, len4_2, len4_3, len4_4, and_self, and_true, true_and, lenA_i, va_rf_s, va_rf_n, oN_none, oN_some, ldQ_q, zI_lt, zI_eq, nat_tn, pcl, nc_s, Int.lt_irrefl, Int.reduceEq, Int.reduceNe, Int.reduceLT, Int.reduceLE, Int.reduceSub, Int.reduceAdd, Int.reduceMul, Int.reduceDiv, Int.reduceNeg, Int.reduceToNat, or_self, or_false, false_or, if_false, if_true, not_true_eq_false, not_false_eq_true, or_true, true_or, and_false, false_and]
def twF (S : Sc) (i j : Nat) : Option Int := if (i : Int) < S 8 0 ∧ (j : Int) < S 8 0 ∧ i < j ∧ S 2 i = S 2 j ∧ S 3 i = S 3 j then some (20 * (i : Int) + j) else none
def twi (S : Sc) : Int := mO (fF (fun i => fF (twF S i) 12 0) 12 0) (fun b => b) (-1)
theorem m_twins {d : Nat} {M : AM} {o : Nat} {S : Sc} (hI : In S) (hR : RS M o S) : callD (d + 1) 39 [.ref o] M = some (some (.int (zI (twi S))), M) := by
  rw [c_39]
  simp (disch := omega) only [e_39_0, e_39_1, e_39_4, e_39_5, e_39_6, e_39_7, e_39_8, e_39_9, hR.1, hR.2.1, gfA_i, pfA_i, List.getElem?_cons_zero, List.getElem?_cons_succ, oK_some, rK_some, pR_some, pR_none, kq_i, kq_r, kq_n, kq_u, kq_o, kq_l, isRf_r, isRf_n, isRf_o, okv_r, okv_n, okv_o, is2_r, is2_o, is2_n, rcv_r, isC_i, if_true, if_pos, zI_add, zI_sub, zI_mul, nc_12, nc_8, nc_6, nc_40, nc_250, nc_3, nc_s, len4_0, len4_1, len4_2, len4_3, len4_4, and_self, and_true, true_and, lenA_i, va_rf_s, va_rf_n, oN_none, oN_some, ldQ_q, zI_lt, zI_eq, nat_tn, pcl, nc_s, Int.lt_irrefl, Int.reduceEq, Int.reduceNe, Int.reduceLT, Int.reduceLE, Int.reduceSub, Int.reduceAdd, Int.reduceMul, Int.reduceDiv, Int.reduceNeg, Int.reduceToNat, or_self, or_false, false_or, if_false, if_true, not_true_eq_false, not_false_eq_true, or_true, true_or, and_false, false_and]
  have ho := loopG (fun i (c : Value × Value × Value × Value × Value × Value) => den (callD d) 39 10 [.ref o, .ref (o + 1), .int (zI 12), .int (zI i), c.1, c.2.1, c.2.2.1, c.2.2.2.1, c.2.2.2.2.1, c.2.2.2.2.2] [] M) (fun b => some (some (.int (zI b)), M)) (fun i => fF (twF S i) 12 0) 12 (fun i c hi => ?_) 12 0 (uu, uu, uu, uu, uu, uu) rfl
  · obtain ⟨c', hc⟩ := ho
    refine hc.trans ?_
    unfold twi
    cases fF (fun i => fF (twF S i) 12 0) 12 0 with
    | some b => rfl
    | none =>
      show den (callD d) 39 10 [.ref o, .ref (o + 1), .int (zI 12), .int (zI 12), c'.1, c'.2.1, c'.2.2.1, c'.2.2.2.1, c'.2.2.2.2.1, c'.2.2.2.2.2] [] M = _
      rw [e_39_10]
      simp (disch := omega) only [e_39_11, e_39_12, e_39_142, e_39_143, gfA_i, pfA_i, List.getElem?_cons_zero, List.getElem?_cons_succ, oK_some, rK_some, pR_some, pR_none, kq_i, kq_r, kq_n, kq_u, kq_o, kq_l, isRf_r, isRf_n, isRf_o, okv_r, okv_n, okv_o, is2_r, is2_o, is2_n, rcv_r, isC_i, if_true, if_pos, zI_add, zI_sub, zI_mul, nc_12, nc_8, nc_6, nc_40, nc_250, nc_3, nc_s, len4_0, len4_1, len4_2, len4_3, len4_4, and_self, and_true, true_and, lenA_i, va_rf_s, va_rf_n, oN_none, oN_some, ldQ_q, zI_lt, zI_eq, nat_tn, pcl, nc_s, Int.lt_irrefl, Int.reduceEq, Int.reduceNe, Int.reduceLT, Int.reduceLE, Int.reduceSub, Int.reduceAdd, Int.reduceMul, Int.reduceDiv, Int.reduceNeg, Int.reduceToNat, or_self, or_false, false_or, if_false, if_true, not_true_eq_false, not_false_eq_true, or_true, true_or, and_false, false_and]
      rfl
  · try dsimp only
    have hn := loopG (fun j (c : Value × Value) => den (callD d) 39 34 [.ref o, .ref (o + 1), .int (zI 12), .int (zI i), .ref (o + 2 + i), .ref (o + 1), .int (zI 12), .int (zI j), c.1, c.2] [] M) (fun b => some (some (.int (zI b)), M)) (twF S i) 12 (fun j c hj => ?_) 12 0 (c.2.2.2.2.1, c.2.2.2.2.2) rfl
    · obtain ⟨c', hc⟩ := hn
      refine ⟨(.ref (o + 2 + i), .ref (o + 1), .int (zI 12), .int (zI 12), c'.1, c'.2), ?_⟩
      conv => lhs; rw [e_39_10]
      simp (disch := omega) only [e_39_11, e_39_12, e_39_15, e_39_16, e_39_17, e_39_18, e_39_20, e_39_21, e_39_24, e_39_26, e_39_28, e_39_29, e_39_31, e_39_32, hR.1, hR.2.1, hi, gfA_i, pfA_i, List.getElem?_cons_zero, List.getElem?_cons_succ, oK_some, rK_some, pR_some, pR_none, kq_i, kq_r, kq_n, kq_u, kq_o, kq_l, isRf_r, isRf_n, isRf_o, okv_r, okv_n, okv_o, is2_r, is2_o, is2_n, rcv_r, isC_i, if_true, if_pos, zI_add, zI_sub, zI_mul, nc_12, nc_8, nc_6, nc_40, nc_250, nc_3, nc_s, len4_0, len4_1, len4_2, len4_3, len4_4, and_self, and_true, true_and, lenA_i, va_rf_s, va_rf_n, oN_none, oN_some, ldQ_q, zI_lt, zI_eq, nat_tn, pcl, nc_s, Int.lt_irrefl, Int.reduceEq, Int.reduceNe, Int.reduceLT, Int.reduceLE, Int.reduceSub, Int.reduceAdd, Int.reduceMul, Int.reduceDiv, Int.reduceNeg, Int.reduceToNat, or_self, or_false, false_or, if_false, if_true, not_true_eq_false, not_false_eq_true, or_true, true_or, and_false, false_and]
      refine hc.trans ?_
      cases fF (twF S i) 12 0 with
      | some b => rfl
      | none =>
        show den (callD d) 39 34 [.ref o, .ref (o + 1), .int (zI 12), .int (zI i), .ref (o + 2 + i), .ref (o + 1), .int (zI 12), .int (zI 12), c'.1, c'.2] [] M = den (callD d) 39 10 _ [] M
        rw [e_39_34]
        simp (disch := omega) only [e_39_36, e_39_38, e_39_136, e_39_139, gfA_i, pfA_i, List.getElem?_cons_zero, List.getElem?_cons_succ, oK_some, rK_some, pR_some, pR_none, kq_i, kq_r, kq_n, kq_u, kq_o, kq_l, isRf_r, isRf_n, isRf_o, okv_r, okv_n, okv_o, is2_r, is2_o, is2_n, rcv_r, isC_i, if_true, if_pos, zI_add, zI_sub, zI_mul, nc_12, nc_8, nc_6, nc_40, nc_250, nc_3, nc_s, len4_0, len4_1, len4_2, len4_3, len4_4, and_self, and_true, true_and, lenA_i, va_rf_s, va_rf_n, oN_none, oN_some, ldQ_q, zI_lt, zI_eq, nat_tn, pcl, nc_s, Int.lt_irrefl, Int.reduceEq, Int.reduceNe, Int.reduceLT, Int.reduceLE, Int.reduceSub, Int.reduceAdd, Int.reduceMul, Int.reduceDiv, Int.reduceNeg, Int.reduceToNat, or_self, or_false, false_or, if_false, if_true, not_true_eq_false, not_false_eq_true, or_true, true_or, and_false, false_and]
    · try dsimp only
      have h21 := (hI.f i).2.2.1
      have h22 := (hI.f j).2.2.1
      have h31 := (hI.f i).2.2.2.1
      have h32 := (hI.f j).2.2.2.1
      by_cases e : (i : Int) < S 8 0 ∧ (j : Int) < S 8 0 ∧ i < j
      · have e1 : hrI S i = 1 := if_pos e.1
        have e2 : hrI S j = 1 := if_pos e.2.1
        have e3 : (i : Int) < (j : Int) := by omega
        by_cases e4 : S 2 i = S 2 j ∧ S 3 i = S 3 j
        · have et : twF S i j = some (20 * (i : Int) + j) := if_pos ⟨e.1, e.2.1, e.2.2, e4⟩
          rw [et]
          refine ⟨c, ?_⟩
          conv => lhs; rw [e_39_34]
          simp (disch := omega) only [e_39_36, e_39_38, e_39_41, e_39_43, e_39_45, e_39_46, e_39_48, e_39_50, e_39_53, e_39_56, e_39_58, e_39_61, e_39_64, e_39_66, e_39_69, e_39_71, e_39_74, e_39_77, e_39_78, e_39_81, e_39_82, e_39_84, e_39_86, e_39_89, e_39_91, e_39_94, e_39_96, e_39_99, e_39_102, e_39_104, e_39_107, e_39_109, e_39_112, e_39_115, e_39_117, e_39_119, e_39_122, e_39_123, e_39_125, e_39_128, e_39_129, hR.1, hR.2.1, hi, hj, hR.2.2 i hi, hR.2.2 j hj, gfA_i, pfA_i, List.getElem?_cons_zero, List.getElem?_cons_succ, oK_some, rK_some, pR_some, pR_none, kq_i, kq_r, kq_n, kq_u, kq_o, kq_l, isRf_r, isRf_n, isRf_o, okv_r, okv_n, okv_o, is2_r, is2_o, is2_n, rcv_r, isC_i, if_true, if_pos, zI_add, zI_sub, zI_mul, nc_12, nc_8, nc_6, nc_40, nc_250, nc_3, nc_s, len4_0, len4_1, len4_2, len4_3, len4_4, and_self, and_true, true_and, lenA_i, va_rf_s, va_rf_n, oN_none, oN_some, ldQ_q, zI_lt, zI_eq, nat_tn, pcl, nc_s, Int.lt_irrefl, Int.reduceEq, Int.reduceNe, Int.reduceLT, Int.reduceLE, Int.reduceSub, Int.reduceAdd, Int.reduceMul, Int.reduceDiv, Int.reduceNeg, Int.reduceToNat, or_self, or_false, false_or, if_false, if_true, not_true_eq_false, not_false_eq_true, or_true, true_or, and_false, false_and, e1, e2, e3, e4.1, e4.2]
          rfl
        · have et : twF S i j = none := if_neg (fun q => e4 q.2.2.2)
          rw [et]
          refine ⟨(.ref (o + 2 + j), .int (zI 1)), ?_⟩
          conv => lhs; rw [e_39_34]
          by_cases e5 : S 2 i = S 2 j
          · have e6 : ¬ S 3 i = S 3 j := fun q => e4 ⟨e5, q⟩
            simp (disch := omega) only [e_39_36, e_39_38, e_39_41, e_39_43, e_39_45, e_39_46, e_39_48, e_39_50, e_39_53, e_39_56, e_39_58, e_39_61, e_39_64, e_39_66, e_39_69, e_39_71, e_39_74, e_39_77, e_39_78, e_39_81, e_39_82, e_39_84, e_39_86, e_39_89, e_39_91, e_39_94, e_39_96, e_39_99, e_39_102, e_39_104, e_39_107, e_39_109, e_39_112, e_39_115, e_39_117, e_39_119, e_39_122, e_39_123, e_39_125, e_39_128, e_39_129, e_39_130, e_39_133, hR.1, hR.2.1, hi, hj, hR.2.2 i hi, hR.2.2 j hj, gfA_i, pfA_i, List.getElem?_cons_zero, List.getElem?_cons_succ, oK_some, rK_some, pR_some, pR_none, kq_i, kq_r, kq_n, kq_u, kq_o, kq_l, isRf_r, isRf_n, isRf_o, okv_r, okv_n, okv_o, is2_r, is2_o, is2_n, rcv_r, isC_i, if_true, if_pos, zI_add, zI_sub, zI_mul, nc_12, nc_8, nc_6, nc_40, nc_250, nc_3, nc_s, len4_0, len4_1, len4_2, len4_3, len4_4, and_self, and_true, true_and, lenA_i, va_rf_s, va_rf_n, oN_none, oN_some, ldQ_q, zI_lt, zI_eq, nat_tn, pcl, nc_s, Int.lt_irrefl, Int.reduceEq, Int.reduceNe, Int.reduceLT, Int.reduceLE, Int.reduceSub, Int.reduceAdd, Int.reduceMul, Int.reduceDiv, Int.reduceNeg, Int.reduceToNat, or_self, or_false, false_or, if_false, if_true, not_true_eq_false, not_false_eq_true, or_true, true_or, and_false, false_and, e1, e2, e3, e5, e6]
            rfl
          · simp (disch := omega) only [e_39_36, e_39_38, e_39_41, e_39_43, e_39_45, e_39_46, e_39_48, e_39_50, e_39_53, e_39_56, e_39_58, e_39_61, e_39_64, e_39_66, e_39_69, e_39_71, e_39_74, e_39_77, e_39_78, e_39_81, e_39_82, e_39_84, e_39_86, e_39_89, e_39_91, e_39_94, e_39_96, e_39_99, e_39_102, e_39_104, e_39_107, e_39_109, e_39_112, e_39_115, e_39_117, e_39_119, e_39_122, e_39_123, e_39_125, e_39_128, e_39_129, e_39_130, e_39_133, hR.1, hR.2.1, hi, hj, hR.2.2 i hi, hR.2.2 j hj, gfA_i, pfA_i, List.getElem?_cons_zero, List.getElem?_cons_succ, oK_some, rK_some, pR_some, pR_none, kq_i, kq_r, kq_n, kq_u, kq_o, kq_l, isRf_r, isRf_n, isRf_o, okv_r, okv_n, okv_o, is2_r, is2_o, is2_n, rcv_r, isC_i, if_true, if_pos, zI_add, zI_sub, zI_mul, nc_12, nc_8, nc_6, nc_40, nc_250, nc_3, nc_s, len4_0, len4_1, len4_2, len4_3, len4_4, and_self, and_true, true_and, lenA_i, va_rf_s, va_rf_n, oN_none, oN_some, ldQ_q, zI_lt, zI_eq, nat_tn, pcl, nc_s, Int.lt_irrefl, Int.reduceEq, Int.reduceNe, Int.reduceLT, Int.reduceLE, Int.reduceSub, Int.reduceAdd, Int.reduceMul, Int.reduceDiv, Int.reduceNeg, Int.reduceToNat, or_self, or_false, false_or, if_false, if_true, not_true_eq_false, not_false_eq_true, or_true, true_or, and_false, false_and, e1, e2, e3, e5]
            rfl
      · have et : twF S i j = none := if_neg (fun q => e ⟨q.1, q.2.1, q.2.2.1⟩)
        rw [et]
        refine ⟨(.ref (o + 2 + j), .int (zI 0)), ?_⟩
        conv => lhs; rw [e_39_34]
        rcases hr_c S i with ⟨e1, e1'⟩ | ⟨e1, e1'⟩
        · simp (disch := omega) only [e_39_36, e_39_38, e_39_41, e_39_43, e_39_45, e_39_46, e_39_48, e_39_50, e_39_53, e_39_56, e_39_58, e_39_61, e_39_64, e_39_66, e_39_69, e_39_71, e_39_74, e_39_77, e_39_78, e_39_81, e_39_82, e_39_84, e_39_86, e_39_89, e_39_91, e_39_94, e_39_96, e_39_99, e_39_102, e_39_104, e_39_107, e_39_109, e_39_112, e_39_115, e_39_117, e_39_119, e_39_122, e_39_123, e_39_125, e_39_128, e_39_129, e_39_130, e_39_133, hR.1, hR.2.1, hi, hj, hR.2.2 i hi, hR.2.2 j hj, gfA_i, pfA_i, List.getElem?_cons_zero, List.getElem?_cons_succ, oK_some, rK_some, pR_some, pR_none, kq_i, kq_r, kq_n, kq_u, kq_o, kq_l, isRf_r, isRf_n, isRf_o, okv_r, okv_n, okv_o, is2_r, is2_o, is2_n, rcv_r, isC_i, if_true, if_pos, zI_add, zI_sub, zI_mul, nc_12, nc_8, nc_6, nc_40, nc_250, nc_3, nc_s, len4_0, len4_1, len4_2, len4_3, len4_4, and_self, and_true, true_and, lenA_i, va_rf_s, va_rf_n, oN_none, oN_some, ldQ_q, zI_lt, zI_eq, nat_tn, pcl, nc_s, Int.lt_irrefl, Int.reduceEq, Int.reduceNe, Int.reduceLT, Int.reduceLE, Int.reduceSub, Int.reduceAdd, Int.reduceMul, Int.reduceDiv, Int.reduceNeg, Int.reduceToNat, or_self, or_false, false_or, if_false, if_true, not_true_eq_false, not_false_eq_true, or_true, true_or, and_false, false_and, e1]
          rfl
        · rcases hr_c S j with ⟨e2, e2'⟩ | ⟨e2, e2'⟩
          · simp (disch := omega) only [e_39_36, e_39_38, e_39_41, e_39_43, e_39_45, e_39_46, e_39_48, e_39_50, e_39_53, e_39_56, e_39_58, e_39_61, e_39_64, e_39_66, e_39_69, e_39_71, e_39_74, e_39_77, e_39_78, e_39_81, e_39_82, e_39_84, e_39_86, e_39_89, e_39_91, e_39_94, e_39_96, e_39_99, e_39_102, e_39_104, e_39_107, e_39_109, e_39_112, e_39_115, e_39_117, e_39_119, e_39_122, e_39_123, e_39_125, e_39_128, e_39_129, e_39_130, e_39_133, hR.1, hR.2.1, hi, hj, hR.2.2 i hi, hR.2.2 j hj, gfA_i, pfA_i, List.getElem?_cons_zero, List.getElem?_cons_succ, oK_some, rK_some, pR_some, pR_none, kq_i, kq_r, kq_n, kq_u, kq_o, kq_l, isRf_r, isRf_n, isRf_o, okv_r, okv_n, okv_o, is2_r, is2_o, is2_n, rcv_r, isC_i, if_true, if_pos, zI_add, zI_sub, zI_mul, nc_12, nc_8, nc_6, nc_40, nc_250, nc_3, nc_s, len4_0, len4_1, len4_2, len4_3, len4_4, and_self, and_true, true_and, lenA_i, va_rf_s, va_rf_n, oN_none, oN_some, ldQ_q, zI_lt, zI_eq, nat_tn, pcl, nc_s, Int.lt_irrefl, Int.reduceEq, Int.reduceNe, Int.reduceLT, Int.reduceLE, Int.reduceSub, Int.reduceAdd, Int.reduceMul, Int.reduceDiv, Int.reduceNeg, Int.reduceToNat, or_self, or_false, false_or, if_false, if_true, not_true_eq_false, not_false_eq_true, or_true, true_or, and_false, false_and, e1, e2]
            rfl
          · have e3 : ¬ (i : Int) < (j : Int) := fun q => e ⟨e1', e2', by omega⟩
            simp (disch := omega) only [e_39_36, e_39_38, e_39_41, e_39_43, e_39_45, e_39_46, e_39_48, e_39_50, e_39_53, e_39_56, e_39_58, e_39_61, e_39_64, e_39_66, e_39_69, e_39_71, e_39_74, e_39_77, e_39_78, e_39_81, e_39_82, e_39_84, e_39_86, e_39_89, e_39_91, e_39_94, e_39_96, e_39_99, e_39_102, e_39_104, e_39_107, e_39_109, e_39_112, e_39_115, e_39_117, e_39_119, e_39_122, e_39_123, e_39_125, e_39_128, e_39_129, e_39_130, e_39_133, hR.1, hR.2.1, hi, hj, hR.2.2 i hi, hR.2.2 j hj, gfA_i, pfA_i, List.getElem?_cons_zero, List.getElem?_cons_succ, oK_some, rK_some, pR_some, pR_none, kq_i, kq_r, kq_n, kq_u, kq_o, kq_l, isRf_r, isRf_n, isRf_o, okv_r, okv_n, okv_o, is2_r, is2_o, is2_n, rcv_r, isC_i, if_true, if_pos, zI_add, zI_sub, zI_mul, nc_12, nc_8, nc_6, nc_40, nc_250, nc_3, nc_s, len4_0, len4_1, len4_2, len4_3, len4_4, and_self, and_true, true_and, lenA_i, va_rf_s, va_rf_n, oN_none, oN_some, ldQ_q, zI_lt, zI_eq, nat_tn, pcl, nc_s, Int.lt_irrefl, Int.reduceEq, Int.reduceNe, Int.reduceLT, Int.reduceLE, Int.reduceSub, Int.reduceAdd, Int.reduceMul, Int.reduceDiv, Int.reduceNeg, Int.reduceToNat, or_self, or_false, false_or, if_false, if_true, not_true_eq_false, not_false_eq_true, or_true, true_or, and_false, false_and, e1, e2, e3]
            rfl
/-- the schools at o while those of S come, up to place i -/
def tkM (M : AM) (o : Nat) (S S0 : Sc) (i : Nat) : AM := (M.1, M.2.1, fun q => if q = o then .inl (2, [.ref (o + 1), .int (zI (S 8 0)), .int (zI (S0 8 1)), .int (zI (S0 8 2)), .int (zI (S0 8 3)), .int (zI (S0 8 4)), .int (zI (S0 8 5))]) else if o + 2 ≤ q ∧ q < o + 2 + i then pcl S o (q - (o + 2)) else M.2.2 q)
theorem tk_o {M : AM} {o : Nat} {S S0 : Sc} {i : Nat} : (tkM M o S S0 i).2.2 o = .inl (2, [.ref (o + 1), .int (zI (S 8 0)), .int (zI (S0 8 1)), .int (zI (S0 8 2)), .int (zI (S0 8 3)), .int (zI (S0 8 4)), .int (zI (S0 8 5))]) := if_pos rfl
theorem tk_ne {M : AM} {o q : Nat} {S S0 : Sc} {i : Nat} (h : ¬ q = o) (h2 : q < o + 2 ∨ o + 2 + i ≤ q) : (tkM M o S S0 i).2.2 q = M.2.2 q := by
  show (if q = o then _ else if o + 2 ≤ q ∧ q < o + 2 + i then pcl S o (q - (o + 2)) else M.2.2 q) = _
  rw [if_neg h, if_neg (by omega)]
theorem tk_in {M : AM} {o j : Nat} {S S0 : Sc} {i : Nat} (h : j < i) : (tkM M o S S0 i).2.2 (o + 2 + j) = pcl S o j := by
  show (if o + 2 + j = o then _ else if o + 2 ≤ o + 2 + j ∧ o + 2 + j < o + 2 + i then pcl S o (o + 2 + j - (o + 2)) else _) = _
  rw [if_neg (by omega), if_pos (by omega), show o + 2 + j - (o + 2) = j by omega]
theorem tk_s {M : AM} {o : Nat} {S S0 : Sc} {i : Nat} {c : AC} (hc : c = pcl S o i) : mU (tkM M o S S0 i) (o + 2 + i) c = tkM M o S S0 (i + 1) := by
  refine Prod.ext rfl (Prod.ext rfl (funext fun q => ?_))
  show (if q = o + 2 + i then c else (tkM M o S S0 i).2.2 q) = _
  by_cases e : q = o + 2 + i
  · rw [if_pos e, e, tk_in (by omega), hc]
  · rw [if_neg e]
    by_cases e1 : q = o
    · subst e1; rw [tk_o, tk_o]
    · by_cases e2 : q < o + 2 ∨ o + 2 + i ≤ q
      · rw [tk_ne e1 e2, tk_ne e1 (by omega)]
      · have e3 : q = o + 2 + (q - (o + 2)) := by omega
        rw [e3, tk_in (by omega), tk_in (by omega)]
theorem m_takeAll {d : Nat} {M : AM} {o r : Nat} {S S0 : Sc} (hI : In S) (hR0 : RS M o S0) (hR : RS M r S) (hor : o + 14 ≤ r ∨ r + 14 ≤ o) : callD (d + 2) 26 [.ref o, .ref r] M = some (none, putS M o S) := by
  rw [c_26 (is2_r _)]
  have hc := hI.1
  have start : mU M o (.inl (2, [.ref (o + 1), .int (zI (S 8 0)), .int (zI (S0 8 1)), .int (zI (S0 8 2)), .int (zI (S0 8 3)), .int (zI (S0 8 4)), .int (zI (S0 8 5))])) = tkM M o S S0 0 := by
    refine Prod.ext rfl (Prod.ext rfl (funext fun q => ?_))
    by_cases e1 : q = o
    · subst e1; rw [tk_o, mU_at]
    · rw [tk_ne e1 (by omega), mU_ne e1]
  simp (disch := omega) only [e_26_0, e_26_1, e_26_2, e_26_5, e_26_8, e_26_9, hR0.1, hR.1, gfA_i, pfA_i, List.getElem?_cons_zero, List.getElem?_cons_succ, oK_some, rK_some, pR_some, pR_none, kq_i, kq_r, kq_n, kq_u, kq_o, kq_l, isRf_r, isRf_n, isRf_o, okv_r, okv_n, okv_o, is2_r, is2_o, is2_n, rcv_r, isC_i, if_true, if_pos, zI_add, zI_sub, zI_mul, nc_12, nc_8, nc_6, nc_40, nc_250, nc_3, nc_s, len4_0, len4_1, len4_2, len4_3, len4_4, and_self, and_true, true_and, lenA_i, va_rf_s, va_rf_n, oN_none, oN_some, ldQ_q, zI_lt, zI_eq, nat_tn, pcl, nc_s, Int.lt_irrefl, Int.reduceEq, Int.reduceNe, Int.reduceLT, Int.reduceLE, Int.reduceSub, Int.reduceAdd, Int.reduceMul, Int.reduceDiv, Int.reduceNeg, Int.reduceToNat, or_self, or_false, false_or, if_false, if_true, not_true_eq_false, not_false_eq_true, or_true, true_or, and_false, false_and, mU_at, mU_mU, List.set_cons_succ, List.set_cons_zero, okv_0, okv_1, okv_i, okv_r, okv_n, okv_o, List.length_cons, List.length_nil, Nat.reduceAdd, Nat.reduceLT, Nat.zero_le, Nat.reduceLeDiff, start]
  have hlo := loopQ (fun i (c : Value) => den (callD (d + 1)) 26 10 [.ref o, .ref r, .int (zI i), c] [] (tkM M o S S0 i)) (fun x => x = some (none, putS M o S)) (fun _ _ => True) 12 (fun i c hi _ => ?_) (fun c _ => ?_) 12 0 uu rfl trivial
  · exact hlo
  · refine Or.inl ⟨.ref (r + 2 + i), ?_, trivial⟩
    try dsimp only
    conv => lhs; rw [e_26_10]
    have q1 : (tkM M o S S0 i).2.2 r = M.2.2 r := tk_ne (by omega) (by omega)
    have q2 : (tkM M o S S0 i).2.2 (r + 1) = M.2.2 (r + 1) := tk_ne (by omega) (by omega)
    have q3 : ∀ j, j < 12 → (tkM M o S S0 i).2.2 (r + 2 + j) = M.2.2 (r + 2 + j) := fun j hj => tk_ne (by omega) (by omega)
    have q4 : (tkM M o S S0 i).2.2 (o + 1) = M.2.2 (o + 1) := tk_ne (by omega) (by omega)
    have q5 : (tkM M o S S0 i).2.2 (o + 2 + i) = M.2.2 (o + 2 + i) := tk_ne (by omega) (by omega)
    have hh : 0 ≤ hrI S i ∧ hrI S i ≤ 1 := by rcases hr_c S i with h | h <;> omega
    have h5 := (hI.f i).2.2.2.2.2.1
    have hp := q5.trans (hR0.2.2 i hi)
    have hq := (q3 i hi).trans (hR.2.2 i hi)
    unfold pcl at hp hq
    have htf := m_takeFrom (d := d) (show ¬ r + 2 + i = o + 2 + i by omega) hp hq (okv_b hh.1 hh.2) rfl rfl rfl rfl (okv_b h5.1 h5.2) rfl rfl
    by_cases e : prd S i
    · obtain ⟨p1, p2, p3, p4, p5⟩ := prd_fr hI e
      have hfr := frO_p (o := r) e
      have hpf := (q3 _ p3).trans (hR.2.2 _ p3)
      unfold pcl at hpf
      have hlt : ((fr S i : Nat) : Int) < S 8 0 := p1.1
      have hat := fun (c : AC) => m_at0 (d := d) (M := mU (tkM M o S S0 i) (o + 2 + i) c) (o := o) (a := (fr S i : Nat)) (c := S 8 0) (r := [.int (zI (S0 8 1)), .int (zI (S0 8 2)), .int (zI (S0 8 3)), .int (zI (S0 8 4)), .int (zI (S0 8 5))]) ((mU_ne (show ¬ o = o + 2 + i by omega)).trans tk_o) ((mU_ne (show ¬ o + 1 = o + 2 + i by omega)).trans (q4.trans hR0.2.1)) hc (by unfold i32; omega)
      rw [hfr] at hq
      rw [if_pos ⟨by omega, hlt⟩] at hat
      simp (disch := omega) only [e_26_11, e_26_13, e_26_16, e_26_17, e_26_20, e_26_21, e_26_22, e_26_23, e_26_24, e_26_27, e_26_28, e_26_29, e_26_30, e_26_33, e_26_34, e_26_37, e_26_38, e_26_39, e_26_40, e_26_43, e_26_43_n, e_26_43_r, e_26_46, e_26_47, e_26_50, e_26_51, e_26_52, e_26_55, e_26_58, e_26_61, e_26_64, e_26_67, q1, q2, q4, hR.1, hR.2.1, hR0.2.1, hp, hq, hpf, htf, hat, tk_o, mU_ne, hi, gfA_i, pfA_i, List.getElem?_cons_zero, List.getElem?_cons_succ, oK_some, rK_some, pR_some, pR_none, kq_i, kq_r, kq_n, kq_u, kq_o, kq_l, isRf_r, isRf_n, isRf_o, okv_r, okv_n, okv_o, is2_r, is2_o, is2_n, rcv_r, isC_i, if_true, if_pos, zI_add, zI_sub, zI_mul, nc_12, nc_8, nc_6, nc_40, nc_250, nc_3, nc_s, len4_0, len4_1, len4_2, len4_3, len4_4, and_self, and_true, true_and, lenA_i, va_rf_s, va_rf_n, oN_none, oN_some, ldQ_q, zI_lt, zI_eq, nat_tn, pcl, nc_s, Int.lt_irrefl, Int.reduceEq, Int.reduceNe, Int.reduceLT, Int.reduceLE, Int.reduceSub, Int.reduceAdd, Int.reduceMul, Int.reduceDiv, Int.reduceNeg, Int.reduceToNat, or_self, or_false, false_or, if_false, if_true, not_true_eq_false, not_false_eq_true, or_true, true_or, and_false, false_and, mU_at, mU_mU, List.set_cons_succ, List.set_cons_zero, okv_0, okv_1, okv_i, okv_r, okv_n, okv_o, List.length_cons, List.length_nil, Nat.reduceAdd, Nat.reduceLT, Nat.zero_le, Nat.reduceLeDiff]
      rw [tk_s]
      unfold pcl
      rw [frO_p (o := o) e]
      rfl
    · have hfr : frO S r i = none := if_neg e
      rw [hfr] at hq
      simp (disch := omega) only [e_26_11, e_26_13, e_26_16, e_26_17, e_26_20, e_26_21, e_26_22, e_26_23, e_26_24, e_26_27, e_26_28, e_26_29, e_26_30, e_26_33, e_26_34, e_26_37, e_26_38, e_26_39, e_26_40, e_26_43, e_26_43_n, e_26_43_r, e_26_46, e_26_47, e_26_50, e_26_51, e_26_52, e_26_55, e_26_58, e_26_61, e_26_64, e_26_67, q1, q2, q4, hR.1, hR.2.1, hR0.2.1, hp, hq, htf, tk_o, mU_ne, hi, gfA_i, pfA_i, List.getElem?_cons_zero, List.getElem?_cons_succ, oK_some, rK_some, pR_some, pR_none, kq_i, kq_r, kq_n, kq_u, kq_o, kq_l, isRf_r, isRf_n, isRf_o, okv_r, okv_n, okv_o, is2_r, is2_o, is2_n, rcv_r, isC_i, if_true, if_pos, zI_add, zI_sub, zI_mul, nc_12, nc_8, nc_6, nc_40, nc_250, nc_3, nc_s, len4_0, len4_1, len4_2, len4_3, len4_4, and_self, and_true, true_and, lenA_i, va_rf_s, va_rf_n, oN_none, oN_some, ldQ_q, zI_lt, zI_eq, nat_tn, pcl, nc_s, Int.lt_irrefl, Int.reduceEq, Int.reduceNe, Int.reduceLT, Int.reduceLE, Int.reduceSub, Int.reduceAdd, Int.reduceMul, Int.reduceDiv, Int.reduceNeg, Int.reduceToNat, or_self, or_false, false_or, if_false, if_true, not_true_eq_false, not_false_eq_true, or_true, true_or, and_false, false_and, mU_at, mU_mU, List.set_cons_succ, List.set_cons_zero, okv_0, okv_1, okv_i, okv_r, okv_n, okv_o, List.length_cons, List.length_nil, Nat.reduceAdd, Nat.reduceLT, Nat.zero_le, Nat.reduceLeDiff]
      rw [tk_s]
      unfold pcl
      rw [show frO S o i = none from if_neg e]
      rfl
  · have q1 : (tkM M o S S0 12).2.2 r = M.2.2 r := tk_ne (by omega) (by omega)
    show den (callD (d + 1)) 26 10 [.ref o, .ref r, .int (zI 12), c] [] (tkM M o S S0 12) = _
    rw [e_26_10]
    simp (disch := omega) only [e_26_11, e_26_13, e_26_70, e_26_71, e_26_72, e_26_75, e_26_78, e_26_79, e_26_80, e_26_83, e_26_86, e_26_87, e_26_88, e_26_91, e_26_94, e_26_95, e_26_96, e_26_99, e_26_102, e_26_103, e_26_104, e_26_107, e_26_110, q1, hR.1, tk_o, mU_ne, gfA_i, pfA_i, List.getElem?_cons_zero, List.getElem?_cons_succ, oK_some, rK_some, pR_some, pR_none, kq_i, kq_r, kq_n, kq_u, kq_o, kq_l, isRf_r, isRf_n, isRf_o, okv_r, okv_n, okv_o, is2_r, is2_o, is2_n, rcv_r, isC_i, if_true, if_pos, zI_add, zI_sub, zI_mul, nc_12, nc_8, nc_6, nc_40, nc_250, nc_3, nc_s, len4_0, len4_1, len4_2, len4_3, len4_4, and_self, and_true, true_and, lenA_i, va_rf_s, va_rf_n, oN_none, oN_some, ldQ_q, zI_lt, zI_eq, nat_tn, pcl, nc_s, Int.lt_irrefl, Int.reduceEq, Int.reduceNe, Int.reduceLT, Int.reduceLE, Int.reduceSub, Int.reduceAdd, Int.reduceMul, Int.reduceDiv, Int.reduceNeg, Int.reduceToNat, or_self, or_false, false_or, if_false, if_true, not_true_eq_false, not_false_eq_true, or_true, true_or, and_false, false_and, mU_at, mU_mU, List.set_cons_succ, List.set_cons_zero, okv_0, okv_1, okv_i, okv_r, okv_n, okv_o, List.length_cons, List.length_nil, Nat.reduceAdd, Nat.reduceLT, Nat.zero_le, Nat.reduceLeDiff]
    refine congrArg (fun z => some (none, z)) (put_of ⟨?_, ?_, fun j hj => ?_⟩ rfl rfl (fun q hq => ?_))
    · exact mU_at
    · rw [mU_ne (by omega), tk_ne (by omega) (by omega), hR0.2.1]
    · rw [mU_ne (by omega), tk_in hj]
    · rw [mU_ne (by omega), tk_ne (by omega) (by omega)]
