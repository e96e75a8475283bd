theorem fN_snd {α β : Type} (g : Nat → α → α) (h : Nat → β × α → β) : ∀ (k i : Nat) (a : β × α), (fN (fun i (a : β × α) => (h i a, g i a.2)) k i a).2 = fN g k i a.2 := by
  intro k
  induction k with
  | zero => intro i a; rfl
  | succ k ih => intro i a; exact ih (i + 1) _
def fF {β : Type} (f : Nat → Option β) (k i : Nat) : Option β := match k with
  | 0 => none
  | k + 1 => match f i with
    | some b => some b
    | none => fF f k (i + 1)
def mO {β ρ : Type} (o : Option β) (fin : β → ρ) (z : ρ) : ρ := match o with
  | some b => fin b
  | none => z
theorem loopF {β γ ρ : Type} (P : Nat → γ → ρ) (g : Nat → γ → γ) (fin : β → ρ) (f : Nat → Option β) (n : Nat) (h : ∀ i c, i < n → P i c = mO (f i) fin (P (i + 1) (g i c))) : ∀ (k i : Nat) (c : γ), i + k = n → ∃ c', P i c = mO (fF f k i) fin (P n c') := by
  intro k
  induction k with
  | zero => intro i c hi; exact ⟨c, by rw [show i = n by omega]; rfl⟩
  | succ k ih =>
    intro i c hi
    obtain ⟨c', hc⟩ := ih (i + 1) (g i c) (by omega)
    refine ⟨c', ?_⟩
    rw [h i c (by omega)]
    unfold fF
    cases f i with
    | some b => rfl
    | none => exact hc
def loL (S : Sc) (s : Nat) : Int := fN (fun _ a => a * S 8 1 / 12) s 0 1000000
def loN (S : Sc) (k s : Nat) : Int := fN (fun _ a => a * (12 - wlS S k 0) / 12) s 0 1000000
def los (S : Sc) (i s : Nat) : Int := if loL S s + loN S (dbt S i) s = 0 then 0 else 1000 * loL S s / (loL S s + loN S (dbt S i) s)
theorem frac_b {x : Int} (h0 : 0 ≤ x) (h1 : x ≤ 12) {a : Int} (h2 : 0 ≤ a) (h3 : a ≤ 1000000) : (0 ≤ a * x ∧ a * x ≤ 12000000) ∧ 0 ≤ a * x / 12 ∧ a * x / 12 ≤ 1000000 := by
  have := mul_b h2 h3 h0 h1
  generalize a * x = z at *
  omega
theorem fr_b {x : Int} (h0 : 0 ≤ x) (h1 : x ≤ 12) : ∀ (n i : Nat) (a : Int), 0 ≤ a → a ≤ 1000000 → 0 ≤ fN (fun _ a => a * x / 12) n i a ∧ fN (fun _ a => a * x / 12) n i a ≤ 1000000 := by
  intro n
  induction n with
  | zero => intro i a h2 h3; exact ⟨h2, h3⟩
  | succ n ih => intro i a h2 h3; have := (frac_b h0 h1 h2 h3).2; exact ih (i + 1) _ this.1 this.2
theorem lo_b {S : Sc} (hI : In S) (k s : Nat) : (0 ≤ loL S s ∧ loL S s ≤ 1000000) ∧ 0 ≤ loN S k s ∧ loN S k s ≤ 1000000 := by
  have hl := hI.2.1
  have hw := wlS_b S k 0
  exact ⟨fr_b hl.1 hl.2 s 0 1000000 (by omega) (by omega), fr_b (show 0 ≤ 12 - wlS S k 0 by omega) (by omega) s 0 1000000 (by omega) (by omega)⟩
theorem m_lost {d : Nat} {M : AM} {o i s : Nat} {S : Sc} (hI : In S) (hR : RS M o S) (h : prd S i) (hs : s ≤ 40) : callD (d + 4) 35 [.ref o, .ref (o + 2 + i), .int (zI s)] M = some (some (.int (zI (los S i s))), M) := by
  obtain ⟨-, -, -, -, hi⟩ := prd_fr hI h
  obtain ⟨hd1, hd2, -, -⟩ := prd_dbt hI h
  obtain ⟨-, -, hd3, -, -⟩ := prd_fr hI hd1
  have hl := hI.2.1
  have hw := wlS_b S (dbt S i) 0
  have hmw : callD (d + 3) 28 [.ref o, .ref (o + 2 + dbt S i), .ref (o + 2 + fr S (dbt S i)), .int (zI 0)] M = some (some (.int (zI (wlS S (dbt S i) 0))), M) := m_will hI hR hd2 hd3 (by omega) (by omega)
  rw [c_35 (is2_r _)]
  simp (disch := omega) only [e_35_0, e_35_1, e_35_4, e_35_5, e_35_6, e_35_6_n, e_35_6_r, e_35_9, e_35_10, e_35_11, e_35_12, e_35_13, e_35_14, e_35_17, e_35_18, e_35_21, e_35_23, e_35_25, e_35_27, e_35_29, e_35_31, e_35_32, hR.1, hR.2.2 i hi, hR.2.2 _ hd2, m_debtor hI hR hi, dbt_o h, frO_p hd1, hmw, gfA_i, pfA_i, List.getElem?_cons_zero, List.getElem?_cons_succ, oK_some, rK_some, pR_some, pR_none, kq_i, kq_r, kq_n, kq_u, kq_o, kq_l, isRf_r, isRf_n, isRf_o, okv_r, okv_n, okv_o, is2_r, is2_o, is2_n, rcv_r, isC_i, if_true, if_pos, zI_add, zI_sub, zI_mul, nc_12, nc_8, nc_6, nc_40, nc_250, nc_3, nc_s, len4_0, len4_1, len4_2, len4_3, len4_4, and_self, and_true, true_and, lenA_i, va_rf_s, va_rf_n, oN_none, oN_some, ldQ_q, zI_lt, zI_eq, nat_tn, pcl, nc_s, Int.lt_irrefl, Int.reduceEq, Int.reduceNe, Int.reduceLT, Int.reduceLE, Int.reduceSub, Int.reduceAdd, Int.reduceMul, Int.reduceDiv, Int.reduceNeg, Int.reduceToNat, or_self, or_false, false_or, if_false, if_true, not_true_eq_false, not_false_eq_true, or_true, true_or, and_false, false_and]
  have hlo := loopI (fun j (a : Int × Int) => den (callD (d + 3)) 35 34 [.ref o, .ref (o + 2 + i), .int (zI s), .ref (o + 2 + dbt S i), .int (zI (wlS S (dbt S i) 0)), .int (zI a.1), .int (zI a.2), .int (zI j)] [] M) (fun j a => (a.1 * S 8 1 / 12, a.2 * (12 - wlS S (dbt S i) 0) / 12)) (fun _ a => (0 ≤ a.1 ∧ a.1 ≤ 1000000) ∧ 0 ≤ a.2 ∧ a.2 ≤ 1000000) s (fun j a hj ha => by
    obtain ⟨b1, b2⟩ := frac_b hl.1 hl.2 ha.1.1 ha.1.2
    obtain ⟨b3, b4⟩ := frac_b (show 0 ≤ 12 - wlS S (dbt S i) 0 by omega) (by omega) ha.2.1 ha.2.2
    try dsimp only at ha ⊢
    refine ⟨?_, b2, b4⟩
    conv => lhs; rw [e_35_34]
    simp (disch := omega) only [e_35_36, e_35_37, e_35_40, e_35_42, e_35_43, e_35_46, e_35_47, e_35_49, e_35_50, e_35_52, e_35_54, e_35_56, e_35_58, e_35_59, e_35_60, e_35_62, e_35_63, e_35_65, e_35_68, hR.1, gfA_i, pfA_i, List.getElem?_cons_zero, List.getElem?_cons_succ, oK_some, rK_some, pR_some, pR_none, kq_i, kq_r, kq_n, kq_u, kq_o, kq_l, isRf_r, isRf_n, isRf_o, okv_r, okv_n, okv_o, is2_r, is2_o, is2_n, rcv_r, isC_i, if_true, if_pos, zI_add, zI_sub, zI_mul, nc_12, nc_8, nc_6, nc_40, nc_250, nc_3, nc_s, len4_0, len4_1, len4_2, len4_3, len4_4, and_self, and_true, true_and, lenA_i, va_rf_s, va_rf_n, oN_none, oN_some, ldQ_q, zI_lt, zI_eq, nat_tn, pcl, nc_s, Int.lt_irrefl, Int.reduceEq, Int.reduceNe, Int.reduceLT, Int.reduceLE, Int.reduceSub, Int.reduceAdd, Int.reduceMul, Int.reduceDiv, Int.reduceNeg, Int.reduceToNat, or_self, or_false, false_or, if_false, if_true, not_true_eq_false, not_false_eq_true, or_true, true_or, and_false, false_and, zI_div]) s 0 (1000000, 1000000) (by omega) ⟨⟨by simp, by simp⟩, by simp, by simp⟩
  refine hlo.1.trans ?_
  obtain ⟨hb1, hb2⟩ := lo_b hI (dbt S i) s
  rw [e_35_34]
  simp only [fN_fst (fun _ a => a * S 8 1 / 12), fN_snd (fun _ a => a * (12 - wlS S (dbt S i) 0) / 12)]
  change den (callD (d + 3)) 35 36 [.ref o, .ref (o + 2 + i), .int (zI s), .ref (o + 2 + dbt S i), .int (zI (wlS S (dbt S i) 0)), .int (zI (loL S s)), .int (zI (loN S (dbt S i) s)), .int (zI s)] [.int (zI s)] M = _
  unfold los
  by_cases e : loL S s + loN S (dbt S i) s = 0
  · simp (disch := omega) only [e_35_36, e_35_37, e_35_40, e_35_42, e_35_43, e_35_46, e_35_47, e_35_49, e_35_50, e_35_52, e_35_54, e_35_56, e_35_58, e_35_59, e_35_60, e_35_62, e_35_63, e_35_65, e_35_68, e_35_71, e_35_73, e_35_75, e_35_76, e_35_78, e_35_80, e_35_83, e_35_84, e_35_87, e_35_90, e_35_92, e_35_93, e_35_95, e_35_96, gfA_i, pfA_i, List.getElem?_cons_zero, List.getElem?_cons_succ, oK_some, rK_some, pR_some, pR_none, kq_i, kq_r, kq_n, kq_u, kq_o, kq_l, isRf_r, isRf_n, isRf_o, okv_r, okv_n, okv_o, is2_r, is2_o, is2_n, rcv_r, isC_i, if_true, if_pos, zI_add, zI_sub, zI_mul, nc_12, nc_8, nc_6, nc_40, nc_250, nc_3, nc_s, len4_0, len4_1, len4_2, len4_3, len4_4, and_self, and_true, true_and, lenA_i, va_rf_s, va_rf_n, oN_none, oN_some, ldQ_q, zI_lt, zI_eq, nat_tn, pcl, nc_s, Int.lt_irrefl, Int.reduceEq, Int.reduceNe, Int.reduceLT, Int.reduceLE, Int.reduceSub, Int.reduceAdd, Int.reduceMul, Int.reduceDiv, Int.reduceNeg, Int.reduceToNat, or_self, or_false, false_or, if_false, if_true, not_true_eq_false, not_false_eq_true, or_true, true_or, and_false, false_and, e]
  · simp (disch := omega) only [e_35_36, e_35_37, e_35_40, e_35_42, e_35_43, e_35_46, e_35_47, e_35_49, e_35_50, e_35_52, e_35_54, e_35_56, e_35_58, e_35_59, e_35_60, e_35_62, e_35_63, e_35_65, e_35_68, e_35_71, e_35_73, e_35_75, e_35_76, e_35_78, e_35_80, e_35_83, e_35_84, e_35_87, e_35_90, e_35_92, e_35_93, e_35_95, e_35_96, gfA_i, pfA_i, List.getElem?_cons_zero, List.getElem?_cons_succ, oK_some, rK_some, pR_some, pR_none, kq_i, kq_r, kq_n, kq_u, kq_o, kq_l, isRf_r, isRf_n, isRf_o, okv_r, okv_n, okv_o, is2_r, is2_o, is2_n, rcv_r, isC_i, if_true, if_pos, zI_add, zI_sub, zI_mul, nc_12, nc_8, nc_6, nc_40, nc_250, nc_3, nc_s, len4_0, len4_1, len4_2, len4_3, len4_4, and_self, and_true, true_and, lenA_i, va_rf_s, va_rf_n, oN_none, oN_some, ldQ_q, zI_lt, zI_eq, nat_tn, pcl, nc_s, Int.lt_irrefl, Int.reduceEq, Int.reduceNe, Int.reduceLT, Int.reduceLE, Int.reduceSub, Int.reduceAdd, Int.reduceMul, Int.reduceDiv, Int.reduceNeg, Int.reduceToNat, or_self, or_false, false_or, if_false, if_true, not_true_eq_false, not_false_eq_true, or_true, true_or, and_false, false_and, e, zI_div]
/-- whether a bit is there -/
def tb (n : Int) (b : Nat) : Int := ((n.toNat / 2 ^ b % 2 : Nat) : Int)
theorem tb_01 (n : Int) (b : Nat) : tb n b = 0 ∨ tb n b = 1 := by unfold tb; omega
theorem tb_dec : ∀ b : Nat, b < 8 → ∀ n : Nat, n < 256 → (zI n >>> (zI b &&& 31)) &&& zI 1 = zI ((n / 2 ^ b % 2 : Nat) : Int) := by decide +kernel
theorem zI_tb {n : Int} {b : Nat} (h0 : 0 ≤ n) (h1 : n ≤ 255) (hb : b < 8) : (zI n >>> (zI b &&& 31)) &&& zI 1 = zI (tb n b) := by
  have := tb_dec b hb n.toNat (by omega)
  rwa [Int.toNat_of_nonneg h0] at this
def hmN (S : Sc) (b : Nat) : Int := fN (fun i a => if (i : Int) < S 8 0 ∧ tb (S 3 i) b = 1 then a + 1 else a) 12 0 0
theorem cnt_b (c : Nat → Prop) (hc : ∀ i, Decidable (c i)) : ∀ (k i : Nat) (a : Int), a ≤ fN (fun i a => @ite Int (c i) (hc i) (a + 1) a) k i a ∧ fN (fun i a => @ite Int (c i) (hc i) (a + 1) a) k i a ≤ a + k := by
  intro k
  induction k with
  | zero => intro i a; exact ⟨Int.le_refl _, by show a ≤ a + 0; omega⟩
  | succ k ih =>
    intro i a
    have := ih (i + 1) (@ite Int (c i) (hc i) (a + 1) a)
    show a ≤ fN _ k (i + 1) (@ite Int (c i) (hc i) (a + 1) a) ∧ fN _ k (i + 1) (@ite Int (c i) (hc i) (a + 1) a) ≤ _
    by_cases h : c i
    · rw [if_pos h] at this ⊢; omega
    · rw [if_neg h] at this ⊢; omega
theorem hmN_b (S : Sc) (b : Nat) : 0 ≤ hmN S b ∧ hmN S b ≤ 12 := by
  have := cnt_b (fun i => (i : Int) < S 8 0 ∧ tb (S 3 i) b = 1) (fun i => inferInstance) 12 0 0
  unfold hmN
  omega
theorem m_howMany {d b : Nat} {M : AM} {o : Nat} {S : Sc} (hI : In S) (hR : RS M o S) (hb : b < 8) : callD (d + 1) 37 [.ref o, .int (zI b)] M = some (some (.int (zI (hmN S b))), M) := by
  rw [c_37]
  simp (disch := omega) only [e_37_0, e_37_1, e_37_2, e_37_3, e_37_6, e_37_7, e_37_8, e_37_9, e_37_11, e_37_12, hR.1, hR.2.1, gfA_i, pfA_i, List.getElem?_cons_zero, List.getElem?_cons_succ, oK_some, rK_some, pR_some, pR_none, kq_i, kq_r, kq_n, kq_u, kq_o, kq_l, isRf_r, isRf_n, isRf_o, okv_r, okv_n, okv_o, is2_r, is2_o, is2_n, rcv_r, isC_i, if_true, if_pos, zI_add, zI_sub, zI_mul, nc_12, nc_8, nc_6, nc_40, nc_250, nc_3, nc_s, len4_0, len4_1, len4_2, len4_3, len4_4, and_self, and_true, true_and, lenA_i, va_rf_s, va_rf_n, oN_none, oN_some, ldQ_q, zI_lt, zI_eq, nat_tn, pcl, nc_s, Int.lt_irrefl, Int.reduceEq, Int.reduceNe, Int.reduceLT, Int.reduceLE, Int.reduceSub, Int.reduceAdd, Int.reduceMul, Int.reduceDiv, Int.reduceNeg, Int.reduceToNat, or_self, or_false, false_or, if_false, if_true, not_true_eq_false, not_false_eq_true, or_true, true_or, and_false, false_and]
  refine (loopN (fun i (a : Int × Value) => den (callD d) 37 14 [.ref o, .int (zI b), .int (zI a.1), .ref (o + 1), .int (zI 12), .int (zI i), a.2] [] M) (fun i a => (if (i : Int) < S 8 0 ∧ tb (S 3 i) b = 1 then a.1 + 1 else a.1, .ref (o + 2 + i))) 12 (fun i a hi => ?_) 12 0 (0, uu) rfl).trans ?_
  · have h3 := (hI.f i).2.2.2.1
    have ht := tb_01 (S 3 i) b
    dsimp only
    conv => lhs; rw [e_37_14]
    rcases hr_c S i with ⟨h, h2⟩ | ⟨h, h2⟩
    · simp (disch := omega) only [e_37_16, e_37_18, e_37_21, e_37_22, e_37_24, e_37_25, e_37_27, e_37_29, e_37_32, e_37_35, e_37_37, e_37_40, e_37_41, e_37_42, e_37_43, e_37_44, e_37_45, e_37_48, e_37_51, e_37_54, hR.1, hR.2.1, hi, hR.2.2 i hi, gfA_i, pfA_i, List.getElem?_cons_zero, List.getElem?_cons_succ, oK_some, rK_some, pR_some, pR_none, kq_i, kq_r, kq_n, kq_u, kq_o, kq_l, isRf_r, isRf_n, isRf_o, okv_r, okv_n, okv_o, is2_r, is2_o, is2_n, rcv_r, isC_i, if_true, if_pos, zI_add, zI_sub, zI_mul, nc_12, nc_8, nc_6, nc_40, nc_250, nc_3, nc_s, len4_0, len4_1, len4_2, len4_3, len4_4, and_self, and_true, true_and, lenA_i, va_rf_s, va_rf_n, oN_none, oN_some, ldQ_q, zI_lt, zI_eq, nat_tn, pcl, nc_s, Int.lt_irrefl, Int.reduceEq, Int.reduceNe, Int.reduceLT, Int.reduceLE, Int.reduceSub, Int.reduceAdd, Int.reduceMul, Int.reduceDiv, Int.reduceNeg, Int.reduceToNat, or_self, or_false, false_or, if_false, if_true, not_true_eq_false, not_false_eq_true, or_true, true_or, and_false, false_and, h, h2]
    · rcases ht with h4 | h4 <;> simp (disch := omega) only [e_37_16, e_37_18, e_37_21, e_37_22, e_37_24, e_37_25, e_37_27, e_37_29, e_37_32, e_37_35, e_37_37, e_37_40, e_37_41, e_37_42, e_37_43, e_37_44, e_37_45, e_37_48, e_37_51, e_37_54, hR.1, hR.2.1, hi, hR.2.2 i hi, zI_tb, gfA_i, pfA_i, List.getElem?_cons_zero, List.getElem?_cons_succ, oK_some, rK_some, pR_some, pR_none, kq_i, kq_r, kq_n, kq_u, kq_o, kq_l, isRf_r, isRf_n, isRf_o, okv_r, okv_n, okv_o, is2_r, is2_o, is2_n, rcv_r, isC_i, if_true, if_pos, zI_add, zI_sub, zI_mul, nc_12, nc_8, nc_6, nc_40, nc_250, nc_3, nc_s, len4_0, len4_1, len4_2, len4_3, len4_4, and_self, and_true, true_and, lenA_i, va_rf_s, va_rf_n, oN_none, oN_some, ldQ_q, zI_lt, zI_eq, nat_tn, pcl, nc_s, Int.lt_irrefl, Int.reduceEq, Int.reduceNe, Int.reduceLT, Int.reduceLE, Int.reduceSub, Int.reduceAdd, Int.reduceMul, Int.reduceDiv, Int.reduceNeg, Int.reduceToNat, or_self, or_false, false_or, if_false, if_true, not_true_eq_false, not_false_eq_true, or_true, true_or, and_false, false_and, h, h2, h4]
  · rw [e_37_14]
    simp (disch := omega) only [e_37_16, e_37_18, e_37_21, e_37_22, e_37_24, e_37_25, e_37_27, e_37_29, e_37_32, e_37_35, e_37_37, e_37_40, e_37_41, e_37_42, e_37_43, e_37_44, e_37_45, e_37_48, e_37_51, e_37_54, e_37_57, e_37_58, gfA_i, pfA_i, List.getElem?_cons_zero, List.getElem?_cons_succ, oK_some, rK_some, pR_some, pR_none, kq_i, kq_r, kq_n, kq_u, kq_o, kq_l, isRf_r, isRf_n, isRf_o, okv_r, okv_n, okv_o, is2_r, is2_o, is2_n, rcv_r, isC_i, if_true, if_pos, zI_add, zI_sub, zI_mul, nc_12, nc_8, nc_6, nc_40, nc_250, nc_3, nc_s, len4_0, len4_1, len4_2, len4_3, len4_4, and_self, and_true, true_and, lenA_i, va_rf_s, va_rf_n, oN_none, oN_some, ldQ_q, zI_lt, zI_eq, nat_tn, pcl, nc_s, Int.lt_irrefl, Int.reduceEq, Int.reduceNe, Int.reduceLT, Int.reduceLE, Int.reduceSub, Int.reduceAdd, Int.reduceMul, Int.reduceDiv, Int.reduceNeg, Int.reduceToNat, or_self, or_false, false_or, if_false, if_true, not_true_eq_false, not_false_eq_true, or_true, true_or, and_false, false_and, fN_fst (fun i a => if (i : Int) < S 8 0 ∧ tb (S 3 i) b = 1 then a + 1 else a)]
    rfl
def shI (S : Sc) : Nat := fN (fun i a => if hmN S a < hmN S i then i else a) 7 1 0
theorem shI_b (S : Sc) : ∀ k i a, i + k ≤ 8 → a < 8 → fN (fun i a => if hmN S a < hmN S i then i else a) k i a < 8 := by
  intro k
  induction k with
  | zero => intro i a _ h; exact h
  | succ k ih =>
    intro i a h1 h2
    refine ih (i + 1) _ (by omega) ?_
    show (if hmN S a < hmN S i then i else a) < 8
    split <;> omega
theorem m_shared {d : Nat} {M : AM} {o : Nat} {S : Sc} (hI : In S) (hR : RS M o S) : callD (d + 2) 38 [.ref o] M = some (some (.int (zI (shI S))), M) := by
  rw [c_38]
  simp (disch := omega) only [e_38_0, e_38_1, e_38_2, e_38_3, gfA_i, pfA_i, List.getElem?_cons_zero, List.getElem?_cons_succ, oK_some, rK_some, pR_some, pR_none, kq_i, kq_r, kq_n, kq_u, kq_o, kq_l, isRf_r, isRf_n, isRf_o, okv_r, okv_n, okv_o, is2_r, is2_o, is2_n, rcv_r, isC_i, if_true, if_pos, zI_add, zI_sub, zI_mul, nc_12, nc_8, nc_6, nc_40, nc_250, nc_3, nc_s, len4_0, len4_1, len4_2, len4_3, len4_4, and_self, and_true, true_and, lenA_i, va_rf_s, va_rf_n, oN_none, oN_some, ldQ_q, zI_lt, zI_eq, nat_tn, pcl, nc_s, Int.lt_irrefl, Int.reduceEq, Int.reduceNe, Int.reduceLT, Int.reduceLE, Int.reduceSub, Int.reduceAdd, Int.reduceMul, Int.reduceDiv, Int.reduceNeg, Int.reduceToNat, or_self, or_false, false_or, if_false, if_true, not_true_eq_false, not_false_eq_true, or_true, true_or, and_false, false_and]
  have hlo := loopI (fun i (a : Nat) => den (callD (d + 1)) 38 4 [.ref o, .int (zI a), .int (zI i)] [] M) (fun i a => if hmN S a < hmN S i then i else a) (fun _ a => a < 8) 8 (fun i a hi ha => by
    have h1 := hmN_b S a
    have h2 := hmN_b S i
    try dsimp only at ha ⊢
    refine ⟨?_, by split <;> omega⟩
    conv => lhs; rw [e_38_4]
    by_cases h : hmN S a < hmN S i <;> simp (disch := omega) only [e_38_5, e_38_7, e_38_10, e_38_11, e_38_12, e_38_15, e_38_16, e_38_17, e_38_20, e_38_23, e_38_24, e_38_25, e_38_28, m_howMany hI hR ha, m_howMany hI hR hi, hR.1, gfA_i, pfA_i, List.getElem?_cons_zero, List.getElem?_cons_succ, oK_some, rK_some, pR_some, pR_none, kq_i, kq_r, kq_n, kq_u, kq_o, kq_l, isRf_r, isRf_n, isRf_o, okv_r, okv_n, okv_o, is2_r, is2_o, is2_n, rcv_r, isC_i, if_true, if_pos, zI_add, zI_sub, zI_mul, nc_12, nc_8, nc_6, nc_40, nc_250, nc_3, nc_s, len4_0, len4_1, len4_2, len4_3, len4_4, and_self, and_true, true_and, lenA_i, va_rf_s, va_rf_n, oN_none, oN_some, ldQ_q, zI_lt, zI_eq, nat_tn, pcl, nc_s, Int.lt_irrefl, Int.reduceEq, Int.reduceNe, Int.reduceLT, Int.reduceLE, Int.reduceSub, Int.reduceAdd, Int.reduceMul, Int.reduceDiv, Int.reduceNeg, Int.reduceToNat, or_self, or_false, false_or, if_false, if_true, not_true_eq_false, not_false_eq_true, or_true, true_or, and_false, false_and, h]) 7 1 0 rfl (by omega)
  refine hlo.1.trans ?_
  rw [e_38_4]
  simp (disch := omega) only [e_38_5, e_38_7, e_38_10, e_38_11, e_38_12, e_38_15, e_38_16, e_38_17, e_38_20, e_38_23, e_38_24, e_38_25, e_38_28, e_38_31, e_38_32, gfA_i, pfA_i, List.getElem?_cons_zero, List.getElem?_cons_succ, oK_some, rK_some, pR_some, pR_none, kq_i, kq_r, kq_n, kq_u, kq_o, kq_l, isRf_r, isRf_n, isRf_o, okv_r, okv_n, okv_o, is2_r, is2_o, is2_n, rcv_r, isC_i, if_true, if_pos, zI_add, zI_sub, zI_mul, nc_12, nc_8, nc_6, nc_40, nc_250, nc_3, nc_s, len4_0, len4_1, len4_2, len4_3, len4_4, and_self, and_true, true_and, lenA_i, va_rf_s, va_rf_n, oN_none, oN_some, ldQ_q, zI_lt, zI_eq, nat_tn, pcl, nc_s, Int.lt_irrefl, Int.reduceEq, Int.reduceNe, Int.reduceLT, Int.reduceLE, Int.reduceSub, Int.reduceAdd, Int.reduceMul, Int.reduceDiv, Int.reduceNeg, Int.reduceToNat, or_self, or_false, false_or, if_false, if_true, not_true_eq_false, not_false_eq_true, or_true, true_or, and_false, false_and]
  rfl
def bsF (S : Sc) (i : Nat) (j : Nat) (f : Option Nat) : Option Nat := match f with
  | none => if (j : Int) < S 8 0 ∧ ¬ S 2 j = S 2 i then some j else none
  | some q => if (j : Int) < S 8 0 ∧ ¬ S 2 j = S 2 i ∧ cm S i q < cm S i j then some j else some q
def bst (S : Sc) (i : Nat) : Option Nat := fN (bsF S i) 12 0 none
def ltO (n : Nat) (o : Option Nat) : Prop := ∀ q, o = some q → q < n
theorem bsF_n (S : Sc) (i j : Nat) : bsF S i j none = if (j : Int) < S 8 0 ∧ ¬ S 2 j = S 2 i then some j else none := rfl
theorem bsF_s (S : Sc) (i j q : Nat) : bsF S i j (some q) = if (j : Int) < S 8 0 ∧ ¬ S 2 j = S 2 i ∧ cm S i q < cm S i j then some j else some q := rfl
theorem bsF_no {S : Sc} {i j : Nat} (h : ¬ ((j : Int) < S 8 0 ∧ ¬ S 2 j = S 2 i)) (f : Option Nat) : bsF S i j f = f := by
  cases f with
  | none => exact if_neg h
  | some q => exact if_neg (fun x => h ⟨x.1, x.2.1⟩)
theorem bsF_or (S : Sc) (i j : Nat) (f : Option Nat) : bsF S i j f = f ∨ bsF S i j f = some j := by
  cases f with
  | none => rw [bsF_n]; split <;> simp
  | some q => rw [bsF_s]; split <;> simp
theorem m_bestFor {d : Nat} {M : AM} {o i : Nat} {S : Sc} (hI : In S) (hR : RS M o S) (hi : i < 12) : callD (d + 3) 36 [.ref o, .ref (o + 2 + i)] M = some (some (va_rf ((bst S i).map (fun q => o + 2 + q))), M) ∧ ltO 12 (bst S i) := by
  rw [c_36 (is2_r _)]
  simp (disch := omega) only [e_36_0, e_36_1, e_36_2, e_36_3, e_36_6, e_36_7, e_36_8, e_36_9, e_36_11, e_36_12, hR.1, hR.2.1, gfA_i, pfA_i, List.getElem?_cons_zero, List.getElem?_cons_succ, oK_some, rK_some, pR_some, pR_none, kq_i, kq_r, kq_n, kq_u, kq_o, kq_l, isRf_r, isRf_n, isRf_o, okv_r, okv_n, okv_o, is2_r, is2_o, is2_n, rcv_r, isC_i, if_true, if_pos, zI_add, zI_sub, zI_mul, nc_12, nc_8, nc_6, nc_40, nc_250, nc_3, nc_s, len4_0, len4_1, len4_2, len4_3, len4_4, and_self, and_true, true_and, lenA_i, va_rf_s, va_rf_n, oN_none, oN_some, ldQ_q, zI_lt, zI_eq, nat_tn, pcl, nc_s, Int.lt_irrefl, Int.reduceEq, Int.reduceNe, Int.reduceLT, Int.reduceLE, Int.reduceSub, Int.reduceAdd, Int.reduceMul, Int.reduceDiv, Int.reduceNeg, Int.reduceToNat, or_self, or_false, false_or, if_false, if_true, not_true_eq_false, not_false_eq_true, or_true, true_or, and_false, false_and]
  have hlo := loopI (fun j (a : Option Nat × Value × Value) => den (callD (d + 2)) 36 14 [.ref o, .ref (o + 2 + i), va_rf (a.1.map (fun q => o + 2 + q)), .ref (o + 1), .int (zI 12), .int (zI j), a.2.1, a.2.2] [] M) (fun j a => (bsF S i j a.1, .ref (o + 2 + j), .int (zI (if (j : Int) < S 8 0 ∧ ¬ S 2 j = S 2 i then 1 else 0)))) (fun _ a => ltO 12 a.1) 12 (fun j a hj ha => by
    obtain ⟨f, x, y⟩ := a
    have hs1 := (hI.f i).2.2.1
    have hs2 := (hI.f j).2.2.1
    try dsimp only at ha ⊢
    refine ⟨?_, ?_⟩
    · conv => lhs; rw [e_36_14]
      rcases hr_c S j with ⟨h, h2⟩ | ⟨h, h2⟩
      · have e : bsF S i j f = f := bsF_no (fun q => h2 q.1) f
        simp (disch := omega) only [e_36_16, e_36_18, e_36_21, e_36_22, e_36_24, e_36_25, e_36_27, e_36_29, e_36_32, e_36_35, e_36_37, e_36_40, e_36_41, e_36_44, e_36_47, e_36_48, e_36_51, e_36_52, e_36_54, e_36_56, e_36_59, e_36_60, e_36_60_n, e_36_60_r, e_36_63, e_36_64, e_36_66, e_36_69, e_36_70, e_36_71, e_36_74, e_36_77, e_36_79, e_36_80, e_36_83, hR.1, hR.2.1, hj, hR.2.2 j hj, gfA_i, pfA_i, List.getElem?_cons_zero, List.getElem?_cons_succ, oK_some, rK_some, pR_some, pR_none, kq_i, kq_r, kq_n, kq_u, kq_o, kq_l, isRf_r, isRf_n, isRf_o, okv_r, okv_n, okv_o, is2_r, is2_o, is2_n, rcv_r, isC_i, if_true, if_pos, zI_add, zI_sub, zI_mul, nc_12, nc_8, nc_6, nc_40, nc_250, nc_3, nc_s, len4_0, len4_1, len4_2, len4_3, len4_4, and_self, and_true, true_and, lenA_i, va_rf_s, va_rf_n, oN_none, oN_some, ldQ_q, zI_lt, zI_eq, nat_tn, pcl, nc_s, Int.lt_irrefl, Int.reduceEq, Int.reduceNe, Int.reduceLT, Int.reduceLE, Int.reduceSub, Int.reduceAdd, Int.reduceMul, Int.reduceDiv, Int.reduceNeg, Int.reduceToNat, or_self, or_false, false_or, if_false, if_true, not_true_eq_false, not_false_eq_true, or_true, true_or, and_false, false_and, h, h2, e]
      · by_cases h3 : S 2 j = S 2 i
        · have e : bsF S i j f = f := bsF_no (fun q => q.2 h3) f
          simp (disch := omega) only [e_36_16, e_36_18, e_36_21, e_36_22, e_36_24, e_36_25, e_36_27, e_36_29, e_36_32, e_36_35, e_36_37, e_36_40, e_36_41, e_36_44, e_36_47, e_36_48, e_36_51, e_36_52, e_36_54, e_36_56, e_36_59, e_36_60, e_36_60_n, e_36_60_r, e_36_63, e_36_64, e_36_66, e_36_69, e_36_70, e_36_71, e_36_74, e_36_77, e_36_79, e_36_80, e_36_83, hR.1, hR.2.1, hj, hR.2.2 j hj, hR.2.2 i hi, gfA_i, pfA_i, List.getElem?_cons_zero, List.getElem?_cons_succ, oK_some, rK_some, pR_some, pR_none, kq_i, kq_r, kq_n, kq_u, kq_o, kq_l, isRf_r, isRf_n, isRf_o, okv_r, okv_n, okv_o, is2_r, is2_o, is2_n, rcv_r, isC_i, if_true, if_pos, zI_add, zI_sub, zI_mul, nc_12, nc_8, nc_6, nc_40, nc_250, nc_3, nc_s, len4_0, len4_1, len4_2, len4_3, len4_4, and_self, and_true, true_and, lenA_i, va_rf_s, va_rf_n, oN_none, oN_some, ldQ_q, zI_lt, zI_eq, nat_tn, pcl, nc_s, Int.lt_irrefl, Int.reduceEq, Int.reduceNe, Int.reduceLT, Int.reduceLE, Int.reduceSub, Int.reduceAdd, Int.reduceMul, Int.reduceDiv, Int.reduceNeg, Int.reduceToNat, or_self, or_false, false_or, if_false, if_true, not_true_eq_false, not_false_eq_true, or_true, true_or, and_false, false_and, h, h2, h3, e]
        · cases f with
          | none =>
            rw [bsF_n, if_pos ⟨h2, h3⟩]
            simp (disch := omega) only [e_36_16, e_36_18, e_36_21, e_36_22, e_36_24, e_36_25, e_36_27, e_36_29, e_36_32, e_36_35, e_36_37, e_36_40, e_36_41, e_36_44, e_36_47, e_36_48, e_36_51, e_36_52, e_36_54, e_36_56, e_36_59, e_36_60, e_36_60_n, e_36_60_r, e_36_63, e_36_64, e_36_66, e_36_69, e_36_70, e_36_71, e_36_74, e_36_77, e_36_79, e_36_80, e_36_83, hR.1, hR.2.1, hj, hR.2.2 j hj, hR.2.2 i hi, Option.map_none, Option.map_some, gfA_i, pfA_i, List.getElem?_cons_zero, List.getElem?_cons_succ, oK_some, rK_some, pR_some, pR_none, kq_i, kq_r, kq_n, kq_u, kq_o, kq_l, isRf_r, isRf_n, isRf_o, okv_r, okv_n, okv_o, is2_r, is2_o, is2_n, rcv_r, isC_i, if_true, if_pos, zI_add, zI_sub, zI_mul, nc_12, nc_8, nc_6, nc_40, nc_250, nc_3, nc_s, len4_0, len4_1, len4_2, len4_3, len4_4, and_self, and_true, true_and, lenA_i, va_rf_s, va_rf_n, oN_none, oN_some, ldQ_q, zI_lt, zI_eq, nat_tn, pcl, nc_s, Int.lt_irrefl, Int.reduceEq, Int.reduceNe, Int.reduceLT, Int.reduceLE, Int.reduceSub, Int.reduceAdd, Int.reduceMul, Int.reduceDiv, Int.reduceNeg, Int.reduceToNat, or_self, or_false, false_or, if_false, if_true, not_true_eq_false, not_false_eq_true, or_true, true_or, and_false, false_and, h, h2, h3]
          | some q =>
            have hq := ha q rfl
            have c1 := cm_b S i q
            have c2 := cm_b S i j
            rw [bsF_s]
            by_cases h4 : cm S i q < cm S i j <;> simp (disch := omega) only [e_36_16, e_36_18, e_36_21, e_36_22, e_36_24, e_36_25, e_36_27, e_36_29, e_36_32, e_36_35, e_36_37, e_36_40, e_36_41, e_36_44, e_36_47, e_36_48, e_36_51, e_36_52, e_36_54, e_36_56, e_36_59, e_36_60, e_36_60_n, e_36_60_r, e_36_63, e_36_64, e_36_66, e_36_69, e_36_70, e_36_71, e_36_74, e_36_77, e_36_79, e_36_80, e_36_83, hR.1, hR.2.1, hj, hR.2.2 j hj, hR.2.2 i hi, m_common (d := d) hI hR hi hj, m_common (d := d) hI hR hi hq, Option.map_some, gfA_i, pfA_i, List.getElem?_cons_zero, List.getElem?_cons_succ, oK_some, rK_some, pR_some, pR_none, kq_i, kq_r, kq_n, kq_u, kq_o, kq_l, isRf_r, isRf_n, isRf_o, okv_r, okv_n, okv_o, is2_r, is2_o, is2_n, rcv_r, isC_i, if_true, if_pos, zI_add, zI_sub, zI_mul, nc_12, nc_8, nc_6, nc_40, nc_250, nc_3, nc_s, len4_0, len4_1, len4_2, len4_3, len4_4, and_self, and_true, true_and, lenA_i, va_rf_s, va_rf_n, oN_none, oN_some, ldQ_q, zI_lt, zI_eq, nat_tn, pcl, nc_s, Int.lt_irrefl, Int.reduceEq, Int.reduceNe, Int.reduceLT, Int.reduceLE, Int.reduceSub, Int.reduceAdd, Int.reduceMul, Int.reduceDiv, Int.reduceNeg, Int.reduceToNat, or_self, or_false, false_or, if_false, if_true, not_true_eq_false, not_false_eq_true, or_true, true_or, and_false, false_and, h, h2, h3, h4]
    · intro q hq
      rcases bsF_or S i j f with h | h
      · rw [h] at hq; exact ha q hq
      · rw [h] at hq; cases hq; exact hj) 12 0 (none, uu, uu) rfl (fun q h => by cases h)
  have hfst := fN_fst (bsF S i) (fun j (a : Option Nat × Value × Value) => ((.ref (o + 2 + j), .int (zI (if (j : Int) < S 8 0 ∧ ¬ S 2 j = S 2 i then 1 else 0))) : Value × Value)) 12 0 (none, uu, uu)
  obtain ⟨hl1, hl2⟩ := hlo
  rw [hfst] at hl2
  refine ⟨?_, hl2⟩
  refine hl1.trans ?_
  rw [e_36_14]
  simp (disch := omega) only [e_36_16, e_36_18, e_36_21, e_36_22, e_36_24, e_36_25, e_36_27, e_36_29, e_36_32, e_36_35, e_36_37, e_36_40, e_36_41, e_36_44, e_36_47, e_36_48, e_36_51, e_36_52, e_36_54, e_36_56, e_36_59, e_36_60, e_36_60_n, e_36_60_r, e_36_63, e_36_64, e_36_66, e_36_69, e_36_70, e_36_71, e_36_74, e_36_77, e_36_79, e_36_80, e_36_83, e_36_86, e_36_87, gfA_i, pfA_i, List.getElem?_cons_zero, List.getElem?_cons_succ, oK_some, rK_some, pR_some, pR_none, kq_i, kq_r, kq_n, kq_u, kq_o, kq_l, isRf_r, isRf_n, isRf_o, okv_r, okv_n, okv_o, is2_r, is2_o, is2_n, rcv_r, isC_i, if_true, if_pos, zI_add, zI_sub, zI_mul, nc_12, nc_8, nc_6, nc_40, nc_250, nc_3, nc_s, len4_0, len4_1, len4_2, len4_3, len4_4, and_self, and_true, true_and, lenA_i, va_rf_s, va_rf_n, oN_none, oN_some, ldQ_q, zI_lt, zI_eq, nat_tn, pcl, nc_s, Int.lt_irrefl, Int.reduceEq, Int.reduceNe, Int.reduceLT, Int.reduceLE, Int.reduceSub, Int.reduceAdd, Int.reduceMul, Int.reduceDiv, Int.reduceNeg, Int.reduceToNat, or_self, or_false, false_or, if_false, if_true, not_true_eq_false, not_false_eq_true, or_true, true_or, and_false, false_and, hfst]
  rfl
