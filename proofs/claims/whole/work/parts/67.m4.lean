/-! who gets whom: the class -/
def pop12 (t : Nat) : Nat := pop (t % 256) + pop (t / 256)
theorem bcx_eq : ∀ h : Nat, h < 16 → ∀ l : Nat, l < 256 → bc5 (bc4 (bc3 (bc2 (bc1 (zI ((256 * h + l : Nat) : Int)))))) = zI ((pop l + pop h : Nat) : Int) := by decide +kernel
theorem m_bits12 {d t : Nat} {M : AM} (ht : t < 4096) : callD (d + 1) 242 [.int (zI (t : Int))] M = some (some (.int (zI (pop12 t : Nat))), M) := by
  rw [c_242]
  simp only [e_242_0, e_242_1, e_242_2, e_242_3, e_242_4, e_242_7, e_242_8, e_242_9, e_242_10, e_242_11, e_242_14, e_242_15, e_242_16, e_242_17, e_242_18, e_242_21, e_242_22, e_242_23, e_242_24, e_242_25, e_242_26, e_242_27, e_242_28, e_242_29, e_242_32, e_242_33, e_242_34, e_242_35, e_242_36, e_242_38, e_242_39, e_242_40, e_242_41, e_242_42, e_242_43, e_242_45, e_242_46, e_242_47, e_242_48, e_242_49, e_242_51, e_242_52, kq_i]
  have := bcx_eq (t / 256) (by omega) (t % 256) (by omega)
  rw [show 256 * (t / 256) + t % 256 = t by omega] at this
  exact congrArg (fun z => some (some (Value.int z), M)) this
theorem pop_set_dec : ∀ j : Nat, j < 12 → ∀ h : Nat, h < 16 → ∀ l : Nat, l < 256 → pop12 ((256 * h + l) ||| 2 ^ j) ≤ pop12 (256 * h + l) + 1 := by decide +kernel
theorem pop_set {t j : Nat} (ht : t < 4096) (hj : j < 12) : pop12 (t ||| 2 ^ j) ≤ pop12 t + 1 := by
  have := pop_set_dec j hj (t / 256) (by omega) (t % 256) (by omega)
  rwa [show 256 * (t / 256) + t % 256 = t by omega] at this
theorem pop12_b (t : Nat) : pop12 t ≤ 16 := by
  have h1 := pop_le (t % 256)
  have h2 := pop_le (t / 256)
  unfold pop12
  omega
theorem sh2_dec : ∀ c : Nat, c < 13 → ∀ r : Nat, r < 8 → zI r <<< (zI c &&& 31) = zI ((r * 2 ^ c : Nat) : Int) := by decide +kernel
theorem set_ltp {t j c : Nat} (ht : t < 2 ^ c) (hj : j < c) : t ||| 2 ^ j < 2 ^ c := Nat.or_lt_two_pow ht (Nat.pow_lt_pow_right (by omega) hj)
theorem tb_up (t j : Nat) : (fun x => tb ((t ||| 2 ^ j : Nat) : Int) x) = va_up (fun x => tb (t : Int) x) j 1 := by
  funext x
  rw [tb_set]
  rfl
/-- the first that is worth the most -/
theorem dF_first {S : Sc} {r : Nat} {col : Nat → Nat} {Vn : (Nat → Int) → Int} {u : Nat → Int} : ∀ (k i : Nat) (a : Int × Int), fN (dF S r col Vn u) k i a = a ∨ (a.1 < (fN (dF S r col Vn u) k i a).1 ∧ ∃ j, i ≤ j ∧ j < i + k ∧ (fN (dF S r col Vn u) k i a).2 = (j : Int) ∧ u j = 0 ∧ (fN (dF S r col Vn u) k i a).1 = 8 * cm S r (col j) + 1 + Vn (va_up u j 1) ∧ ∀ x, i ≤ x → x < j → u x = 0 → 8 * cm S r (col x) + 1 + Vn (va_up u x 1) < (fN (dF S r col Vn u) k i a).1) := by
  intro k
  induction k with
  | zero => intro i a; exact Or.inl rfl
  | succ k ih =>
    intro i a
    have e : fN (dF S r col Vn u) (k + 1) i a = fN (dF S r col Vn u) k (i + 1) (dF S r col Vn u i a) := rfl
    rw [e]
    by_cases h : u i = 0 ∧ a.1 < 8 * cm S r (col i) + 1 + Vn (va_up u i 1)
    · have e2 : dF S r col Vn u i a = (8 * cm S r (col i) + 1 + Vn (va_up u i 1), (i : Int)) := if_pos h
      rw [e2]
      right
      rcases ih (i + 1) (8 * cm S r (col i) + 1 + Vn (va_up u i 1), (i : Int)) with g | ⟨g1, j, g2, g3, g4, g5, g6, g7⟩
      · rw [g]
        exact ⟨h.2, i, Nat.le_refl _, by omega, rfl, h.1, rfl, fun x h1 h2 => by omega⟩
      · dsimp only at g1
        refine ⟨by omega, j, by omega, by omega, g4, g5, g6, fun x h1 h2 h3 => ?_⟩
        by_cases ex : x = i
        · subst ex; exact g1
        · exact g7 x (by omega) h2 h3
    · have e2 : dF S r col Vn u i a = a := if_neg h
      rw [e2]
      rcases ih (i + 1) a with g | ⟨g1, j, g2, g3, g4, g5, g6, g7⟩
      · exact Or.inl g
      · refine Or.inr ⟨g1, j, by omega, by omega, g4, g5, g6, fun x h1 h2 h3 => ?_⟩
        by_cases ex : x = i
        · subst ex
          have : ¬ a.1 < 8 * cm S r (col x) + 1 + Vn (va_up u x 1) := fun q => h ⟨h3, q⟩
          omega
        · exact g7 x (by omega) h2 h3
theorem dV_b {S : Sc} {row col : Nat → Nat} {cc m k : Nat} {u : Nat → Int} : 0 ≤ (dV S row col cc m k u).1 ∧ (dV S row col cc m k u).1 ≤ 65 * k := by
  have h1 := pt_V (S := S) (row := row) (col := col) (cc := cc) (m := m) k u
  have h2 := pt_b (S := S) (row := row) (col := col) (cc := cc) (m := m) k u
  omega
theorem cm_comm (S : Sc) (i j : Nat) : cm S i j = cm S j i := by unfold cm; rw [Nat.and_comm]
theorem idx_inj {P a b s t : Nat} (hs : s < P) (ht : t < P) (h : a * P + s = b * P + t) : a = b ∧ s = t := by
  have hP : 0 < P := by omega
  have h1 : (a * P + s) / P = a := by rw [Nat.mul_comm, Nat.mul_add_div hP, Nat.div_eq_of_lt hs, Nat.add_zero]
  have h2 : (b * P + t) / P = b := by rw [Nat.mul_comm, Nat.mul_add_div hP, Nat.div_eq_of_lt ht, Nat.add_zero]
  have h3 : a = b := by rw [← h1, h, h2]
  subst h3
  exact ⟨rfl, by omega⟩
/-- the class's rows, columns, and how many -/
def gth (S : Sc) (X : Xm) : Prop := X.1 0 = ((rws S).1 : Int) ∧ X.1 1 = ((cls S).1 : Int) ∧ (∀ x, x < (rws S).1 → X.2.1 x = some (1 + 2 + (rws S).2 x)) ∧ ∀ j, j < (cls S).1 → X.2.2.1 j = some (1 + 2 + (cls S).2 j)
abbrev dvS (S : Sc) (k : Nat) (t : Nat) : Int × Int := dV S (rws S).2 (cls S).2 (cls S).1 (rws S).1 k (fun x => tb (t : Int) x)
/-- the table is right from a row on -/
def tblR (S : Sc) (X : Xm) (r0 : Nat) : Prop := ∀ r, r0 ≤ r → r < (rws S).1 → ∀ t, t < 2 ^ (cls S).1 → pop12 t ≤ r → X.2.2.2.2 (r * 2 ^ (cls S).1 + t) = zI (dvS S ((rws S).1 - r) t).1
theorem rcp {S : Sc} {r : Nat} (h : r < (rws S).1) : 2 ^ (cls S).1 ≤ 2048 ∧ r * 2 ^ (cls S).1 + 2 ^ (cls S).1 ≤ 2048 ∧ (cls S).1 ≤ 11 := by
  have h1 := rc_12 S
  have h2 := rws_le S
  have h3 : (cls S).1 ≤ 11 := by omega
  generalize (cls S).1 = c at *
  generalize (rws S).1 = m at *
  have h4 : c ≤ 12 - m := by omega
  have h5 : 2 ^ c ≤ 2 ^ (12 - m) := Nat.pow_le_pow_right (by omega) h4
  have h6 : (r + 1) * 2 ^ c ≤ m * 2 ^ (12 - m) := Nat.mul_le_mul h h5
  have h7 : m * 2 ^ (12 - m) ≤ 2048 := by
    have : m = 1 ∨ m = 2 ∨ m = 3 ∨ m = 4 ∨ m = 5 ∨ m = 6 := by omega
    rcases this with rfl | rfl | rfl | rfl | rfl | rfl <;> decide
  rw [Nat.add_mul, Nat.one_mul] at h6
  have h8 : 0 ≤ r * 2 ^ c := Nat.zero_le _
  exact ⟨by omega, by omega, h3⟩
section K4
variable {S S2 K : Sc} {kp : Int} {X X' : Xm} {T : Sc} {nC : Nat → Int} {E : Nat → Nat → Int64} {z : Int} {B : Nat → Int32} {Y : Yt} {Rf : Nat → Int32} {D : AM} {y5 y3 y4 : Value}
theorem mU43_0 {v : Int} : mU (H S S2 K kp X T nC E z B Y Rf D) 43 (.inl (0, [.ref 44, .ref 45, .ref 46, .ref 47, .int (zI v), .int (zI (X.1 1)), .int (zI (X.1 2)), .int (zI (X.1 3))])) = (H S S2 K kp ((va_up X.1 0 v, X.2)) T nC E z B Y Rf D) := mU_43 (f := va_up X.1 0 v)
theorem mU43_1 {v : Int} : mU (H S S2 K kp X T nC E z B Y Rf D) 43 (.inl (0, [.ref 44, .ref 45, .ref 46, .ref 47, .int (zI (X.1 0)), .int (zI v), .int (zI (X.1 2)), .int (zI (X.1 3))])) = (H S S2 K kp ((va_up X.1 1 v, X.2)) T nC E z B Y Rf D) := mU_43 (f := va_up X.1 1 v)
theorem mU43_2 {v : Int} : mU (H S S2 K kp X T nC E z B Y Rf D) 43 (.inl (0, [.ref 44, .ref 45, .ref 46, .ref 47, .int (zI (X.1 0)), .int (zI (X.1 1)), .int (zI v), .int (zI (X.1 3))])) = (H S S2 K kp ((va_up X.1 2 v, X.2)) T nC E z B Y Rf D) := mU_43 (f := va_up X.1 2 v)
theorem mU43_3 {v : Int} : mU (H S S2 K kp X T nC E z B Y Rf D) 43 (.inl (0, [.ref 44, .ref 45, .ref 46, .ref 47, .int (zI (X.1 0)), .int (zI (X.1 1)), .int (zI (X.1 2)), .int (zI v)])) = (H S S2 K kp ((va_up X.1 3 v, X.2)) T nC E z B Y Rf D) := mU_43 (f := va_up X.1 3 v)
theorem k_rowAt_s {d x : Nat} (hg : gth S X) (hx : x < (rws S).1) : callD (d + 1) 2 [.ref 43, .int (zI x)] (H S S2 K kp X T nC E z B Y Rf D) = some (some (.ref (1 + 2 + (rws S).2 x)), (H S S2 K kp X T nC E z B Y Rf D)) := by
  have h6 := rws_le S
  obtain ⟨g1, g2, g3, g4⟩ := hg
  have e0 : ¬ (x : Int) < 0 := by omega
  rw [c_2]
  simp (disch := omega) only [e_2_0, e_2_1, e_2_4, e_2_5, e_2_6, e_2_9, e_2_12, e_2_13, e_2_15, e_2_18, e_2_19, e_2_22, e_2_23, e_2_24, e_2_27, e_2_28, gfA_i, pfA_i, List.getElem?_cons_zero, List.getElem?_cons_succ, oK_some, rK_some, pR_some, pR_none, kq_i, kq_r, kq_n, kq_u, kq_o, kq_l, isRf_r, isRf_n, isRf_o, okv_r, okv_n, okv_o, is2_r, is2_o, is2_n, rcv_r, isC_i, if_true, if_pos, zI_add, zI_sub, zI_mul, nc_12, nc_8, nc_6, nc_40, nc_250, nc_3, nc_s, len4_0, len4_1, len4_2, len4_3, len4_4, and_self, and_true, true_and, lenA_i, va_rf_s, va_rf_n, oN_none, oN_some, zI_lt, zI_eq, nat_tn, nc_s, Int.lt_irrefl, Int.reduceEq, Int.reduceNe, Int.reduceLT, Int.reduceLE, Int.reduceSub, Int.reduceAdd, Int.reduceMul, Int.reduceDiv, Int.reduceNeg, Int.reduceToNat, or_self, or_false, false_or, if_false, if_true, not_true_eq_false, not_false_eq_true, or_true, true_or, and_false, false_and, ldI_0, stI_0, ldQ_q, gfA_0, gfA_43, gfA_65, H_0, H_43, H_48, H_65, H_66, H_67, kq_l, isC_0, isC_43, isC_65, isC_sh, gfA_sh, H_44, g1, e0, g3 x hx]
theorem k_gotBy_s {d x : Nat} (hg : gth S X) (hx : x < (rws S).1) : callD (d + 1) 3 [.ref 43, .int (zI x)] (H S S2 K kp X T nC E z B Y Rf D) = some (some (va_rf (X.2.2.2.1 x)), (H S S2 K kp X T nC E z B Y Rf D)) := by
  have h6 := rws_le S
  obtain ⟨g1, g2, g3, g4⟩ := hg
  have e0 : ¬ (x : Int) < 0 := by omega
  rw [c_3]
  simp (disch := omega) only [e_3_0, e_3_1, e_3_4, e_3_5, e_3_6, e_3_9, e_3_12, e_3_13, e_3_15, e_3_18, e_3_19, e_3_22, e_3_23, e_3_24, e_3_27, e_3_28, gfA_i, pfA_i, List.getElem?_cons_zero, List.getElem?_cons_succ, oK_some, rK_some, pR_some, pR_none, kq_i, kq_r, kq_n, kq_u, kq_o, kq_l, isRf_r, isRf_n, isRf_o, okv_r, okv_n, okv_o, is2_r, is2_o, is2_n, rcv_r, isC_i, if_true, if_pos, zI_add, zI_sub, zI_mul, nc_12, nc_8, nc_6, nc_40, nc_250, nc_3, nc_s, len4_0, len4_1, len4_2, len4_3, len4_4, and_self, and_true, true_and, lenA_i, va_rf_s, va_rf_n, oN_none, oN_some, zI_lt, zI_eq, nat_tn, nc_s, Int.lt_irrefl, Int.reduceEq, Int.reduceNe, Int.reduceLT, Int.reduceLE, Int.reduceSub, Int.reduceAdd, Int.reduceMul, Int.reduceDiv, Int.reduceNeg, Int.reduceToNat, or_self, or_false, false_or, if_false, if_true, not_true_eq_false, not_false_eq_true, or_true, true_or, and_false, false_and, ldI_0, stI_0, ldQ_q, gfA_0, gfA_43, gfA_65, H_0, H_43, H_48, H_65, H_66, H_67, kq_l, isC_0, isC_43, isC_65, isC_sh, gfA_sh, H_46, g1, e0]
theorem k_colAt_s {d x : Nat} (hg : gth S X) (hx : x < (cls S).1) : callD (d + 1) 4 [.ref 43, .int (zI x)] (H S S2 K kp X T nC E z B Y Rf D) = some (some (.ref (1 + 2 + (cls S).2 x)), (H S S2 K kp X T nC E z B Y Rf D)) := by
  have h6 := rc_12 S
  obtain ⟨g1, g2, g3, g4⟩ := hg
  have e0 : ¬ (x : Int) < 0 := by omega
  rw [c_4]
  simp (disch := omega) only [e_4_0, e_4_1, e_4_4, e_4_5, e_4_6, e_4_9, e_4_12, e_4_13, e_4_15, e_4_18, e_4_19, e_4_22, e_4_23, e_4_24, e_4_27, e_4_28, gfA_i, pfA_i, List.getElem?_cons_zero, List.getElem?_cons_succ, oK_some, rK_some, pR_some, pR_none, kq_i, kq_r, kq_n, kq_u, kq_o, kq_l, isRf_r, isRf_n, isRf_o, okv_r, okv_n, okv_o, is2_r, is2_o, is2_n, rcv_r, isC_i, if_true, if_pos, zI_add, zI_sub, zI_mul, nc_12, nc_8, nc_6, nc_40, nc_250, nc_3, nc_s, len4_0, len4_1, len4_2, len4_3, len4_4, and_self, and_true, true_and, lenA_i, va_rf_s, va_rf_n, oN_none, oN_some, zI_lt, zI_eq, nat_tn, nc_s, Int.lt_irrefl, Int.reduceEq, Int.reduceNe, Int.reduceLT, Int.reduceLE, Int.reduceSub, Int.reduceAdd, Int.reduceMul, Int.reduceDiv, Int.reduceNeg, Int.reduceToNat, or_self, or_false, false_or, if_false, if_true, not_true_eq_false, not_false_eq_true, or_true, true_or, and_false, false_and, ldI_0, stI_0, ldQ_q, gfA_0, gfA_43, gfA_65, H_0, H_43, H_48, H_65, H_66, H_67, kq_l, isC_0, isC_43, isC_65, isC_sh, gfA_sh, H_45, g2, e0, g4 x hx]
theorem k_colAt_n {d : Nat} : callD (d + 1) 4 [.ref 43, .int (zI (-1))] (H S S2 K kp X T nC E z B Y Rf D) = some (some .null, (H S S2 K kp X T nC E z B Y Rf D)) := by
  rw [c_4]
  simp (disch := omega) only [e_4_0, e_4_1, e_4_4, e_4_5, e_4_6, e_4_9, e_4_12, e_4_13, e_4_15, e_4_18, e_4_19, e_4_22, e_4_23, e_4_24, e_4_27, e_4_28, gfA_i, pfA_i, List.getElem?_cons_zero, List.getElem?_cons_succ, oK_some, rK_some, pR_some, pR_none, kq_i, kq_r, kq_n, kq_u, kq_o, kq_l, isRf_r, isRf_n, isRf_o, okv_r, okv_n, okv_o, is2_r, is2_o, is2_n, rcv_r, isC_i, if_true, if_pos, zI_add, zI_sub, zI_mul, nc_12, nc_8, nc_6, nc_40, nc_250, nc_3, nc_s, len4_0, len4_1, len4_2, len4_3, len4_4, and_self, and_true, true_and, lenA_i, va_rf_s, va_rf_n, oN_none, oN_some, zI_lt, zI_eq, nat_tn, nc_s, Int.lt_irrefl, Int.reduceEq, Int.reduceNe, Int.reduceLT, Int.reduceLE, Int.reduceSub, Int.reduceAdd, Int.reduceMul, Int.reduceDiv, Int.reduceNeg, Int.reduceToNat, or_self, or_false, false_or, if_false, if_true, not_true_eq_false, not_false_eq_true, or_true, true_or, and_false, false_and, ldI_0, stI_0, ldQ_q, gfA_0, gfA_43, gfA_65, H_0, H_43, H_48, H_65, H_66, H_67, kq_l, isC_0, isC_43, isC_65, isC_sh, gfA_sh]
theorem k_worthFrom {d r t : Nat} (hg : gth S X) (ht : tblR S X r) (hr : r ≤ (rws S).1) (hm : 1 ≤ (rws S).1) (h2 : t < 2 ^ (cls S).1) (hp : pop12 t ≤ r) : callD (d + 1) 7 [.ref 43, .int (zI r), .int (zI t)] (H S S2 K kp X T nC E z B Y Rf D) = some (some (.int (zI (dvS S ((rws S).1 - r) t).1)), (H S S2 K kp X T nC E z B Y Rf D)) := by
  have h6 := rws_le S
  obtain ⟨g1, g2, g3, g4⟩ := hg
  have hc := rcp (S := S) (r := (rws S).1 - 1) (by omega)
  have hs := sh2_dec (cls S).1 (by omega) r (by omega)
  rw [c_7]
  by_cases h : r < (rws S).1
  · have hc2 := rcp h
    have e0 : ¬ ((r * 2 ^ (cls S).1 : Nat) : Int) + (t : Int) < 0 := by omega
    have e1 : (((r * 2 ^ (cls S).1 : Nat) : Int) + (t : Int)).toNat = r * 2 ^ (cls S).1 + t := by omega
    have e2 : ((r * 2 ^ (cls S).1 : Nat) : Int) + (t : Int) < 2048 := by omega
    have e3 := ht r (Nat.le_refl _) h t h2 hp
    generalize r * 2 ^ (cls S).1 = rP at *
    simp (disch := omega) only [e_7_0, e_7_1, e_7_2, e_7_5, e_7_6, e_7_7, e_7_8, e_7_9, e_7_10, e_7_11, e_7_14, e_7_17, e_7_18, e_7_21, e_7_22, e_7_25, e_7_28, e_7_29, e_7_32, e_7_33, e_7_34, e_7_37, e_7_38, gfA_i, pfA_i, List.getElem?_cons_zero, List.getElem?_cons_succ, oK_some, rK_some, pR_some, pR_none, kq_i, kq_r, kq_n, kq_u, kq_o, kq_l, isRf_r, isRf_n, isRf_o, okv_r, okv_n, okv_o, is2_r, is2_o, is2_n, rcv_r, isC_i, if_true, if_pos, zI_add, zI_sub, zI_mul, nc_12, nc_8, nc_6, nc_40, nc_250, nc_3, nc_s, len4_0, len4_1, len4_2, len4_3, len4_4, and_self, and_true, true_and, lenA_i, va_rf_s, va_rf_n, oN_none, oN_some, zI_lt, zI_eq, nat_tn, nc_s, Int.lt_irrefl, Int.reduceEq, Int.reduceNe, Int.reduceLT, Int.reduceLE, Int.reduceSub, Int.reduceAdd, Int.reduceMul, Int.reduceDiv, Int.reduceNeg, Int.reduceToNat, or_self, or_false, false_or, if_false, if_true, not_true_eq_false, not_false_eq_true, or_true, true_or, and_false, false_and, ldI_0, stI_0, ldQ_q, gfA_0, gfA_43, gfA_65, H_0, H_43, H_48, H_65, H_66, H_67, kq_l, isC_0, isC_43, isC_65, isC_sh, gfA_sh, H_47, g1, g2, hs, e0, e1, e2, e3]
  · have e3 : (rws S).1 - r = 0 := by omega
    have e4 : ¬ (r : Int) < ((rws S).1 : Int) := by omega
    rw [e3]
    generalize r * 2 ^ (cls S).1 = rP at *
    simp (disch := omega) only [e_7_0, e_7_1, e_7_2, e_7_5, e_7_6, e_7_7, e_7_8, e_7_9, e_7_10, e_7_11, e_7_14, e_7_17, e_7_18, e_7_21, e_7_22, e_7_25, e_7_28, e_7_29, e_7_32, e_7_33, e_7_34, e_7_37, e_7_38, gfA_i, pfA_i, List.getElem?_cons_zero, List.getElem?_cons_succ, oK_some, rK_some, pR_some, pR_none, kq_i, kq_r, kq_n, kq_u, kq_o, kq_l, isRf_r, isRf_n, isRf_o, okv_r, okv_n, okv_o, is2_r, is2_o, is2_n, rcv_r, isC_i, if_true, if_pos, zI_add, zI_sub, zI_mul, nc_12, nc_8, nc_6, nc_40, nc_250, nc_3, nc_s, len4_0, len4_1, len4_2, len4_3, len4_4, and_self, and_true, true_and, lenA_i, va_rf_s, va_rf_n, oN_none, oN_some, zI_lt, zI_eq, nat_tn, nc_s, Int.lt_irrefl, Int.reduceEq, Int.reduceNe, Int.reduceLT, Int.reduceLE, Int.reduceSub, Int.reduceAdd, Int.reduceMul, Int.reduceDiv, Int.reduceNeg, Int.reduceToNat, or_self, or_false, false_or, if_false, if_true, not_true_eq_false, not_false_eq_true, or_true, true_or, and_false, false_and, ldI_0, stI_0, ldQ_q, gfA_0, gfA_43, gfA_65, H_0, H_43, H_48, H_65, H_66, H_67, kq_l, isC_0, isC_43, isC_65, isC_sh, gfA_sh, g1, g2, hs, e4]
    rfl
theorem k_worthOf_n {d r t : Nat} (hg : gth S X) (ht : tblR S X (r + 1)) (hr : r < (rws S).1) (h2 : t < 2 ^ (cls S).1) (hp : pop12 t ≤ r) : callD (d + 2) 8 [.ref 43, .int (zI r), .int (zI (-1)), .int (zI t)] (H S S2 K kp X T nC E z B Y Rf D) = some (some (.int (zI (dvS S ((rws S).1 - (r + 1)) t).1)), (H S S2 K kp X T nC E z B Y Rf D)) := by
  have hw := k_worthFrom (S := S) (S2 := S2) (K := K) (kp := kp) (X := X) (T := T) (nC := nC) (E := E) (z := z) (B := B) (Y := Y) (Rf := Rf) (D := D) (d := d) hg ht (by omega) (by omega) h2 (by omega)
  rw [show ((r + 1 : Nat) : Int) = (r : Int) + 1 from rfl] at hw
  have hra := k_rowAt_s (S := S) (S2 := S2) (K := K) (kp := kp) (X := X) (T := T) (nC := nC) (E := E) (z := z) (B := B) (Y := Y) (Rf := Rf) (D := D) (d := d) hg hr
  rw [c_8]
  simp (disch := omega) only [e_8_0, e_8_1, e_8_2, e_8_5, e_8_7, e_8_8, e_8_9, e_8_12, e_8_14, e_8_16, e_8_16_n, e_8_16_r, e_8_19, e_8_21, e_8_21_n, e_8_21_r, e_8_24, e_8_25, e_8_26, e_8_27, e_8_28, e_8_29, e_8_32, e_8_33, e_8_35, e_8_37, e_8_39, e_8_42, e_8_43, e_8_44, e_8_45, e_8_47, e_8_49, e_8_50, e_8_51, e_8_52, e_8_53, e_8_54, e_8_55, e_8_56, e_8_57, e_8_58, e_8_61, e_8_62, gfA_i, pfA_i, List.getElem?_cons_zero, List.getElem?_cons_succ, oK_some, rK_some, pR_some, pR_none, kq_i, kq_r, kq_n, kq_u, kq_o, kq_l, isRf_r, isRf_n, isRf_o, okv_r, okv_n, okv_o, is2_r, is2_o, is2_n, rcv_r, isC_i, if_true, if_pos, zI_add, zI_sub, zI_mul, nc_12, nc_8, nc_6, nc_40, nc_250, nc_3, nc_s, len4_0, len4_1, len4_2, len4_3, len4_4, and_self, and_true, true_and, lenA_i, va_rf_s, va_rf_n, oN_none, oN_some, zI_lt, zI_eq, nat_tn, nc_s, Int.lt_irrefl, Int.reduceEq, Int.reduceNe, Int.reduceLT, Int.reduceLE, Int.reduceSub, Int.reduceAdd, Int.reduceMul, Int.reduceDiv, Int.reduceNeg, Int.reduceToNat, or_self, or_false, false_or, if_false, if_true, not_true_eq_false, not_false_eq_true, or_true, true_or, and_false, false_and, ldI_0, stI_0, ldQ_q, gfA_0, gfA_43, gfA_65, H_0, H_43, H_48, H_65, H_66, H_67, kq_l, isC_0, isC_43, isC_65, isC_sh, gfA_sh, hra, k_colAt_n, hw]
theorem k_worthOf_s {d r t j : Nat} (hI : In S) (hg : gth S X) (ht : tblR S X (r + 1)) (hr : r < (rws S).1) (hj : j < (cls S).1) (h2 : t < 2 ^ (cls S).1) (hp : pop12 t ≤ r) : callD (d + 3) 8 [.ref 43, .int (zI r), .int (zI j), .int (zI t)] (H S S2 K kp X T nC E z B Y Rf D) = some (some (.int (zI (8 * cm S ((rws S).2 r) ((cls S).2 j) + 1 + (dV S (rws S).2 (cls S).2 (cls S).1 (rws S).1 ((rws S).1 - (r + 1)) (va_up (fun x => tb (t : Int) x) j 1)).1))), (H S S2 K kp X T nC E z B Y Rf D)) := by
  have hR1 : RS (H S S2 K kp X T nC E z B Y Rf D) 1 S := RS_1
  have hc := rcp hr
  have hw := k_worthFrom (S := S) (S2 := S2) (K := K) (kp := kp) (X := X) (T := T) (nC := nC) (E := E) (z := z) (B := B) (Y := Y) (Rf := Rf) (D := D) (d := d + 1) (t := t ||| 2 ^ j) hg ht (by omega) (by omega) (set_ltp h2 hj) (Nat.le_trans (pop_set (by omega) (by omega)) (by omega))
  rw [show ((r + 1 : Nat) : Int) = (r : Int) + 1 from rfl] at hw
  unfold dvS at hw
  rw [tb_up] at hw
  have hra := k_rowAt_s (S := S) (S2 := S2) (K := K) (kp := kp) (X := X) (T := T) (nC := nC) (E := E) (z := z) (B := B) (Y := Y) (Rf := Rf) (D := D) (d := d + 1) hg hr
  have hca := k_colAt_s (S := S) (S2 := S2) (K := K) (kp := kp) (X := X) (T := T) (nC := nC) (E := E) (z := z) (B := B) (Y := Y) (Rf := Rf) (D := D) (d := d + 1) hg hj
  have hr12 := (row_in hr).1
  have hc12 := (col_in hj).1
  have hcm := m_common (d := d) hI hR1 hr12 hc12
  have hzs := zI_set (t := t) (show j < 12 by omega)
  rw [c_8]
  simp (disch := omega) only [e_8_0, e_8_1, e_8_2, e_8_5, e_8_7, e_8_8, e_8_9, e_8_12, e_8_14, e_8_16, e_8_16_n, e_8_16_r, e_8_19, e_8_21, e_8_21_n, e_8_21_r, e_8_24, e_8_25, e_8_26, e_8_27, e_8_28, e_8_29, e_8_32, e_8_33, e_8_35, e_8_37, e_8_39, e_8_42, e_8_43, e_8_44, e_8_45, e_8_47, e_8_49, e_8_50, e_8_51, e_8_52, e_8_53, e_8_54, e_8_55, e_8_56, e_8_57, e_8_58, e_8_61, e_8_62, gfA_i, pfA_i, List.getElem?_cons_zero, List.getElem?_cons_succ, oK_some, rK_some, pR_some, pR_none, kq_i, kq_r, kq_n, kq_u, kq_o, kq_l, isRf_r, isRf_n, isRf_o, okv_r, okv_n, okv_o, is2_r, is2_o, is2_n, rcv_r, isC_i, if_true, if_pos, zI_add, zI_sub, zI_mul, nc_12, nc_8, nc_6, nc_40, nc_250, nc_3, nc_s, len4_0, len4_1, len4_2, len4_3, len4_4, and_self, and_true, true_and, lenA_i, va_rf_s, va_rf_n, oN_none, oN_some, zI_lt, zI_eq, nat_tn, nc_s, Int.lt_irrefl, Int.reduceEq, Int.reduceNe, Int.reduceLT, Int.reduceLE, Int.reduceSub, Int.reduceAdd, Int.reduceMul, Int.reduceDiv, Int.reduceNeg, Int.reduceToNat, or_self, or_false, false_or, if_false, if_true, not_true_eq_false, not_false_eq_true, or_true, true_or, and_false, false_and, ldI_0, stI_0, ldQ_q, gfA_0, gfA_43, gfA_65, H_0, H_43, H_48, H_65, H_66, H_67, kq_l, isC_0, isC_43, isC_65, isC_sh, gfA_sh, hra, hca, hR1.2.2 _ hr12, pcl, hcm, hzs, hw]
theorem k_weigh {d r t : Nat} (hI : In S) (hg : gth S X) (ht : tblR S X (r + 1)) (hr : r < (rws S).1) (h2 : t < 2 ^ (cls S).1) (hp : pop12 t ≤ r) : callD (d + 4) 9 [.ref 43, .int (zI r), .int (zI t)] (H S S2 K kp X T nC E z B Y Rf D) = some (none, (H S S2 K kp ((X.1, X.2.1, X.2.2.1, X.2.2.2.1, upd X.2.2.2.2 (r * 2 ^ (cls S).1 + t) (zI (dvS S ((rws S).1 - r) t).1))) T nC E z B Y Rf D)) := by
  have hc := rcp hr
  have h6 := rws_le S
  have hn := k_worthOf_n (S := S) (S2 := S2) (K := K) (kp := kp) (X := X) (T := T) (nC := nC) (E := E) (z := z) (B := B) (Y := Y) (Rf := Rf) (D := D) (d := d + 1) hg ht hr h2 hp
  have hk1 : (rws S).1 - r = ((rws S).1 - (r + 1)) + 1 := by omega
  have hk2 : (rws S).1 - ((rws S).1 - (r + 1) + 1) = r := by omega
  have hdv : dvS S ((rws S).1 - r) t = fN (dF S ((rws S).2 r) (cls S).2 (fun u' => (dV S (rws S).2 (cls S).2 (cls S).1 (rws S).1 ((rws S).1 - (r + 1)) u').1) (fun x => tb (t : Int) x)) (cls S).1 0 ((dvS S ((rws S).1 - (r + 1)) t).1, -1) := by
    unfold dvS
    rw [hk1]
    show fN (dF S ((rws S).2 ((rws S).1 - ((rws S).1 - (r + 1) + 1))) _ _ _) _ _ _ = _
    rw [hk2]
  have g2 := hg.2.1
  rw [c_9]
  simp (disch := omega) only [e_9_0, e_9_1, e_9_2, e_9_3, e_9_4, e_9_7, e_9_8, e_9_9, gfA_i, pfA_i, List.getElem?_cons_zero, List.getElem?_cons_succ, oK_some, rK_some, pR_some, pR_none, kq_i, kq_r, kq_n, kq_u, kq_o, kq_l, isRf_r, isRf_n, isRf_o, okv_r, okv_n, okv_o, is2_r, is2_o, is2_n, rcv_r, isC_i, if_true, if_pos, zI_add, zI_sub, zI_mul, nc_12, nc_8, nc_6, nc_40, nc_250, nc_3, nc_s, len4_0, len4_1, len4_2, len4_3, len4_4, and_self, and_true, true_and, lenA_i, va_rf_s, va_rf_n, oN_none, oN_some, zI_lt, zI_eq, nat_tn, nc_s, Int.lt_irrefl, Int.reduceEq, Int.reduceNe, Int.reduceLT, Int.reduceLE, Int.reduceSub, Int.reduceAdd, Int.reduceMul, Int.reduceDiv, Int.reduceNeg, Int.reduceToNat, or_self, or_false, false_or, if_false, if_true, not_true_eq_false, not_false_eq_true, or_true, true_or, and_false, false_and, ldI_0, stI_0, ldQ_q, gfA_0, gfA_43, gfA_65, H_0, H_43, H_48, H_65, H_66, H_67, kq_l, isC_0, isC_43, isC_65, isC_sh, gfA_sh, isC_43, hn]
  have hlo := loopI (fun j (a : Int × Int) => den (callD (d + 3)) 9 11 [.ref 43, .int (zI r), .int (zI t), .int (zI a.1), .int (zI j)] [] (H S S2 K kp X T nC E z B Y Rf D)) (dF S ((rws S).2 r) (cls S).2 (fun u' => (dV S (rws S).2 (cls S).2 (cls S).1 (rws S).1 ((rws S).1 - (r + 1)) u').1) (fun x => tb (t : Int) x)) (fun _ a => cvl S ((rws S).2 r) (cls S).2 (fun u' => (dV S (rws S).2 (cls S).2 (cls S).1 (rws S).1 ((rws S).1 - (r + 1)) u').1) (fun x => tb (t : Int) x) (cls S).1 a) (cls S).1 (fun j a hj ha => by
    have ho := k_worthOf_s (S := S) (S2 := S2) (K := K) (kp := kp) (X := X) (T := T) (nC := nC) (E := E) (z := z) (B := B) (Y := Y) (Rf := Rf) (D := D) (d := d) hI hg ht hr hj h2 hp
    have hbt := zI_tb12 (t := t) (j := j) (by omega) (by omega)
    have hcb := cm_b S ((rws S).2 r) ((cls S).2 j)
    have hvb := dV_b (S := S) (row := (rws S).2) (col := (cls S).2) (cc := (cls S).1) (m := (rws S).1) (k := (rws S).1 - (r + 1)) (u := va_up (fun x => tb (t : Int) x) j 1)
    have hab : 0 ≤ a.1 ∧ a.1 ≤ 1000 := by
      rcases ha with ⟨h1, h3⟩ | ⟨j', h1, h3, h4, h5⟩
      · have := dV_b (S := S) (row := (rws S).2) (col := (cls S).2) (cc := (cls S).1) (m := (rws S).1) (k := (rws S).1 - (r + 1)) (u := fun x => tb (t : Int) x)
        dsimp only at h3
        omega
      · have := dV_b (S := S) (row := (rws S).2) (col := (cls S).2) (cc := (cls S).1) (m := (rws S).1) (k := (rws S).1 - (r + 1)) (u := va_up (fun x => tb (t : Int) x) j' 1)
        have := cm_b S ((rws S).2 r) ((cls S).2 j')
        dsimp only at h5
        omega
    try dsimp only
    refine ⟨?_, dF_or 1 j a (by omega) ha⟩
    conv => lhs; rw [e_9_11]
    by_cases hu : tb t j = 0
    · by_cases hlt : a.1 < 8 * cm S ((rws S).2 r) ((cls S).2 j) + 1 + (dV S (rws S).2 (cls S).2 (cls S).1 (rws S).1 ((rws S).1 - (r + 1)) (va_up (fun x => tb (t : Int) x) j 1)).1
      · rw [show dF S ((rws S).2 r) (cls S).2 (fun u' => (dV S (rws S).2 (cls S).2 (cls S).1 (rws S).1 ((rws S).1 - (r + 1)) u').1) (fun x => tb (t : Int) x) j a = (8 * cm S ((rws S).2 r) ((cls S).2 j) + 1 + (dV S (rws S).2 (cls S).2 (cls S).1 (rws S).1 ((rws S).1 - (r + 1)) (va_up (fun x => tb (t : Int) x) j 1)).1, (j : Int)) from if_pos ⟨hu, hlt⟩]
        simp (disch := omega) only [e_9_13, e_9_14, e_9_17, e_9_20, e_9_21, e_9_23, e_9_24, e_9_25, e_9_26, e_9_29, e_9_30, e_9_31, e_9_32, e_9_34, e_9_35, e_9_38, e_9_41, e_9_42, e_9_45, gfA_i, pfA_i, List.getElem?_cons_zero, List.getElem?_cons_succ, oK_some, rK_some, pR_some, pR_none, kq_i, kq_r, kq_n, kq_u, kq_o, kq_l, isRf_r, isRf_n, isRf_o, okv_r, okv_n, okv_o, is2_r, is2_o, is2_n, rcv_r, isC_i, if_true, if_pos, zI_add, zI_sub, zI_mul, nc_12, nc_8, nc_6, nc_40, nc_250, nc_3, nc_s, len4_0, len4_1, len4_2, len4_3, len4_4, and_self, and_true, true_and, lenA_i, va_rf_s, va_rf_n, oN_none, oN_some, zI_lt, zI_eq, nat_tn, nc_s, Int.lt_irrefl, Int.reduceEq, Int.reduceNe, Int.reduceLT, Int.reduceLE, Int.reduceSub, Int.reduceAdd, Int.reduceMul, Int.reduceDiv, Int.reduceNeg, Int.reduceToNat, or_self, or_false, false_or, if_false, if_true, not_true_eq_false, not_false_eq_true, or_true, true_or, and_false, false_and, ldI_0, stI_0, ldQ_q, gfA_0, gfA_43, gfA_65, H_0, H_43, H_48, H_65, H_66, H_67, kq_l, isC_0, isC_43, isC_65, isC_sh, gfA_sh, isC_43, g2, hbt, hu, ho, m_max, hlt]
      · rw [show dF S ((rws S).2 r) (cls S).2 (fun u' => (dV S (rws S).2 (cls S).2 (cls S).1 (rws S).1 ((rws S).1 - (r + 1)) u').1) (fun x => tb (t : Int) x) j a = a from if_neg (fun q => hlt q.2)]
        simp (disch := omega) only [e_9_13, e_9_14, e_9_17, e_9_20, e_9_21, e_9_23, e_9_24, e_9_25, e_9_26, e_9_29, e_9_30, e_9_31, e_9_32, e_9_34, e_9_35, e_9_38, e_9_41, e_9_42, e_9_45, gfA_i, pfA_i, List.getElem?_cons_zero, List.getElem?_cons_succ, oK_some, rK_some, pR_some, pR_none, kq_i, kq_r, kq_n, kq_u, kq_o, kq_l, isRf_r, isRf_n, isRf_o, okv_r, okv_n, okv_o, is2_r, is2_o, is2_n, rcv_r, isC_i, if_true, if_pos, zI_add, zI_sub, zI_mul, nc_12, nc_8, nc_6, nc_40, nc_250, nc_3, nc_s, len4_0, len4_1, len4_2, len4_3, len4_4, and_self, and_true, true_and, lenA_i, va_rf_s, va_rf_n, oN_none, oN_some, zI_lt, zI_eq, nat_tn, nc_s, Int.lt_irrefl, Int.reduceEq, Int.reduceNe, Int.reduceLT, Int.reduceLE, Int.reduceSub, Int.reduceAdd, Int.reduceMul, Int.reduceDiv, Int.reduceNeg, Int.reduceToNat, or_self, or_false, false_or, if_false, if_true, not_true_eq_false, not_false_eq_true, or_true, true_or, and_false, false_and, ldI_0, stI_0, ldQ_q, gfA_0, gfA_43, gfA_65, H_0, H_43, H_48, H_65, H_66, H_67, kq_l, isC_0, isC_43, isC_65, isC_sh, gfA_sh, isC_43, g2, hbt, hu, ho, m_max, hlt]
    · have hu1 : tb t j = 1 := by rcases tb_01 (t : Int) j with h | h; exact absurd h hu; exact h
      rw [show dF S ((rws S).2 r) (cls S).2 (fun u' => (dV S (rws S).2 (cls S).2 (cls S).1 (rws S).1 ((rws S).1 - (r + 1)) u').1) (fun x => tb (t : Int) x) j a = a from if_neg (fun q => hu q.1)]
      simp (disch := omega) only [e_9_13, e_9_14, e_9_17, e_9_20, e_9_21, e_9_23, e_9_24, e_9_25, e_9_26, e_9_29, e_9_30, e_9_31, e_9_32, e_9_34, e_9_35, e_9_38, e_9_41, e_9_42, e_9_45, gfA_i, pfA_i, List.getElem?_cons_zero, List.getElem?_cons_succ, oK_some, rK_some, pR_some, pR_none, kq_i, kq_r, kq_n, kq_u, kq_o, kq_l, isRf_r, isRf_n, isRf_o, okv_r, okv_n, okv_o, is2_r, is2_o, is2_n, rcv_r, isC_i, if_true, if_pos, zI_add, zI_sub, zI_mul, nc_12, nc_8, nc_6, nc_40, nc_250, nc_3, nc_s, len4_0, len4_1, len4_2, len4_3, len4_4, and_self, and_true, true_and, lenA_i, va_rf_s, va_rf_n, oN_none, oN_some, zI_lt, zI_eq, nat_tn, nc_s, Int.lt_irrefl, Int.reduceEq, Int.reduceNe, Int.reduceLT, Int.reduceLE, Int.reduceSub, Int.reduceAdd, Int.reduceMul, Int.reduceDiv, Int.reduceNeg, Int.reduceToNat, or_self, or_false, false_or, if_false, if_true, not_true_eq_false, not_false_eq_true, or_true, true_or, and_false, false_and, ldI_0, stI_0, ldQ_q, gfA_0, gfA_43, gfA_65, H_0, H_43, H_48, H_65, H_66, H_67, kq_l, isC_0, isC_43, isC_65, isC_sh, gfA_sh, isC_43, g2, hbt, hu1]) (cls S).1 0 ((dvS S ((rws S).1 - (r + 1)) t).1, -1) (by omega) (Or.inl ⟨rfl, rfl⟩)
  refine hlo.1.trans ?_
  try dsimp only
  rw [← hdv, e_9_11]
  have hs := sh2_dec (cls S).1 (by omega) r (by omega)
  have e0 : ¬ ((r * 2 ^ (cls S).1 : Nat) : Int) + (t : Int) < 0 := by omega
  have e1 : (((r * 2 ^ (cls S).1 : Nat) : Int) + (t : Int)).toNat = r * 2 ^ (cls S).1 + t := by omega
  have e2 : ((r * 2 ^ (cls S).1 : Nat) : Int) + (t : Int) < 2048 := by omega
  generalize r * 2 ^ (cls S).1 = rP at *
  simp (disch := omega) only [e_9_13, e_9_14, e_9_17, e_9_48, e_9_49, e_9_50, e_9_53, e_9_54, e_9_55, e_9_56, e_9_58, e_9_60, e_9_63, e_9_65, e_9_68, e_9_71, e_9_72, e_9_75, e_9_77, e_9_78, e_9_79, gfA_i, pfA_i, List.getElem?_cons_zero, List.getElem?_cons_succ, oK_some, rK_some, pR_some, pR_none, kq_i, kq_r, kq_n, kq_u, kq_o, kq_l, isRf_r, isRf_n, isRf_o, okv_r, okv_n, okv_o, is2_r, is2_o, is2_n, rcv_r, isC_i, if_true, if_pos, zI_add, zI_sub, zI_mul, nc_12, nc_8, nc_6, nc_40, nc_250, nc_3, nc_s, len4_0, len4_1, len4_2, len4_3, len4_4, and_self, and_true, true_and, lenA_i, va_rf_s, va_rf_n, oN_none, oN_some, zI_lt, zI_eq, nat_tn, nc_s, Int.lt_irrefl, Int.reduceEq, Int.reduceNe, Int.reduceLT, Int.reduceLE, Int.reduceSub, Int.reduceAdd, Int.reduceMul, Int.reduceDiv, Int.reduceNeg, Int.reduceToNat, or_self, or_false, false_or, if_false, if_true, not_true_eq_false, not_false_eq_true, or_true, true_or, and_false, false_and, ldI_0, stI_0, ldQ_q, gfA_0, gfA_43, gfA_65, H_0, H_43, H_48, H_65, H_66, H_67, kq_l, isC_0, isC_43, isC_65, isC_sh, gfA_sh, isC_43, g2, hs, e0, e1, e2, H_47, mU_47]
end K4
