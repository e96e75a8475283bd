/-! the list: tokens, of both -/
/-- the first place from p on, below p + k, that isn't so -/
def rn (c : Nat → Int) (k p : Nat) : Nat := match k with
  | 0 => p
  | k + 1 => if c p = 1 then rn c k (p + 1) else p
theorem rn_s {c : Nat → Int} {k p : Nat} (h : c p = 1) : rn c (k + 1) p = rn c k (p + 1) := if_pos h
theorem rn_n {c : Nat → Int} {k p : Nat} (h : ¬ c p = 1) : rn c (k + 1) p = p := if_neg h
theorem rn_b (c : Nat → Int) : ∀ k p, p ≤ rn c k p ∧ rn c k p ≤ p + k := by
  intro k
  induction k with
  | zero => intro p; exact ⟨Nat.le_refl _, Nat.le_refl _⟩
  | succ k ih =>
    intro p
    by_cases h : c p = 1
    · rw [rn_s h]; have := ih (p + 1); omega
    · rw [rn_n h]; omega
theorem rn_in (c : Nat → Int) : ∀ k p j, p ≤ j → j < rn c k p → c j = 1 := by
  intro k
  induction k with
  | zero => intro p j h1 h2; have h2' : j < p := h2; omega
  | succ k ih =>
    intro p j h1 h2
    by_cases h : c p = 1
    · rw [rn_s h] at h2
      by_cases e : j = p
      · rw [e]; exact h
      · exact ih (p + 1) j (by omega) h2
    · rw [rn_n h] at h2; omega
/-- the byte at a place, -1 behind all -/
def bt (B : Nat → Int32) (z i : Nat) : Int := if i < z then (B i).toInt else -1
def sof (x : Int) : Int := if x = -1 then 0 else if 97 ≤ x ∧ x ≤ 122 then 1 else if 48 ≤ x ∧ x ≤ 57 then 2 else if x = 59 then 3 else 4
theorem bt_b {B : Nat → Int32} {z i : Nat} (h : BB B z) (hi : i < z) : 0 ≤ bt B z i ∧ bt B z i < 256 ∧ B i = zI (bt B z i) := by
  obtain ⟨b, h1, h2⟩ := h i (by omega)
  have e : bt B z i = (b : Int) := by
    unfold bt
    rw [if_pos hi, h2, zI_toInt (by omega) (by omega)]
  rw [e]
  exact ⟨by omega, by omega, h2⟩
theorem bt_n {B : Nat → Int32} {z i : Nat} (h : ¬ i < z) : bt B z i = -1 := if_neg h
theorem bt_r {B : Nat → Int32} {z : Nat} (h : BB B z) (i : Nat) : -1 ≤ bt B z i ∧ bt B z i < 256 := by
  by_cases hi : i < z
  · have := bt_b h hi; omega
  · rw [bt_n hi]; omega
def cBl (B : Nat → Int32) (z i : Nat) : Int := if bt B z i = 32 then 1 else 0
def cTk (B : Nat → Int32) (z : Nat) (t : Int) (i : Nat) : Int := if sof (bt B z i) = t then 1 else 0
def tst (B : Nat → Int32) (z p : Nat) : Nat := rn (cBl B z) (z - p) p
def tkn (B : Nat → Int32) (z s : Nat) : Int := sof (bt B z s)
def ten (B : Nat → Int32) (z s : Nat) : Nat := if tkn B z s = 1 ∨ tkn B z s = 2 then rn (cTk B z (tkn B z s)) (z - s) s else if tkn B z s = 3 then s + 1 else s
theorem sof_b (x : Int) : 0 ≤ sof x ∧ sof x ≤ 4 := by unfold sof; (repeat' split) <;> omega
theorem tkn_b (B : Nat → Int32) (z s : Nat) : 0 ≤ tkn B z s ∧ tkn B z s ≤ 4 := sof_b _
theorem tkn_lt {B : Nat → Int32} {z s : Nat} (h : ¬ tkn B z s = 0) : s < z := by
  by_cases e : s < z
  · exact e
  · exfalso; apply h; unfold tkn; rw [bt_n e]; rfl
theorem tst_b {B : Nat → Int32} {z p : Nat} (hp : p ≤ z) : p ≤ tst B z p ∧ tst B z p ≤ z := by
  have := rn_b (cBl B z) (z - p) p
  unfold tst
  omega
theorem ten_b {B : Nat → Int32} {z s : Nat} (hs : s ≤ z) : s ≤ ten B z s ∧ ten B z s ≤ z ∧ (tkn B z s = 1 ∨ tkn B z s = 2 ∨ tkn B z s = 3 → s < ten B z s) := by
  have h1 := rn_b (cTk B z (tkn B z s)) (z - s) s
  unfold ten
  by_cases h : tkn B z s = 1 ∨ tkn B z s = 2
  · have hlt := tkn_lt (B := B) (z := z) (s := s) (by omega)
    rw [if_pos h]
    refine ⟨h1.1, by omega, fun _ => ?_⟩
    rw [show z - s = (z - s - 1) + 1 by omega, rn_s (if_pos rfl)]
    have := rn_b (cTk B z (tkn B z s)) (z - s - 1) (s + 1)
    omega
  · rw [if_neg h]
    by_cases h3 : tkn B z s = 3
    · have hlt := tkn_lt (B := B) (z := z) (s := s) (by omega)
      rw [if_pos h3]; omega
    · rw [if_neg h3]; omega
/-- the value of a number's figures -/
def dg (B : Nat → Int32) (z i : Nat) : Int := bt B z i - 48
def nvl (B : Nat → Int32) (z s : Nat) : Int := if ten B z s = s + 1 then dg B z s else if ten B z s = s + 2 then 10 * dg B z s + dg B z (s + 1) else 1000
theorem dg_b {B : Nat → Int32} {z s j : Nat} (h : tkn B z s = 2) (h1 : s ≤ j) (h2 : j < ten B z s) : 0 ≤ dg B z j ∧ dg B z j ≤ 9 := by
  unfold ten at h2
  rw [if_pos (Or.inr h), h] at h2
  have := rn_in _ _ _ _ h1 h2
  unfold cTk at this
  split at this
  · rename_i q
    unfold sof at q
    unfold dg
    (repeat' split at q) <;> omega
  · omega
theorem nvl_b {B : Nat → Int32} {z s : Nat} (h : tkn B z s = 2) (hs : s ≤ z) : 0 ≤ nvl B z s ∧ nvl B z s ≤ 1000 ∧ (nvl B z s < 1000 → nvl B z s ≤ 99 ∧ ten B z s ≤ s + 2) := by
  have he := (ten_b (B := B) (z := z) hs).2.2 (by omega)
  unfold nvl
  by_cases e1 : ten B z s = s + 1
  · rw [if_pos e1]; have := dg_b h (Nat.le_refl _) he; omega
  · rw [if_neg e1]
    by_cases e2 : ten B z s = s + 2
    · rw [if_pos e2]
      have := dg_b h (Nat.le_refl _) he
      have := dg_b (j := s + 1) h (by omega) (by omega)
      omega
    · rw [if_neg e2]; omega
section KL1
variable {S S2 K : Sc} {kp : Int} {X : Xm} {T : Sc} {nC : Nat → Int} {E : Nat → Nat → Int64} {z : Int} {zn : Nat} {B : Nat → Int32} {Y : Yt} {f : Nat → Int} {t : Option Nat} {Rf : Nat → Int32} {D : AM}
def yV (f : Nat → Int) (a b c e : Int) : Nat → Int := fun x => if x = 0 then a else if x = 1 then b else if x = 2 then c else if x = 3 then e else f x
theorem yV_self (f : Nat → Int) : yV f (f 0) (f 1) (f 2) (f 3) = f := by
  funext x; unfold yV
  by_cases h0 : x = 0
  · simp [h0]
  · by_cases h1 : x = 1
    · simp [h1]
    · by_cases h2 : x = 2
      · simp [h2]
      · by_cases h3 : x = 3
        · simp [h3]
        · simp only [h0, h1, h2, h3, if_false]
theorem mU65_y {f : Nat → Int} {a b c e a' b' c' e' : Int} {t t' : Option Nat} : mU (H S S2 K kp X T nC E z B ((yV f a b c e, t)) Rf D) 65 (.inl (4, [.ref 66, .int (zI z), .int (zI a'), va_rf t', .int (zI b'), .int (zI c'), .int (zI e')])) = (H S S2 K kp X T nC E z B ((yV f a' b' c' e', t')) Rf D) := mU_65 (Y' := (yV f a' b' c' e', t'))
theorem c65_y {f : Nat → Int} {a b c e : Int} {t : Option Nat} : c65 z (yV f a b c e, t) = .inl (4, [.ref 66, .int (zI z), .int (zI a), va_rf t, .int (zI b), .int (zI c), .int (zI e)]) := rfl
theorem c65_u : c65 z (f, t) = .inl (4, [.ref 66, .int (zI z), .int (zI (f 0)), va_rf t, .int (zI (f 1)), .int (zI (f 2)), .int (zI (f 3))]) := rfl
theorem k_byteAt {d i : Nat} (hz : z = (zn : Int)) (hz2 : zn ≤ 250) (hb : BB B z) (hi : i ≤ 300) : callD (d + 1) 61 [.ref 65, .int (zI i)] (H S S2 K kp X T nC E z B ((f, t)) Rf D) = some (some (.int (zI (bt B zn i))), (H S S2 K kp X T nC E z B ((f, t)) Rf D)) := by
  subst hz
  have e0 : ¬ (i : Int) < 0 := by omega
  rw [c_61]
  by_cases h : i < zn
  · have hbb := bt_b hb h
    have h2 : (i : Int) < (zn : Int) := by omega
    have h3 : (i : Int) < 250 := by omega
    simp (disch := omega) only [e_61_0, e_61_1, e_61_4, e_61_5, e_61_6, e_61_9, e_61_12, e_61_13, e_61_16, e_61_19, e_61_20, e_61_23, e_61_24, e_61_25, e_61_28, e_61_29, gfA_i, pfA_i, List.getElem?_cons_zero, List.getElem?_cons_succ, oK_some, rK_some, pR_some, pR_none, kq_i, kq_r, kq_n, kq_u, kq_o, kq_l, isRf_r, isRf_n, isRf_o, okv_r, okv_n, okv_o, is2_r, is2_o, is2_n, rcv_r, isC_i, if_true, if_pos, zI_add, zI_sub, zI_mul, nc_12, nc_8, nc_6, nc_40, nc_250, nc_3, nc_s, len4_0, len4_1, len4_2, len4_3, len4_4, and_self, and_true, true_and, lenA_i, va_rf_s, va_rf_n, oN_none, oN_some, zI_lt, zI_eq, nat_tn, nc_s, Int.lt_irrefl, Int.reduceEq, Int.reduceNe, Int.reduceLT, Int.reduceLE, Int.reduceSub, Int.reduceAdd, Int.reduceMul, Int.reduceDiv, Int.reduceNeg, Int.reduceToNat, or_self, or_false, false_or, if_false, if_true, not_true_eq_false, not_false_eq_true, or_true, true_or, and_false, false_and, ldI_0, stI_0, ldQ_q, gfA_0, gfA_43, gfA_65, H_0, H_43, H_48, H_65, H_66, H_67, kq_l, isC_0, isC_43, isC_65, isC_sh, gfA_sh, c65_u, e0, h2, h3, hbb.2.2]
  · have h2 : ¬ (i : Int) < (zn : Int) := by omega
    rw [bt_n h]
    simp (disch := omega) only [e_61_0, e_61_1, e_61_4, e_61_5, e_61_6, e_61_9, e_61_12, e_61_13, e_61_16, e_61_19, e_61_20, e_61_23, e_61_24, e_61_25, e_61_28, e_61_29, gfA_i, pfA_i, List.getElem?_cons_zero, List.getElem?_cons_succ, oK_some, rK_some, pR_some, pR_none, kq_i, kq_r, kq_n, kq_u, kq_o, kq_l, isRf_r, isRf_n, isRf_o, okv_r, okv_n, okv_o, is2_r, is2_o, is2_n, rcv_r, isC_i, if_true, if_pos, zI_add, zI_sub, zI_mul, nc_12, nc_8, nc_6, nc_40, nc_250, nc_3, nc_s, len4_0, len4_1, len4_2, len4_3, len4_4, and_self, and_true, true_and, lenA_i, va_rf_s, va_rf_n, oN_none, oN_some, zI_lt, zI_eq, nat_tn, nc_s, Int.lt_irrefl, Int.reduceEq, Int.reduceNe, Int.reduceLT, Int.reduceLE, Int.reduceSub, Int.reduceAdd, Int.reduceMul, Int.reduceDiv, Int.reduceNeg, Int.reduceToNat, or_self, or_false, false_or, if_false, if_true, not_true_eq_false, not_false_eq_true, or_true, true_or, and_false, false_and, ldI_0, stI_0, ldQ_q, gfA_0, gfA_43, gfA_65, H_0, H_43, H_48, H_65, H_66, H_67, kq_l, isC_0, isC_43, isC_65, isC_sh, gfA_sh, c65_u, e0, h2]
theorem k_sortOf {d : Nat} {M : AM} {x : Int} (hx : -1 ≤ x ∧ x < 256) : callD (d + 1) 73 [.int (zI x)] M = some (some (.int (zI (sof x))), M) := by
  rw [c_73]
  unfold sof
  by_cases e1 : x = -1
  · simp (disch := omega) only [e_73_0, e_73_1, e_73_2, e_73_5, e_73_6, e_73_7, e_73_8, e_73_10, e_73_13, e_73_14, e_73_16, e_73_19, e_73_20, e_73_21, e_73_22, e_73_24, e_73_27, e_73_28, e_73_30, e_73_33, e_73_34, e_73_35, e_73_36, e_73_38, e_73_41, e_73_42, e_73_45, e_73_46, gfA_i, pfA_i, List.getElem?_cons_zero, List.getElem?_cons_succ, oK_some, rK_some, pR_some, pR_none, kq_i, kq_r, kq_n, kq_u, kq_o, kq_l, isRf_r, isRf_n, isRf_o, okv_r, okv_n, okv_o, is2_r, is2_o, is2_n, rcv_r, isC_i, if_true, if_pos, zI_add, zI_sub, zI_mul, nc_12, nc_8, nc_6, nc_40, nc_250, nc_3, nc_s, len4_0, len4_1, len4_2, len4_3, len4_4, and_self, and_true, true_and, lenA_i, va_rf_s, va_rf_n, oN_none, oN_some, zI_lt, zI_eq, Int.lt_irrefl, Int.reduceEq, Int.reduceNe, Int.reduceLT, Int.reduceLE, Int.reduceSub, Int.reduceAdd, Int.reduceMul, Int.reduceDiv, Int.reduceNeg, Int.reduceToNat, or_self, or_false, false_or, if_false, if_true, not_true_eq_false, not_false_eq_true, or_true, true_or, and_false, false_and, e1]
  · by_cases e2 : 97 ≤ x ∧ x ≤ 122
    · have g1 : ¬ x < 97 := by omega
      have g2 : ¬ 122 < x := by omega
      rw [if_neg e1, if_pos e2]
      simp (disch := omega) only [e_73_0, e_73_1, e_73_2, e_73_5, e_73_6, e_73_7, e_73_8, e_73_10, e_73_13, e_73_14, e_73_16, e_73_19, e_73_20, e_73_21, e_73_22, e_73_24, e_73_27, e_73_28, e_73_30, e_73_33, e_73_34, e_73_35, e_73_36, e_73_38, e_73_41, e_73_42, e_73_45, e_73_46, gfA_i, pfA_i, List.getElem?_cons_zero, List.getElem?_cons_succ, oK_some, rK_some, pR_some, pR_none, kq_i, kq_r, kq_n, kq_u, kq_o, kq_l, isRf_r, isRf_n, isRf_o, okv_r, okv_n, okv_o, is2_r, is2_o, is2_n, rcv_r, isC_i, if_true, if_pos, zI_add, zI_sub, zI_mul, nc_12, nc_8, nc_6, nc_40, nc_250, nc_3, nc_s, len4_0, len4_1, len4_2, len4_3, len4_4, and_self, and_true, true_and, lenA_i, va_rf_s, va_rf_n, oN_none, oN_some, zI_lt, zI_eq, Int.lt_irrefl, Int.reduceEq, Int.reduceNe, Int.reduceLT, Int.reduceLE, Int.reduceSub, Int.reduceAdd, Int.reduceMul, Int.reduceDiv, Int.reduceNeg, Int.reduceToNat, or_self, or_false, false_or, if_false, if_true, not_true_eq_false, not_false_eq_true, or_true, true_or, and_false, false_and, e1, g1, g2]
    · rw [if_neg e1, if_neg e2]
      by_cases e3 : 48 ≤ x ∧ x ≤ 57
      · have g1 : x < 97 := by omega
        have g2 : ¬ x < 48 := by omega
        have g3 : ¬ 57 < x := by omega
        rw [if_pos e3]
        simp (disch := omega) only [e_73_0, e_73_1, e_73_2, e_73_5, e_73_6, e_73_7, e_73_8, e_73_10, e_73_13, e_73_14, e_73_16, e_73_19, e_73_20, e_73_21, e_73_22, e_73_24, e_73_27, e_73_28, e_73_30, e_73_33, e_73_34, e_73_35, e_73_36, e_73_38, e_73_41, e_73_42, e_73_45, e_73_46, gfA_i, pfA_i, List.getElem?_cons_zero, List.getElem?_cons_succ, oK_some, rK_some, pR_some, pR_none, kq_i, kq_r, kq_n, kq_u, kq_o, kq_l, isRf_r, isRf_n, isRf_o, okv_r, okv_n, okv_o, is2_r, is2_o, is2_n, rcv_r, isC_i, if_true, if_pos, zI_add, zI_sub, zI_mul, nc_12, nc_8, nc_6, nc_40, nc_250, nc_3, nc_s, len4_0, len4_1, len4_2, len4_3, len4_4, and_self, and_true, true_and, lenA_i, va_rf_s, va_rf_n, oN_none, oN_some, zI_lt, zI_eq, Int.lt_irrefl, Int.reduceEq, Int.reduceNe, Int.reduceLT, Int.reduceLE, Int.reduceSub, Int.reduceAdd, Int.reduceMul, Int.reduceDiv, Int.reduceNeg, Int.reduceToNat, or_self, or_false, false_or, if_false, if_true, not_true_eq_false, not_false_eq_true, or_true, true_or, and_false, false_and, e1, g1, g2, g3]
      · rw [if_neg e3]
        have key : ∀ v : Int, (v = 3 ∧ x = 59) ∨ (v = 4 ∧ ¬ x = 59) → den (callD d) 73 0 [.int (zI x)] [] M = some (some (.int (zI v)), M) := fun v hv => by
          by_cases g1 : x < 97
          · by_cases g2 : x < 48
            · rcases hv with ⟨rfl, h⟩ | ⟨rfl, h⟩
              · omega
              · simp (disch := omega) only [e_73_0, e_73_1, e_73_2, e_73_5, e_73_6, e_73_7, e_73_8, e_73_10, e_73_13, e_73_14, e_73_16, e_73_19, e_73_20, e_73_21, e_73_22, e_73_24, e_73_27, e_73_28, e_73_30, e_73_33, e_73_34, e_73_35, e_73_36, e_73_38, e_73_41, e_73_42, e_73_45, e_73_46, gfA_i, pfA_i, List.getElem?_cons_zero, List.getElem?_cons_succ, oK_some, rK_some, pR_some, pR_none, kq_i, kq_r, kq_n, kq_u, kq_o, kq_l, isRf_r, isRf_n, isRf_o, okv_r, okv_n, okv_o, is2_r, is2_o, is2_n, rcv_r, isC_i, if_true, if_pos, zI_add, zI_sub, zI_mul, nc_12, nc_8, nc_6, nc_40, nc_250, nc_3, nc_s, len4_0, len4_1, len4_2, len4_3, len4_4, and_self, and_true, true_and, lenA_i, va_rf_s, va_rf_n, oN_none, oN_some, zI_lt, zI_eq, Int.lt_irrefl, Int.reduceEq, Int.reduceNe, Int.reduceLT, Int.reduceLE, Int.reduceSub, Int.reduceAdd, Int.reduceMul, Int.reduceDiv, Int.reduceNeg, Int.reduceToNat, or_self, or_false, false_or, if_false, if_true, not_true_eq_false, not_false_eq_true, or_true, true_or, and_false, false_and, e1, g1, g2, h]
            · have g3 : 57 < x := by omega
              rcases hv with ⟨rfl, h⟩ | ⟨rfl, h⟩
              · simp (disch := omega) only [e_73_0, e_73_1, e_73_2, e_73_5, e_73_6, e_73_7, e_73_8, e_73_10, e_73_13, e_73_14, e_73_16, e_73_19, e_73_20, e_73_21, e_73_22, e_73_24, e_73_27, e_73_28, e_73_30, e_73_33, e_73_34, e_73_35, e_73_36, e_73_38, e_73_41, e_73_42, e_73_45, e_73_46, gfA_i, pfA_i, List.getElem?_cons_zero, List.getElem?_cons_succ, oK_some, rK_some, pR_some, pR_none, kq_i, kq_r, kq_n, kq_u, kq_o, kq_l, isRf_r, isRf_n, isRf_o, okv_r, okv_n, okv_o, is2_r, is2_o, is2_n, rcv_r, isC_i, if_true, if_pos, zI_add, zI_sub, zI_mul, nc_12, nc_8, nc_6, nc_40, nc_250, nc_3, nc_s, len4_0, len4_1, len4_2, len4_3, len4_4, and_self, and_true, true_and, lenA_i, va_rf_s, va_rf_n, oN_none, oN_some, zI_lt, zI_eq, Int.lt_irrefl, Int.reduceEq, Int.reduceNe, Int.reduceLT, Int.reduceLE, Int.reduceSub, Int.reduceAdd, Int.reduceMul, Int.reduceDiv, Int.reduceNeg, Int.reduceToNat, or_self, or_false, false_or, if_false, if_true, not_true_eq_false, not_false_eq_true, or_true, true_or, and_false, false_and, h]
              · simp (disch := omega) only [e_73_0, e_73_1, e_73_2, e_73_5, e_73_6, e_73_7, e_73_8, e_73_10, e_73_13, e_73_14, e_73_16, e_73_19, e_73_20, e_73_21, e_73_22, e_73_24, e_73_27, e_73_28, e_73_30, e_73_33, e_73_34, e_73_35, e_73_36, e_73_38, e_73_41, e_73_42, e_73_45, e_73_46, gfA_i, pfA_i, List.getElem?_cons_zero, List.getElem?_cons_succ, oK_some, rK_some, pR_some, pR_none, kq_i, kq_r, kq_n, kq_u, kq_o, kq_l, isRf_r, isRf_n, isRf_o, okv_r, okv_n, okv_o, is2_r, is2_o, is2_n, rcv_r, isC_i, if_true, if_pos, zI_add, zI_sub, zI_mul, nc_12, nc_8, nc_6, nc_40, nc_250, nc_3, nc_s, len4_0, len4_1, len4_2, len4_3, len4_4, and_self, and_true, true_and, lenA_i, va_rf_s, va_rf_n, oN_none, oN_some, zI_lt, zI_eq, Int.lt_irrefl, Int.reduceEq, Int.reduceNe, Int.reduceLT, Int.reduceLE, Int.reduceSub, Int.reduceAdd, Int.reduceMul, Int.reduceDiv, Int.reduceNeg, Int.reduceToNat, or_self, or_false, false_or, if_false, if_true, not_true_eq_false, not_false_eq_true, or_true, true_or, and_false, false_and, e1, g1, g2, g3, h]
          · have g2 : 122 < x := by omega
            have g3 : ¬ x < 48 := by omega
            have g4 : 57 < x := by omega
            rcases hv with ⟨rfl, h⟩ | ⟨rfl, h⟩
            · omega
            · simp (disch := omega) only [e_73_0, e_73_1, e_73_2, e_73_5, e_73_6, e_73_7, e_73_8, e_73_10, e_73_13, e_73_14, e_73_16, e_73_19, e_73_20, e_73_21, e_73_22, e_73_24, e_73_27, e_73_28, e_73_30, e_73_33, e_73_34, e_73_35, e_73_36, e_73_38, e_73_41, e_73_42, e_73_45, e_73_46, gfA_i, pfA_i, List.getElem?_cons_zero, List.getElem?_cons_succ, oK_some, rK_some, pR_some, pR_none, kq_i, kq_r, kq_n, kq_u, kq_o, kq_l, isRf_r, isRf_n, isRf_o, okv_r, okv_n, okv_o, is2_r, is2_o, is2_n, rcv_r, isC_i, if_true, if_pos, zI_add, zI_sub, zI_mul, nc_12, nc_8, nc_6, nc_40, nc_250, nc_3, nc_s, len4_0, len4_1, len4_2, len4_3, len4_4, and_self, and_true, true_and, lenA_i, va_rf_s, va_rf_n, oN_none, oN_some, zI_lt, zI_eq, Int.lt_irrefl, Int.reduceEq, Int.reduceNe, Int.reduceLT, Int.reduceLE, Int.reduceSub, Int.reduceAdd, Int.reduceMul, Int.reduceDiv, Int.reduceNeg, Int.reduceToNat, or_self, or_false, false_or, if_false, if_true, not_true_eq_false, not_false_eq_true, or_true, true_or, and_false, false_and, e1, g1, g2, g3, g4, h]
        by_cases e4 : x = 59
        · rw [if_pos e4]; exact key 3 (Or.inl ⟨rfl, e4⟩)
        · rw [if_neg e4]; exact key 4 (Or.inr ⟨rfl, e4⟩)
theorem k_next {d p : Nat} {a b c : Int} (hz : z = (zn : Int)) (hz2 : zn ≤ 250) (hb : BB B z) (hp : p ≤ zn) : callD (d + 2) 72 [.ref 65] (H S S2 K kp X T nC E z B ((yV f a b c p, t)) Rf D) = some (none, (H S S2 K kp X T nC E z B ((yV f a (tkn B zn (tst B zn p)) (tst B zn p) (ten B zn (tst B zn p)), t)) Rf D)) := by
  have hby := fun (i : Nat) (hi : i ≤ 300) (f : Nat → Int) => k_byteAt (S := S) (S2 := S2) (K := K) (kp := kp) (X := X) (T := T) (nC := nC) (E := E) (z := z) (zn := zn) (B := B) (f := f) (t := t) (Rf := Rf) (D := D) (d := d) (i := i) hz hz2 hb hi
  have hso := fun (i : Nat) (M : AM) => k_sortOf (d := d) (M := M) (bt_r (hz ▸ hb) i)
  subst hz
  have hsb := tst_b (B := B) hp
  have heb := ten_b (B := B) hsb.2
  have htb := tkn_b B zn (tst B zn p)
  rw [c_72]
  have hst : den (callD (d + 1)) 72 0 [.ref 65] [] (H S S2 K kp X T nC E ((zn : Int)) B ((yV f a b c p, t)) Rf D) = den (callD (d + 1)) 72 37 [.ref 65] [] (H S S2 K kp X T nC E ((zn : Int)) B ((yV f a b c (tst B zn p), t)) Rf D) := by
    refine loopQ (fun i (_ : Unit) => den (callD (d + 1)) 72 0 [.ref 65] [] (H S S2 K kp X T nC E ((zn : Int)) B ((yV f a b c i, t)) Rf D)) (fun x => x = den (callD (d + 1)) 72 37 [.ref 65] [] (H S S2 K kp X T nC E ((zn : Int)) B ((yV f a b c (tst B zn p), t)) Rf D)) (fun i _ => tst B zn p = rn (cBl B zn) (zn - i) i) zn (fun i c' hi hI => ?_) (fun c' hI => ?_) (zn - p) p () (by omega) rfl
    · have hbi := hby i (by omega)
      have hbr := bt_r hb i
      rw [show zn - i = (zn - (i + 1)) + 1 by omega] at hI
      by_cases h : bt B zn i = 32
      · left
        rw [rn_s (if_pos h)] at hI
        refine ⟨(), ?_, hI⟩
        try dsimp only
        conv => lhs; rw [e_72_0]
        simp only [h] at hbi
        simp (disch := omega) only [e_72_1, e_72_2, e_72_5, e_72_8, e_72_10, e_72_13, e_72_14, e_72_17, e_72_18, e_72_21, e_72_24, e_72_25, e_72_25_i, e_72_26, e_72_29, e_72_30, e_72_31, e_72_34, gfA_i, pfA_i, List.getElem?_cons_zero, List.getElem?_cons_succ, oK_some, rK_some, pR_some, pR_none, kq_i, kq_r, kq_n, kq_u, kq_o, kq_l, isRf_r, isRf_n, isRf_o, okv_r, okv_n, okv_o, is2_r, is2_o, is2_n, rcv_r, isC_i, if_true, if_pos, zI_add, zI_sub, zI_mul, nc_12, nc_8, nc_6, nc_40, nc_250, nc_3, nc_s, len4_0, len4_1, len4_2, len4_3, len4_4, and_self, and_true, true_and, lenA_i, va_rf_s, va_rf_n, oN_none, oN_some, zI_lt, zI_eq, nat_tn, nc_s, Int.lt_irrefl, Int.reduceEq, Int.reduceNe, Int.reduceLT, Int.reduceLE, Int.reduceSub, Int.reduceAdd, Int.reduceMul, Int.reduceDiv, Int.reduceNeg, Int.reduceToNat, or_self, or_false, false_or, if_false, if_true, not_true_eq_false, not_false_eq_true, or_true, true_or, and_false, false_and, ldI_0, stI_0, ldQ_q, gfA_0, gfA_43, gfA_65, H_0, H_43, H_48, H_65, H_66, H_67, kq_l, isC_0, isC_43, isC_65, isC_sh, gfA_sh, c65_y, mU_at, mU_mU, List.set_cons_succ, List.set_cons_zero, okv_0, okv_1, okv_i, okv_r, okv_n, okv_o, List.length_cons, List.length_nil, Nat.reduceAdd, Nat.reduceLT, Nat.zero_le, Nat.reduceLeDiff, hbi, isC_i, mU65_y]
      · right
        rw [rn_n (by unfold cBl; rw [if_neg h]; omega)] at hI
        rw [hI]
        try dsimp only
        conv => lhs; rw [e_72_0]
        simp (disch := omega) only [e_72_1, e_72_2, e_72_5, e_72_8, e_72_10, e_72_13, e_72_14, e_72_17, e_72_18, e_72_21, e_72_24, e_72_25, e_72_25_i, e_72_26, e_72_29, e_72_30, e_72_31, e_72_34, gfA_i, pfA_i, List.getElem?_cons_zero, List.getElem?_cons_succ, oK_some, rK_some, pR_some, pR_none, kq_i, kq_r, kq_n, kq_u, kq_o, kq_l, isRf_r, isRf_n, isRf_o, okv_r, okv_n, okv_o, is2_r, is2_o, is2_n, rcv_r, isC_i, if_true, if_pos, zI_add, zI_sub, zI_mul, nc_12, nc_8, nc_6, nc_40, nc_250, nc_3, nc_s, len4_0, len4_1, len4_2, len4_3, len4_4, and_self, and_true, true_and, lenA_i, va_rf_s, va_rf_n, oN_none, oN_some, zI_lt, zI_eq, nat_tn, nc_s, Int.lt_irrefl, Int.reduceEq, Int.reduceNe, Int.reduceLT, Int.reduceLE, Int.reduceSub, Int.reduceAdd, Int.reduceMul, Int.reduceDiv, Int.reduceNeg, Int.reduceToNat, or_self, or_false, false_or, if_false, if_true, not_true_eq_false, not_false_eq_true, or_true, true_or, and_false, false_and, ldI_0, stI_0, ldQ_q, gfA_0, gfA_43, gfA_65, H_0, H_43, H_48, H_65, H_66, H_67, kq_l, isC_0, isC_43, isC_65, isC_sh, gfA_sh, c65_y, hbi, h, isC_i]
    · have hbi := hby zn (by omega)
      rw [Nat.sub_self] at hI
      have hI' : tst B zn p = zn := hI
      rw [hI']
      simp only [bt_n (Nat.lt_irrefl zn)] at hbi
      try dsimp only
      rw [e_72_0]
      simp (disch := omega) only [e_72_1, e_72_2, e_72_5, e_72_8, e_72_10, e_72_13, e_72_14, e_72_17, e_72_18, e_72_21, e_72_24, e_72_25, e_72_25_i, e_72_26, e_72_29, e_72_30, e_72_31, e_72_34, gfA_i, pfA_i, List.getElem?_cons_zero, List.getElem?_cons_succ, oK_some, rK_some, pR_some, pR_none, kq_i, kq_r, kq_n, kq_u, kq_o, kq_l, isRf_r, isRf_n, isRf_o, okv_r, okv_n, okv_o, is2_r, is2_o, is2_n, rcv_r, isC_i, if_true, if_pos, zI_add, zI_sub, zI_mul, nc_12, nc_8, nc_6, nc_40, nc_250, nc_3, nc_s, len4_0, len4_1, len4_2, len4_3, len4_4, and_self, and_true, true_and, lenA_i, va_rf_s, va_rf_n, oN_none, oN_some, zI_lt, zI_eq, nat_tn, nc_s, Int.lt_irrefl, Int.reduceEq, Int.reduceNe, Int.reduceLT, Int.reduceLE, Int.reduceSub, Int.reduceAdd, Int.reduceMul, Int.reduceDiv, Int.reduceNeg, Int.reduceToNat, or_self, or_false, false_or, if_false, if_true, not_true_eq_false, not_false_eq_true, or_true, true_or, and_false, false_and, ldI_0, stI_0, ldQ_q, gfA_0, gfA_43, gfA_65, H_0, H_43, H_48, H_65, H_66, H_67, kq_l, isC_0, isC_43, isC_65, isC_sh, gfA_sh, c65_y, hbi, isC_i]
  refine hst.trans ?_
  have hbs := hby (tst B zn p) (by omega)
  have htk : ∀ M, callD (d + 1) 73 [.int (zI (bt B zn (tst B zn p)))] M = some (some (.int (zI (tkn B zn (tst B zn p)))), M) := fun M => hso _ M
  by_cases h12 : tkn B zn (tst B zn p) = 1 ∨ tkn B zn (tst B zn p) = 2
  · have hen : ten B zn (tst B zn p) = rn (cTk B zn (tkn B zn (tst B zn p))) (zn - tst B zn p) (tst B zn p) := if_pos h12
    have hgo : den (callD (d + 1)) 72 37 [.ref 65] [] (H S S2 K kp X T nC E ((zn : Int)) B ((yV f a b c (tst B zn p), t)) Rf D) = den (callD (d + 1)) 72 76 [.ref 65] [] (H S S2 K kp X T nC E ((zn : Int)) B ((yV f a (tkn B zn (tst B zn p)) (tst B zn p) (tst B zn p), t)) Rf D) := by
      rcases h12 with h | h
      · simp (disch := omega) only [e_72_37, e_72_38, e_72_39, e_72_42, e_72_45, e_72_46, e_72_47, e_72_48, e_72_51, e_72_54, e_72_57, e_72_60, e_72_61, e_72_64, e_72_65, e_72_68, e_72_69, e_72_72, e_72_73, gfA_i, pfA_i, List.getElem?_cons_zero, List.getElem?_cons_succ, oK_some, rK_some, pR_some, pR_none, kq_i, kq_r, kq_n, kq_u, kq_o, kq_l, isRf_r, isRf_n, isRf_o, okv_r, okv_n, okv_o, is2_r, is2_o, is2_n, rcv_r, isC_i, if_true, if_pos, zI_add, zI_sub, zI_mul, nc_12, nc_8, nc_6, nc_40, nc_250, nc_3, nc_s, len4_0, len4_1, len4_2, len4_3, len4_4, and_self, and_true, true_and, lenA_i, va_rf_s, va_rf_n, oN_none, oN_some, zI_lt, zI_eq, nat_tn, nc_s, Int.lt_irrefl, Int.reduceEq, Int.reduceNe, Int.reduceLT, Int.reduceLE, Int.reduceSub, Int.reduceAdd, Int.reduceMul, Int.reduceDiv, Int.reduceNeg, Int.reduceToNat, or_self, or_false, false_or, if_false, if_true, not_true_eq_false, not_false_eq_true, or_true, true_or, and_false, false_and, ldI_0, stI_0, ldQ_q, gfA_0, gfA_43, gfA_65, H_0, H_43, H_48, H_65, H_66, H_67, kq_l, isC_0, isC_43, isC_65, isC_sh, gfA_sh, c65_y, mU_at, mU_mU, List.set_cons_succ, List.set_cons_zero, okv_0, okv_1, okv_i, okv_r, okv_n, okv_o, List.length_cons, List.length_nil, Nat.reduceAdd, Nat.reduceLT, Nat.zero_le, Nat.reduceLeDiff, hbs, htk, h, mU65_y, isC_i]
      · simp (disch := omega) only [e_72_37, e_72_38, e_72_39, e_72_42, e_72_45, e_72_46, e_72_47, e_72_48, e_72_51, e_72_54, e_72_57, e_72_60, e_72_61, e_72_64, e_72_65, e_72_68, e_72_69, e_72_72, e_72_73, gfA_i, pfA_i, List.getElem?_cons_zero, List.getElem?_cons_succ, oK_some, rK_some, pR_some, pR_none, kq_i, kq_r, kq_n, kq_u, kq_o, kq_l, isRf_r, isRf_n, isRf_o, okv_r, okv_n, okv_o, is2_r, is2_o, is2_n, rcv_r, isC_i, if_true, if_pos, zI_add, zI_sub, zI_mul, nc_12, nc_8, nc_6, nc_40, nc_250, nc_3, nc_s, len4_0, len4_1, len4_2, len4_3, len4_4, and_self, and_true, true_and, lenA_i, va_rf_s, va_rf_n, oN_none, oN_some, zI_lt, zI_eq, nat_tn, nc_s, Int.lt_irrefl, Int.reduceEq, Int.reduceNe, Int.reduceLT, Int.reduceLE, Int.reduceSub, Int.reduceAdd, Int.reduceMul, Int.reduceDiv, Int.reduceNeg, Int.reduceToNat, or_self, or_false, false_or, if_false, if_true, not_true_eq_false, not_false_eq_true, or_true, true_or, and_false, false_and, ldI_0, stI_0, ldQ_q, gfA_0, gfA_43, gfA_65, H_0, H_43, H_48, H_65, H_66, H_67, kq_l, isC_0, isC_43, isC_65, isC_sh, gfA_sh, c65_y, mU_at, mU_mU, List.set_cons_succ, List.set_cons_zero, okv_0, okv_1, okv_i, okv_r, okv_n, okv_o, List.length_cons, List.length_nil, Nat.reduceAdd, Nat.reduceLT, Nat.zero_le, Nat.reduceLeDiff, hbs, htk, h, mU65_y, isC_i]
    refine hgo.trans ?_
    generalize htt : tkn B zn (tst B zn p) = tt at *
    refine loopQ (fun i (_ : Unit) => den (callD (d + 1)) 72 76 [.ref 65] [] (H S S2 K kp X T nC E ((zn : Int)) B ((yV f a tt (tst B zn p) i, t)) Rf D)) (fun x => x = some (none, (H S S2 K kp X T nC E ((zn : Int)) B ((yV f a tt (tst B zn p) (ten B zn (tst B zn p)), t)) Rf D))) (fun i _ => ten B zn (tst B zn p) = rn (cTk B zn tt) (zn - i) i) zn (fun i c' hi hI => ?_) (fun c' hI => ?_) (zn - tst B zn p) (tst B zn p) () (by omega) hen
    · have hbi := hby i (by omega)
      have hsi := hso i
      have hsb2 := sof_b (bt B zn i)
      rw [show zn - i = (zn - (i + 1)) + 1 by omega] at hI
      by_cases h : sof (bt B zn i) = tt
      · left
        rw [rn_s (if_pos h)] at hI
        refine ⟨(), ?_, hI⟩
        try dsimp only
        conv => lhs; rw [e_72_76]
        simp only [h] at hsi
        simp (disch := omega) only [e_72_77, e_72_78, e_72_81, e_72_84, e_72_87, e_72_88, e_72_91, e_72_94, e_72_95, e_72_98, e_72_99, e_72_102, e_72_105, e_72_106, e_72_106_i, e_72_107, e_72_110, e_72_111, e_72_112, e_72_115, gfA_i, pfA_i, List.getElem?_cons_zero, List.getElem?_cons_succ, oK_some, rK_some, pR_some, pR_none, kq_i, kq_r, kq_n, kq_u, kq_o, kq_l, isRf_r, isRf_n, isRf_o, okv_r, okv_n, okv_o, is2_r, is2_o, is2_n, rcv_r, isC_i, if_true, if_pos, zI_add, zI_sub, zI_mul, nc_12, nc_8, nc_6, nc_40, nc_250, nc_3, nc_s, len4_0, len4_1, len4_2, len4_3, len4_4, and_self, and_true, true_and, lenA_i, va_rf_s, va_rf_n, oN_none, oN_some, zI_lt, zI_eq, nat_tn, nc_s, Int.lt_irrefl, Int.reduceEq, Int.reduceNe, Int.reduceLT, Int.reduceLE, Int.reduceSub, Int.reduceAdd, Int.reduceMul, Int.reduceDiv, Int.reduceNeg, Int.reduceToNat, or_self, or_false, false_or, if_false, if_true, not_true_eq_false, not_false_eq_true, or_true, true_or, and_false, false_and, ldI_0, stI_0, ldQ_q, gfA_0, gfA_43, gfA_65, H_0, H_43, H_48, H_65, H_66, H_67, kq_l, isC_0, isC_43, isC_65, isC_sh, gfA_sh, c65_y, mU_at, mU_mU, List.set_cons_succ, List.set_cons_zero, okv_0, okv_1, okv_i, okv_r, okv_n, okv_o, List.length_cons, List.length_nil, Nat.reduceAdd, Nat.reduceLT, Nat.zero_le, Nat.reduceLeDiff, hbi, hsi, mU65_y, isC_i]
      · right
        rw [rn_n (by unfold cTk; rw [if_neg h]; omega)] at hI
        rw [hI]
        try dsimp only
        conv => lhs; rw [e_72_76]
        simp (disch := omega) only [e_72_77, e_72_78, e_72_81, e_72_84, e_72_87, e_72_88, e_72_91, e_72_94, e_72_95, e_72_98, e_72_99, e_72_102, e_72_105, e_72_106, e_72_106_i, e_72_107, e_72_110, e_72_111, e_72_112, e_72_115, e_72_136, gfA_i, pfA_i, List.getElem?_cons_zero, List.getElem?_cons_succ, oK_some, rK_some, pR_some, pR_none, kq_i, kq_r, kq_n, kq_u, kq_o, kq_l, isRf_r, isRf_n, isRf_o, okv_r, okv_n, okv_o, is2_r, is2_o, is2_n, rcv_r, isC_i, if_true, if_pos, zI_add, zI_sub, zI_mul, nc_12, nc_8, nc_6, nc_40, nc_250, nc_3, nc_s, len4_0, len4_1, len4_2, len4_3, len4_4, and_self, and_true, true_and, lenA_i, va_rf_s, va_rf_n, oN_none, oN_some, zI_lt, zI_eq, nat_tn, nc_s, Int.lt_irrefl, Int.reduceEq, Int.reduceNe, Int.reduceLT, Int.reduceLE, Int.reduceSub, Int.reduceAdd, Int.reduceMul, Int.reduceDiv, Int.reduceNeg, Int.reduceToNat, or_self, or_false, false_or, if_false, if_true, not_true_eq_false, not_false_eq_true, or_true, true_or, and_false, false_and, ldI_0, stI_0, ldQ_q, gfA_0, gfA_43, gfA_65, H_0, H_43, H_48, H_65, H_66, H_67, kq_l, isC_0, isC_43, isC_65, isC_sh, gfA_sh, c65_y, hbi, hsi, h, isC_i]
    · have hbi := hby zn (by omega)
      have hsi := hso zn
      rw [Nat.sub_self] at hI
      have hI' : ten B zn (tst B zn p) = zn := hI
      rw [hI']
      rw [bt_n (Nat.lt_irrefl zn)] at hsi
      simp only [bt_n (Nat.lt_irrefl zn)] at hbi
      have e0 : sof (-1) = 0 := rfl
      rw [e0] at hsi
      have ett : ¬ (0 : Int) = tt := by omega
      try dsimp only
      rw [e_72_76]
      simp (disch := omega) only [e_72_77, e_72_78, e_72_81, e_72_84, e_72_87, e_72_88, e_72_91, e_72_94, e_72_95, e_72_98, e_72_99, e_72_102, e_72_105, e_72_106, e_72_106_i, e_72_107, e_72_110, e_72_111, e_72_112, e_72_115, e_72_136, gfA_i, pfA_i, List.getElem?_cons_zero, List.getElem?_cons_succ, oK_some, rK_some, pR_some, pR_none, kq_i, kq_r, kq_n, kq_u, kq_o, kq_l, isRf_r, isRf_n, isRf_o, okv_r, okv_n, okv_o, is2_r, is2_o, is2_n, rcv_r, isC_i, if_true, if_pos, zI_add, zI_sub, zI_mul, nc_12, nc_8, nc_6, nc_40, nc_250, nc_3, nc_s, len4_0, len4_1, len4_2, len4_3, len4_4, and_self, and_true, true_and, lenA_i, va_rf_s, va_rf_n, oN_none, oN_some, zI_lt, zI_eq, nat_tn, nc_s, Int.lt_irrefl, Int.reduceEq, Int.reduceNe, Int.reduceLT, Int.reduceLE, Int.reduceSub, Int.reduceAdd, Int.reduceMul, Int.reduceDiv, Int.reduceNeg, Int.reduceToNat, or_self, or_false, false_or, if_false, if_true, not_true_eq_false, not_false_eq_true, or_true, true_or, and_false, false_and, ldI_0, stI_0, ldQ_q, gfA_0, gfA_43, gfA_65, H_0, H_43, H_48, H_65, H_66, H_67, kq_l, isC_0, isC_43, isC_65, isC_sh, gfA_sh, c65_y, hbi, hsi, ett, isC_i]
  · by_cases h3 : tkn B zn (tst B zn p) = 3
    · have hen : ten B zn (tst B zn p) = tst B zn p + 1 := by unfold ten; rw [if_neg h12, if_pos h3]
      have e1 : ((tst B zn p + 1 : Nat) : Int) = ((tst B zn p : Nat) : Int) + 1 := rfl
      rw [hen, e1]
      simp (disch := omega) only [e_72_37, e_72_38, e_72_39, e_72_42, e_72_45, e_72_46, e_72_47, e_72_48, e_72_51, e_72_54, e_72_57, e_72_60, e_72_61, e_72_64, e_72_65, e_72_68, e_72_69, e_72_72, e_72_73, e_72_76, e_72_77, e_72_78, e_72_81, e_72_84, e_72_87, e_72_88, e_72_91, e_72_94, e_72_95, e_72_98, e_72_99, e_72_102, e_72_105, e_72_106, e_72_106_i, e_72_107, e_72_110, e_72_111, e_72_112, e_72_115, e_72_118, e_72_119, e_72_122, e_72_123, e_72_126, e_72_127, e_72_127_i, e_72_128, e_72_131, e_72_132, e_72_133, e_72_136, gfA_i, pfA_i, List.getElem?_cons_zero, List.getElem?_cons_succ, oK_some, rK_some, pR_some, pR_none, kq_i, kq_r, kq_n, kq_u, kq_o, kq_l, isRf_r, isRf_n, isRf_o, okv_r, okv_n, okv_o, is2_r, is2_o, is2_n, rcv_r, isC_i, if_true, if_pos, zI_add, zI_sub, zI_mul, nc_12, nc_8, nc_6, nc_40, nc_250, nc_3, len4_0, len4_1, len4_2, len4_3, len4_4, and_self, and_true, true_and, lenA_i, va_rf_s, va_rf_n, oN_none, oN_some, zI_lt, zI_eq, nat_tn, Int.lt_irrefl, Int.reduceEq, Int.reduceNe, Int.reduceLT, Int.reduceLE, Int.reduceSub, Int.reduceAdd, Int.reduceMul, Int.reduceDiv, Int.reduceNeg, Int.reduceToNat, or_self, or_false, false_or, if_false, if_true, not_true_eq_false, not_false_eq_true, or_true, true_or, and_false, false_and, ldI_0, stI_0, ldQ_q, gfA_0, gfA_43, gfA_65, H_0, H_43, H_48, H_65, H_66, H_67, kq_l, isC_0, isC_43, isC_65, isC_sh, gfA_sh, c65_y, mU_at, mU_mU, List.set_cons_succ, List.set_cons_zero, okv_0, okv_1, okv_i, okv_r, okv_n, okv_o, List.length_cons, List.length_nil, Nat.reduceAdd, Nat.reduceLT, Nat.zero_le, Nat.reduceLeDiff, hbs, htk, h3, mU65_y, isC_i]
    · have hen : ten B zn (tst B zn p) = tst B zn p := by unfold ten; rw [if_neg h12, if_neg h3]
      have g1 : ¬ tkn B zn (tst B zn p) = 1 := fun q => h12 (Or.inl q)
      have g2 : ¬ tkn B zn (tst B zn p) = 2 := fun q => h12 (Or.inr q)
      rw [hen]
      simp (disch := omega) only [e_72_37, e_72_38, e_72_39, e_72_42, e_72_45, e_72_46, e_72_47, e_72_48, e_72_51, e_72_54, e_72_57, e_72_60, e_72_61, e_72_64, e_72_65, e_72_68, e_72_69, e_72_72, e_72_73, e_72_76, e_72_77, e_72_78, e_72_81, e_72_84, e_72_87, e_72_88, e_72_91, e_72_94, e_72_95, e_72_98, e_72_99, e_72_102, e_72_105, e_72_106, e_72_106_i, e_72_107, e_72_110, e_72_111, e_72_112, e_72_115, e_72_118, e_72_119, e_72_122, e_72_123, e_72_126, e_72_127, e_72_127_i, e_72_128, e_72_131, e_72_132, e_72_133, e_72_136, gfA_i, pfA_i, List.getElem?_cons_zero, List.getElem?_cons_succ, oK_some, rK_some, pR_some, pR_none, kq_i, kq_r, kq_n, kq_u, kq_o, kq_l, isRf_r, isRf_n, isRf_o, okv_r, okv_n, okv_o, is2_r, is2_o, is2_n, rcv_r, isC_i, if_true, if_pos, zI_add, zI_sub, zI_mul, nc_12, nc_8, nc_6, nc_40, nc_250, nc_3, nc_s, len4_0, len4_1, len4_2, len4_3, len4_4, and_self, and_true, true_and, lenA_i, va_rf_s, va_rf_n, oN_none, oN_some, zI_lt, zI_eq, nat_tn, nc_s, Int.lt_irrefl, Int.reduceEq, Int.reduceNe, Int.reduceLT, Int.reduceLE, Int.reduceSub, Int.reduceAdd, Int.reduceMul, Int.reduceDiv, Int.reduceNeg, Int.reduceToNat, or_self, or_false, false_or, if_false, if_true, not_true_eq_false, not_false_eq_true, or_true, true_or, and_false, false_and, ldI_0, stI_0, ldQ_q, gfA_0, gfA_43, gfA_65, H_0, H_43, H_48, H_65, H_66, H_67, kq_l, isC_0, isC_43, isC_65, isC_sh, gfA_sh, c65_y, mU_at, mU_mU, List.set_cons_succ, List.set_cons_zero, okv_0, okv_1, okv_i, okv_r, okv_n, okv_o, List.length_cons, List.length_nil, Nat.reduceAdd, Nat.reduceLT, Nat.zero_le, Nat.reduceLeDiff, hbs, htk, g1, g2, h3, mU65_y, isC_i]
end KL1
