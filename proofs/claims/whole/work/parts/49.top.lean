/-! both objects in one heap -/
def LY (D : AM) (a : Nat) (S : Sc) : Prop := ∃ U kt F E mv, G D a S U kt F E mv = D
def nO (x : Option Nat) : Nat := match x with
  | none => 0
  | some _ => 1
def Z12 (S : Sc) : Prop := ∀ f i : Nat, f < 8 → 12 ≤ i → S f i = 0
def KTP (K : Sc) (kp : Int) (kt : Option Nat × Option Nat) (D : AM) : Prop :=
  (98 ≤ D.1 ∧ D.1 ≤ 98 + 30 * (nO kt.1 + nO kt.2) ∧ D.2.1 ≤ 100000 + 100000 * (nO kt.1 + nO kt.2)) ∧
  ((kt.1 = none ∧ kp = 0) ∨ ∃ a, kt.1 = some a ∧ kp = 1 ∧ In K ∧ 98 ≤ a ∧ a + 30 ≤ D.1 ∧ LY D a K) ∧
  (kt.2 = none ∨ ∃ b, kt.2 = some b ∧ 98 ≤ b ∧ b + 30 ≤ D.1 ∧ ∃ S', LY D b S' ∧ Z12 S') ∧
  (∀ a b, kt.1 = some a → kt.2 = some b → a + 30 ≤ b ∨ b + 30 ≤ a)
abbrev Stt : Type := Sc × Sc × Sc × Int × Xm × Sc × (Nat → Int) × (Nat → Nat → Int64) × Int × (Nat → Int32) × Yt × (Nat → Int32) × (Nat → Int) × (Option Nat × Option Nat) × (Nat → Nat → Int32) × (Nat → Int64) × AM
def TBd (S T : Sc) (nC : Nat → Int) (F : Nat → Nat → Int32) : Prop := ∀ s, s < 8 → (0 ≤ T 0 s ∧ T 0 s ≤ 2) ∧ (0 ≤ T 1 s ∧ T 1 s ≤ 4) ∧ (0 ≤ T 2 s ∧ T 2 s ≤ 40) ∧ (T 0 s = 2 → 0 ≤ nC s ∧ nC s < S 8 0 ∧ F 3 s = zI (nC s))
def FT (T : Sc) (F : Nat → Nat → Int32) : Prop := (∀ s, F 0 s = zI (T 0 s)) ∧ (∀ s, F 1 s = zI (T 1 s)) ∧ (∀ s, F 2 s = zI (T 2 s))
/-- the bytes of the tape are bytes -/
def BB (B : Nat → Int32) (z : Int) : Prop := ∀ i : Nat, (i : Int) < z → ∃ b : Nat, b < 256 ∧ B i = zI b
theorem BB_up {B : Nat → Int32} {z a : Int} (h : BB B z) (hz : 0 ≤ z) (h0 : 0 ≤ a) (h1 : a ≤ 255) : BB (upd B z.toNat (zI a)) (z + 1) := fun i hi => by
  unfold upd
  by_cases e : i = z.toNat
  · rw [if_pos e]; exact ⟨a.toNat, by omega, by rw [Int.toNat_of_nonneg h0]⟩
  · rw [if_neg e]; exact h i (by omega)
def Rl (st : Stt) : Prop := match st with
  | (S, S2, K, kp, X, T, nC, E, z, B, Y, Rf, U, kt, F, mv, D) => In S ∧ TBd S T nC F ∧ FT T F ∧ F 4 = B ∧ F 5 = Rf ∧ U 0 = z ∧ ((0 ≤ z ∧ z ≤ 250) ∧ BB B z) ∧ KTP K kp kt D
def HP (st : Stt) : AM := match st with
  | (S, S2, K, kp, X, T, nC, E, z, B, Y, Rf, U, kt, F, mv, D) => (G ((H S S2 K kp X T nC E z B Y Rf D)) (68) S U kt F E mv)
def HC (st : Stt) (D1 : AM) : AM := match st with
  | (S, S2, K, kp, X, T, nC, E, z, B, Y, Rf, U, kt, F, mv, D) => (H S S2 K kp X T nC E z B Y Rf (D1))
def SpX (c m : Nat) (as : List Value) : Prop := ∀ d st, Rl st → ∃ v M1 st', callD (d + 30) c (.ref 0 :: as) (HP st) = some (some v, M1) ∧ callD (d + 30) m (.ref 68 :: as) M1 = some (some v, HP st') ∧ Rl st'
section TOP
variable {M : AM} {o : Nat} {S S2 K S' : Sc} {kp kp' : Int} {X X' : Xm} {T T' : Sc} {nC nC' : Nat → Int} {E E' : Nat → Nat → Int64} {z z' : Int} {B B' : Nat → Int32} {Y Y' : Yt} {Rf Rf' : Nat → Int32} {D : AM} {U U' : Nat → Int} {kt kt' : Option Nat × Option Nat} {F F' : Nat → Nat → Int32} {mv mv' : Nat → Int64}
theorem put_G {S0 : Sc} (h : o + 14 ≤ 68) : putS (G (M) (68) S U kt F E mv) o S0 = (G (putS M o S0) (68) S U kt F E mv) := by
  refine Prod.ext rfl (Prod.ext rfl (funext fun q => ?_))
  by_cases e : q < o ∨ o + 14 ≤ q
  · rw [put_ne e]
    by_cases e2 : q < 68 ∨ 68 + 30 ≤ q
    · rw [G_ne e2, G_ne e2, put_ne e]
    · show (if q = 68 then _ else if q < 68 ∨ 68 + 30 ≤ q then M.2.2 q else _) = (if q = 68 then _ else if q < 68 ∨ 68 + 30 ≤ q then (putS M o S0).2.2 q else _)
      rw [if_neg e2, if_neg e2]
  · rw [G_ne (by omega)]
    show (if q = o then scl S0 o else if q = o + 1 then parr o else if o + 2 ≤ q ∧ q < o + 14 then pcl S0 o (q - (o + 2)) else _) = (if q = o then scl S0 o else if q = o + 1 then parr o else if o + 2 ≤ q ∧ q < o + 14 then pcl S0 o (q - (o + 2)) else _)
    rw [G_ne (by omega)]
theorem HG' {Sm : Sc} {Em : Nat → Nat → Int64} : (H S S2 K kp X T nC E z B Y Rf ((G (D) (68) (Sm) U kt F (Em) mv))) = (G ((H S S2 K kp X T nC E z B Y Rf D)) (68) (Sm) U kt F (Em) mv) := by
  unfold H
  rw [← put_G (by omega), ← put_G (by omega), ← put_G (by omega)]
  refine congrArg (fun z => putS (putS (putS z 29 K) 15 S2) 1 S) ?_
  refine Prod.ext rfl (Prod.ext rfl (funext fun q => ?_))
  by_cases e2 : q < 68 ∨ 68 + 30 ≤ q
  · rw [G_ne e2]
    show bsc kp X T nC E z B Y Rf (G (D) (68) (Sm) U kt F (Em) mv) q = bsc kp X T nC E z B Y Rf D q
    unfold bsc
    rw [G_ne e2]
  · have e3 : 68 ≤ q ∧ q < 98 := by omega
    show bsc kp X T nC E z B Y Rf (G (D) (68) (Sm) U kt F (Em) mv) q = (if q = 68 then mcl 68 Sm U kt else if q < 68 ∨ 68 + 30 ≤ q then (bs kp X T nC E z B Y Rf D).2.2 q else gar 68 Sm F Em mv (q - 68))
    unfold bsc
    rw [if_neg (by omega), if_neg (by omega), if_neg (by omega), if_neg (by omega), if_neg (by omega), if_neg (by omega), if_neg (by omega), if_neg (by omega), if_neg (by omega), if_neg (by omega), if_neg (by omega)]
    show (if q = 68 then mcl 68 Sm U kt else if q < 68 ∨ 68 + 30 ≤ q then D.2.2 q else gar 68 Sm F Em mv (q - 68)) = _
    rw [if_neg e2, if_neg e2]
theorem HG : (H S S2 K kp X T nC E z B Y Rf ((G (D) (68) S U kt F E mv))) = (G ((H S S2 K kp X T nC E z B Y Rf D)) (68) S U kt F E mv) := HG'
theorem mk {d c m : Nat} {as : List Value} (v : Value) (st : Stt) (hk : callD (d + 30) c (.ref 0 :: as) (H S S2 K kp X T nC E z B Y Rf ((G (D) (68) S U kt F E mv))) = some (some v, HC st (G (D) (68) S U kt F E mv))) (hr : callD (d + 30) m (.ref 68 :: as) (G (HC st D) (68) S U kt F E mv) = some (some v, HP st)) (hR : Rl st) : ∃ v M1 st', callD (d + 30) c (.ref 0 :: as) (HP (S, S2, K, kp, X, T, nC, E, z, B, Y, Rf, U, kt, F, mv, D)) = some (some v, M1) ∧ callD (d + 30) m (.ref 68 :: as) M1 = some (some v, HP st') ∧ Rl st' := by
  refine ⟨v, HC st (G (D) (68) S U kt F E mv), st, ?_, ?_, hR⟩
  · show callD (d + 30) c (.ref 0 :: as) (G ((H S S2 K kp X T nC E z B Y Rf D)) (68) S U kt F E mv) = _
    rw [← HG]
    exact hk
  · have e : HC st (G (D) (68) S U kt F E mv) = (G (HC st D) (68) S U kt F E mv) := by
      obtain ⟨S', S2', K', kp', X', T', nC', E', z', B', Y', Rf', U', kt', F', mv', D'⟩ := st
      exact HG'
    rw [e]
    exact hr
theorem gfA_0 {k : Nat} : gfA (c0 kp) 5 k = ([.ref 1, .ref 15, .ref 29, .int (zI kp), .ref 43, .ref 48, .ref 65, .ref 67] : List Value)[k]? := rfl
theorem gfA_43 {k : Nat} : gfA (c43 X) 0 k = ([.ref 44, .ref 45, .ref 46, .ref 47, .int (zI (X.1 0)), .int (zI (X.1 1)), .int (zI (X.1 2)), .int (zI (X.1 3))] : List Value)[k]? := rfl
theorem gfA_65 {k : Nat} : gfA (c65 z Y) 4 k = ([.ref 66, .int (zI z), .int (zI (Y.1 0)), va_rf Y.2, .int (zI (Y.1 1)), .int (zI (Y.1 2)), .int (zI (Y.1 3))] : List Value)[k]? := rfl
theorem isC_0 : isC (c0 kp) 5 = true := rfl
theorem isC_43 : isC (c43 X) 0 = true := rfl
theorem isC_65 : isC (c65 z Y) 4 = true := rfl
theorem isC_sh {q : Nat} {t n so sz : Int} : isC (shl q t n so sz) 3 = true := rfl
theorem gfA_sh {q k : Nat} {t n so sz : Int} : gfA (shl q t n so sz) 3 k = ([.int (zI t), .int (zI n), .int (zI so), .int (zI sz), .ref (q + 1)] : List Value)[k]? := rfl
def refF (f : Nat → Int32) (a : Int) : Nat → Int32 := upd f (-a).toNat (f (-a).toNat + zI 1)
theorem k_ref {d : Nat} {a : Int} (ha : -6 ≤ a ∧ a ≤ -2) : callD (d + 1) 128 [.ref 0, .int (zI a)] (H S S2 K kp X T nC E z B Y Rf D) = some (some (.int (zI a)), (H S S2 K kp X T nC E z B Y ((refF Rf a)) D)) := by
  have e1 : ¬ -2 < a := by omega
  have e2 : ¬ a < -6 := by omega
  rw [c_128]
  simp (disch := omega) only [e_128_0, e_128_1, e_128_3, e_128_6, e_128_7, e_128_9, e_128_12, e_128_13, e_128_16, e_128_17, e_128_18, e_128_19, e_128_20, e_128_21, e_128_22, e_128_23, e_128_24, gfA_i, pfA_i, List.getElem?_cons_zero, List.getElem?_cons_succ, oK_some, rK_some, pR_some, pR_none, kq_i, kq_r, kq_n, kq_u, kq_o, kq_l, isRf_r, isRf_n, isRf_o, okv_r, okv_n, okv_o, is2_r, is2_o, is2_n, rcv_r, isC_i, if_true, if_pos, zI_add, zI_sub, zI_mul, nc_12, nc_8, nc_6, nc_40, nc_250, nc_3, nc_s, len4_0, len4_1, len4_2, len4_3, len4_4, and_self, and_true, true_and, lenA_i, va_rf_s, va_rf_n, oN_none, oN_some, zI_lt, zI_eq, nat_tn, nc_s, Int.lt_irrefl, Int.reduceEq, Int.reduceNe, Int.reduceLT, Int.reduceLE, Int.reduceSub, Int.reduceAdd, Int.reduceMul, Int.reduceDiv, Int.reduceNeg, Int.reduceToNat, or_self, or_false, false_or, if_false, if_true, not_true_eq_false, not_false_eq_true, or_true, true_or, and_false, false_and, ldI_0, stI_0, ldQ_q, gfA_0, gfA_43, gfA_65, H_0, H_43, H_48, H_65, H_66, H_67, kq_l, zI_neg, e1, e2, mU_67]
  rfl
theorem r_ref {d : Nat} {a : Int} (ha : -7 ≤ a ∧ a ≤ 0) : callD (d + 1) 136 [.ref o, .int (zI a)] (G M o S U kt F E mv) = some (some (.int (zI a)), (G M o S U kt ((va_up F 5 (refF (F 5) a))) E mv)) := r_refuse ha
theorem k_within {d : Nat} {a m : Int} (ha : i32 a) (hm : i32 m) : callD (d + 1) 129 [.int (zI a), .int (zI m)] M = some (some (.int (zI (inB a 0 m))), M) := by
  unfold i32 at ha hm
  rw [c_129]
  unfold inB
  by_cases e1 : a < 0
  · rw [if_neg (by omega)]
    simp (disch := omega) only [e_129_0, e_129_1, e_129_4, e_129_5, e_129_6, e_129_9, e_129_10, e_129_13, e_129_14, gfA_i, pfA_i, List.getElem?_cons_zero, List.getElem?_cons_succ, oK_some, rK_some, pR_some, pR_none, kq_i, kq_r, kq_n, kq_u, kq_o, kq_l, isRf_r, isRf_n, isRf_o, okv_r, okv_n, okv_o, is2_r, is2_o, is2_n, rcv_r, isC_i, if_true, if_pos, zI_add, zI_sub, zI_mul, nc_12, nc_8, nc_6, nc_40, nc_250, nc_3, nc_s, len4_0, len4_1, len4_2, len4_3, len4_4, and_self, and_true, true_and, lenA_i, va_rf_s, va_rf_n, oN_none, oN_some, zI_lt, zI_eq, Int.lt_irrefl, Int.reduceEq, Int.reduceNe, Int.reduceLT, Int.reduceLE, Int.reduceSub, Int.reduceAdd, Int.reduceMul, Int.reduceDiv, Int.reduceNeg, Int.reduceToNat, or_self, or_false, false_or, if_false, if_true, not_true_eq_false, not_false_eq_true, or_true, true_or, and_false, false_and, e1]
  · by_cases e2 : m < a
    · rw [if_neg (by omega)]
      simp (disch := omega) only [e_129_0, e_129_1, e_129_4, e_129_5, e_129_6, e_129_9, e_129_10, e_129_13, e_129_14, gfA_i, pfA_i, List.getElem?_cons_zero, List.getElem?_cons_succ, oK_some, rK_some, pR_some, pR_none, kq_i, kq_r, kq_n, kq_u, kq_o, kq_l, isRf_r, isRf_n, isRf_o, okv_r, okv_n, okv_o, is2_r, is2_o, is2_n, rcv_r, isC_i, if_true, if_pos, zI_add, zI_sub, zI_mul, nc_12, nc_8, nc_6, nc_40, nc_250, nc_3, nc_s, len4_0, len4_1, len4_2, len4_3, len4_4, and_self, and_true, true_and, lenA_i, va_rf_s, va_rf_n, oN_none, oN_some, zI_lt, zI_eq, Int.lt_irrefl, Int.reduceEq, Int.reduceNe, Int.reduceLT, Int.reduceLE, Int.reduceSub, Int.reduceAdd, Int.reduceMul, Int.reduceDiv, Int.reduceNeg, Int.reduceToNat, or_self, or_false, false_or, if_false, if_true, not_true_eq_false, not_false_eq_true, or_true, true_or, and_false, false_and, e1, e2]
    · rw [if_pos (by omega)]
      simp (disch := omega) only [e_129_0, e_129_1, e_129_4, e_129_5, e_129_6, e_129_9, e_129_10, e_129_13, e_129_14, gfA_i, pfA_i, List.getElem?_cons_zero, List.getElem?_cons_succ, oK_some, rK_some, pR_some, pR_none, kq_i, kq_r, kq_n, kq_u, kq_o, kq_l, isRf_r, isRf_n, isRf_o, okv_r, okv_n, okv_o, is2_r, is2_o, is2_n, rcv_r, isC_i, if_true, if_pos, zI_add, zI_sub, zI_mul, nc_12, nc_8, nc_6, nc_40, nc_250, nc_3, nc_s, len4_0, len4_1, len4_2, len4_3, len4_4, and_self, and_true, true_and, lenA_i, va_rf_s, va_rf_n, oN_none, oN_some, zI_lt, zI_eq, Int.lt_irrefl, Int.reduceEq, Int.reduceNe, Int.reduceLT, Int.reduceLE, Int.reduceSub, Int.reduceAdd, Int.reduceMul, Int.reduceDiv, Int.reduceNeg, Int.reduceToNat, or_self, or_false, false_or, if_false, if_true, not_true_eq_false, not_false_eq_true, or_true, true_or, and_false, false_and, e1, e2]
theorem inB_1 {a l m : Int} (h : l ≤ a ∧ a ≤ m) : inB a l m = 1 := if_pos h
theorem inB_0 {a l m : Int} (h : ¬ (l ≤ a ∧ a ≤ m)) : inB a l m = 0 := if_neg h
theorem k_shelf_s {d s : Nat} (hs : s < 8) : callD (d + 1) 130 [.ref 0, .int (zI s)] (H S S2 K kp X T nC E z B Y Rf D) = some (some (.ref (49 + 2 * s)), (H S S2 K kp X T nC E z B Y Rf D)) := by
  have e1 : ¬ (s : Int) < 0 := by omega
  have e2 : (s : Int) < 8 := by omega
  rw [c_130]
  simp (disch := omega) only [e_130_0, e_130_1, e_130_4, e_130_5, e_130_7, e_130_10, e_130_11, e_130_14, e_130_15, e_130_16, e_130_19, e_130_20, gfA_i, pfA_i, List.getElem?_cons_zero, List.getElem?_cons_succ, oK_some, rK_some, pR_some, pR_none, kq_i, kq_r, kq_n, kq_u, kq_o, kq_l, isRf_r, isRf_n, isRf_o, okv_r, okv_n, okv_o, is2_r, is2_o, is2_n, rcv_r, isC_i, if_true, if_pos, zI_add, zI_sub, zI_mul, nc_12, nc_8, nc_6, nc_40, nc_250, nc_3, nc_s, len4_0, len4_1, len4_2, len4_3, len4_4, and_self, and_true, true_and, lenA_i, va_rf_s, va_rf_n, oN_none, oN_some, zI_lt, zI_eq, nat_tn, nc_s, Int.lt_irrefl, Int.reduceEq, Int.reduceNe, Int.reduceLT, Int.reduceLE, Int.reduceSub, Int.reduceAdd, Int.reduceMul, Int.reduceDiv, Int.reduceNeg, Int.reduceToNat, or_self, or_false, false_or, if_false, if_true, not_true_eq_false, not_false_eq_true, or_true, true_or, and_false, false_and, ldI_0, stI_0, ldQ_q, gfA_0, gfA_43, gfA_65, H_0, H_43, H_48, H_65, H_66, H_67, kq_l, c48, e1, e2, hs]
theorem k_shelf_n {d : Nat} {a : Int} (ha : i32 a) (h : ¬ (0 ≤ a ∧ a < 8)) : callD (d + 1) 130 [.ref 0, .int (zI a)] (H S S2 K kp X T nC E z B Y Rf D) = some (some .null, (H S S2 K kp X T nC E z B Y Rf D)) := by
  unfold i32 at ha
  rw [c_130]
  by_cases e1 : a < 0
  · simp (disch := omega) only [e_130_0, e_130_1, e_130_4, e_130_5, e_130_7, e_130_10, e_130_11, e_130_14, e_130_15, e_130_16, e_130_19, e_130_20, gfA_i, pfA_i, List.getElem?_cons_zero, List.getElem?_cons_succ, oK_some, rK_some, pR_some, pR_none, kq_i, kq_r, kq_n, kq_u, kq_o, kq_l, isRf_r, isRf_n, isRf_o, okv_r, okv_n, okv_o, is2_r, is2_o, is2_n, rcv_r, isC_i, if_true, if_pos, zI_add, zI_sub, zI_mul, nc_12, nc_8, nc_6, nc_40, nc_250, nc_3, nc_s, len4_0, len4_1, len4_2, len4_3, len4_4, and_self, and_true, true_and, lenA_i, va_rf_s, va_rf_n, oN_none, oN_some, zI_lt, zI_eq, nat_tn, nc_s, Int.lt_irrefl, Int.reduceEq, Int.reduceNe, Int.reduceLT, Int.reduceLE, Int.reduceSub, Int.reduceAdd, Int.reduceMul, Int.reduceDiv, Int.reduceNeg, Int.reduceToNat, or_self, or_false, false_or, if_false, if_true, not_true_eq_false, not_false_eq_true, or_true, true_or, and_false, false_and, ldI_0, stI_0, ldQ_q, gfA_0, gfA_43, gfA_65, H_0, H_43, H_48, H_65, H_66, H_67, kq_l, c48, e1]
  · have e2 : ¬ a < 8 := by omega
    simp (disch := omega) only [e_130_0, e_130_1, e_130_4, e_130_5, e_130_7, e_130_10, e_130_11, e_130_14, e_130_15, e_130_16, e_130_19, e_130_20, gfA_i, pfA_i, List.getElem?_cons_zero, List.getElem?_cons_succ, oK_some, rK_some, pR_some, pR_none, kq_i, kq_r, kq_n, kq_u, kq_o, kq_l, isRf_r, isRf_n, isRf_o, okv_r, okv_n, okv_o, is2_r, is2_o, is2_n, rcv_r, isC_i, if_true, if_pos, zI_add, zI_sub, zI_mul, nc_12, nc_8, nc_6, nc_40, nc_250, nc_3, nc_s, len4_0, len4_1, len4_2, len4_3, len4_4, and_self, and_true, true_and, lenA_i, va_rf_s, va_rf_n, oN_none, oN_some, zI_lt, zI_eq, nat_tn, nc_s, Int.lt_irrefl, Int.reduceEq, Int.reduceNe, Int.reduceLT, Int.reduceLE, Int.reduceSub, Int.reduceAdd, Int.reduceMul, Int.reduceDiv, Int.reduceNeg, Int.reduceToNat, or_self, or_false, false_or, if_false, if_true, not_true_eq_false, not_false_eq_true, or_true, true_or, and_false, false_and, ldI_0, stI_0, ldQ_q, gfA_0, gfA_43, gfA_65, H_0, H_43, H_48, H_65, H_66, H_67, kq_l, c48, e1, e2]
theorem inB_c (a l m : Int) : (inB a l m = 0 ∧ ¬ (l ≤ a ∧ a ≤ m)) ∨ (inB a l m = 1 ∧ l ≤ a ∧ a ≤ m) := by
  unfold inB
  by_cases h : l ≤ a ∧ a ≤ m
  · exact Or.inr ⟨if_pos h, h⟩
  · exact Or.inl ⟨if_neg h, h⟩
theorem Rl_ref {a : Int} (h : Rl (S, S2, K, kp, X, T, nC, E, z, B, Y, Rf, U, kt, F, mv, D)) : Rl (S, S2, K, kp, X, T, nC, E, z, B, Y, ((refF Rf a)), U, kt, ((va_up F 5 (refF (F 5) a))), mv, D) := by
  obtain ⟨hI, hT, hF, hF4, hF5, hU, hz, hK⟩ := h
  exact ⟨hI, hT, hF, hF4, congrArg (fun f => refF f a) hF5, hU, hz, hK⟩
theorem Rl_S (h : Rl (S, S2, K, kp, X, T, nC, E, z, B, Y, Rf, U, kt, F, mv, D)) (hI : In S') (hc : S 8 0 ≤ S' 8 0) : Rl ((S'), S2, K, kp, X, T, nC, E, z, B, Y, Rf, U, kt, F, mv, D) := by
  obtain ⟨-, hT, hF, hF4, hF5, hU, hz, hK⟩ := h
  refine ⟨hI, fun s hs => ?_, hF, hF4, hF5, hU, hz, hK⟩
  obtain ⟨t0, t1, t2, t3⟩ := hT s hs
  exact ⟨t0, t1, t2, fun h => ⟨(t3 h).1, by have := (t3 h).2.1; omega, (t3 h).2.2⟩⟩
theorem FT_set {s : Nat} {a b c : Int} (h : FT T F) : FT (shT T s a b c) (va_up (va_up (va_up F 0 (upd (F 0) s (zI a))) 1 (upd (F 1) s (zI b))) 2 (upd (F 2) s (zI c))) := by
  obtain ⟨h0, h1, h2⟩ := h
  refine ⟨fun r => ?_, fun r => ?_, fun r => ?_⟩
  · show (if r = s then zI a else F 0 r) = zI (if r = s then a else T 0 r)
    split
    · rfl
    · exact h0 r
  · show (if r = s then zI b else F 1 r) = zI (if r = s then b else T 1 r)
    split
    · rfl
    · exact h1 r
  · show (if r = s then zI c else F 2 r) = zI (if r = s then c else T 2 r)
    split
    · rfl
    · exact h2 r
theorem FT_0 {s : Nat} {a : Int} {g : Nat → Int32} (h : FT T F) : FT (shT T s a (T 1 s) (T 2 s)) (va_up (va_up F 0 (upd (F 0) s (zI a))) 3 g) := by
  obtain ⟨h0, h1, h2⟩ := h
  refine ⟨fun r => ?_, fun r => ?_, fun r => ?_⟩
  · show (if r = s then zI a else F 0 r) = zI (if r = s then a else T 0 r)
    split
    · rfl
    · exact h0 r
  · show F 1 r = zI (if r = s then T 1 s else T 1 r)
    split
    · rename_i e; subst e; exact h1 r
    · exact h1 r
  · show F 2 r = zI (if r = s then T 2 s else T 2 r)
    split
    · rename_i e; subst e; exact h2 r
    · exact h2 r
end TOP
