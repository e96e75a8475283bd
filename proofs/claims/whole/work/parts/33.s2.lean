/-! bits -/
def pop (n : Nat) : Nat := n % 2 + n / 2 % 2 + n / 4 % 2 + n / 8 % 2 + n / 16 % 2 + n / 32 % 2 + n / 64 % 2 + n / 128 % 2
theorem pop_le (n : Nat) : pop n ≤ 8 := by unfold pop; omega
def us32 (x y : Int32) : Int32 := (x.toUInt32 >>> (y.toUInt32 &&& Int32.toUInt32 31)).toInt32
def bc1 (x : Int32) : Int32 := x - (us32 x (zI 1) &&& zI 1431655765)
def bc2 (x : Int32) : Int32 := (x &&& zI 858993459) + (us32 x (zI 2) &&& zI 858993459)
def bc3 (x : Int32) : Int32 := (x + us32 x (zI 4)) &&& zI 252645135
def bc4 (x : Int32) : Int32 := x + us32 x (zI 8)
def bc5 (x : Int32) : Int32 := (x + us32 x (zI 16)) &&& zI 63
theorem bc_eq : ∀ n : Nat, n < 256 → bc5 (bc4 (bc3 (bc2 (bc1 (zI n))))) = zI (pop n : Nat) := by decide +kernel
theorem zI_nat (n : Nat) : zI (n : Int) = Int32.ofNat n := Int32.ofInt_eq_ofNat
theorem zI_andN (n m : Nat) : zI (n : Int) &&& zI (m : Int) = zI ((n &&& m : Nat) : Int) := by
  rw [zI_nat, zI_nat, zI_nat]
  apply Int32.toBitVec_inj.mp
  show BitVec.ofNat 32 n &&& BitVec.ofNat 32 m = BitVec.ofNat 32 (n &&& m)
  exact (BitVec.ofNat_and ..).symm
theorem zI_and {a b : Int} (h1 : 0 ≤ a) (h2 : 0 ≤ b) : zI a &&& zI b = zI ((a.toNat &&& b.toNat : Nat) : Int) := by
  rw [← zI_andN, Int.toNat_of_nonneg h1, Int.toNat_of_nonneg h2]
theorem m_bits {d n : Nat} {M : AM} (hn : n < 256) : callD (d + 1) 242 [.int (zI (n : Int))] M = some (some (.int (zI (pop n : Nat))), M) := by
  rw [c_242]
  simp only [e_242_0, e_242_1, e_242_2, e_242_3, e_242_4, e_242_7, e_242_8, e_242_9, e_242_10, e_242_11, e_242_14, e_242_15, e_242_16, e_242_17, e_242_18, e_242_21, e_242_22, e_242_23, e_242_24, e_242_25, e_242_26, e_242_27, e_242_28, e_242_29, e_242_32, e_242_33, e_242_34, e_242_35, e_242_36, e_242_38, e_242_39, e_242_40, e_242_41, e_242_42, e_242_43, e_242_45, e_242_46, e_242_47, e_242_48, e_242_49, e_242_51, e_242_52, kq_i]
  exact congrArg (fun z => some (some (Value.int z), M)) (bc_eq n hn)
theorem m_max {d : Nat} {M : AM} (x y : Int32) : callD (d + 1) 243 [.int x, .int y] M = some (some (.int (if x < y then y else x)), M) := by
  rw [c_243]
  simp only [e_243_0, e_243_1, e_243_2, e_243_5, e_243_6, e_243_9, e_243_10]
  split <;> rfl
theorem m_min {d : Nat} {M : AM} (x y : Int32) : callD (d + 1) 244 [.int x, .int y] M = some (some (.int (if y < x then y else x)), M) := by
  rw [c_244]
  simp only [e_244_0, e_244_1, e_244_2, e_244_5, e_244_6, e_244_9, e_244_10]
  split <;> rfl
/-- how many likes both have -/
def cm (S : Sc) (i j : Nat) : Int := ((pop ((S 3 i).toNat &&& (S 3 j).toNat) : Nat) : Int)
theorem cm_b (S : Sc) (i j : Nat) : 0 ≤ cm S i j ∧ cm S i j ≤ 8 := by
  unfold cm
  have := pop_le ((S 3 i).toNat &&& (S 3 j).toNat)
  omega
theorem m_common {d : Nat} {M : AM} {o i j : Nat} {S : Sc} (hI : In S) (hR : RS M o S) (hi : i < 12) (hj : j < 12) : callD (d + 2) 20 [.ref (o + 2 + i), .ref (o + 2 + j)] M = some (some (.int (zI (cm S i j))), M) := by
  obtain ⟨-, -, -, -, hf, -⟩ := hI
  have h3 := (hf i).2.2.2.1
  have h4 := (hf j).2.2.2.1
  have hlt : (S 3 i).toNat &&& (S 3 j).toNat < 256 := Nat.lt_of_le_of_lt Nat.and_le_left (by omega)
  rw [c_20 (is2_r _)]
  simp (disch := omega) only [e_20_0, e_20_1, e_20_4, e_20_5, e_20_8, e_20_9, e_20_12, hR.2.2 i hi, hR.2.2 j hj, pcl, gfA_i, pfA_i, List.getElem?_cons_zero, List.getElem?_cons_succ, oK_some, rK_some, pR_some, pR_none, kq_i, kq_r, kq_n, kq_u, kq_o, kq_l, isRf_r, isRf_n, isRf_o, okv_r, okv_n, okv_o, is2_r, is2_o, is2_n, rcv_r, isC_i, if_true, if_pos, zI_add, zI_sub, zI_mul, nc_12, nc_8, nc_6, nc_40, nc_250, nc_3, nc_s, len4_0, len4_1, len4_2, len4_3, len4_4, and_self, and_true, true_and, lenA_i, va_rf_s, va_rf_n, oN_none, oN_some, zI_and, m_bits hlt]
  rfl
def W6 (k c t sil a len fri : Int) : Int :=
  let b := 4 + 2 * c - t - sil / 3
  let w := if k = 1 then b + 1 else if k = 3 then b + (1 - len / 4) else if k = 2 then b - sil else if k = 4 then (if sil < a then b - sil else 0) else if k = 5 then b + a / 3 else b
  let v := if fri = 1 then w + 2 else w
  if v < 0 then 0 else if 12 < v then 12 else v
theorem W6_b (k c t sil a len fri : Int) : 0 ≤ W6 k c t sil a len fri ∧ W6 k c t sil a len fri ≤ 12 := by
  unfold W6
  dsimp only
  generalize (if fri = 1 then _ else _ : Int) = v
  split
  · omega
  · split <;> omega
theorem clampW {v : Int} (h1 : -100000 ≤ v) (h2 : v ≤ 100000) : (if zI 0 < (if v < 12 then zI v else zI 12) then (if v < 12 then zI v else zI 12) else zI 0) = zI (if v < 0 then 0 else if 12 < v then 12 else v) := by
  have e : ∀ z : Int, -100000 ≤ z → z ≤ 100000 → ((zI 0 < zI z) ↔ 0 < z) := fun z z1 z2 => by rw [zI_lt (by omega) (by omega) (by omega) (by omega)]
  by_cases h : v < 12
  · rw [if_pos h]
    by_cases h0 : 0 < v
    · rw [if_pos ((e v h1 h2).mpr h0), if_neg (by omega), if_neg (by omega)]
    · rw [if_neg (fun q => h0 ((e v h1 h2).mp q))]
      by_cases h3 : v < 0
      · rw [if_pos h3]
      · rw [if_neg h3, if_neg (by omega), show v = 0 by omega]
  · rw [if_neg h, if_pos ((e 12 (by omega) (by omega)).mpr (by omega)), if_neg (by omega)]
    by_cases h3 : 12 < v
    · rw [if_pos h3]
    · rw [if_neg h3, show v = 12 by omega]
set_option maxHeartbeats 4000000 in
theorem m_will {d : Nat} {M : AM} {o i j : Nat} {S : Sc} {s : Int} (hI : In S) (hR : RS M o S) (hi : i < 12) (hj : j < 12) (hs0 : 0 ≤ s) (hs1 : s ≤ 300) : callD (d + 3) 28 [.ref o, .ref (o + 2 + i), .ref (o + 2 + j), .int (zI s)] M = some (some (.int (zI (W6 (S 0 i) (cm S i j) (S 8 2) s (S 1 i) (S 7 i) (S 8 3)))), M) := by
  have hcm := cm_b S i j
  have hco := m_common (d := d) hI hR hi hj
  have hp := hR.2.2 i hi
  have h0 := hR.1
  unfold pcl at hp
  obtain ⟨-, -, h82, h83, hf, -⟩ := hI
  obtain ⟨h00, h01, -, -, -, -, -, h07⟩ := hf i
  have hd3 : s / 3 ≤ 100 ∧ 0 ≤ s / 3 := by omega
  generalize hc : cm S i j = c at *
  generalize S 8 2 = t at *
  generalize S 1 i = a at *
  generalize S 7 i = len at *
  rw [c_28 (is2_r _) (is2_r _)]
  have hk : S 0 i = 0 ∨ S 0 i = 1 ∨ S 0 i = 2 ∨ S 0 i = 3 ∨ S 0 i = 4 ∨ S 0 i = 5 := by omega
  have hfr : S 8 3 = 0 ∨ S 8 3 = 1 := by omega
  rcases hk with h | h | h | h | h | h <;> rcases hfr with hq | hq <;> rw [h] at hp <;> rw [hq] at h0 <;> rw [h, hq] <;>
    simp (disch := omega) only [e_28_0, e_28_1, e_28_1_n, e_28_1_r, e_28_4, e_28_5, e_28_6, e_28_7, e_28_8, e_28_9, e_28_10, e_28_13, e_28_14, e_28_15, e_28_16, e_28_19, e_28_20, e_28_21, e_28_22, e_28_23, e_28_24, e_28_26, e_28_27, e_28_30, e_28_64, e_28_67, e_28_70, e_28_72, e_28_73, e_28_74, e_28_77, e_28_78, e_28_79, e_28_80, e_28_81, e_28_83, e_28_86, e_28_88, e_28_89, e_28_90, e_28_92, e_28_95, e_28_96, e_28_97, e_28_100, e_28_103, e_28_104, e_28_107, e_28_109, e_28_110, e_28_111, e_28_113, e_28_116, e_28_118, e_28_119, e_28_122, e_28_123, e_28_124, e_28_125, e_28_127, e_28_130, e_28_131, e_28_134, e_28_135, e_28_138, e_28_141, e_28_142, e_28_144, e_28_146, e_28_149, e_28_152, h0, hp, gfA_i, pfA_i, List.getElem?_cons_zero, List.getElem?_cons_succ, oK_some, rK_some, pR_some, pR_none, kq_i, kq_r, kq_n, kq_u, kq_o, kq_l, isRf_r, isRf_n, isRf_o, okv_r, okv_n, okv_o, is2_r, is2_o, is2_n, rcv_r, isC_i, if_true, if_pos, zI_add, zI_sub, zI_mul, nc_12, nc_8, nc_6, nc_40, nc_250, nc_3, nc_s, len4_0, len4_1, len4_2, len4_3, len4_4, and_self, and_true, true_and, lenA_i, va_rf_s, va_rf_n, oN_none, oN_some, hco, zI_eq, zI_lt, zI_div, zI_toInt, m_min, m_max, W6, Int.reduceEq, Int.reduceNe, Int.reduceLT, Int.reduceLE, Int.reduceSub, Int.reduceAdd, Int.reduceMul, Int.reduceDiv, Int.reduceNeg, Int.reduceToNat, or_self, or_false, false_or, if_false, if_true, not_true_eq_false, not_false_eq_true, or_true, true_or, and_false, false_and, clampW]
  all_goals try rfl
  all_goals (by_cases hsa : s < a <;> simp only [hsa, Int.reduceEq, Int.reduceNe, Int.reduceLT, Int.reduceLE, Int.reduceSub, Int.reduceAdd, Int.reduceMul, Int.reduceDiv, Int.reduceNeg, Int.reduceToNat, or_self, or_false, false_or, if_false, if_true, not_true_eq_false, not_false_eq_true, or_true, true_or, and_false, false_and])
