def bval (U : Nat → Int) : Int := 8 * U 8 + U 9
def bok (U : Nat → Int) : Prop := (U 8 = -1 ∧ U 9 = -1) ∨ ((0 ≤ U 8 ∧ U 8 ≤ 48) ∧ 0 ≤ U 9 ∧ U 9 ≤ 6)
/-- what a search has done -/
def skr (m : Nat) (U : Nat → Int) (F : Nat → Nat → Int32) (U' : Nat → Int) (F' : Nat → Nat → Int32) (i : Nat) (sum pr : Int) (r : Int × Int × (Nat → Int)) : Prop :=
  (∀ y, ¬ y = 8 → ¬ y = 9 → U' y = U y) ∧ (∀ y, ¬ y = 8 → ¬ y = 9 → F' y = F y) ∧ (∀ x, x < i → F' 8 x = F 8 x) ∧
  ((bval U < 8 * sum + pr + (8 * r.1 + r.2.1) ∧ U' 8 = sum + r.1 ∧ U' 9 = pr + r.2.1 ∧ ∀ x, x < m → F' 9 x = if x < i then F 8 x else zI (r.2.2 x)) ∨ (¬ bval U < 8 * sum + pr + (8 * r.1 + r.2.1) ∧ U' 8 = U 8 ∧ U' 9 = U 9 ∧ F' 9 = F 9))
section SK
variable {m i : Nat} {U U1 Uq : Nat → Int} {F F1 Fq : Nat → Nat → Int32} {sum pr c e v : Int} {r R : Int × Int × (Nat → Int)}
theorem skr_none (h : skr m U (va_up F 8 (upd (F 8) i (zI v))) U1 F1 (i + 1) (sum + c) (pr + e) r) : skr m U F U1 F1 i sum pr (c + r.1, e + r.2.1, va_up r.2.2 i v) := by
  obtain ⟨h1, h2, h3, h4⟩ := h
  refine ⟨h1, fun y y8 y9 => (h2 y y8 y9).trans (va_up_ne F _ y8), fun x hx => ?_, ?_⟩
  · rw [h3 x (by omega), va_up_at]
    exact if_neg (by omega)
  · dsimp only
    rcases h4 with ⟨g1, g2, g3, g4⟩ | ⟨g1, g2, g3, g4⟩
    · refine Or.inl ⟨by omega, by omega, by omega, fun x hx => ?_⟩
      rw [g4 x hx, va_up_at]
      by_cases hx1 : x < i
      · rw [if_pos (by omega), if_pos hx1]
        exact if_neg (by omega)
      · rw [if_neg hx1]
        by_cases hx2 : x = i
        · subst hx2
          rw [if_pos (by omega), va_up_at]
          exact if_pos rfl
        · rw [if_neg (by omega), va_up_ne _ _ hx2]
    · exact Or.inr ⟨by omega, g2, g3, g4.trans (va_up_ne F _ (by omega))⟩
theorem skr_step (h : skr m U F Uq Fq i sum pr R) (h' : skr m Uq (va_up Fq 8 (upd (Fq 8) i (zI v))) U1 F1 (i + 1) (sum + c) (pr + e) r) : (8 * R.1 + R.2.1 < 8 * c + e + (8 * r.1 + r.2.1) → skr m U F U1 F1 i sum pr (c + r.1, e + r.2.1, va_up r.2.2 i v)) ∧ (¬ 8 * R.1 + R.2.1 < 8 * c + e + (8 * r.1 + r.2.1) → skr m U F U1 F1 i sum pr R) := by
  obtain ⟨k1, k2, k3, k4⟩ := skr_none h'
  obtain ⟨h1, h2, h3, h4⟩ := h
  dsimp only at k4
  have e1 : ∀ y, ¬ y = 8 → ¬ y = 9 → U1 y = U y := fun y y8 y9 => (k1 y y8 y9).trans (h1 y y8 y9)
  have e2 : ∀ y, ¬ y = 8 → ¬ y = 9 → F1 y = F y := fun y y8 y9 => (k2 y y8 y9).trans (h2 y y8 y9)
  have e3 : ∀ x, x < i → F1 8 x = F 8 x := fun x hx => (k3 x hx).trans (h3 x hx)
  rcases h4 with ⟨g1, g2, g3, g4⟩ | ⟨g1, g2, g3, g4⟩
  · have eb : bval Uq = 8 * sum + pr + (8 * R.1 + R.2.1) := by unfold bval; omega
    rcases k4 with ⟨l1, l2, l3, l4⟩ | ⟨l1, l2, l3, l4⟩
    · refine ⟨fun hv => ⟨e1, e2, e3, Or.inl ⟨by dsimp only; omega, l2, l3, fun x hx => ?_⟩⟩, fun hv => absurd hv (by omega)⟩
      rw [l4 x hx]
      by_cases hx1 : x < i
      · rw [if_pos hx1, if_pos hx1, h3 x hx1]
      · rw [if_neg hx1, if_neg hx1]
    · exact ⟨fun hv => absurd hv (by omega), fun hv => ⟨e1, e2, e3, Or.inl ⟨g1, l2.trans g2, l3.trans g3, fun x hx => by rw [l4]; exact g4 x hx⟩⟩⟩
  · have eb : bval Uq = bval U := by unfold bval; rw [g2, g3]
    rcases k4 with ⟨l1, l2, l3, l4⟩ | ⟨l1, l2, l3, l4⟩
    · refine ⟨fun hv => ⟨e1, e2, e3, Or.inl ⟨by dsimp only; omega, l2, l3, fun x hx => ?_⟩⟩, fun hv => absurd hv (by omega)⟩
      rw [l4 x hx]
      by_cases hx1 : x < i
      · rw [if_pos hx1, if_pos hx1, h3 x hx1]
      · rw [if_neg hx1, if_neg hx1]
    · exact ⟨fun hv => ⟨e1, e2, e3, Or.inr ⟨by dsimp only; omega, l2.trans g2, l3.trans g3, l4.trans g4⟩⟩, fun hv => ⟨e1, e2, e3, Or.inr ⟨g1, l2.trans g2, l3.trans g3, l4.trans g4⟩⟩⟩
theorem skr_bok (h : skr m U F U1 F1 i sum pr r) (hb : bok U) (hs : 0 ≤ sum + r.1 ∧ sum + r.1 ≤ 48) (hp : 0 ≤ pr + r.2.1 ∧ pr + r.2.1 ≤ 6) : bok U1 := by
  obtain ⟨-, -, -, h4⟩ := h
  unfold bok at *
  rcases h4 with ⟨g1, g2, g3, g4⟩ | ⟨g1, g2, g3, g4⟩
  · rw [g2, g3]; exact Or.inr ⟨hs, hp⟩
  · rw [g2, g3]; exact hb
end SK
theorem pc_V {S : Sc} {row col : Nat → Nat} {cc m k i : Nat} {u : Nat → Int} {a : Int × Int} (h : cvl S (row i) col (fun u' => (dV S row col cc m k u').1) u cc a) : a.1 = 8 * (pc S row col i (pt S row col cc m k) u a.2).1 + (pc S row col i (pt S row col cc m k) u a.2).2.1 := by
  rcases h with ⟨h1, h2⟩ | ⟨j, h1, h2, h3, h4⟩
  · rw [h1, h2]
    unfold pc
    rw [if_pos (show (-1 : Int) < 0 by omega)]
    exact pt_V k u
  · rw [h2, h4]
    unfold pc
    rw [if_neg (show ¬ (j : Int) < 0 by omega), nat_tn]
    have := pt_V (S := S) (row := row) (col := col) (cc := cc) (m := m) k (va_up u j 1)
    dsimp only
    rw [this]
    omega
theorem pc_b {S : Sc} {row col : Nat → Nat} {cc m k i : Nat} {u : Nat → Int} {c : Int} : (0 ≤ (pc S row col i (pt S row col cc m k) u c).1 ∧ (pc S row col i (pt S row col cc m k) u c).1 ≤ 8 * k + 8) ∧ 0 ≤ (pc S row col i (pt S row col cc m k) u c).2.1 ∧ (pc S row col i (pt S row col cc m k) u c).2.1 ≤ k + 1 := by
  unfold pc
  split
  · have := pt_b (S := S) (row := row) (col := col) (cc := cc) (m := m) k u
    dsimp only
    omega
  · have h1 := pt_b (S := S) (row := row) (col := col) (cc := cc) (m := m) k (va_up u c.toNat 1)
    have h2 := cm_b S (row i) (col c.toNat)
    dsimp only
    omega
section M2
variable {M : AM} {o : Nat} {S : Sc} {kt : Option Nat × Option Nat} {E : Nat → Nat → Int64} {mv : Nat → Int64}
theorem r_seek {d m n : Nat} {row : Nat → Nat} (hI : In S) (hn : S 8 0 = (n : Int)) (hn2 : n ≤ 12) (hm : m ≤ 6) (hrow : ∀ x, x < m → row x < 12) : ∀ (k i : Nat), i + k = m → ∀ (t : Nat) (sum pr : Int) (U : Nat → Int) (F : Nat → Nat → Int32), U 7 = m → (∀ x, x < m → F 7 x = zI (row x)) → t < 4096 → (0 ≤ sum ∧ sum ≤ 8 * i) → (0 ≤ pr ∧ pr ≤ i) → bok U → ∃ U' F', callD (d + k + 3) 191 [.ref o, .int (zI i), .int (zI t), .int (zI sum), .int (zI pr)] (G M o S (U) kt (F) E mv) = some (none, (G M o S (U') kt (F') E mv)) ∧ skr m U F U' F' i sum pr (pt S row (cls S).2 (cls S).1 m k (fun j => tb t ((cls S).2 j))) := by
  intro k
  induction k with
  | zero =>
    intro i hi t sum pr U F hU7 hF7 ht hs hp hb
    have him : i = m := by omega
    subst him
    have hcp := r_copied (d := d + 1) (M := (G M o S ((va_up (va_up U 8 sum) 9 pr)) kt (F) E mv)) (x := o + 28) (y := o + 29) G_28 G_29 (by omega) (by omega)
    rw [mG_29] at hcp
    have e0 : ∀ u, pt S row (cls S).2 (cls S).1 i 0 u = (0, 0, fun _ => -1) := fun u => rfl
    rw [e0]
    unfold bok at hb
    by_cases hw : bval U < 8 * sum + pr
    · refine ⟨va_up (va_up U 8 sum) 9 pr, va_up F 9 (fun j => if j < 6 then F 8 j else F 9 j), ?_, fun y y8 y9 => by rw [va_up_ne _ _ y9, va_up_ne _ _ y8], fun y y8 y9 => va_up_ne _ _ y9, fun x hx => by rw [va_up_ne _ _ (show ¬ 8 = 9 by omega)], Or.inl ⟨by dsimp only; omega, ?_, ?_, fun x hx => ?_⟩⟩
      · rw [c_191]
        by_cases h1 : U 8 < sum
        · simp (disch := omega) only [e_191_0, e_191_1, e_191_2, e_191_5, e_191_8, e_191_9, e_191_10, e_191_13, e_191_16, e_191_17, e_191_18, e_191_21, e_191_24, e_191_26, e_191_27, e_191_30, e_191_33, e_191_34, e_191_35, e_191_38, e_191_39, e_191_41, e_191_44, e_191_45, e_191_48, e_191_49, e_191_52, e_191_55, gfA_i, pfA_i, List.getElem?_cons_zero, List.getElem?_cons_succ, oK_some, rK_some, pR_some, pR_none, kq_i, kq_r, kq_n, kq_u, kq_o, kq_l, isRf_r, isRf_n, isRf_o, okv_r, okv_n, okv_o, is2_r, is2_o, is2_n, rcv_r, isC_i, if_true, if_pos, zI_add, zI_sub, zI_mul, nc_12, nc_8, nc_6, nc_40, nc_250, nc_3, nc_s, len4_0, len4_1, len4_2, len4_3, len4_4, and_self, and_true, true_and, lenA_i, va_rf_s, va_rf_n, oN_none, oN_some, zI_lt, zI_eq, nat_tn, nc_s, Int.lt_irrefl, Int.reduceEq, Int.reduceNe, Int.reduceLT, Int.reduceLE, Int.reduceSub, Int.reduceAdd, Int.reduceMul, Int.reduceDiv, Int.reduceNeg, Int.reduceToNat, or_self, or_false, false_or, if_false, if_true, not_true_eq_false, not_false_eq_true, or_true, true_or, and_false, false_and, ldI_0, stI_0, isC_mcl, Int.add_zero, zJ_eq, Nat.reduceAdd, Nat.reduceLT, G_o, G_1, G_2, G_3, G_4, G_13, G_14, G_15, G_16, G_17, G_18, G_19, G_20, G_21, G_22, G_23, G_24, G_25, G_26, G_27, G_28, G_29, gm_0, gm_1, gm_2, gm_3, gm_4, gm_5, gm_6, gm_7, gm_8, gm_9, gm_10, gm_11, gm_12, gm_13, gm_14, gm_15, gm_16, gm_17, gm_18, gm_19, gm_20, gm_21, gm_22, gm_23, gm_24, gm_25, gm_26, gm_27, gm_28, gm_29, gm_30, gm_31, gm_32, gm_33, gm_34, gm_35, pm_7, pm_23, pm_24, pm_25, pm_26, pm_27, pm_29, pm_31, pm_34, pm_35, pm_9, pm_19, pm_20, pm_21, pm_22, mG_U, mG_8, mG_25, mG_1, mG_2, mG_3, mG_13, mG_14, mG_15, mG_16, mG_26, mG_27, mG_28, mG_29, mG_17, mG_18, mG_19, mG_20, mG_21, mG_22, mG_23, mG_24, kq_l, va_up_ne, va_up_self, hU7, h1, hcp]
        · have h2 : sum = U 8 := by unfold bval at hw; omega
          have h3 : U 9 < pr := by unfold bval at hw; omega
          subst h2
          simp (disch := omega) only [e_191_0, e_191_1, e_191_2, e_191_5, e_191_8, e_191_9, e_191_10, e_191_13, e_191_16, e_191_17, e_191_18, e_191_21, e_191_24, e_191_26, e_191_27, e_191_30, e_191_33, e_191_34, e_191_35, e_191_38, e_191_39, e_191_41, e_191_44, e_191_45, e_191_48, e_191_49, e_191_52, e_191_55, gfA_i, pfA_i, List.getElem?_cons_zero, List.getElem?_cons_succ, oK_some, rK_some, pR_some, pR_none, kq_i, kq_r, kq_n, kq_u, kq_o, kq_l, isRf_r, isRf_n, isRf_o, okv_r, okv_n, okv_o, is2_r, is2_o, is2_n, rcv_r, isC_i, if_true, if_pos, zI_add, zI_sub, zI_mul, nc_12, nc_8, nc_6, nc_40, nc_250, nc_3, nc_s, len4_0, len4_1, len4_2, len4_3, len4_4, and_self, and_true, true_and, lenA_i, va_rf_s, va_rf_n, oN_none, oN_some, zI_lt, zI_eq, nat_tn, nc_s, Int.lt_irrefl, Int.reduceEq, Int.reduceNe, Int.reduceLT, Int.reduceLE, Int.reduceSub, Int.reduceAdd, Int.reduceMul, Int.reduceDiv, Int.reduceNeg, Int.reduceToNat, or_self, or_false, false_or, if_false, if_true, not_true_eq_false, not_false_eq_true, or_true, true_or, and_false, false_and, ldI_0, stI_0, isC_mcl, Int.add_zero, zJ_eq, Nat.reduceAdd, Nat.reduceLT, G_o, G_1, G_2, G_3, G_4, G_13, G_14, G_15, G_16, G_17, G_18, G_19, G_20, G_21, G_22, G_23, G_24, G_25, G_26, G_27, G_28, G_29, gm_0, gm_1, gm_2, gm_3, gm_4, gm_5, gm_6, gm_7, gm_8, gm_9, gm_10, gm_11, gm_12, gm_13, gm_14, gm_15, gm_16, gm_17, gm_18, gm_19, gm_20, gm_21, gm_22, gm_23, gm_24, gm_25, gm_26, gm_27, gm_28, gm_29, gm_30, gm_31, gm_32, gm_33, gm_34, gm_35, pm_7, pm_23, pm_24, pm_25, pm_26, pm_27, pm_29, pm_31, pm_34, pm_35, pm_9, pm_19, pm_20, pm_21, pm_22, mG_U, mG_8, mG_25, mG_1, mG_2, mG_3, mG_13, mG_14, mG_15, mG_16, mG_26, mG_27, mG_28, mG_29, mG_17, mG_18, mG_19, mG_20, mG_21, mG_22, mG_23, mG_24, kq_l, va_up_ne, va_up_self, hU7, h3, hcp]
      · rw [va_up_ne _ _ (show ¬ 8 = 9 by omega), va_up_at]; dsimp only; omega
      · rw [va_up_at]; dsimp only; omega
      · rw [va_up_at, if_pos hx]
        exact if_pos (by omega)
    · refine ⟨U, F, ?_, fun y y8 y9 => rfl, fun y y8 y9 => rfl, fun x hx => rfl, Or.inr ⟨by dsimp only; omega, rfl, rfl, rfl⟩⟩
      have h1 : ¬ U 8 < sum := by unfold bval at hw; omega
      rw [c_191]
      by_cases h2 : sum = U 8
      · have h3 : ¬ U 9 < pr := by unfold bval at hw; omega
        subst h2
        simp (disch := omega) only [e_191_0, e_191_1, e_191_2, e_191_5, e_191_8, e_191_9, e_191_10, e_191_13, e_191_16, e_191_17, e_191_18, e_191_21, e_191_24, e_191_26, e_191_27, e_191_30, e_191_33, e_191_34, e_191_35, e_191_38, e_191_39, e_191_41, e_191_44, e_191_45, e_191_48, e_191_49, e_191_52, e_191_55, gfA_i, pfA_i, List.getElem?_cons_zero, List.getElem?_cons_succ, oK_some, rK_some, pR_some, pR_none, kq_i, kq_r, kq_n, kq_u, kq_o, kq_l, isRf_r, isRf_n, isRf_o, okv_r, okv_n, okv_o, is2_r, is2_o, is2_n, rcv_r, isC_i, if_true, if_pos, zI_add, zI_sub, zI_mul, nc_12, nc_8, nc_6, nc_40, nc_250, nc_3, nc_s, len4_0, len4_1, len4_2, len4_3, len4_4, and_self, and_true, true_and, lenA_i, va_rf_s, va_rf_n, oN_none, oN_some, zI_lt, zI_eq, nat_tn, nc_s, Int.lt_irrefl, Int.reduceEq, Int.reduceNe, Int.reduceLT, Int.reduceLE, Int.reduceSub, Int.reduceAdd, Int.reduceMul, Int.reduceDiv, Int.reduceNeg, Int.reduceToNat, or_self, or_false, false_or, if_false, if_true, not_true_eq_false, not_false_eq_true, or_true, true_or, and_false, false_and, ldI_0, stI_0, isC_mcl, Int.add_zero, zJ_eq, Nat.reduceAdd, Nat.reduceLT, G_o, G_1, G_2, G_3, G_4, G_13, G_14, G_15, G_16, G_17, G_18, G_19, G_20, G_21, G_22, G_23, G_24, G_25, G_26, G_27, G_28, G_29, gm_0, gm_1, gm_2, gm_3, gm_4, gm_5, gm_6, gm_7, gm_8, gm_9, gm_10, gm_11, gm_12, gm_13, gm_14, gm_15, gm_16, gm_17, gm_18, gm_19, gm_20, gm_21, gm_22, gm_23, gm_24, gm_25, gm_26, gm_27, gm_28, gm_29, gm_30, gm_31, gm_32, gm_33, gm_34, gm_35, pm_7, pm_23, pm_24, pm_25, pm_26, pm_27, pm_29, pm_31, pm_34, pm_35, pm_9, pm_19, pm_20, pm_21, pm_22, mG_U, mG_8, mG_25, mG_1, mG_2, mG_3, mG_13, mG_14, mG_15, mG_16, mG_26, mG_27, mG_28, mG_29, mG_17, mG_18, mG_19, mG_20, mG_21, mG_22, mG_23, mG_24, kq_l, va_up_ne, va_up_self, hU7, h3]
      · simp (disch := omega) only [e_191_0, e_191_1, e_191_2, e_191_5, e_191_8, e_191_9, e_191_10, e_191_13, e_191_16, e_191_17, e_191_18, e_191_21, e_191_24, e_191_26, e_191_27, e_191_30, e_191_33, e_191_34, e_191_35, e_191_38, e_191_39, e_191_41, e_191_44, e_191_45, e_191_48, e_191_49, e_191_52, e_191_55, gfA_i, pfA_i, List.getElem?_cons_zero, List.getElem?_cons_succ, oK_some, rK_some, pR_some, pR_none, kq_i, kq_r, kq_n, kq_u, kq_o, kq_l, isRf_r, isRf_n, isRf_o, okv_r, okv_n, okv_o, is2_r, is2_o, is2_n, rcv_r, isC_i, if_true, if_pos, zI_add, zI_sub, zI_mul, nc_12, nc_8, nc_6, nc_40, nc_250, nc_3, nc_s, len4_0, len4_1, len4_2, len4_3, len4_4, and_self, and_true, true_and, lenA_i, va_rf_s, va_rf_n, oN_none, oN_some, zI_lt, zI_eq, nat_tn, nc_s, Int.lt_irrefl, Int.reduceEq, Int.reduceNe, Int.reduceLT, Int.reduceLE, Int.reduceSub, Int.reduceAdd, Int.reduceMul, Int.reduceDiv, Int.reduceNeg, Int.reduceToNat, or_self, or_false, false_or, if_false, if_true, not_true_eq_false, not_false_eq_true, or_true, true_or, and_false, false_and, ldI_0, stI_0, isC_mcl, Int.add_zero, zJ_eq, Nat.reduceAdd, Nat.reduceLT, G_o, G_1, G_2, G_3, G_4, G_13, G_14, G_15, G_16, G_17, G_18, G_19, G_20, G_21, G_22, G_23, G_24, G_25, G_26, G_27, G_28, G_29, gm_0, gm_1, gm_2, gm_3, gm_4, gm_5, gm_6, gm_7, gm_8, gm_9, gm_10, gm_11, gm_12, gm_13, gm_14, gm_15, gm_16, gm_17, gm_18, gm_19, gm_20, gm_21, gm_22, gm_23, gm_24, gm_25, gm_26, gm_27, gm_28, gm_29, gm_30, gm_31, gm_32, gm_33, gm_34, gm_35, pm_7, pm_23, pm_24, pm_25, pm_26, pm_27, pm_29, pm_31, pm_34, pm_35, pm_9, pm_19, pm_20, pm_21, pm_22, mG_U, mG_8, mG_25, mG_1, mG_2, mG_3, mG_13, mG_14, mG_15, mG_16, mG_26, mG_27, mG_28, mG_29, mG_17, mG_18, mG_19, mG_20, mG_21, mG_22, mG_23, mG_24, kq_l, va_up_ne, va_up_self, hU7, h1, h2]
  | succ k ih =>
    intro i hi t sum pr U F hU7 hF7 ht hs hp hb
    have hi1 : i < m := by omega
    have hri := hrow i hi1
    have emi : m - (k + 1) = i := by omega
    have hne : ¬ (i : Int) = (m : Int) := by omega
    have hnc : ((i + 1 : Nat) : Int) = (i : Int) + 1 := rfl
    have hpk : ∀ u, pt S row (cls S).2 (cls S).1 m (k + 1) u = pc S row (cls S).2 i (pt S row (cls S).2 (cls S).1 m k) u (dV S row (cls S).2 (cls S).1 m (k + 1) u).2 := fun u => by
      rw [← emi]; rfl
    have hdv : ∀ u, dV S row (cls S).2 (cls S).1 m (k + 1) u = fN (dF S (row i) (cls S).2 (fun u' => (dV S row (cls S).2 (cls S).1 m k u').1) u) (cls S).1 0 ((dV S row (cls S).2 (cls S).1 m k u).1, -1) := fun u => by
      rw [← emi]; rfl
    obtain ⟨U0, F0, hc0, hr0⟩ := ih (i + 1) (by omega) t sum pr U (va_up F 8 (upd (F 8) i (zI (-1)))) hU7 (fun x hx => by rw [va_up_ne F _ (show ¬ 7 = 8 by omega)]; exact hF7 x hx) ht (by omega) (by omega) hb
    rw [hnc] at hc0
    have hr0' : skr m U F U0 F0 i sum pr (pc S row (cls S).2 i (pt S row (cls S).2 (cls S).1 m k) (fun j => tb t ((cls S).2 j)) (-1)) := by
      have hr00 : skr m U (va_up F 8 (upd (F 8) i (zI (-1)))) U0 F0 (i + 1) (sum + 0) (pr + 0) (pt S row (cls S).2 (cls S).1 m k (fun j => tb t ((cls S).2 j))) := by rw [Int.add_zero, Int.add_zero]; exact hr0
      have h := skr_none hr00
      unfold pc
      rw [if_pos (show (-1 : Int) < 0 by omega)]
      rw [Int.zero_add, Int.zero_add] at h
      exact h
    rw [hpk, hdv, c_191]
    rw [show d + (k + 1) + 2 = d + k + 3 by omega]
    simp (disch := omega) only [e_191_0, e_191_1, e_191_2, e_191_5, e_191_8, e_191_9, e_191_10, e_191_13, e_191_16, e_191_17, e_191_18, e_191_21, e_191_24, e_191_26, e_191_27, e_191_30, e_191_33, e_191_34, e_191_35, e_191_38, e_191_39, e_191_41, e_191_44, e_191_45, e_191_48, e_191_49, e_191_52, e_191_55, e_191_56, e_191_57, e_191_60, e_191_61, e_191_62, e_191_63, e_191_64, e_191_65, e_191_66, e_191_67, e_191_68, e_191_69, e_191_71, e_191_74, e_191_75, gfA_i, pfA_i, List.getElem?_cons_zero, List.getElem?_cons_succ, oK_some, rK_some, pR_some, pR_none, kq_i, kq_r, kq_n, kq_u, kq_o, kq_l, isRf_r, isRf_n, isRf_o, okv_r, okv_n, okv_o, is2_r, is2_o, is2_n, rcv_r, isC_i, if_true, if_pos, zI_add, zI_sub, zI_mul, nc_12, nc_8, nc_6, nc_40, nc_250, nc_3, nc_s, len4_0, len4_1, len4_2, len4_3, len4_4, and_self, and_true, true_and, lenA_i, va_rf_s, va_rf_n, oN_none, oN_some, zI_lt, zI_eq, nat_tn, nc_s, Int.lt_irrefl, Int.reduceEq, Int.reduceNe, Int.reduceLT, Int.reduceLE, Int.reduceSub, Int.reduceAdd, Int.reduceMul, Int.reduceDiv, Int.reduceNeg, Int.reduceToNat, or_self, or_false, false_or, if_false, if_true, not_true_eq_false, not_false_eq_true, or_true, true_or, and_false, false_and, ldI_0, stI_0, isC_mcl, Int.add_zero, zJ_eq, Nat.reduceAdd, Nat.reduceLT, G_o, G_1, G_2, G_3, G_4, G_13, G_14, G_15, G_16, G_17, G_18, G_19, G_20, G_21, G_22, G_23, G_24, G_25, G_26, G_27, G_28, G_29, gm_0, gm_1, gm_2, gm_3, gm_4, gm_5, gm_6, gm_7, gm_8, gm_9, gm_10, gm_11, gm_12, gm_13, gm_14, gm_15, gm_16, gm_17, gm_18, gm_19, gm_20, gm_21, gm_22, gm_23, gm_24, gm_25, gm_26, gm_27, gm_28, gm_29, gm_30, gm_31, gm_32, gm_33, gm_34, gm_35, pm_7, pm_23, pm_24, pm_25, pm_26, pm_27, pm_29, pm_31, pm_34, pm_35, pm_9, pm_19, pm_20, pm_21, pm_22, mG_U, mG_8, mG_25, mG_1, mG_2, mG_3, mG_13, mG_14, mG_15, mG_16, mG_26, mG_27, mG_28, mG_29, mG_17, mG_18, mG_19, mG_20, mG_21, mG_22, mG_23, mG_24, kq_l, va_up_ne, va_up_self, hU7, hne, hc0]
    refine loopQ (fun q (y : (Nat → Int) × (Nat → Nat → Int32)) => den (callD (d + k + 3)) 191 77 [.ref o, .int (zI i), .int (zI t), .int (zI sum), .int (zI pr), .int (zI q)] [] (G M o S (y.1) kt (y.2) E mv)) (fun x => ∃ U' F', x = some (none, (G M o S (U') kt (F') E mv)) ∧ skr m U F U' F' i sum pr (pc S row (cls S).2 i (pt S row (cls S).2 (cls S).1 m k) (fun j => tb t ((cls S).2 j)) (fN (dF S (row i) (cls S).2 (fun u' => (dV S row (cls S).2 (cls S).1 m k u').1) (fun j => tb t ((cls S).2 j))) (cls S).1 0 ((dV S row (cls S).2 (cls S).1 m k (fun j => tb t ((cls S).2 j))).1, -1)).2)) (fun q y => skr m U F y.1 y.2 i sum pr (pc S row (cls S).2 i (pt S row (cls S).2 (cls S).1 m k) (fun j => tb t ((cls S).2 j)) (fN (dF S (row i) (cls S).2 (fun u' => (dV S row (cls S).2 (cls S).1 m k u').1) (fun j => tb t ((cls S).2 j))) (cnq S q) 0 ((dV S row (cls S).2 (cls S).1 m k (fun j => tb t ((cls S).2 j))).1, -1)).2)) n (fun q y hq hy => ?_) (fun y hy => ?_) n 0 (U0, F0) (by omega) hr0'
    · obtain ⟨Uq, Fq⟩ := y
      try dsimp only at hy ⊢
      have hq12 : q < 12 := by omega
      have hql : (q : Int) < S 8 0 := by omega
      have hU7q : Uq 7 = m := (hy.1 7 (by omega) (by omega)).trans hU7
      have hF7q : ∀ x, x < m → Fq 7 x = zI (row x) := fun x hx => by rw [hy.2.1 7 (by omega) (by omega)]; exact hF7 x hx
      have hbt := zI_tb12 ht hq12
      have hmp := r_mayPair (o := o) (M := M) (U := Uq) (kt := kt) (F := Fq) (E := E) (mv := mv) (d := d + k + 2) hI.bd hq12 (s := 1) (Or.inr rfl)
      left
      by_cases hu : tb t q = 0
      · by_cases hfr : fre S 1 q = 1
        · obtain ⟨q1, q2, q3⟩ := cnq_s1 hq12 hfr
          have hcond : S 2 q = 1 ∧ S 4 q < 0 := by
            unfold fre at hfr
            split at hfr
            · rename_i x; exact x.2
            · omega
          rw [if_pos hcond] at hmp
          have hcb := cm_b S (row i) q
          have hcm := r_common (o := o) (M := M) (U := Uq) (kt := kt) (F := va_up Fq 8 (upd (Fq 8) i (zI q))) (E := E) (mv := mv) (d := d + k + 1) hI.bd hri hq12
          have hpb := pc_b (S := S) (row := row) (col := (cls S).2) (cc := (cls S).1) (m := m) (k := k) (i := i) (u := fun j => tb t ((cls S).2 j)) (c := (fN (dF S (row i) (cls S).2 (fun u' => (dV S row (cls S).2 (cls S).1 m k u').1) (fun j => tb t ((cls S).2 j))) (cnq S q) 0 ((dV S row (cls S).2 (cls S).1 m k (fun j => tb t ((cls S).2 j))).1, -1)).2)
          have hbq : bok Uq := skr_bok hy hb (by omega) (by omega)
          obtain ⟨U1, F1, hc1, hr1⟩ := ih (i + 1) (by omega) (t ||| 2 ^ q) (sum + cm S (row i) q) (pr + 1) Uq (va_up Fq 8 (upd (Fq 8) i (zI q))) hU7q (fun x hx => by rw [va_up_ne Fq _ (show ¬ 7 = 8 by omega)]; exact hF7q x hx) (set_lt ht hq12) (by omega) (by omega) hbq
          rw [hnc] at hc1
          have hext : pt S row (cls S).2 (cls S).1 m k (fun j => tb ((t ||| 2 ^ q : Nat) : Int) ((cls S).2 j)) = pt S row (cls S).2 (cls S).1 m k (va_up (fun j => tb t ((cls S).2 j)) (cnq S q) 1) := pt_ext k _ _ (fun j hj => by
            rw [tb_set]
            by_cases e : j = cnq S q
            · subst e; rw [q3, if_pos rfl, va_up_at]
            · rw [va_up_ne _ _ e, if_neg (fun x => e (by rw [← x]; exact (col_in hj).2.2.symm))])
          rw [hext] at hr1
          have hstep := skr_step hy hr1
          have hcv : cvl S (row i) (cls S).2 (fun u' => (dV S row (cls S).2 (cls S).1 m k u').1) (fun j => tb t ((cls S).2 j)) (cls S).1 (fN (dF S (row i) (cls S).2 (fun u' => (dV S row (cls S).2 (cls S).1 m k u').1) (fun j => tb t ((cls S).2 j))) (cnq S q) 0 ((dV S row (cls S).2 (cls S).1 m k (fun j => tb t ((cls S).2 j))).1, -1)) := dF_or _ 0 _ (by omega) (Or.inl ⟨rfl, rfl⟩)
          have hV := pc_V hcv
          have hV2 := pt_V (S := S) (row := row) (col := (cls S).2) (cc := (cls S).1) (m := m) k (va_up (fun j => tb t ((cls S).2 j)) (cnq S q) 1)
          refine ⟨(U1, F1), ?_, ?_⟩
          · conv => lhs; rw [e_191_77]
            simp (disch := omega) only [e_191_79, e_191_80, e_191_83, e_191_86, e_191_87, e_191_89, e_191_90, e_191_91, e_191_92, e_191_95, e_191_96, e_191_98, e_191_99, e_191_102, e_191_105, e_191_106, e_191_109, e_191_110, e_191_112, e_191_113, e_191_114, e_191_115, e_191_116, e_191_117, e_191_118, e_191_119, e_191_121, e_191_122, e_191_123, e_191_124, e_191_125, e_191_126, e_191_129, e_191_130, e_191_131, e_191_133, e_191_136, e_191_137, e_191_139, e_191_140, e_191_141, e_191_144, e_191_147, gfA_i, pfA_i, List.getElem?_cons_zero, List.getElem?_cons_succ, oK_some, rK_some, pR_some, pR_none, kq_i, kq_r, kq_n, kq_u, kq_o, kq_l, isRf_r, isRf_n, isRf_o, okv_r, okv_n, okv_o, is2_r, is2_o, is2_n, rcv_r, isC_i, if_true, if_pos, zI_add, zI_sub, zI_mul, nc_12, nc_8, nc_6, nc_40, nc_250, nc_3, nc_s, len4_0, len4_1, len4_2, len4_3, len4_4, and_self, and_true, true_and, lenA_i, va_rf_s, va_rf_n, oN_none, oN_some, zI_lt, zI_eq, nat_tn, nc_s, Int.lt_irrefl, Int.reduceEq, Int.reduceNe, Int.reduceLT, Int.reduceLE, Int.reduceSub, Int.reduceAdd, Int.reduceMul, Int.reduceDiv, Int.reduceNeg, Int.reduceToNat, or_self, or_false, false_or, if_false, if_true, not_true_eq_false, not_false_eq_true, or_true, true_or, and_false, false_and, ldI_0, stI_0, isC_mcl, Int.add_zero, zJ_eq, Nat.reduceAdd, Nat.reduceLT, G_o, G_1, G_2, G_3, G_4, G_13, G_14, G_15, G_16, G_17, G_18, G_19, G_20, G_21, G_22, G_23, G_24, G_25, G_26, G_27, G_28, G_29, gm_0, gm_1, gm_2, gm_3, gm_4, gm_5, gm_6, gm_7, gm_8, gm_9, gm_10, gm_11, gm_12, gm_13, gm_14, gm_15, gm_16, gm_17, gm_18, gm_19, gm_20, gm_21, gm_22, gm_23, gm_24, gm_25, gm_26, gm_27, gm_28, gm_29, gm_30, gm_31, gm_32, gm_33, gm_34, gm_35, pm_7, pm_23, pm_24, pm_25, pm_26, pm_27, pm_29, pm_31, pm_34, pm_35, pm_9, pm_19, pm_20, pm_21, pm_22, mG_U, mG_8, mG_25, mG_1, mG_2, mG_3, mG_13, mG_14, mG_15, mG_16, mG_26, mG_27, mG_28, mG_29, mG_17, mG_18, mG_19, mG_20, mG_21, mG_22, mG_23, mG_24, kq_l, va_up_ne, va_up_self, hn, hbt, hu, hmp, hF7q i hi1, hcm, zI_set hq12, hc1]
          · try dsimp only
            rw [q1, fN_last]
            generalize fN (dF S (row i) (cls S).2 (fun u' => (dV S row (cls S).2 (cls S).1 m k u').1) (fun j => tb t ((cls S).2 j))) (cnq S q) 0 ((dV S row (cls S).2 (cls S).1 m k (fun j => tb t ((cls S).2 j))).1, -1) = a at *
            unfold dF
            rw [q3]
            by_cases hlt : a.1 < 8 * cm S (row i) q + 1 + (dV S row (cls S).2 (cls S).1 m k (va_up (fun j => tb t ((cls S).2 j)) (cnq S q) 1)).1
            · rw [if_pos ⟨by show tb t ((cls S).2 (cnq S q)) = 0; rw [q3]; exact hu, hlt⟩]
              have h5 := hstep.1 (by omega)
              have e6 : pc S row (cls S).2 i (pt S row (cls S).2 (cls S).1 m k) (fun j => tb t ((cls S).2 j)) ((cnq S q : Nat) : Int) = (cm S (row i) q + (pt S row (cls S).2 (cls S).1 m k (va_up (fun j => tb t ((cls S).2 j)) (cnq S q) 1)).1, 1 + (pt S row (cls S).2 (cls S).1 m k (va_up (fun j => tb t ((cls S).2 j)) (cnq S q) 1)).2.1, va_up (pt S row (cls S).2 (cls S).1 m k (va_up (fun j => tb t ((cls S).2 j)) (cnq S q) 1)).2.2 i q) := by
                unfold pc
                rw [if_neg (by omega), nat_tn, q3]
              rw [e6]
              exact h5
            · rw [if_neg (fun x => hlt x.2)]
              exact hstep.2 (by omega)
        · have hcond : ¬ (S 2 q = 1 ∧ S 4 q < 0) := fun x => hfr (if_pos ⟨hql, x⟩)
          rw [if_neg hcond] at hmp
          refine ⟨(Uq, Fq), ?_, ?_⟩
          · conv => lhs; rw [e_191_77]
            simp (disch := omega) only [e_191_79, e_191_80, e_191_83, e_191_86, e_191_87, e_191_89, e_191_90, e_191_91, e_191_92, e_191_95, e_191_96, e_191_98, e_191_99, e_191_102, e_191_105, e_191_106, e_191_109, e_191_110, e_191_112, e_191_113, e_191_114, e_191_115, e_191_116, e_191_117, e_191_118, e_191_119, e_191_121, e_191_122, e_191_123, e_191_124, e_191_125, e_191_126, e_191_129, e_191_130, e_191_131, e_191_133, e_191_136, e_191_137, e_191_139, e_191_140, e_191_141, e_191_144, e_191_147, gfA_i, pfA_i, List.getElem?_cons_zero, List.getElem?_cons_succ, oK_some, rK_some, pR_some, pR_none, kq_i, kq_r, kq_n, kq_u, kq_o, kq_l, isRf_r, isRf_n, isRf_o, okv_r, okv_n, okv_o, is2_r, is2_o, is2_n, rcv_r, isC_i, if_true, if_pos, zI_add, zI_sub, zI_mul, nc_12, nc_8, nc_6, nc_40, nc_250, nc_3, nc_s, len4_0, len4_1, len4_2, len4_3, len4_4, and_self, and_true, true_and, lenA_i, va_rf_s, va_rf_n, oN_none, oN_some, zI_lt, zI_eq, nat_tn, nc_s, Int.lt_irrefl, Int.reduceEq, Int.reduceNe, Int.reduceLT, Int.reduceLE, Int.reduceSub, Int.reduceAdd, Int.reduceMul, Int.reduceDiv, Int.reduceNeg, Int.reduceToNat, or_self, or_false, false_or, if_false, if_true, not_true_eq_false, not_false_eq_true, or_true, true_or, and_false, false_and, ldI_0, stI_0, isC_mcl, Int.add_zero, zJ_eq, Nat.reduceAdd, Nat.reduceLT, G_o, G_1, G_2, G_3, G_4, G_13, G_14, G_15, G_16, G_17, G_18, G_19, G_20, G_21, G_22, G_23, G_24, G_25, G_26, G_27, G_28, G_29, gm_0, gm_1, gm_2, gm_3, gm_4, gm_5, gm_6, gm_7, gm_8, gm_9, gm_10, gm_11, gm_12, gm_13, gm_14, gm_15, gm_16, gm_17, gm_18, gm_19, gm_20, gm_21, gm_22, gm_23, gm_24, gm_25, gm_26, gm_27, gm_28, gm_29, gm_30, gm_31, gm_32, gm_33, gm_34, gm_35, pm_7, pm_23, pm_24, pm_25, pm_26, pm_27, pm_29, pm_31, pm_34, pm_35, pm_9, pm_19, pm_20, pm_21, pm_22, mG_U, mG_8, mG_25, mG_1, mG_2, mG_3, mG_13, mG_14, mG_15, mG_16, mG_26, mG_27, mG_28, mG_29, mG_17, mG_18, mG_19, mG_20, mG_21, mG_22, mG_23, mG_24, kq_l, va_up_ne, va_up_self, hn, hbt, hu, hmp]
          · rw [cnq_s0 hfr]
            exact hy
      · have hu1 : tb t q = 1 := by rcases tb_01 (t : Int) q with h | h; exact absurd h hu; exact h
        refine ⟨(Uq, Fq), ?_, ?_⟩
        · conv => lhs; rw [e_191_77]
          simp (disch := omega) only [e_191_79, e_191_80, e_191_83, e_191_86, e_191_87, e_191_89, e_191_90, e_191_91, e_191_92, e_191_95, e_191_96, e_191_98, e_191_99, e_191_102, e_191_105, e_191_106, e_191_109, e_191_110, e_191_112, e_191_113, e_191_114, e_191_115, e_191_116, e_191_117, e_191_118, e_191_119, e_191_121, e_191_122, e_191_123, e_191_124, e_191_125, e_191_126, e_191_129, e_191_130, e_191_131, e_191_133, e_191_136, e_191_137, e_191_139, e_191_140, e_191_141, e_191_144, e_191_147, gfA_i, pfA_i, List.getElem?_cons_zero, List.getElem?_cons_succ, oK_some, rK_some, pR_some, pR_none, kq_i, kq_r, kq_n, kq_u, kq_o, kq_l, isRf_r, isRf_n, isRf_o, okv_r, okv_n, okv_o, is2_r, is2_o, is2_n, rcv_r, isC_i, if_true, if_pos, zI_add, zI_sub, zI_mul, nc_12, nc_8, nc_6, nc_40, nc_250, nc_3, nc_s, len4_0, len4_1, len4_2, len4_3, len4_4, and_self, and_true, true_and, lenA_i, va_rf_s, va_rf_n, oN_none, oN_some, zI_lt, zI_eq, nat_tn, nc_s, Int.lt_irrefl, Int.reduceEq, Int.reduceNe, Int.reduceLT, Int.reduceLE, Int.reduceSub, Int.reduceAdd, Int.reduceMul, Int.reduceDiv, Int.reduceNeg, Int.reduceToNat, or_self, or_false, false_or, if_false, if_true, not_true_eq_false, not_false_eq_true, or_true, true_or, and_false, false_and, ldI_0, stI_0, isC_mcl, Int.add_zero, zJ_eq, Nat.reduceAdd, Nat.reduceLT, G_o, G_1, G_2, G_3, G_4, G_13, G_14, G_15, G_16, G_17, G_18, G_19, G_20, G_21, G_22, G_23, G_24, G_25, G_26, G_27, G_28, G_29, gm_0, gm_1, gm_2, gm_3, gm_4, gm_5, gm_6, gm_7, gm_8, gm_9, gm_10, gm_11, gm_12, gm_13, gm_14, gm_15, gm_16, gm_17, gm_18, gm_19, gm_20, gm_21, gm_22, gm_23, gm_24, gm_25, gm_26, gm_27, gm_28, gm_29, gm_30, gm_31, gm_32, gm_33, gm_34, gm_35, pm_7, pm_23, pm_24, pm_25, pm_26, pm_27, pm_29, pm_31, pm_34, pm_35, pm_9, pm_19, pm_20, pm_21, pm_22, mG_U, mG_8, mG_25, mG_1, mG_2, mG_3, mG_13, mG_14, mG_15, mG_16, mG_26, mG_27, mG_28, mG_29, mG_17, mG_18, mG_19, mG_20, mG_21, mG_22, mG_23, mG_24, kq_l, va_up_ne, va_up_self, hn, hbt, hu1]
        · by_cases hfr : fre S 1 q = 1
          · obtain ⟨q1, q2, q3⟩ := cnq_s1 hq12 hfr
            rw [q1, fN_last]
            have e7 : ∀ a, dF S (row i) (cls S).2 (fun u' => (dV S row (cls S).2 (cls S).1 m k u').1) (fun j => tb t ((cls S).2 j)) (cnq S q) a = a := fun a => if_neg (fun x => hu (by have h8 : tb t ((cls S).2 (cnq S q)) = 0 := x.1; rwa [q3] at h8))
            rw [e7]
            exact hy
          · rw [cnq_s0 hfr]
            exact hy
    · obtain ⟨Uq, Fq⟩ := y
      try dsimp only at hy ⊢
      refine ⟨Uq, Fq, ?_, ?_⟩
      · rw [e_191_77]
        simp (disch := omega) only [e_191_79, e_191_80, e_191_83, e_191_150, gfA_i, pfA_i, List.getElem?_cons_zero, List.getElem?_cons_succ, oK_some, rK_some, pR_some, pR_none, kq_i, kq_r, kq_n, kq_u, kq_o, kq_l, isRf_r, isRf_n, isRf_o, okv_r, okv_n, okv_o, is2_r, is2_o, is2_n, rcv_r, isC_i, if_true, if_pos, zI_add, zI_sub, zI_mul, nc_12, nc_8, nc_6, nc_40, nc_250, nc_3, nc_s, len4_0, len4_1, len4_2, len4_3, len4_4, and_self, and_true, true_and, lenA_i, va_rf_s, va_rf_n, oN_none, oN_some, zI_lt, zI_eq, nat_tn, nc_s, Int.lt_irrefl, Int.reduceEq, Int.reduceNe, Int.reduceLT, Int.reduceLE, Int.reduceSub, Int.reduceAdd, Int.reduceMul, Int.reduceDiv, Int.reduceNeg, Int.reduceToNat, or_self, or_false, false_or, if_false, if_true, not_true_eq_false, not_false_eq_true, or_true, true_or, and_false, false_and, ldI_0, stI_0, isC_mcl, Int.add_zero, zJ_eq, Nat.reduceAdd, Nat.reduceLT, G_o, G_1, G_2, G_3, G_4, G_13, G_14, G_15, G_16, G_17, G_18, G_19, G_20, G_21, G_22, G_23, G_24, G_25, G_26, G_27, G_28, G_29, gm_0, gm_1, gm_2, gm_3, gm_4, gm_5, gm_6, gm_7, gm_8, gm_9, gm_10, gm_11, gm_12, gm_13, gm_14, gm_15, gm_16, gm_17, gm_18, gm_19, gm_20, gm_21, gm_22, gm_23, gm_24, gm_25, gm_26, gm_27, gm_28, gm_29, gm_30, gm_31, gm_32, gm_33, gm_34, gm_35, pm_7, pm_23, pm_24, pm_25, pm_26, pm_27, pm_29, pm_31, pm_34, pm_35, pm_9, pm_19, pm_20, pm_21, pm_22, mG_U, mG_8, mG_25, mG_1, mG_2, mG_3, mG_13, mG_14, mG_15, mG_16, mG_26, mG_27, mG_28, mG_29, mG_17, mG_18, mG_19, mG_20, mG_21, mG_22, mG_23, mG_24, kq_l, va_up_ne, va_up_self, hn]
      · rw [cnq_n hn hn2] at hy
        exact hy
end M2
