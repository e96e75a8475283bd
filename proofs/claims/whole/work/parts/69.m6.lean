/-- what the class finds -/
def fnd (S : Sc) (X : Xm) : Prop := gth S X ∧ (X.1 2 = (ptS S).1 ∧ X.1 3 = (ptS S).2.1) ∧ ∀ x, x < (rws S).1 → X.2.2.2.1 x = optR ((ptS S).2.2 x)
abbrev ptN (S : Sc) (k t : Nat) : Int × Int × (Nat → Int) := pt S (rws S).2 (cls S).2 (cls S).1 (rws S).1 k (fun x => tb (t : Int) x)
theorem ptN_n {S : Sc} {x t : Nat} (hx : x < (rws S).1) (h : (dvS S ((rws S).1 - x) t).2 < 0) : ptN S ((rws S).1 - x) t = ((ptN S ((rws S).1 - (x + 1)) t).1, (ptN S ((rws S).1 - (x + 1)) t).2.1, va_up (ptN S ((rws S).1 - (x + 1)) t).2.2 x (-1)) := by
  have hk1 : (rws S).1 - x = ((rws S).1 - (x + 1)) + 1 := by omega
  have hk2 : (rws S).1 - ((rws S).1 - (x + 1) + 1) = x := by omega
  unfold dvS at h
  unfold ptN
  rw [hk1] at h ⊢
  show pc S (rws S).2 (cls S).2 ((rws S).1 - ((rws S).1 - (x + 1) + 1)) _ _ _ = _
  rw [hk2]
  unfold pc
  rw [if_pos h]
theorem ptN_s {S : Sc} {x t j : Nat} (hx : x < (rws S).1) (h : (dvS S ((rws S).1 - x) t).2 = (j : Int)) : ptN S ((rws S).1 - x) t = (cm S ((rws S).2 x) ((cls S).2 j) + (ptN S ((rws S).1 - (x + 1)) (t ||| 2 ^ j)).1, 1 + (ptN S ((rws S).1 - (x + 1)) (t ||| 2 ^ j)).2.1, va_up (ptN S ((rws S).1 - (x + 1)) (t ||| 2 ^ j)).2.2 x ((cls S).2 j)) := by
  have hk1 : (rws S).1 - x = ((rws S).1 - (x + 1)) + 1 := by omega
  have hk2 : (rws S).1 - ((rws S).1 - (x + 1) + 1) = x := by omega
  unfold dvS at h
  unfold ptN
  rw [tb_up]
  rw [hk1] at h ⊢
  show pc S (rws S).2 (cls S).2 ((rws S).1 - ((rws S).1 - (x + 1) + 1)) _ _ _ = _
  rw [hk2]
  unfold pc
  rw [h, if_neg (by omega), nat_tn]
theorem dvS_or {S : Sc} {x t : Nat} (hx : x < (rws S).1) : (dvS S ((rws S).1 - x) t).2 = -1 ∨ ∃ j, j < (cls S).1 ∧ (dvS S ((rws S).1 - x) t).2 = (j : Int) := by
  have hk1 : (rws S).1 - x = ((rws S).1 - (x + 1)) + 1 := by omega
  unfold dvS
  rw [hk1]
  rcases dV_or (S := S) (row := (rws S).2) (col := (cls S).2) (cc := (cls S).1) (m := (rws S).1) ((rws S).1 - (x + 1)) (fun x => tb (t : Int) x) with ⟨h1, h2⟩ | ⟨j, h1, h2, h3, h4⟩
  · exact Or.inl h1
  · exact Or.inr ⟨j, h1, h2⟩
section K6m
variable {S S2 K : Sc} {kp : Int} {X X' : Xm} {T : Sc} {nC : Nat → Int} {E : Nat → Nat → Int64} {z : Int} {B : Nat → Int32} {Y : Yt} {Rf : Nat → Int32} {D : AM} {y5 y3 y4 : Value}
theorem k_choose {d : Nat} (hI : In S) (hg : gth S X) (ht : tblR S X 0) : ∃ X', callD (d + 5) 10 [.ref 43] (H S S2 K kp X T nC E z B Y Rf D) = some (none, (H S S2 K kp (X') T nC E z B Y Rf D)) ∧ fnd S X' := by
  have h6 := rws_le S
  have h12 := rc_12 S
  have hR : ∀ X, RS (H S S2 K kp (X) T nC E z B Y Rf D) 1 S := fun X => RS_1
  have mU43_y : ∀ {X : Xm} {v w : Int}, mU (H S S2 K kp X T nC E z B Y Rf D) 43 (.inl (0, [.ref 44, .ref 45, .ref 46, .ref 47, .int (zI (X.1 0)), .int (zI (X.1 1)), .int (zI v), .int (zI w)])) = (H S S2 K kp ((va_up (va_up X.1 2 v) 3 w, X.2)) T nC E z B Y Rf D) := fun {X v w} => mU_43 (f := va_up (va_up X.1 2 v) 3 w)
  have hp0 : ptN S (rws S).1 0 = ptS S := by
    unfold ptN ptS
    rw [show (fun x => tb ((0 : Nat) : Int) x) = fun _ => 0 from funext fun j => tb_zero j]
  rw [c_10]
  simp (disch := omega) only [e_10_0, e_10_1, e_10_2, e_10_5, e_10_6, e_10_7, e_10_10, e_10_11, e_10_12, e_10_13, gfA_i, pfA_i, List.getElem?_cons_zero, List.getElem?_cons_succ, oK_some, rK_some, pR_some, pR_none, kq_i, kq_r, kq_n, kq_u, kq_o, kq_l, isRf_r, isRf_n, isRf_o, okv_r, okv_n, okv_o, is2_r, is2_o, is2_n, rcv_r, isC_i, if_true, if_pos, zI_add, zI_sub, zI_mul, nc_12, nc_8, nc_6, nc_40, nc_250, nc_3, len4_0, len4_1, len4_2, len4_3, len4_4, and_self, and_true, true_and, lenA_i, va_rf_s, va_rf_n, oN_none, oN_some, zI_lt, zI_eq, nat_tn, Int.lt_irrefl, Int.reduceEq, Int.reduceNe, Int.reduceLT, Int.reduceLE, Int.reduceSub, Int.reduceAdd, Int.reduceMul, Int.reduceDiv, Int.reduceNeg, Int.reduceToNat, or_self, or_false, false_or, if_false, if_true, not_true_eq_false, not_false_eq_true, or_true, true_or, and_false, false_and, ldI_0, stI_0, ldQ_q, gfA_0, gfA_43, gfA_65, H_0, H_43, H_48, H_65, H_66, H_67, kq_l, isC_0, isC_43, isC_65, isC_sh, gfA_sh, c43, mU_at, mU_mU, List.set_cons_succ, List.set_cons_zero, okv_0, okv_1, okv_i, okv_r, okv_n, okv_o, List.length_cons, List.length_nil, Nat.reduceAdd, Nat.reduceLT, Nat.zero_le, Nat.reduceLeDiff, mU43_y]
  refine loopQ (fun x (y : (Xm × Nat) × Value × Value) => den (callD (d + 4)) 10 14 [.ref 43, .int (zI y.1.2), .int (zI x), y.2.1, y.2.2] [] (H S S2 K kp ((y.1.1)) T nC E z B Y Rf D)) (fun x => ∃ X', x = some (none, (H S S2 K kp (X') T nC E z B Y Rf D)) ∧ fnd S X') (fun x y => (gth S y.1.1 ∧ tblR S y.1.1 0 ∧ y.1.2 < 2 ^ (cls S).1 ∧ pop12 y.1.2 ≤ x) ∧ (y.1.1.1 2 + (ptN S ((rws S).1 - x) y.1.2).1 = (ptS S).1 ∧ y.1.1.1 3 + (ptN S ((rws S).1 - x) y.1.2).2.1 = (ptS S).2.1) ∧ (∀ w, x ≤ w → w < (rws S).1 → (ptS S).2.2 w = (ptN S ((rws S).1 - x) y.1.2).2.2 w) ∧ ∀ w, w < x → y.1.1.2.2.2.1 w = optR ((ptS S).2.2 w)) (rws S).1 (fun x y hx hy => ?_) (fun y hy => ?_) (rws S).1 0 (((va_up (va_up X.1 2 0) 3 0, X.2), 0), uu, uu) (by omega) ⟨⟨hg, ht, Nat.two_pow_pos _, (show pop12 0 ≤ 0 by decide)⟩, ⟨?_, ?_⟩, fun w _ hw => ?_, fun w hw => absurd hw (Nat.not_lt_zero w)⟩
  · obtain ⟨⟨X, t⟩, y3, y4⟩ := y
    obtain ⟨⟨hg, ht, h2, hp⟩, ⟨hs1, hs2⟩, hc1, hc2⟩ := hy
    try dsimp only at hg ht h2 hp hs1 hs2 hc1 hc2 ⊢
    have htx : tblR S X x := fun r h1 h2 t' h3 h4 => ht r (by omega) h2 t' h3 h4
    have hc := rcp hx
    have g1 := hg.1
    have hfb := k_firstBest (X := X) (S := S) (S2 := S2) (K := K) (kp := kp) (T := T) (nC := nC) (E := E) (z := z) (B := B) (Y := Y) (Rf := Rf) (D := D) (d := d) hI hg htx hx h2 hp
    have e0 : (x : Int) < ((rws S).1 : Int) := by omega
    have e6 : (x : Int) < 6 := by omega
    left
    rcases dvS_or (t := t) hx with hj | ⟨j, hj, hj2⟩
    · have hpt := ptN_n hx (by omega : (dvS S ((rws S).1 - x) t).2 < 0)
      rw [hj] at hfb
      have hst := stQ_n (M := (H S S2 K kp (X) T nC E z B Y Rf D)) (t := 2) (n := 6) (f := X.2.2.2.1) (a := (x : Int)) (Or.inl rfl) (by omega) (by omega) (by omega)
      rw [nat_tn] at hst
      rw [hpt] at hs1 hs2 hc1
      refine ⟨(((X.1, X.2.1, X.2.2.1, va_up X.2.2.2.1 x none, X.2.2.2.2), t), .int (zI (-1)), .null), ?_, ⟨hg, ht, h2, (show pop12 t ≤ x + 1 by omega)⟩, ⟨hs1, hs2⟩, fun w h1 h3 => ?_, fun w h1 => ?_⟩
      · conv => lhs; rw [e_10_14]
        simp (disch := omega) only [e_10_15, e_10_16, e_10_19, e_10_22, e_10_23, e_10_25, e_10_28, e_10_29, e_10_30, e_10_31, e_10_34, e_10_35, e_10_36, e_10_37, e_10_40, e_10_42, e_10_43, e_10_46, e_10_47, e_10_49, e_10_50, e_10_52, e_10_52_n, e_10_52_r, e_10_55, e_10_56, e_10_57, e_10_58, e_10_59, e_10_60, e_10_61, e_10_62, e_10_62_i, e_10_63, e_10_66, e_10_68, e_10_69, e_10_72, e_10_73, e_10_74, e_10_77, e_10_78, e_10_81, e_10_82, e_10_82_i, e_10_83, e_10_86, e_10_87, e_10_88, e_10_91, e_10_94, gfA_i, pfA_i, List.getElem?_cons_zero, List.getElem?_cons_succ, oK_some, rK_some, pR_some, pR_none, kq_i, kq_r, kq_n, kq_u, kq_o, kq_l, isRf_r, isRf_n, isRf_o, okv_r, okv_n, okv_o, is2_r, is2_o, is2_n, rcv_r, isC_i, if_true, if_pos, zI_add, zI_sub, zI_mul, nc_12, nc_8, nc_6, nc_40, nc_250, nc_3, nc_s, len4_0, len4_1, len4_2, len4_3, len4_4, and_self, and_true, true_and, lenA_i, va_rf_s, va_rf_n, oN_none, oN_some, zI_lt, zI_eq, nat_tn, nc_s, Int.lt_irrefl, Int.reduceEq, Int.reduceNe, Int.reduceLT, Int.reduceLE, Int.reduceSub, Int.reduceAdd, Int.reduceMul, Int.reduceDiv, Int.reduceNeg, Int.reduceToNat, or_self, or_false, false_or, if_false, if_true, not_true_eq_false, not_false_eq_true, or_true, true_or, and_false, false_and, ldI_0, stI_0, ldQ_q, gfA_0, gfA_43, gfA_65, H_0, H_43, H_48, H_65, H_66, H_67, kq_l, isC_0, isC_43, isC_65, isC_sh, gfA_sh, isC_43, g1, e0, e6, hfb, k_colAt_n, H_46, hst, mU_46]
      · rw [hc1 w (by omega) h3]
        exact va_up_ne _ _ (by omega)
      · by_cases ew : w = x
        · subst ew
          have h9 := hc1 w (Nat.le_refl _) hx
          dsimp only at h9
          rw [va_up_at] at h9
          show va_up X.2.2.2.1 w none w = _
          rw [va_up_at, h9]
          rfl
        · show va_up X.2.2.2.1 x none w = _
          rw [va_up_ne _ _ ew]
          exact hc2 w (by omega)
    · have hpt := ptN_s hx hj2
      rw [hj2] at hfb
      have hr12 := (row_in hx).1
      have hc12 := (col_in hj).1
      have hca := k_colAt_s (X := X) (S := S) (S2 := S2) (K := K) (kp := kp) (T := T) (nC := nC) (E := E) (z := z) (B := B) (Y := Y) (Rf := Rf) (D := D) (d := d + 3) hg hj
      have hiq : isC ((H S S2 K kp (X) T nC E z B Y Rf D).2.2 (1 + 2 + (cls S).2 j)) 1 = true := by rw [(hR X).2.2 _ hc12]; rfl
      have hst := stQ_r (M := (H S S2 K kp (X) T nC E z B Y Rf D)) (t := 2) (n := 6) (f := X.2.2.2.1) (a := (x : Int)) (q := 1 + 2 + (cls S).2 j) (Or.inl rfl) (by omega) (by omega) (by omega) hiq
      rw [nat_tn] at hst
      have hRx := hR (X.1, X.2.1, X.2.2.1, va_up X.2.2.2.1 x (some (1 + 2 + (cls S).2 j)), X.2.2.2.2)
      have hcm := m_common (d := d + 2) hI hRx hc12 hr12
      rw [cm_comm] at hcm
      have hzs := zI_set (t := t) (show j < 12 by omega)
      have hrw := hg.2.2.1 x hx
      rw [hpt] at hs1 hs2 hc1
      dsimp only at hs1 hs2 hc1
      have hiR := hRx.2.2 _ hc12
      have hm43 : ∀ v w, mU (H S S2 K kp ((X.1, X.2.1, X.2.2.1, va_up X.2.2.2.1 x (some (1 + 2 + (cls S).2 j)), X.2.2.2.2)) T nC E z B Y Rf D) 43 (.inl (0, [.ref 44, .ref 45, .ref 46, .ref 47, .int (zI ((rws S).1 : Int)), .int (zI (X.1 1)), .int (zI v), .int (zI w)])) = (H S S2 K kp ((va_up (va_up X.1 2 v) 3 w, X.2.1, X.2.2.1, va_up X.2.2.2.1 x (some (1 + 2 + (cls S).2 j)), X.2.2.2.2)) T nC E z B Y Rf D) := fun v w => by
        rw [← g1]
        exact mU43_y
      have hm44 : ∀ v w w', mU (H S S2 K kp ((va_up (va_up X.1 2 v) 3 w, X.2.1, X.2.2.1, va_up X.2.2.2.1 x (some (1 + 2 + (cls S).2 j)), X.2.2.2.2)) T nC E z B Y Rf D) 43 (.inl (0, [.ref 44, .ref 45, .ref 46, .ref 47, .int (zI (va_up (va_up X.1 2 v) 3 w 0)), .int (zI (va_up (va_up X.1 2 v) 3 w 1)), .int (zI (va_up (va_up X.1 2 v) 3 w 2)), .int (zI w')])) = (H S S2 K kp ((va_up (va_up X.1 2 v) 3 w', X.2.1, X.2.2.1, va_up X.2.2.2.1 x (some (1 + 2 + (cls S).2 j)), X.2.2.2.2)) T nC E z B Y Rf D) := fun v w w' => by
        have h := mU43_3 (X := (va_up (va_up X.1 2 v) 3 w, X.2.1, X.2.2.1, va_up X.2.2.2.1 x (some (1 + 2 + (cls S).2 j)), X.2.2.2.2)) (S := S) (S2 := S2) (K := K) (kp := kp) (T := T) (nC := nC) (E := E) (z := z) (B := B) (Y := Y) (Rf := Rf) (D := D) (v := w')
        refine h.trans ?_
        show (H S S2 K kp ((va_up (va_up (va_up X.1 2 v) 3 w) 3 w', X.2.1, X.2.2.1, va_up X.2.2.2.1 x (some (1 + 2 + (cls S).2 j)), X.2.2.2.2)) T nC E z B Y Rf D) = _
        rw [va_up2]
      simp only [Nat.reduceAdd] at hm43 hm44
      refine ⟨(((va_up (va_up X.1 2 (X.1 2 + cm S ((rws S).2 x) ((cls S).2 j))) 3 (X.1 3 + 1), X.2.1, X.2.2.1, va_up X.2.2.2.1 x (some (1 + 2 + (cls S).2 j)), X.2.2.2.2), t ||| 2 ^ j), .int (zI j), .ref (1 + 2 + (cls S).2 j)), ?_, ⟨hg, ht, set_ltp h2 hj, Nat.le_trans (pop_set (by omega) (by omega)) (by omega)⟩, ⟨?_, ?_⟩, fun w h1 h3 => ?_, fun w h1 => ?_⟩
      · conv => lhs; rw [e_10_14]
        simp (disch := omega) only [e_10_15, e_10_16, e_10_19, e_10_22, e_10_23, e_10_25, e_10_28, e_10_29, e_10_30, e_10_31, e_10_34, e_10_35, e_10_36, e_10_37, e_10_40, e_10_42, e_10_43, e_10_46, e_10_47, e_10_49, e_10_50, e_10_52, e_10_52_n, e_10_52_r, e_10_55, e_10_56, e_10_57, e_10_58, e_10_59, e_10_60, e_10_61, e_10_62, e_10_62_i, e_10_63, e_10_66, e_10_68, e_10_69, e_10_72, e_10_73, e_10_74, e_10_77, e_10_78, e_10_81, e_10_82, e_10_82_i, e_10_83, e_10_86, e_10_87, e_10_88, e_10_91, e_10_94, gfA_i, pfA_i, List.getElem?_cons_zero, List.getElem?_cons_succ, oK_some, rK_some, pR_some, pR_none, kq_i, kq_r, kq_n, kq_u, kq_o, kq_l, isRf_r, isRf_n, isRf_o, okv_r, okv_n, okv_o, is2_r, is2_o, is2_n, rcv_r, isC_i, if_true, if_pos, zI_add, zI_sub, zI_mul, nc_12, nc_8, nc_6, nc_40, nc_250, nc_3, nc_s, len4_0, len4_1, len4_2, len4_3, len4_4, and_self, and_true, true_and, lenA_i, va_rf_s, va_rf_n, oN_none, oN_some, zI_lt, zI_eq, nat_tn, nc_s, Int.lt_irrefl, Int.reduceEq, Int.reduceNe, Int.reduceLT, Int.reduceLE, Int.reduceSub, Int.reduceAdd, Int.reduceMul, Int.reduceDiv, Int.reduceNeg, Int.reduceToNat, or_self, or_false, false_or, if_false, if_true, not_true_eq_false, not_false_eq_true, or_true, true_or, and_false, false_and, ldI_0, stI_0, ldQ_q, gfA_0, gfA_43, gfA_65, H_0, H_43, H_48, H_65, H_66, H_67, kq_l, isC_0, isC_43, isC_65, isC_sh, gfA_sh, isC_43, g1, e0, e6, hfb, hca, H_44, H_46, hst, mU_46, hzs, hrw, hiR, pcl, hcm, c43, mU_at, mU_mU, List.set_cons_succ, List.set_cons_zero, okv_0, okv_1, okv_i, okv_r, okv_n, okv_o, List.length_cons, List.length_nil, Nat.reduceAdd, Nat.reduceLT, Nat.zero_le, Nat.reduceLeDiff, hm43, hm44]
      · show X.1 2 + cm S ((rws S).2 x) ((cls S).2 j) + (ptN S ((rws S).1 - (x + 1)) (t ||| 2 ^ j)).1 = _
        omega
      · show X.1 3 + 1 + (ptN S ((rws S).1 - (x + 1)) (t ||| 2 ^ j)).2.1 = _
        omega
      · rw [hc1 w (by omega) h3]
        exact va_up_ne _ _ (by omega)
      · by_cases ew : w = x
        · subst ew
          have h9 := hc1 w (Nat.le_refl _) hx
          rw [va_up_at] at h9
          show va_up X.2.2.2.1 w (some (1 + 2 + (cls S).2 j)) w = _
          rw [va_up_at, h9]
          unfold optR
          rw [if_neg (by omega), nat_tn]
        · show va_up X.2.2.2.1 x (some (1 + 2 + (cls S).2 j)) w = _
          rw [va_up_ne _ _ ew]
          exact hc2 w (by omega)
  · obtain ⟨⟨X, t⟩, y3, y4⟩ := y
    obtain ⟨⟨hg, ht, h2, hp⟩, ⟨hs1, hs2⟩, hc1, hc2⟩ := hy
    try dsimp only at hg ht h2 hp hs1 hs2 hc1 hc2 ⊢
    have g1 := hg.1
    have e0 : ptN S ((rws S).1 - (rws S).1) t = (0, 0, fun _ => -1) := by rw [Nat.sub_self]; rfl
    rw [e0] at hs1 hs2
    dsimp only at hs1 hs2
    refine ⟨X, ?_, hg, ⟨by omega, by omega⟩, hc2⟩
    rw [e_10_14]
    simp (disch := omega) only [e_10_15, e_10_16, e_10_19, e_10_97, gfA_i, pfA_i, List.getElem?_cons_zero, List.getElem?_cons_succ, oK_some, rK_some, pR_some, pR_none, kq_i, kq_r, kq_n, kq_u, kq_o, kq_l, isRf_r, isRf_n, isRf_o, okv_r, okv_n, okv_o, is2_r, is2_o, is2_n, rcv_r, isC_i, if_true, if_pos, zI_add, zI_sub, zI_mul, nc_12, nc_8, nc_6, nc_40, nc_250, nc_3, nc_s, len4_0, len4_1, len4_2, len4_3, len4_4, and_self, and_true, true_and, lenA_i, va_rf_s, va_rf_n, oN_none, oN_some, zI_lt, zI_eq, nat_tn, nc_s, Int.lt_irrefl, Int.reduceEq, Int.reduceNe, Int.reduceLT, Int.reduceLE, Int.reduceSub, Int.reduceAdd, Int.reduceMul, Int.reduceDiv, Int.reduceNeg, Int.reduceToNat, or_self, or_false, false_or, if_false, if_true, not_true_eq_false, not_false_eq_true, or_true, true_or, and_false, false_and, ldI_0, stI_0, ldQ_q, gfA_0, gfA_43, gfA_65, H_0, H_43, H_48, H_65, H_66, H_67, kq_l, isC_0, isC_43, isC_65, isC_sh, gfA_sh, g1]
  · show (0 : Int) + (ptN S ((rws S).1 - 0) 0).1 = _
    rw [Nat.sub_zero, hp0]; omega
  · show (0 : Int) + (ptN S ((rws S).1 - 0) 0).2.1 = _
    rw [Nat.sub_zero, hp0]; omega
  · show _ = (ptN S ((rws S).1 - 0) 0).2.2 w
    rw [Nat.sub_zero, hp0]
theorem k_solve {d : Nat} (hI : In S) : ∃ X', callD (d + 6) 5 [.ref 43, .ref 1] (H S S2 K kp X T nC E z B Y Rf D) = some (none, (H S S2 K kp (X') T nC E z B Y Rf D)) ∧ fnd S X' := by
  obtain ⟨X1, h1, hg1⟩ := k_gather (X := X) (S := S) (S2 := S2) (K := K) (kp := kp) (T := T) (nC := nC) (E := E) (z := z) (B := B) (Y := Y) (Rf := Rf) (D := D) (d := d + 3) hI
  obtain ⟨X2, y, h2, hg2, ht2⟩ := k_solveL (S := S) (S2 := S2) (K := K) (kp := kp) (T := T) (nC := nC) (E := E) (z := z) (B := B) (Y := Y) (Rf := Rf) (D := D) (d := d + 1) hI (rws S).1 (Nat.le_refl _) X1 uu hg1 (fun r h1 h2 => by omega)
  obtain ⟨X3, h3, hf⟩ := k_choose (X := X2) (S := S) (S2 := S2) (K := K) (kp := kp) (T := T) (nC := nC) (E := E) (z := z) (B := B) (Y := Y) (Rf := Rf) (D := D) (d := d) hI hg2 ht2
  have g1 := hg1.1
  have e1 : ((rws S).1 : Int) - 1 = ((rws S).1 : Int) + -1 := by omega
  refine ⟨X3, ?_, hf⟩
  rw [c_5 (is2_r _)]
  simp (disch := omega) only [e_5_0, e_5_1, e_5_2, e_5_5, e_5_6, e_5_9, e_5_10, e_5_11, gfA_i, pfA_i, List.getElem?_cons_zero, List.getElem?_cons_succ, oK_some, rK_some, pR_some, pR_none, kq_i, kq_r, kq_n, kq_u, kq_o, kq_l, isRf_r, isRf_n, isRf_o, okv_r, okv_n, okv_o, is2_r, is2_o, is2_n, rcv_r, isC_i, if_true, if_pos, zI_add, zI_sub, zI_mul, nc_12, nc_8, nc_6, nc_40, nc_250, nc_3, len4_0, len4_1, len4_2, len4_3, len4_4, and_self, and_true, true_and, lenA_i, va_rf_s, va_rf_n, oN_none, oN_some, zI_lt, zI_eq, nat_tn, Int.lt_irrefl, Int.reduceEq, Int.reduceNe, Int.reduceLT, Int.reduceLE, Int.reduceSub, Int.reduceAdd, Int.reduceMul, Int.reduceDiv, Int.reduceNeg, Int.reduceToNat, or_self, or_false, false_or, if_false, if_true, not_true_eq_false, not_false_eq_true, or_true, true_or, and_false, false_and, ldI_0, stI_0, ldQ_q, gfA_0, gfA_43, gfA_65, H_0, H_43, H_48, H_65, H_66, H_67, kq_l, isC_0, isC_43, isC_65, isC_sh, gfA_sh, isC_43, h1, g1, e1]
  refine h2.trans ?_
  simp (disch := omega) only [e_5_54, e_5_55, e_5_58, gfA_i, pfA_i, List.getElem?_cons_zero, List.getElem?_cons_succ, oK_some, rK_some, pR_some, pR_none, kq_i, kq_r, kq_n, kq_u, kq_o, kq_l, isRf_r, isRf_n, isRf_o, okv_r, okv_n, okv_o, is2_r, is2_o, is2_n, rcv_r, isC_i, if_true, if_pos, zI_add, zI_sub, zI_mul, nc_12, nc_8, nc_6, nc_40, nc_250, nc_3, len4_0, len4_1, len4_2, len4_3, len4_4, and_self, and_true, true_and, lenA_i, va_rf_s, va_rf_n, oN_none, oN_some, zI_lt, zI_eq, nat_tn, Int.lt_irrefl, Int.reduceEq, Int.reduceNe, Int.reduceLT, Int.reduceLE, Int.reduceSub, Int.reduceAdd, Int.reduceMul, Int.reduceDiv, Int.reduceNeg, Int.reduceToNat, or_self, or_false, false_or, if_false, if_true, not_true_eq_false, not_false_eq_true, or_true, true_or, and_false, false_and, ldI_0, stI_0, ldQ_q, gfA_0, gfA_43, gfA_65, H_0, H_43, H_48, H_65, H_66, H_67, kq_l, isC_0, isC_43, isC_65, isC_sh, gfA_sh, isC_43, h3]
end K6m
theorem Rl_X {S S2 K : Sc} {kp : Int} {X X' : Xm} {T : Sc} {nC : Nat → Int} {E : Nat → Nat → Int64} {z : Int} {B : Nat → Int32} {Y : Yt} {Rf : Nat → Int32} {U U' : Nat → Int} {kt : Option Nat × Option Nat} {F F' : Nat → Nat → Int32} {mv : Nat → Int64} {D : AM} (h : Rl (S, S2, K, kp, X, T, nC, E, z, B, Y, Rf, U, kt, F, mv, D)) (hU : U' 0 = U 0) (hF : ∀ y, y < 6 → F' y = F y) : Rl (S, S2, K, kp, (X'), T, nC, E, z, B, Y, Rf, (U'), kt, (F'), mv, D) := by
  obtain ⟨hI, hT, ⟨hF0, hF1, hF2⟩, hF4, hF5, hU0, hz, hK⟩ := h
  refine ⟨hI, fun s hs => ?_, ⟨by rw [hF 0 (by omega)]; exact hF0, by rw [hF 1 (by omega)]; exact hF1, by rw [hF 2 (by omega)]; exact hF2⟩, (hF 4 (by omega)).trans hF4, (hF 5 (by omega)).trans hF5, hU.trans hU0, hz, hK⟩
  obtain ⟨t0, t1, t2, t3⟩ := hT s hs
  exact ⟨t0, t1, t2, fun h => by rw [hF 3 (by omega)]; exact t3 h⟩
theorem ptS_c {S : Sc} {x : Nat} (hx : x < (rws S).1) : (ptS S).2.2 x = -1 ∨ (0 ≤ (ptS S).2.2 x ∧ (ptS S).2.2 x < 12 ∧ fre S 1 ((ptS S).2.2 x).toNat = 1) := by
  have key : ∀ k t, k ≤ (rws S).1 → ∀ x, (rws S).1 - k ≤ x → x < (rws S).1 → (ptN S k t).2.2 x = -1 ∨ (0 ≤ (ptN S k t).2.2 x ∧ (ptN S k t).2.2 x < 12 ∧ fre S 1 ((ptN S k t).2.2 x).toNat = 1) := by
    intro k
    induction k with
    | zero => intro t _ x h1 h2; omega
    | succ k ih =>
      intro t hk x h1 h2
      have hy : (rws S).1 - (k + 1) < (rws S).1 := by omega
      have ek : (rws S).1 - ((rws S).1 - (k + 1)) = k + 1 := by omega
      have ek2 : (rws S).1 - ((rws S).1 - (k + 1) + 1) = k := by omega
      rcases dvS_or (t := t) hy with hj | ⟨j, hj, hj2⟩
      · have h := ptN_n hy (by omega : (dvS S ((rws S).1 - ((rws S).1 - (k + 1))) t).2 < 0)
        rw [ek, ek2] at h
        rw [h]
        by_cases e : x = (rws S).1 - (k + 1)
        · dsimp only; rw [e, va_up_at]; exact Or.inl rfl
        · dsimp only; rw [va_up_ne _ _ e]; exact ih t (by omega) x (by omega) h2
      · have h := ptN_s hy hj2
        rw [ek, ek2] at h
        rw [h]
        by_cases e : x = (rws S).1 - (k + 1)
        · have hc := col_in hj
          dsimp only; rw [e, va_up_at, nat_tn]; exact Or.inr ⟨by omega, by omega, hc.2.1⟩
        · dsimp only; rw [va_up_ne _ _ e]; exact ih _ (by omega) x (by omega) h2
  have hp0 : ptN S (rws S).1 0 = ptS S := by
    unfold ptN ptS
    rw [show (fun x => tb ((0 : Nat) : Int) x) = fun _ => 0 from funext fun j => tb_zero j]
  have := key (rws S).1 0 (Nat.le_refl _) x (by omega) hx
  rwa [hp0] at this
section Q6m
variable {a b c e f : Int}
theorem q_paired (ha : i32 a) : SpX 102 193 [.int (zI a)] := by
  intro d st hR
  obtain ⟨S, S2, K, kp, X, T, nC, E, z, B, Y, Rf, U, kt, F, mv, D⟩ := st
  have hR' := hR
  obtain ⟨hI, hT, ⟨hF0, hF1, hF2⟩, hF4, hF5, hU, hz, hK⟩ := hR'
  have hc := hI.1
  have hR1 : RS (H S S2 K kp X T nC E z B Y Rf ((G (D) (68) S U kt F E mv))) 1 S := RS_1
  have hR15 : isC ((H S S2 K kp X T nC E z B Y Rf ((G (D) (68) S U kt F E mv))).2.2 15) 2 = true := by rw [RS_15.1]; rfl
  have hsh : ∀ s, s < 8 → (H S S2 K kp X T nC E z B Y Rf ((G (D) (68) S U kt F E mv))).2.2 (49 + 2 * s) = shl (49 + 2 * s) (T 0 s) (nC s) (T 1 s) (T 2 s) := fun s hs => H_sh hs
  have hce : ∀ s, s < 8 → (H S S2 K kp X T nC E z B Y Rf ((G (D) (68) S U kt F E mv))).2.2 (49 + 2 * s + 1) = cel (E s) := fun s hs => H_ce hs
  have ha' := ha
  unfold i32 at ha'
  obtain ⟨n, hn, hn2⟩ := hI.c
  have h6 := rws_le S
  have hpb := ptS_b S
  obtain ⟨X', hks, hg, ⟨hx1, hx2⟩, hx3⟩ := k_solve (X := X) (S := S) (S2 := S2) (K := K) (kp := kp) (T := T) (nC := nC) (E := E) (z := z) (B := B) (Y := Y) (Rf := Rf) (D := (G (D) (68) S U kt F E mv)) (d := d + 23) hI
  have g1 := hg.1
  by_cases h1 : -1 ≤ a ∧ a < (rws S).1
  · have f1 : inB a (-1) (((rws S).1 : Int) - 1) = 1 := inB_1 (by omega)
    obtain ⟨U', F', hrf, ⟨u7, u8, u9⟩, hF, hfr⟩ := r_find (M := (H S S2 K kp (X') T nC E z B Y Rf D)) (o := 68) (S := S) (U := U) (kt := kt) (F := F) (E := E) (mv := mv) (d := d + 19) hI hn hn2
    have hRl : Rl (S, S2, K, kp, (X'), T, nC, E, z, B, Y, Rf, (U'), kt, (F'), mv, D) := Rl_X hR (hfr 0 (by omega) (by omega) (by omega)).1 (fun y hy => (hfr y (by omega) (by omega) (by omega)).2)
    by_cases h0 : a = -1
    · subst h0
      refine mk (.int (zI (ptS S).1)) (S, S2, K, kp, (X'), T, nC, E, z, B, Y, Rf, (U'), kt, (F'), mv, D) ?_ ?_ ?_ <;> try dsimp only [HC, HP]
      · rw [c_102]
        simp (disch := omega) only [e_102_0, e_102_1, e_102_4, e_102_5, e_102_8, e_102_11, e_102_12, e_102_13, e_102_16, e_102_17, e_102_20, e_102_23, e_102_24, e_102_25, e_102_28, e_102_29, e_102_30, e_102_33, e_102_36, e_102_39, e_102_40, e_102_42, e_102_45, e_102_46, e_102_47, e_102_50, e_102_51, e_102_54, e_102_55, e_102_56, e_102_56_n, e_102_56_r, e_102_59, e_102_60, e_102_63, e_102_64, e_102_67, gfA_i, pfA_i, List.getElem?_cons_zero, List.getElem?_cons_succ, oK_some, rK_some, pR_some, pR_none, kq_i, kq_r, kq_n, kq_u, kq_o, kq_l, isRf_r, isRf_n, isRf_o, okv_r, okv_n, okv_o, is2_r, is2_o, is2_n, rcv_r, isC_i, if_true, if_pos, zI_add, zI_sub, zI_mul, nc_12, nc_8, nc_6, nc_40, nc_250, nc_3, nc_s, len4_0, len4_1, len4_2, len4_3, len4_4, and_self, and_true, true_and, lenA_i, va_rf_s, va_rf_n, oN_none, oN_some, zI_lt, zI_eq, nat_tn, nc_s, Int.lt_irrefl, Int.reduceEq, Int.reduceNe, Int.reduceLT, Int.reduceLE, Int.reduceSub, Int.reduceAdd, Int.reduceMul, Int.reduceDiv, Int.reduceNeg, Int.reduceToNat, or_self, or_false, false_or, if_false, if_true, not_true_eq_false, not_false_eq_true, or_true, true_or, and_false, false_and, ldI_0, stI_0, ldQ_q, gfA_0, gfA_43, gfA_65, H_0, H_43, H_48, H_65, H_66, H_67, kq_l, isC_0, isC_43, isC_65, isC_sh, gfA_sh, isC_43, hks, hx1]
      · rw [c_193]
        simp (disch := omega) only [e_193_0, e_193_1, e_193_4, e_193_5, e_193_6, e_193_9, e_193_10, e_193_13, e_193_14, e_193_15, e_193_16, e_193_19, e_193_22, e_193_23, e_193_25, e_193_28, e_193_29, e_193_30, e_193_31, e_193_34, e_193_35, e_193_38, e_193_41, e_193_42, e_193_45, e_193_46, e_193_47, gfA_i, pfA_i, List.getElem?_cons_zero, List.getElem?_cons_succ, oK_some, rK_some, pR_some, pR_none, kq_i, kq_r, kq_n, kq_u, kq_o, kq_l, isRf_r, isRf_n, isRf_o, okv_r, okv_n, okv_o, is2_r, is2_o, is2_n, rcv_r, isC_i, if_true, if_pos, zI_add, zI_sub, zI_mul, nc_12, nc_8, nc_6, nc_40, nc_250, nc_3, nc_s, len4_0, len4_1, len4_2, len4_3, len4_4, and_self, and_true, true_and, lenA_i, va_rf_s, va_rf_n, oN_none, oN_some, zI_lt, zI_eq, nat_tn, nc_s, Int.lt_irrefl, Int.reduceEq, Int.reduceNe, Int.reduceLT, Int.reduceLE, Int.reduceSub, Int.reduceAdd, Int.reduceMul, Int.reduceDiv, Int.reduceNeg, Int.reduceToNat, or_self, or_false, false_or, if_false, if_true, not_true_eq_false, not_false_eq_true, or_true, true_or, and_false, false_and, ldI_0, stI_0, isC_mcl, Int.add_zero, zJ_eq, Nat.reduceAdd, Nat.reduceLT, G_o, G_1, G_2, G_3, G_4, G_13, G_14, G_15, G_16, G_17, G_18, G_19, G_20, G_21, G_22, G_23, G_24, G_25, G_26, G_27, G_28, G_29, gm_0, gm_1, gm_2, gm_3, gm_4, gm_5, gm_6, gm_7, gm_8, gm_9, gm_10, gm_11, gm_12, gm_13, gm_14, gm_15, gm_16, gm_17, gm_18, gm_19, gm_20, gm_21, gm_22, gm_23, gm_24, gm_25, gm_26, gm_27, gm_28, gm_29, gm_30, gm_31, gm_32, gm_33, gm_34, gm_35, pm_7, pm_23, pm_24, pm_25, pm_26, pm_27, pm_29, pm_31, pm_34, pm_35, pm_9, pm_19, pm_20, pm_21, pm_22, mG_U, mG_8, mG_25, mG_1, mG_2, mG_3, mG_13, mG_14, mG_15, mG_16, mG_26, mG_27, mG_28, mG_29, mG_17, mG_18, mG_19, mG_20, mG_21, mG_22, mG_23, mG_24, kq_l, va_up_ne, va_up_self, hrf, u7, u8, i2J, zJ_sub, r_inJ, f1]
      · exact hRl
    · obtain ⟨x, rfl⟩ : ∃ x : Nat, a = (x : Int) := ⟨a.toNat, by omega⟩
      have hx : x < (rws S).1 := by omega
      have e0 : ¬ (x : Int) < 0 := by omega
      have hgb := k_gotBy_s (X := X') (S := S) (S2 := S2) (K := K) (kp := kp) (T := T) (nC := nC) (E := E) (z := z) (B := B) (Y := Y) (Rf := Rf) (D := (G (D) (68) S U kt F E mv)) (d := d + 28) hg hx
      rw [hx3 x hx] at hgb
      have h9 := (hF x hx).2
      rcases ptS_c hx with hc | ⟨c1, c2, c3⟩
      · rw [hc] at hgb h9
        have e1 : optR (-1) = none := rfl
        rw [e1] at hgb
        refine mk (.int (zI (-1))) (S, S2, K, kp, (X'), T, nC, E, z, B, Y, Rf, (U'), kt, (F'), mv, D) ?_ ?_ ?_ <;> try dsimp only [HC, HP]
        · rw [c_102]
          simp (disch := omega) only [e_102_0, e_102_1, e_102_4, e_102_5, e_102_8, e_102_11, e_102_12, e_102_13, e_102_16, e_102_17, e_102_20, e_102_23, e_102_24, e_102_25, e_102_28, e_102_29, e_102_30, e_102_33, e_102_36, e_102_39, e_102_40, e_102_42, e_102_45, e_102_46, e_102_47, e_102_50, e_102_51, e_102_54, e_102_55, e_102_56, e_102_56_n, e_102_56_r, e_102_59, e_102_60, e_102_63, e_102_64, e_102_67, gfA_i, pfA_i, List.getElem?_cons_zero, List.getElem?_cons_succ, oK_some, rK_some, pR_some, pR_none, kq_i, kq_r, kq_n, kq_u, kq_o, kq_l, isRf_r, isRf_n, isRf_o, okv_r, okv_n, okv_o, is2_r, is2_o, is2_n, rcv_r, isC_i, if_true, if_pos, zI_add, zI_sub, zI_mul, nc_12, nc_8, nc_6, nc_40, nc_250, nc_3, nc_s, len4_0, len4_1, len4_2, len4_3, len4_4, and_self, and_true, true_and, lenA_i, va_rf_s, va_rf_n, oN_none, oN_some, zI_lt, zI_eq, nat_tn, nc_s, Int.lt_irrefl, Int.reduceEq, Int.reduceNe, Int.reduceLT, Int.reduceLE, Int.reduceSub, Int.reduceAdd, Int.reduceMul, Int.reduceDiv, Int.reduceNeg, Int.reduceToNat, or_self, or_false, false_or, if_false, if_true, not_true_eq_false, not_false_eq_true, or_true, true_or, and_false, false_and, ldI_0, stI_0, ldQ_q, gfA_0, gfA_43, gfA_65, H_0, H_43, H_48, H_65, H_66, H_67, kq_l, isC_0, isC_43, isC_65, isC_sh, gfA_sh, isC_43, hks, g1, h0, e0, hgb]
        · rw [c_193]
          simp (disch := omega) only [e_193_0, e_193_1, e_193_4, e_193_5, e_193_6, e_193_9, e_193_10, e_193_13, e_193_14, e_193_15, e_193_16, e_193_19, e_193_22, e_193_23, e_193_25, e_193_28, e_193_29, e_193_30, e_193_31, e_193_34, e_193_35, e_193_38, e_193_41, e_193_42, e_193_45, e_193_46, e_193_47, gfA_i, pfA_i, List.getElem?_cons_zero, List.getElem?_cons_succ, oK_some, rK_some, pR_some, pR_none, kq_i, kq_r, kq_n, kq_u, kq_o, kq_l, isRf_r, isRf_n, isRf_o, okv_r, okv_n, okv_o, is2_r, is2_o, is2_n, rcv_r, isC_i, if_true, if_pos, zI_add, zI_sub, zI_mul, nc_12, nc_8, nc_6, nc_40, nc_250, nc_3, nc_s, len4_0, len4_1, len4_2, len4_3, len4_4, and_self, and_true, true_and, lenA_i, va_rf_s, va_rf_n, oN_none, oN_some, zI_lt, zI_eq, nat_tn, nc_s, Int.lt_irrefl, Int.reduceEq, Int.reduceNe, Int.reduceLT, Int.reduceLE, Int.reduceSub, Int.reduceAdd, Int.reduceMul, Int.reduceDiv, Int.reduceNeg, Int.reduceToNat, or_self, or_false, false_or, if_false, if_true, not_true_eq_false, not_false_eq_true, or_true, true_or, and_false, false_and, ldI_0, stI_0, isC_mcl, Int.add_zero, zJ_eq, Nat.reduceAdd, Nat.reduceLT, G_o, G_1, G_2, G_3, G_4, G_13, G_14, G_15, G_16, G_17, G_18, G_19, G_20, G_21, G_22, G_23, G_24, G_25, G_26, G_27, G_28, G_29, gm_0, gm_1, gm_2, gm_3, gm_4, gm_5, gm_6, gm_7, gm_8, gm_9, gm_10, gm_11, gm_12, gm_13, gm_14, gm_15, gm_16, gm_17, gm_18, gm_19, gm_20, gm_21, gm_22, gm_23, gm_24, gm_25, gm_26, gm_27, gm_28, gm_29, gm_30, gm_31, gm_32, gm_33, gm_34, gm_35, pm_7, pm_23, pm_24, pm_25, pm_26, pm_27, pm_29, pm_31, pm_34, pm_35, pm_9, pm_19, pm_20, pm_21, pm_22, mG_U, mG_8, mG_25, mG_1, mG_2, mG_3, mG_13, mG_14, mG_15, mG_16, mG_26, mG_27, mG_28, mG_29, mG_17, mG_18, mG_19, mG_20, mG_21, mG_22, mG_23, mG_24, kq_l, va_up_ne, va_up_self, hrf, u7, i2J, zJ_sub, r_inJ, f1, h0, h9]
        · exact hRl
      · obtain ⟨q, hq⟩ : ∃ q : Nat, (ptS S).2.2 x = (q : Int) := ⟨((ptS S).2.2 x).toNat, by omega⟩
        rw [hq] at hgb h9 c2
        have hq12 : q < 12 := by omega
        have e1 : optR (q : Int) = some (1 + 2 + q) := by unfold optR; rw [if_neg (by omega), nat_tn]
        rw [e1] at hgb
        have hRx : RS (H S S2 K kp (X') T nC E z B Y Rf ((G (D) (68) S U kt F E mv))) 1 S := RS_1
        refine mk (.int (zI q)) (S, S2, K, kp, (X'), T, nC, E, z, B, Y, Rf, (U'), kt, (F'), mv, D) ?_ ?_ ?_ <;> try dsimp only [HC, HP]
        · rw [c_102]
          simp (disch := omega) only [e_102_0, e_102_1, e_102_4, e_102_5, e_102_8, e_102_11, e_102_12, e_102_13, e_102_16, e_102_17, e_102_20, e_102_23, e_102_24, e_102_25, e_102_28, e_102_29, e_102_30, e_102_33, e_102_36, e_102_39, e_102_40, e_102_42, e_102_45, e_102_46, e_102_47, e_102_50, e_102_51, e_102_54, e_102_55, e_102_56, e_102_56_n, e_102_56_r, e_102_59, e_102_60, e_102_63, e_102_64, e_102_67, gfA_i, pfA_i, List.getElem?_cons_zero, List.getElem?_cons_succ, oK_some, rK_some, pR_some, pR_none, kq_i, kq_r, kq_n, kq_u, kq_o, kq_l, isRf_r, isRf_n, isRf_o, okv_r, okv_n, okv_o, is2_r, is2_o, is2_n, rcv_r, isC_i, if_true, if_pos, zI_add, zI_sub, zI_mul, nc_12, nc_8, nc_6, nc_40, nc_250, nc_3, nc_s, len4_0, len4_1, len4_2, len4_3, len4_4, and_self, and_true, true_and, lenA_i, va_rf_s, va_rf_n, oN_none, oN_some, zI_lt, zI_eq, nat_tn, nc_s, Int.lt_irrefl, Int.reduceEq, Int.reduceNe, Int.reduceLT, Int.reduceLE, Int.reduceSub, Int.reduceAdd, Int.reduceMul, Int.reduceDiv, Int.reduceNeg, Int.reduceToNat, or_self, or_false, false_or, if_false, if_true, not_true_eq_false, not_false_eq_true, or_true, true_or, and_false, false_and, ldI_0, stI_0, ldQ_q, gfA_0, gfA_43, gfA_65, H_0, H_43, H_48, H_65, H_66, H_67, kq_l, isC_0, isC_43, isC_65, isC_sh, gfA_sh, isC_43, hks, g1, h0, e0, hgb, hRx.2.2 q hq12, pcl]
        · rw [c_193]
          simp (disch := omega) only [e_193_0, e_193_1, e_193_4, e_193_5, e_193_6, e_193_9, e_193_10, e_193_13, e_193_14, e_193_15, e_193_16, e_193_19, e_193_22, e_193_23, e_193_25, e_193_28, e_193_29, e_193_30, e_193_31, e_193_34, e_193_35, e_193_38, e_193_41, e_193_42, e_193_45, e_193_46, e_193_47, gfA_i, pfA_i, List.getElem?_cons_zero, List.getElem?_cons_succ, oK_some, rK_some, pR_some, pR_none, kq_i, kq_r, kq_n, kq_u, kq_o, kq_l, isRf_r, isRf_n, isRf_o, okv_r, okv_n, okv_o, is2_r, is2_o, is2_n, rcv_r, isC_i, if_true, if_pos, zI_add, zI_sub, zI_mul, nc_12, nc_8, nc_6, nc_40, nc_250, nc_3, nc_s, len4_0, len4_1, len4_2, len4_3, len4_4, and_self, and_true, true_and, lenA_i, va_rf_s, va_rf_n, oN_none, oN_some, zI_lt, zI_eq, nat_tn, nc_s, Int.lt_irrefl, Int.reduceEq, Int.reduceNe, Int.reduceLT, Int.reduceLE, Int.reduceSub, Int.reduceAdd, Int.reduceMul, Int.reduceDiv, Int.reduceNeg, Int.reduceToNat, or_self, or_false, false_or, if_false, if_true, not_true_eq_false, not_false_eq_true, or_true, true_or, and_false, false_and, ldI_0, stI_0, isC_mcl, Int.add_zero, zJ_eq, Nat.reduceAdd, Nat.reduceLT, G_o, G_1, G_2, G_3, G_4, G_13, G_14, G_15, G_16, G_17, G_18, G_19, G_20, G_21, G_22, G_23, G_24, G_25, G_26, G_27, G_28, G_29, gm_0, gm_1, gm_2, gm_3, gm_4, gm_5, gm_6, gm_7, gm_8, gm_9, gm_10, gm_11, gm_12, gm_13, gm_14, gm_15, gm_16, gm_17, gm_18, gm_19, gm_20, gm_21, gm_22, gm_23, gm_24, gm_25, gm_26, gm_27, gm_28, gm_29, gm_30, gm_31, gm_32, gm_33, gm_34, gm_35, pm_7, pm_23, pm_24, pm_25, pm_26, pm_27, pm_29, pm_31, pm_34, pm_35, pm_9, pm_19, pm_20, pm_21, pm_22, mG_U, mG_8, mG_25, mG_1, mG_2, mG_3, mG_13, mG_14, mG_15, mG_16, mG_26, mG_27, mG_28, mG_29, mG_17, mG_18, mG_19, mG_20, mG_21, mG_22, mG_23, mG_24, kq_l, va_up_ne, va_up_self, hrf, u7, i2J, zJ_sub, r_inJ, f1, h0, h9]
        · exact hRl
  · have f1 : inB a (-1) (((rws S).1 : Int) - 1) = 0 := inB_0 (by omega)
    have h0 : ¬ a = -1 := by omega
    obtain ⟨U', F', hrf, ⟨u7, u8, u9⟩, hF, hfr⟩ := r_find (M := (H S S2 K kp (X') T nC E z B Y ((refF Rf (-2))) D)) (o := 68) (S := S) (U := U) (kt := kt) (F := F) (E := E) (mv := mv) (d := d + 19) hI hn hn2
    have hRl : Rl (S, S2, K, kp, (X'), T, nC, E, z, B, Y, Rf, (U'), kt, (F'), mv, D) := Rl_X hR (hfr 0 (by omega) (by omega) (by omega)).1 (fun y hy => (hfr y (by omega) (by omega) (by omega)).2)
    refine mk (.int (zI (-2))) (S, S2, K, kp, (X'), T, nC, E, z, B, Y, ((refF Rf (-2))), (U'), kt, ((va_up F' 5 (refF (F' 5) (-2)))), mv, D) ?_ ?_ ?_ <;> try dsimp only [HC, HP]
    · rw [c_102]
      by_cases e0 : a < 0
      · simp (disch := omega) only [e_102_0, e_102_1, e_102_4, e_102_5, e_102_8, e_102_11, e_102_12, e_102_13, e_102_16, e_102_17, e_102_20, e_102_23, e_102_24, e_102_25, e_102_28, e_102_29, e_102_30, e_102_33, e_102_36, e_102_39, e_102_40, e_102_42, e_102_45, e_102_46, e_102_47, e_102_50, e_102_51, e_102_54, e_102_55, e_102_56, e_102_56_n, e_102_56_r, e_102_59, e_102_60, e_102_63, e_102_64, e_102_67, gfA_i, pfA_i, List.getElem?_cons_zero, List.getElem?_cons_succ, oK_some, rK_some, pR_some, pR_none, kq_i, kq_r, kq_n, kq_u, kq_o, kq_l, isRf_r, isRf_n, isRf_o, okv_r, okv_n, okv_o, is2_r, is2_o, is2_n, rcv_r, isC_i, if_true, if_pos, zI_add, zI_sub, zI_mul, nc_12, nc_8, nc_6, nc_40, nc_250, nc_3, nc_s, len4_0, len4_1, len4_2, len4_3, len4_4, and_self, and_true, true_and, lenA_i, va_rf_s, va_rf_n, oN_none, oN_some, zI_lt, zI_eq, nat_tn, nc_s, Int.lt_irrefl, Int.reduceEq, Int.reduceNe, Int.reduceLT, Int.reduceLE, Int.reduceSub, Int.reduceAdd, Int.reduceMul, Int.reduceDiv, Int.reduceNeg, Int.reduceToNat, or_self, or_false, false_or, if_false, if_true, not_true_eq_false, not_false_eq_true, or_true, true_or, and_false, false_and, ldI_0, stI_0, ldQ_q, gfA_0, gfA_43, gfA_65, H_0, H_43, H_48, H_65, H_66, H_67, kq_l, isC_0, isC_43, isC_65, isC_sh, gfA_sh, isC_43, hks, h0, e0, k_ref]
      · have e2 : ¬ a < ((rws S).1 : Int) := by omega
        simp (disch := omega) only [e_102_0, e_102_1, e_102_4, e_102_5, e_102_8, e_102_11, e_102_12, e_102_13, e_102_16, e_102_17, e_102_20, e_102_23, e_102_24, e_102_25, e_102_28, e_102_29, e_102_30, e_102_33, e_102_36, e_102_39, e_102_40, e_102_42, e_102_45, e_102_46, e_102_47, e_102_50, e_102_51, e_102_54, e_102_55, e_102_56, e_102_56_n, e_102_56_r, e_102_59, e_102_60, e_102_63, e_102_64, e_102_67, gfA_i, pfA_i, List.getElem?_cons_zero, List.getElem?_cons_succ, oK_some, rK_some, pR_some, pR_none, kq_i, kq_r, kq_n, kq_u, kq_o, kq_l, isRf_r, isRf_n, isRf_o, okv_r, okv_n, okv_o, is2_r, is2_o, is2_n, rcv_r, isC_i, if_true, if_pos, zI_add, zI_sub, zI_mul, nc_12, nc_8, nc_6, nc_40, nc_250, nc_3, nc_s, len4_0, len4_1, len4_2, len4_3, len4_4, and_self, and_true, true_and, lenA_i, va_rf_s, va_rf_n, oN_none, oN_some, zI_lt, zI_eq, nat_tn, nc_s, Int.lt_irrefl, Int.reduceEq, Int.reduceNe, Int.reduceLT, Int.reduceLE, Int.reduceSub, Int.reduceAdd, Int.reduceMul, Int.reduceDiv, Int.reduceNeg, Int.reduceToNat, or_self, or_false, false_or, if_false, if_true, not_true_eq_false, not_false_eq_true, or_true, true_or, and_false, false_and, ldI_0, stI_0, ldQ_q, gfA_0, gfA_43, gfA_65, H_0, H_43, H_48, H_65, H_66, H_67, kq_l, isC_0, isC_43, isC_65, isC_sh, gfA_sh, isC_43, hks, g1, h0, e0, e2, k_ref]
    · rw [c_193]
      simp (disch := omega) only [e_193_0, e_193_1, e_193_4, e_193_5, e_193_6, e_193_9, e_193_10, e_193_13, e_193_14, e_193_15, e_193_16, e_193_19, e_193_22, e_193_23, e_193_25, e_193_28, e_193_29, e_193_30, e_193_31, e_193_34, e_193_35, e_193_38, e_193_41, e_193_42, e_193_45, e_193_46, e_193_47, gfA_i, pfA_i, List.getElem?_cons_zero, List.getElem?_cons_succ, oK_some, rK_some, pR_some, pR_none, kq_i, kq_r, kq_n, kq_u, kq_o, kq_l, isRf_r, isRf_n, isRf_o, okv_r, okv_n, okv_o, is2_r, is2_o, is2_n, rcv_r, isC_i, if_true, if_pos, zI_add, zI_sub, zI_mul, nc_12, nc_8, nc_6, nc_40, nc_250, nc_3, nc_s, len4_0, len4_1, len4_2, len4_3, len4_4, and_self, and_true, true_and, lenA_i, va_rf_s, va_rf_n, oN_none, oN_some, zI_lt, zI_eq, nat_tn, nc_s, Int.lt_irrefl, Int.reduceEq, Int.reduceNe, Int.reduceLT, Int.reduceLE, Int.reduceSub, Int.reduceAdd, Int.reduceMul, Int.reduceDiv, Int.reduceNeg, Int.reduceToNat, or_self, or_false, false_or, if_false, if_true, not_true_eq_false, not_false_eq_true, or_true, true_or, and_false, false_and, ldI_0, stI_0, isC_mcl, Int.add_zero, zJ_eq, Nat.reduceAdd, Nat.reduceLT, G_o, G_1, G_2, G_3, G_4, G_13, G_14, G_15, G_16, G_17, G_18, G_19, G_20, G_21, G_22, G_23, G_24, G_25, G_26, G_27, G_28, G_29, gm_0, gm_1, gm_2, gm_3, gm_4, gm_5, gm_6, gm_7, gm_8, gm_9, gm_10, gm_11, gm_12, gm_13, gm_14, gm_15, gm_16, gm_17, gm_18, gm_19, gm_20, gm_21, gm_22, gm_23, gm_24, gm_25, gm_26, gm_27, gm_28, gm_29, gm_30, gm_31, gm_32, gm_33, gm_34, gm_35, pm_7, pm_23, pm_24, pm_25, pm_26, pm_27, pm_29, pm_31, pm_34, pm_35, pm_9, pm_19, pm_20, pm_21, pm_22, mG_U, mG_8, mG_25, mG_1, mG_2, mG_3, mG_13, mG_14, mG_15, mG_16, mG_26, mG_27, mG_28, mG_29, mG_17, mG_18, mG_19, mG_20, mG_21, mG_22, mG_23, mG_24, kq_l, va_up_ne, va_up_self, hrf, u7, i2J, zJ_sub, r_inJ, f1, r_ref]
    · exact Rl_ref hRl
end Q6m
