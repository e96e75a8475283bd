def bkT (K T : Sc) (nC : Nat → Int) (j : Nat) : Sc := fun f s => if f = 0 ∧ s < j ∧ T 0 s = 2 ∧ K 8 0 ≤ nC s then 0 else T f s
theorem bkT_0 (K T : Sc) (nC : Nat → Int) : bkT K T nC 0 = T := by funext f s; exact if_neg (by omega)
theorem bkT_s {K T : Sc} {nC : Nat → Int} {j : Nat} (h : T 0 j = 2 ∧ K 8 0 ≤ nC j) : shT (bkT K T nC j) j 0 (T 1 j) (T 2 j) = bkT K T nC (j + 1) := by
  funext f s
  unfold shT bkT
  by_cases e : s = j
  · subst e
    rw [if_pos rfl]
    by_cases e0 : f = 0
    · rw [if_pos e0, if_pos ⟨e0, by omega, h⟩]
    · rw [if_neg e0]
      by_cases e1 : f = 1
      · rw [if_pos e1, if_neg (fun q => e0 q.1), e1]
      · rw [if_neg e1]
        by_cases e2 : f = 2
        · rw [if_pos e2, if_neg (fun q => e0 q.1), e2]
        · rw [if_neg e2, if_neg (fun q => e0 q.1), if_neg (fun q => e0 q.1)]
  · rw [if_neg e]
    by_cases e0 : f = 0 ∧ s < j ∧ T 0 s = 2 ∧ K 8 0 ≤ nC s
    · rw [if_pos e0, if_pos ⟨e0.1, by omega, e0.2.2⟩]
    · rw [if_neg e0, if_neg (fun q => e0 ⟨q.1, by omega, q.2.2⟩)]
theorem bkT_n {K T : Sc} {nC : Nat → Int} {j : Nat} (h : ¬ (T 0 j = 2 ∧ K 8 0 ≤ nC j)) : bkT K T nC (j + 1) = bkT K T nC j := by
  funext f s
  unfold bkT
  by_cases e0 : f = 0 ∧ s < j ∧ T 0 s = 2 ∧ K 8 0 ≤ nC s
  · rw [if_pos e0, if_pos ⟨e0.1, by omega, e0.2.2⟩]
  · rw [if_neg e0]
    exact if_neg (fun q => by
      by_cases e : s = j
      · subst e; exact h q.2.2
      · exact e0 ⟨q.1, by omega, q.2.2⟩)
theorem bkT_j {K T : Sc} {nC : Nat → Int} {f j : Nat} : bkT K T nC j f j = T f j := if_neg (by omega)
section K10
variable {S S2 K : Sc} {kp : Int} {X : Xm} {T : Sc} {nC : Nat → Int} {E : Nat → Nat → Int64} {z : Int} {B : Nat → Int32} {Y : Yt} {Rf : Nat → Int32} {D D' : AM} {U : Nat → Int} {kt : Option Nat × Option Nat} {k1 k2 : Option Nat} {F : Nat → Nat → Int32} {mv : Nat → Int64} {a b : Nat} {S' Sh : Sc}
theorem LY_isC (hL : LY D b S') : isC (D.2.2 b) 6 = true := by
  obtain ⟨U1, q1, F1, E1, m1, e⟩ := hL
  rw [← e, G_o]
  rfl
theorem W_isC (hL : LY D b S') (hb : 98 ≤ b) : isC ((G ((H (Sh) S2 K kp X T nC E z B Y Rf D)) (68) S U kt F E mv).2.2 b) 6 = true := LY_isC (LYl hL hb)
theorem b_lengths {d : Nat} (hL : LY D b S') (hb : 98 ≤ b) (hI : In S') : callD (d + 1) 228 [.ref b] (G ((H (Sh) S2 K kp X T nC E z B Y Rf D)) (68) S U kt F E mv) = some (some (.int (zI (lenN S'))), (G ((H (Sh) S2 K kp X T nC E z B Y Rf D)) (68) S U kt F E mv)) := by
  obtain ⟨U1, q1, F1, E1, m1, e⟩ := LYl (S := S) (Sh := Sh) (U := U) (kt := kt) (F := F) (mv := mv) hL hb
  have h := r_lengths (M := (G ((H (Sh) S2 K kp X T nC E z B Y Rf D)) (68) S U kt F E mv)) (o := b) (U := U1) (kt := q1) (F := F1) (E := E1) (mv := m1) (d := d) hI
  rwa [e] at h
theorem b_mostSilent {d : Nat} (hL : LY D b S') (hb : 98 ≤ b) (hI : In S') : callD (d + 1) 229 [.ref b] (G ((H (Sh) S2 K kp X T nC E z B Y Rf D)) (68) S U kt F E mv) = some (some (.int (zI (silN S'))), (G ((H (Sh) S2 K kp X T nC E z B Y Rf D)) (68) S U kt F E mv)) := by
  obtain ⟨U1, q1, F1, E1, m1, e⟩ := LYl (S := S) (Sh := Sh) (U := U) (kt := kt) (F := F) (mv := mv) hL hb
  have h := r_mostSilent (M := (G ((H (Sh) S2 K kp X T nC E z B Y Rf D)) (68) S U kt F E mv)) (o := b) (U := U1) (kt := q1) (F := F1) (E := E1) (mv := m1) (d := d) hI
  rwa [e] at h
theorem b_overNow {d : Nat} (hL : LY D b S') (hb : 98 ≤ b) (hI : In S') : callD (d + 5) 201 [.ref b] (G ((H (Sh) S2 K kp X T nC E z B Y Rf D)) (68) S U kt F E mv) = some (some (.int (zI (ovN S'))), (G ((H (Sh) S2 K kp X T nC E z B Y Rf D)) (68) S U kt F E mv)) := by
  obtain ⟨U1, q1, F1, E1, m1, e⟩ := LYl (S := S) (Sh := Sh) (U := U) (kt := kt) (F := F) (mv := mv) hL hb
  have h := r_overNow (M := (G ((H (Sh) S2 K kp X T nC E z B Y Rf D)) (68) S U kt F E mv)) (o := b) (U := U1) (kt := q1) (F := F1) (E := E1) (mv := m1) (d := d) hI
  rwa [e] at h
theorem k_take0 {d : Nat} {S S2 K : Sc} {kp : Int} {X : Xm} {T : Sc} {nC : Nat → Int} {E : Nat → Nat → Int64} {z : Int} {B : Nat → Int32} {Y : Yt} {Rf : Nat → Int32} {D : AM} (hI : In S2) : callD (d + 2) 26 [.ref 1, .ref 15] (H S S2 K kp X T nC E z B Y Rf D) = some (none, (H (S2) S2 K kp X T nC E z B Y Rf D)) := by
  rw [m_takeAll hI RS_1 RS_15 (by omega), put_1]
theorem k_keep {d : Nat} {S S2 K : Sc} {kp : Int} {X : Xm} {T : Sc} {nC : Nat → Int} {E : Nat → Nat → Int64} {z : Int} {B : Nat → Int32} {Y : Yt} {Rf : Nat → Int32} {D : AM} (hI : In S) : callD (d + 2) 26 [.ref 29, .ref 1] (H S S2 K kp X T nC E z B Y Rf D) = some (none, (H S S2 (S) kp X T nC E z B Y Rf D)) := by
  rw [m_takeAll hI RS_29 RS_1 (by omega), put_29]
theorem k_back {d : Nat} {S S2 K : Sc} {kp : Int} {X : Xm} {T : Sc} {nC : Nat → Int} {E : Nat → Nat → Int64} {z : Int} {B : Nat → Int32} {Y : Yt} {Rf : Nat → Int32} {D : AM} (hI : In K) : callD (d + 2) 26 [.ref 1, .ref 29] (H S S2 K kp X T nC E z B Y Rf D) = some (none, (H (K) S2 K kp X T nC E z B Y Rf D)) := by
  rw [m_takeAll hI RS_1 RS_29 (by omega), put_1]
/-- the reference takes all from another -/
theorem r_takeO {d : Nat} {So : Sc} (hL : LY D b S') (hb : 98 ≤ b) (hz0 : Z12 So) (hz : Z12 S') : callD (d + 2) 238 [.ref 68, .ref b] (G ((H (Sh) S2 K kp X T nC E z B Y Rf D)) (68) (So) U kt F E mv) = some (none, (G ((H (Sh) S2 K kp X T nC E z B Y Rf D)) (68) (S') U kt F E mv)) := by
  refine r_takeFrom ?_ (by omega) hz0 hz
  exact LY_ne hL (fun q h1 h2 => H_hi (by omega))
theorem r_mayL {W : AM} {d n s p k : Nat} {sz : Int} {e : Nat → Int64} {U' : Nat → Int} {kt' : Option Nat × Option Nat} {F' : Nat → Nat → Int32} {E' : Nat → Nat → Int64} {mv' : Nat → Int64} (hI : In S) (h : prd S p) (hk : k ≤ 5) (hs : s < 8) (hn : n ≤ 40) (hz : (n : Int) ≤ sz) (hWe : W.2.2 (73 + s) = cel e) (hb : 98 ≤ b) : ∃ Sx, den (callD (d + 4)) 223 6 [.ref 68, .ref (73 + s), .int (zI n), .int (zI p), .int (zI k), .ref b, uu, uu] [] (G W b S U' kt' F' E' mv') = some (some (.int (zI (meB e sz p n S k))), G W b Sx U' kt' F' E' mv') ∧ In Sx := by
  have hxe : ∀ Sx, (G W b Sx U' kt' F' E' mv').2.2 (73 + s) = cel e := fun Sx => (G_ne (by omega)).trans hWe
  have hp12 := (prd_fr hI h).2.2.2.2
  have hlt := h.1
  have hI0 : In (sU S 0 p k) := In_sU hI (by omega)
  unfold meB
  have hlo := loopQ (fun j (y : Sc × Value) => den (callD (d + 4)) 223 18 [.ref 68, .ref (73 + s), .int (zI n), .int (zI p), .int (zI k), .ref b, .int (zI j), y.2] [] (G W b y.1 U' kt' F' E' mv')) (fun x => ∃ Sx, x = some (some (.int (zI (okS (fS (chFn 1 sz e p) n 0 (sU S 0 p k))))), G W b Sx U' kt' F' E' mv') ∧ In Sx) (fun j y => (In y.1 ∧ prd y.1 p ∧ y.1 0 p = k) ∧ fS (chFn 1 sz e p) n 0 (sU S 0 p k) = fS (chFn 1 sz e p) (n - j) j y.1) n (fun j y hj hy => ?_) (fun y hy => ?_) n 0 (sU S 0 p k, uu) (by omega) ⟨⟨hI0, h, sU_t _ _ _ _⟩, rfl⟩
  · obtain ⟨Sx, h1, h2⟩ := hlo
    refine ⟨Sx, ?_, h2⟩
    simp (disch := omega) only [e_223_6, e_223_8, e_223_11, e_223_12, e_223_14, e_223_15, e_223_16, gfA_i, pfA_i, List.getElem?_cons_zero, List.getElem?_cons_succ, oK_some, rK_some, pR_some, pR_none, kq_i, kq_r, kq_n, kq_u, kq_o, kq_l, isRf_r, isRf_n, isRf_o, okv_r, okv_n, okv_o, is2_r, is2_o, is2_n, rcv_r, isC_i, if_true, if_pos, zI_add, zI_sub, zI_mul, nc_12, nc_8, nc_6, nc_40, nc_250, nc_3, nc_s, len4_0, len4_1, len4_2, len4_3, len4_4, and_self, and_true, true_and, lenA_i, va_rf_s, va_rf_n, oN_none, oN_some, zI_lt, zI_eq, nat_tn, nc_s, Int.lt_irrefl, Int.reduceEq, Int.reduceNe, Int.reduceLT, Int.reduceLE, Int.reduceSub, Int.reduceAdd, Int.reduceMul, Int.reduceDiv, Int.reduceNeg, Int.reduceToNat, or_self, or_false, false_or, if_false, if_true, not_true_eq_false, not_false_eq_true, or_true, true_or, and_false, false_and, ldI_0, stI_0, isC_mcl, Int.add_zero, zJ_eq, Nat.reduceAdd, Nat.reduceLT, G_o, G_1, G_2, G_3, G_4, G_13, G_14, G_15, G_16, G_17, G_18, G_19, G_20, G_21, G_22, G_23, G_24, G_25, G_26, G_27, G_28, G_29, gm_0, gm_1, gm_2, gm_3, gm_4, gm_5, gm_6, gm_7, gm_8, gm_9, gm_10, gm_11, gm_12, gm_13, gm_14, gm_15, gm_16, gm_17, gm_18, gm_19, gm_20, gm_21, gm_22, gm_23, gm_24, gm_25, gm_26, gm_27, gm_28, gm_29, gm_30, gm_31, gm_32, gm_33, gm_34, gm_35, pm_7, pm_23, pm_24, pm_25, pm_26, pm_27, pm_29, pm_31, pm_34, pm_35, pm_9, pm_19, pm_20, pm_21, pm_22, mG_U, mG_8, mG_25, mG_1, mG_2, mG_3, mG_13, mG_14, mG_15, mG_16, mG_26, mG_27, mG_28, mG_29, mG_17, mG_18, mG_19, mG_20, mG_21, mG_22, mG_23, mG_24, kq_l, va_up_ne, va_up_self]
    exact h1
  · obtain ⟨Sx, y7⟩ := y
    obtain ⟨⟨hIx, hpx, hkx⟩, he⟩ := hy
    try dsimp only at hIx hpx hkx he
    have hw := r_wl (M := W) (o := b) (U := U') (kt := kt') (F := F') (E := E') (mv := mv') (d := d + 1) hIx.bd hp12 hpx.2
    rw [hkx] at hw
    have hwb := wl_b Sx p
    have e1 : n - j = (n - (j + 1)) + 1 := by omega
    have hcl : celA 1 sz e j = e j := celA_1 (by omega)
    by_cases h1 : (e j).toInt = 1
    · by_cases h0 : wl Sx p = 0
      · right
        have hcf : chFn 1 sz e p j Sx = none := by unfold chFn; rw [hcl, if_pos h1, if_pos h0]
        rw [e1, fS_n hcf] at he
        refine ⟨Sx, ?_, hIx⟩
        rw [he]
        try dsimp only
        conv => lhs; rw [e_223_18]
        simp (disch := omega) only [e_223_20, e_223_21, e_223_24, e_223_26, e_223_27, e_223_29, e_223_32, e_223_34, e_223_36, e_223_37, e_223_39, e_223_40, e_223_41, e_223_42, e_223_45, e_223_46, e_223_49, e_223_51, e_223_54, e_223_55, e_223_56, e_223_57, e_223_59, e_223_60, e_223_61, e_223_62, e_223_65, e_223_67, e_223_68, e_223_69, e_223_72, e_223_75, e_223_77, e_223_78, e_223_81, e_223_84, gfA_i, pfA_i, List.getElem?_cons_zero, List.getElem?_cons_succ, oK_some, rK_some, pR_some, pR_none, kq_i, kq_r, kq_n, kq_u, kq_o, kq_l, isRf_r, isRf_n, isRf_o, okv_r, okv_n, okv_o, is2_r, is2_o, is2_n, rcv_r, isC_i, if_true, if_pos, zI_add, zI_sub, zI_mul, nc_12, nc_8, nc_6, nc_40, nc_250, nc_3, nc_s, len4_0, len4_1, len4_2, len4_3, len4_4, and_self, and_true, true_and, lenA_i, va_rf_s, va_rf_n, oN_none, oN_some, zI_lt, zI_eq, nat_tn, nc_s, Int.lt_irrefl, Int.reduceEq, Int.reduceNe, Int.reduceLT, Int.reduceLE, Int.reduceSub, Int.reduceAdd, Int.reduceMul, Int.reduceDiv, Int.reduceNeg, Int.reduceToNat, or_self, or_false, false_or, if_false, if_true, not_true_eq_false, not_false_eq_true, or_true, true_or, and_false, false_and, ldI_0, stI_0, isC_mcl, Int.add_zero, zJ_eq, Nat.reduceAdd, Nat.reduceLT, G_o, G_1, G_2, G_3, G_4, G_13, G_14, G_15, G_16, G_17, G_18, G_19, G_20, G_21, G_22, G_23, G_24, G_25, G_26, G_27, G_28, G_29, gm_0, gm_1, gm_2, gm_3, gm_4, gm_5, gm_6, gm_7, gm_8, gm_9, gm_10, gm_11, gm_12, gm_13, gm_14, gm_15, gm_16, gm_17, gm_18, gm_19, gm_20, gm_21, gm_22, gm_23, gm_24, gm_25, gm_26, gm_27, gm_28, gm_29, gm_30, gm_31, gm_32, gm_33, gm_34, gm_35, pm_7, pm_23, pm_24, pm_25, pm_26, pm_27, pm_29, pm_31, pm_34, pm_35, pm_9, pm_19, pm_20, pm_21, pm_22, mG_U, mG_8, mG_25, mG_1, mG_2, mG_3, mG_13, mG_14, mG_15, mG_16, mG_26, mG_27, mG_28, mG_29, mG_17, mG_18, mG_19, mG_20, mG_21, mG_22, mG_23, mG_24, kq_l, va_up_ne, va_up_self, hxe, cel, ldJ_1, hw, lc_eq, zJ_toInt, h1, h0, okS]
      · left
        have hwr := r_writes (M := W) (o := b) (U := U') (kt := kt') (F := F') (E := E') (mv := mv') (d := d + 2) (b := 0) hIx hpx (Or.inl rfl)
        have hcf : chFn 1 sz e p j Sx = some (wrS Sx p 0) := by unfold chFn; rw [hcl, if_pos h1, if_neg h0]
        rw [e1, fS_s hcf] at he
        refine ⟨(wrS Sx p 0, .int (zI (wl Sx p))), ?_, ⟨In_wr0 hIx hpx.1, prd_wr0 hpx, hkx⟩, he⟩
        try dsimp only
        conv => lhs; rw [e_223_18]
        simp (disch := omega) only [e_223_20, e_223_21, e_223_24, e_223_26, e_223_27, e_223_29, e_223_32, e_223_34, e_223_36, e_223_37, e_223_39, e_223_40, e_223_41, e_223_42, e_223_45, e_223_46, e_223_49, e_223_51, e_223_54, e_223_55, e_223_56, e_223_57, e_223_59, e_223_60, e_223_61, e_223_62, e_223_65, e_223_67, e_223_68, e_223_69, e_223_72, e_223_75, e_223_77, e_223_78, e_223_81, e_223_84, gfA_i, pfA_i, List.getElem?_cons_zero, List.getElem?_cons_succ, oK_some, rK_some, pR_some, pR_none, kq_i, kq_r, kq_n, kq_u, kq_o, kq_l, isRf_r, isRf_n, isRf_o, okv_r, okv_n, okv_o, is2_r, is2_o, is2_n, rcv_r, isC_i, if_true, if_pos, zI_add, zI_sub, zI_mul, nc_12, nc_8, nc_6, nc_40, nc_250, nc_3, nc_s, len4_0, len4_1, len4_2, len4_3, len4_4, and_self, and_true, true_and, lenA_i, va_rf_s, va_rf_n, oN_none, oN_some, zI_lt, zI_eq, nat_tn, nc_s, Int.lt_irrefl, Int.reduceEq, Int.reduceNe, Int.reduceLT, Int.reduceLE, Int.reduceSub, Int.reduceAdd, Int.reduceMul, Int.reduceDiv, Int.reduceNeg, Int.reduceToNat, or_self, or_false, false_or, if_false, if_true, not_true_eq_false, not_false_eq_true, or_true, true_or, and_false, false_and, ldI_0, stI_0, isC_mcl, Int.add_zero, zJ_eq, Nat.reduceAdd, Nat.reduceLT, G_o, G_1, G_2, G_3, G_4, G_13, G_14, G_15, G_16, G_17, G_18, G_19, G_20, G_21, G_22, G_23, G_24, G_25, G_26, G_27, G_28, G_29, gm_0, gm_1, gm_2, gm_3, gm_4, gm_5, gm_6, gm_7, gm_8, gm_9, gm_10, gm_11, gm_12, gm_13, gm_14, gm_15, gm_16, gm_17, gm_18, gm_19, gm_20, gm_21, gm_22, gm_23, gm_24, gm_25, gm_26, gm_27, gm_28, gm_29, gm_30, gm_31, gm_32, gm_33, gm_34, gm_35, pm_7, pm_23, pm_24, pm_25, pm_26, pm_27, pm_29, pm_31, pm_34, pm_35, pm_9, pm_19, pm_20, pm_21, pm_22, mG_U, mG_8, mG_25, mG_1, mG_2, mG_3, mG_13, mG_14, mG_15, mG_16, mG_26, mG_27, mG_28, mG_29, mG_17, mG_18, mG_19, mG_20, mG_21, mG_22, mG_23, mG_24, kq_l, va_up_ne, va_up_self, hxe, cel, ldJ_1, hw, lc_eq, zJ_toInt, h1, h0, hwr]
    · by_cases h0 : wl Sx p = 12
      · right
        have hcf : chFn 1 sz e p j Sx = none := by unfold chFn; rw [hcl, if_neg h1, if_pos h0]
        rw [e1, fS_n hcf] at he
        refine ⟨Sx, ?_, hIx⟩
        rw [he]
        try dsimp only
        conv => lhs; rw [e_223_18]
        simp (disch := omega) only [e_223_20, e_223_21, e_223_24, e_223_26, e_223_27, e_223_29, e_223_32, e_223_34, e_223_36, e_223_37, e_223_39, e_223_40, e_223_41, e_223_42, e_223_45, e_223_46, e_223_49, e_223_51, e_223_54, e_223_55, e_223_56, e_223_57, e_223_59, e_223_60, e_223_61, e_223_62, e_223_65, e_223_67, e_223_68, e_223_69, e_223_72, e_223_75, e_223_77, e_223_78, e_223_81, e_223_84, gfA_i, pfA_i, List.getElem?_cons_zero, List.getElem?_cons_succ, oK_some, rK_some, pR_some, pR_none, kq_i, kq_r, kq_n, kq_u, kq_o, kq_l, isRf_r, isRf_n, isRf_o, okv_r, okv_n, okv_o, is2_r, is2_o, is2_n, rcv_r, isC_i, if_true, if_pos, zI_add, zI_sub, zI_mul, nc_12, nc_8, nc_6, nc_40, nc_250, nc_3, nc_s, len4_0, len4_1, len4_2, len4_3, len4_4, and_self, and_true, true_and, lenA_i, va_rf_s, va_rf_n, oN_none, oN_some, zI_lt, zI_eq, nat_tn, nc_s, Int.lt_irrefl, Int.reduceEq, Int.reduceNe, Int.reduceLT, Int.reduceLE, Int.reduceSub, Int.reduceAdd, Int.reduceMul, Int.reduceDiv, Int.reduceNeg, Int.reduceToNat, or_self, or_false, false_or, if_false, if_true, not_true_eq_false, not_false_eq_true, or_true, true_or, and_false, false_and, ldI_0, stI_0, isC_mcl, Int.add_zero, zJ_eq, Nat.reduceAdd, Nat.reduceLT, G_o, G_1, G_2, G_3, G_4, G_13, G_14, G_15, G_16, G_17, G_18, G_19, G_20, G_21, G_22, G_23, G_24, G_25, G_26, G_27, G_28, G_29, gm_0, gm_1, gm_2, gm_3, gm_4, gm_5, gm_6, gm_7, gm_8, gm_9, gm_10, gm_11, gm_12, gm_13, gm_14, gm_15, gm_16, gm_17, gm_18, gm_19, gm_20, gm_21, gm_22, gm_23, gm_24, gm_25, gm_26, gm_27, gm_28, gm_29, gm_30, gm_31, gm_32, gm_33, gm_34, gm_35, pm_7, pm_23, pm_24, pm_25, pm_26, pm_27, pm_29, pm_31, pm_34, pm_35, pm_9, pm_19, pm_20, pm_21, pm_22, mG_U, mG_8, mG_25, mG_1, mG_2, mG_3, mG_13, mG_14, mG_15, mG_16, mG_26, mG_27, mG_28, mG_29, mG_17, mG_18, mG_19, mG_20, mG_21, mG_22, mG_23, mG_24, kq_l, va_up_ne, va_up_self, hxe, cel, ldJ_1, hw, lc_eq, zJ_toInt, h1, h0, okS]
      · left
        have hsi := r_isSilent (M := W) (o := b) (U := U') (kt := kt') (F := F') (E := E') (mv := mv') (d := d + 3) hIx.bd hp12
        have hcf : chFn 1 sz e p j Sx = some (siS Sx p) := by unfold chFn; rw [hcl, if_neg h1, if_neg h0]
        rw [e1, fS_s hcf] at he
        refine ⟨(siS Sx p, .int (zI (wl Sx p))), ?_, ⟨In_si hIx hpx.1, prd_si hpx, hkx⟩, he⟩
        try dsimp only
        conv => lhs; rw [e_223_18]
        simp (disch := omega) only [e_223_20, e_223_21, e_223_24, e_223_26, e_223_27, e_223_29, e_223_32, e_223_34, e_223_36, e_223_37, e_223_39, e_223_40, e_223_41, e_223_42, e_223_45, e_223_46, e_223_49, e_223_51, e_223_54, e_223_55, e_223_56, e_223_57, e_223_59, e_223_60, e_223_61, e_223_62, e_223_65, e_223_67, e_223_68, e_223_69, e_223_72, e_223_75, e_223_77, e_223_78, e_223_81, e_223_84, gfA_i, pfA_i, List.getElem?_cons_zero, List.getElem?_cons_succ, oK_some, rK_some, pR_some, pR_none, kq_i, kq_r, kq_n, kq_u, kq_o, kq_l, isRf_r, isRf_n, isRf_o, okv_r, okv_n, okv_o, is2_r, is2_o, is2_n, rcv_r, isC_i, if_true, if_pos, zI_add, zI_sub, zI_mul, nc_12, nc_8, nc_6, nc_40, nc_250, nc_3, nc_s, len4_0, len4_1, len4_2, len4_3, len4_4, and_self, and_true, true_and, lenA_i, va_rf_s, va_rf_n, oN_none, oN_some, zI_lt, zI_eq, nat_tn, nc_s, Int.lt_irrefl, Int.reduceEq, Int.reduceNe, Int.reduceLT, Int.reduceLE, Int.reduceSub, Int.reduceAdd, Int.reduceMul, Int.reduceDiv, Int.reduceNeg, Int.reduceToNat, or_self, or_false, false_or, if_false, if_true, not_true_eq_false, not_false_eq_true, or_true, true_or, and_false, false_and, ldI_0, stI_0, isC_mcl, Int.add_zero, zJ_eq, Nat.reduceAdd, Nat.reduceLT, G_o, G_1, G_2, G_3, G_4, G_13, G_14, G_15, G_16, G_17, G_18, G_19, G_20, G_21, G_22, G_23, G_24, G_25, G_26, G_27, G_28, G_29, gm_0, gm_1, gm_2, gm_3, gm_4, gm_5, gm_6, gm_7, gm_8, gm_9, gm_10, gm_11, gm_12, gm_13, gm_14, gm_15, gm_16, gm_17, gm_18, gm_19, gm_20, gm_21, gm_22, gm_23, gm_24, gm_25, gm_26, gm_27, gm_28, gm_29, gm_30, gm_31, gm_32, gm_33, gm_34, gm_35, pm_7, pm_23, pm_24, pm_25, pm_26, pm_27, pm_29, pm_31, pm_34, pm_35, pm_9, pm_19, pm_20, pm_21, pm_22, mG_U, mG_8, mG_25, mG_1, mG_2, mG_3, mG_13, mG_14, mG_15, mG_16, mG_26, mG_27, mG_28, mG_29, mG_17, mG_18, mG_19, mG_20, mG_21, mG_22, mG_23, mG_24, kq_l, va_up_ne, va_up_self, hxe, cel, ldJ_1, hw, lc_eq, zJ_toInt, h1, h0, hsi]
  · obtain ⟨Sx, y7⟩ := y
    obtain ⟨⟨hIx, hpx, hkx⟩, he⟩ := hy
    rw [Nat.sub_self] at he
    have he' : fS (chFn 1 sz e p) n 0 (sU S 0 p k) = .inr Sx := he
    refine ⟨Sx, ?_, hIx⟩
    rw [he']
    try dsimp only
    rw [e_223_18]
    simp (disch := omega) only [e_223_20, e_223_21, e_223_87, e_223_88, gfA_i, pfA_i, List.getElem?_cons_zero, List.getElem?_cons_succ, oK_some, rK_some, pR_some, pR_none, kq_i, kq_r, kq_n, kq_u, kq_o, kq_l, isRf_r, isRf_n, isRf_o, okv_r, okv_n, okv_o, is2_r, is2_o, is2_n, rcv_r, isC_i, if_true, if_pos, zI_add, zI_sub, zI_mul, nc_12, nc_8, nc_6, nc_40, nc_250, nc_3, nc_s, len4_0, len4_1, len4_2, len4_3, len4_4, and_self, and_true, true_and, lenA_i, va_rf_s, va_rf_n, oN_none, oN_some, zI_lt, zI_eq, nat_tn, nc_s, Int.lt_irrefl, Int.reduceEq, Int.reduceNe, Int.reduceLT, Int.reduceLE, Int.reduceSub, Int.reduceAdd, Int.reduceMul, Int.reduceDiv, Int.reduceNeg, Int.reduceToNat, or_self, or_false, false_or, if_false, if_true, not_true_eq_false, not_false_eq_true, or_true, true_or, and_false, false_and, ldI_0, stI_0, isC_mcl, Int.add_zero, zJ_eq, Nat.reduceAdd, Nat.reduceLT, G_o, G_1, G_2, G_3, G_4, G_13, G_14, G_15, G_16, G_17, G_18, G_19, G_20, G_21, G_22, G_23, G_24, G_25, G_26, G_27, G_28, G_29, gm_0, gm_1, gm_2, gm_3, gm_4, gm_5, gm_6, gm_7, gm_8, gm_9, gm_10, gm_11, gm_12, gm_13, gm_14, gm_15, gm_16, gm_17, gm_18, gm_19, gm_20, gm_21, gm_22, gm_23, gm_24, gm_25, gm_26, gm_27, gm_28, gm_29, gm_30, gm_31, gm_32, gm_33, gm_34, gm_35, pm_7, pm_23, pm_24, pm_25, pm_26, pm_27, pm_29, pm_31, pm_34, pm_35, pm_9, pm_19, pm_20, pm_21, pm_22, mG_U, mG_8, mG_25, mG_1, mG_2, mG_3, mG_13, mG_14, mG_15, mG_16, mG_26, mG_27, mG_28, mG_29, mG_17, mG_18, mG_19, mG_20, mG_21, mG_22, mG_23, mG_24, kq_l, va_up_ne, va_up_self, okS]
theorem r_mayHave {d n s p k : Nat} {sz : Int} (hI : In S) (hK : KTP K kp kt D) (h : prd S p) (hk : k ≤ 5) (hs : s < 8) (hn : n ≤ 40) (hz : (n : Int) ≤ sz) : ∃ b D', callD (d + 5) 223 [.ref 68, .ref (73 + s), .int (zI n), .int (zI p), .int (zI k)] (G ((H (Sh) S2 K kp X T nC E z B Y Rf D)) (68) S U kt F E mv) = some (some (.int (zI (meB (E s) sz p n S k))), (G ((H (Sh) S2 K kp X T nC E z B Y Rf (D'))) (68) S U ((kt.1, some b)) F E mv)) ∧ KTP K kp (kt.1, some b) D' := by
  obtain ⟨b, D', hfr1, hK', hL'⟩ := r_fresh (Sh := Sh) (S := S) (S2 := S2) (K := K) (kp := kp) (X := X) (T := T) (nC := nC) (E := E) (z := z) (B := B) (Y := Y) (Rf := Rf) (D := D) (U := U) (kt := kt) (F := F) (mv := mv) (d := d) hI hK
  obtain ⟨hb1, hb2⟩ := KTP_bb hK'
  obtain ⟨U1, kt1, F1, E1, m1, eW⟩ := onW (Sh := Sh) (S := S) (S2 := S2) (K := K) (kp := kp) (X := X) (T := T) (nC := nC) (E := E) (z := z) (B := B) (Y := Y) (Rf := Rf) (D := D') (U := U) (kt := (kt.1, some b)) (F := F) (mv := mv) hL' hb1
  obtain ⟨Sx, hrl, hIx⟩ := r_mayL (W := (G ((H (Sh) S2 K kp X T nC E z B Y Rf (D'))) (68) S U ((kt.1, some b)) F E mv)) (U' := U1) (kt' := kt1) (F' := F1) (E' := E1) (mv' := m1) (d := d) (b := b) (e := E s) (n := n) hI h hk hs hn hz (G_E (o := 68) hs) hb1
  rw [eW, GC hb1] at hrl
  refine ⟨b, G D' b Sx U1 kt1 F1 E1 m1, ?_, KTP_b hK' LY_G (In_z hIx) rfl rfl (fun q hq => G_ne hq)⟩
  rw [c_223 (is2_r _)]
  simp (disch := omega) only [e_223_0, e_223_1, e_223_4, gfA_i, pfA_i, List.getElem?_cons_zero, List.getElem?_cons_succ, oK_some, rK_some, pR_some, pR_none, kq_i, kq_r, kq_n, kq_u, kq_o, kq_l, isRf_r, isRf_n, isRf_o, okv_r, okv_n, okv_o, is2_r, is2_o, is2_n, rcv_r, isC_i, if_true, if_pos, zI_add, zI_sub, zI_mul, nc_12, nc_8, nc_6, nc_40, nc_250, nc_3, nc_s, len4_0, len4_1, len4_2, len4_3, len4_4, and_self, and_true, true_and, lenA_i, va_rf_s, va_rf_n, oN_none, oN_some, zI_lt, zI_eq, nat_tn, nc_s, Int.lt_irrefl, Int.reduceEq, Int.reduceNe, Int.reduceLT, Int.reduceLE, Int.reduceSub, Int.reduceAdd, Int.reduceMul, Int.reduceDiv, Int.reduceNeg, Int.reduceToNat, or_self, or_false, false_or, if_false, if_true, not_true_eq_false, not_false_eq_true, or_true, true_or, and_false, false_and, ldI_0, stI_0, isC_mcl, Int.add_zero, zJ_eq, Nat.reduceAdd, Nat.reduceLT, G_o, G_1, G_2, G_3, G_4, G_13, G_14, G_15, G_16, G_17, G_18, G_19, G_20, G_21, G_22, G_23, G_24, G_25, G_26, G_27, G_28, G_29, gm_0, gm_1, gm_2, gm_3, gm_4, gm_5, gm_6, gm_7, gm_8, gm_9, gm_10, gm_11, gm_12, gm_13, gm_14, gm_15, gm_16, gm_17, gm_18, gm_19, gm_20, gm_21, gm_22, gm_23, gm_24, gm_25, gm_26, gm_27, gm_28, gm_29, gm_30, gm_31, gm_32, gm_33, gm_34, gm_35, pm_7, pm_23, pm_24, pm_25, pm_26, pm_27, pm_29, pm_31, pm_34, pm_35, pm_9, pm_19, pm_20, pm_21, pm_22, mG_U, mG_8, mG_25, mG_1, mG_2, mG_3, mG_13, mG_14, mG_15, mG_16, mG_26, mG_27, mG_28, mG_29, mG_17, mG_18, mG_19, mG_20, mG_21, mG_22, mG_23, mG_24, kq_l, va_up_ne, va_up_self, hfr1]
  exact hrl
theorem r_meantL {d n s p : Nat} {sz : Int} {x5 : Int32} (hI : In S) (hK : KTP K kp kt D) (h : prd S p) (hs : s < 8) (hn : n ≤ 40) (hz : (n : Int) ≤ sz) : ∃ kt' D', den (callD (d + 5)) 224 134 [.ref 68, .int (zI s), .int (zI n), .int (zI p), .int (zI 0), .int x5, .int (zI 0), .int (zI 0)] [] (G ((H (Sh) S2 K kp X T nC E z B Y Rf D)) (68) S U kt F E mv) = some (some (.int (fN (meF (E s) sz p n S) 6 0 (zI 0))), (G ((H (Sh) S2 K kp X T nC E z B Y Rf (D'))) (68) S U (kt') F E mv)) ∧ KTP K kp kt' D' := by
  have hRm : ∀ kt D, isC (((G ((H (Sh) S2 K kp X T nC E z B Y Rf (D))) (68) S U (kt) F E mv) : AM).2.2 68) 6 = true := fun kt D => by rw [G_o]; rfl
  refine loopQ (fun j (y : Int32 × (Option Nat × Option Nat) × AM) => den (callD (d + 5)) 224 134 [.ref 68, .int (zI s), .int (zI n), .int (zI p), .int (zI 0), .int x5, .int y.1, .int (zI j)] [] (G ((H (Sh) S2 K kp X T nC E z B Y Rf (y.2.2))) (68) S U (y.2.1) F E mv)) (fun x => ∃ kt' D', x = some (some (.int (fN (meF (E s) sz p n S) 6 0 (zI 0))), (G ((H (Sh) S2 K kp X T nC E z B Y Rf (D'))) (68) S U (kt') F E mv)) ∧ KTP K kp kt' D') (fun j y => KTP K kp y.2.1 y.2.2 ∧ fN (meF (E s) sz p n S) 6 0 (zI 0) = fN (meF (E s) sz p n S) (6 - j) j y.1) 6 (fun j y hj hy => ?_) (fun y hy => ?_) 6 0 (zI 0, kt, D) rfl ⟨hK, rfl⟩
  · obtain ⟨x, kt2, D2⟩ := y
    obtain ⟨hK2, he⟩ := hy
    obtain ⟨b, D', hm, hK'⟩ := r_mayHave (Sh := Sh) (S := S) (S2 := S2) (K := K) (kp := kp) (X := X) (T := T) (nC := nC) (E := E) (z := z) (B := B) (Y := Y) (Rf := Rf) (D := D2) (U := U) (kt := kt2) (F := F) (mv := mv) (d := d) hI hK2 h (show j ≤ 5 by omega) hs hn hz
    rw [show 6 - j = (6 - (j + 1)) + 1 by omega] at he
    have e9 : ¬ (5 : Int) < (j : Int) := by omega
    left
    refine ⟨(meF (E s) sz p n S j x, (kt2.1, some b), D'), ?_, hK', he⟩
    try dsimp only
    conv => lhs; rw [e_224_134]
    rcases okS_01 (fS (chFn 1 sz (E s) p) n 0 (sU S 0 p j)) with h1 | h1
    · have h2 : meB (E s) sz p n S j = 0 := h1
      rw [h2] at hm
      rw [show meF (E s) sz p n S j x = x from if_neg (by omega)]
      simp (disch := omega) only [e_224_136, e_224_137, e_224_140, e_224_142, e_224_143, e_224_144, e_224_147, e_224_148, e_224_149, e_224_150, e_224_151, e_224_153, e_224_156, e_224_159, e_224_160, e_224_162, e_224_163, e_224_166, e_224_167, e_224_168, e_224_170, e_224_173, gfA_i, pfA_i, List.getElem?_cons_zero, List.getElem?_cons_succ, oK_some, rK_some, pR_some, pR_none, kq_i, kq_r, kq_n, kq_u, kq_o, kq_l, isRf_r, isRf_n, isRf_o, okv_r, okv_n, okv_o, is2_r, is2_o, is2_n, rcv_r, isC_i, if_true, if_pos, zI_add, zI_sub, zI_mul, nc_12, nc_8, nc_6, nc_40, nc_250, nc_3, nc_s, len4_0, len4_1, len4_2, len4_3, len4_4, and_self, and_true, true_and, lenA_i, va_rf_s, va_rf_n, oN_none, oN_some, zI_lt, zI_eq, nat_tn, nc_s, Int.lt_irrefl, Int.reduceEq, Int.reduceNe, Int.reduceLT, Int.reduceLE, Int.reduceSub, Int.reduceAdd, Int.reduceMul, Int.reduceDiv, Int.reduceNeg, Int.reduceToNat, or_self, or_false, false_or, if_false, if_true, not_true_eq_false, not_false_eq_true, or_true, true_or, and_false, false_and, ldI_0, stI_0, isC_mcl, Int.add_zero, zJ_eq, Nat.reduceAdd, Nat.reduceLT, G_o, G_1, G_2, G_3, G_4, G_13, G_14, G_15, G_16, G_17, G_18, G_19, G_20, G_21, G_22, G_23, G_24, G_25, G_26, G_27, G_28, G_29, gm_0, gm_1, gm_2, gm_3, gm_4, gm_5, gm_6, gm_7, gm_8, gm_9, gm_10, gm_11, gm_12, gm_13, gm_14, gm_15, gm_16, gm_17, gm_18, gm_19, gm_20, gm_21, gm_22, gm_23, gm_24, gm_25, gm_26, gm_27, gm_28, gm_29, gm_30, gm_31, gm_32, gm_33, gm_34, gm_35, pm_7, pm_23, pm_24, pm_25, pm_26, pm_27, pm_29, pm_31, pm_34, pm_35, pm_9, pm_19, pm_20, pm_21, pm_22, mG_U, mG_8, mG_25, mG_1, mG_2, mG_3, mG_13, mG_14, mG_15, mG_16, mG_26, mG_27, mG_28, mG_29, mG_17, mG_18, mG_19, mG_20, mG_21, mG_22, mG_23, mG_24, kq_l, va_up_ne, va_up_self, aR_i (o := 68) hs, hm, or_z, e9]
    · have h2 : meB (E s) sz p n S j = 1 := h1
      rw [h2] at hm
      rw [show meF (E s) sz p n S j x = bor j x from if_pos h2]
      simp (disch := omega) only [e_224_136, e_224_137, e_224_140, e_224_142, e_224_143, e_224_144, e_224_147, e_224_148, e_224_149, e_224_150, e_224_151, e_224_153, e_224_156, e_224_159, e_224_160, e_224_162, e_224_163, e_224_166, e_224_167, e_224_168, e_224_170, e_224_173, gfA_i, pfA_i, List.getElem?_cons_zero, List.getElem?_cons_succ, oK_some, rK_some, pR_some, pR_none, kq_i, kq_r, kq_n, kq_u, kq_o, kq_l, isRf_r, isRf_n, isRf_o, okv_r, okv_n, okv_o, is2_r, is2_o, is2_n, rcv_r, isC_i, if_true, if_pos, zI_add, zI_sub, zI_mul, nc_12, nc_8, nc_6, nc_40, nc_250, nc_3, nc_s, len4_0, len4_1, len4_2, len4_3, len4_4, and_self, and_true, true_and, lenA_i, va_rf_s, va_rf_n, oN_none, oN_some, zI_lt, zI_eq, nat_tn, nc_s, Int.lt_irrefl, Int.reduceEq, Int.reduceNe, Int.reduceLT, Int.reduceLE, Int.reduceSub, Int.reduceAdd, Int.reduceMul, Int.reduceDiv, Int.reduceNeg, Int.reduceToNat, or_self, or_false, false_or, if_false, if_true, not_true_eq_false, not_false_eq_true, or_true, true_or, and_false, false_and, ldI_0, stI_0, isC_mcl, Int.add_zero, zJ_eq, Nat.reduceAdd, Nat.reduceLT, G_o, G_1, G_2, G_3, G_4, G_13, G_14, G_15, G_16, G_17, G_18, G_19, G_20, G_21, G_22, G_23, G_24, G_25, G_26, G_27, G_28, G_29, gm_0, gm_1, gm_2, gm_3, gm_4, gm_5, gm_6, gm_7, gm_8, gm_9, gm_10, gm_11, gm_12, gm_13, gm_14, gm_15, gm_16, gm_17, gm_18, gm_19, gm_20, gm_21, gm_22, gm_23, gm_24, gm_25, gm_26, gm_27, gm_28, gm_29, gm_30, gm_31, gm_32, gm_33, gm_34, gm_35, pm_7, pm_23, pm_24, pm_25, pm_26, pm_27, pm_29, pm_31, pm_34, pm_35, pm_9, pm_19, pm_20, pm_21, pm_22, mG_U, mG_8, mG_25, mG_1, mG_2, mG_3, mG_13, mG_14, mG_15, mG_16, mG_26, mG_27, mG_28, mG_29, mG_17, mG_18, mG_19, mG_20, mG_21, mG_22, mG_23, mG_24, kq_l, va_up_ne, va_up_self, aR_i (o := 68) hs, hm, bor, e9]
  · obtain ⟨x, kt2, D2⟩ := y
    obtain ⟨hK2, he⟩ := hy
    have he' : fN (meF (E s) sz p n S) 6 0 (zI 0) = x := he
    refine ⟨kt2, D2, ?_, hK2⟩
    rw [he']
    show den (callD (d + 5)) 224 134 [.ref 68, .int (zI s), .int (zI n), .int (zI p), .int (zI 0), .int x5, .int x, .int (zI 6)] [] _ = _
    rw [e_224_134]
    simp (disch := omega) only [e_224_136, e_224_137, e_224_176, e_224_178, gfA_i, pfA_i, List.getElem?_cons_zero, List.getElem?_cons_succ, oK_some, rK_some, pR_some, pR_none, kq_i, kq_r, kq_n, kq_u, kq_o, kq_l, isRf_r, isRf_n, isRf_o, okv_r, okv_n, okv_o, is2_r, is2_o, is2_n, rcv_r, isC_i, if_true, if_pos, zI_add, zI_sub, zI_mul, nc_12, nc_8, nc_6, nc_40, nc_250, nc_3, len4_0, len4_1, len4_2, len4_3, len4_4, and_self, and_true, true_and, lenA_i, va_rf_s, va_rf_n, oN_none, oN_some, zI_lt, zI_eq, nat_tn, Int.lt_irrefl, Int.reduceEq, Int.reduceNe, Int.reduceLT, Int.reduceLE, Int.reduceSub, Int.reduceAdd, Int.reduceMul, Int.reduceDiv, Int.reduceNeg, Int.reduceToNat, or_self, or_false, false_or, if_false, if_true, not_true_eq_false, not_false_eq_true, or_true, true_or, and_false, false_and, ldI_0, stI_0, isC_mcl, Int.add_zero, zJ_eq, Nat.reduceAdd, Nat.reduceLT, G_o, G_1, G_2, G_3, G_4, G_13, G_14, G_15, G_16, G_17, G_18, G_19, G_20, G_21, G_22, G_23, G_24, G_25, G_26, G_27, G_28, G_29, gm_0, gm_1, gm_2, gm_3, gm_4, gm_5, gm_6, gm_7, gm_8, gm_9, gm_10, gm_11, gm_12, gm_13, gm_14, gm_15, gm_16, gm_17, gm_18, gm_19, gm_20, gm_21, gm_22, gm_23, gm_24, gm_25, gm_26, gm_27, gm_28, gm_29, gm_30, gm_31, gm_32, gm_33, gm_34, gm_35, pm_7, pm_23, pm_24, pm_25, pm_26, pm_27, pm_29, pm_31, pm_34, pm_35, pm_9, pm_19, pm_20, pm_21, pm_22, mG_U, mG_8, mG_25, mG_1, mG_2, mG_3, mG_13, mG_14, mG_15, mG_16, mG_26, mG_27, mG_28, mG_29, mG_17, mG_18, mG_19, mG_20, mG_21, mG_22, mG_23, mG_24, kq_l, va_up_ne, va_up_self]
theorem r_mayAll {M : AM} {o d n s p : Nat} {m sz : Int} {y7 : Value} (hs : s < 8) (hn : n ≤ 40) (hm : m = 0 ∨ m = 1) (hz : (n : Int) ≤ sz) : den (callD (d + 1)) 224 85 [.ref o, .int (zI s), .int (zI n), .int (zI p), .int (zI 0), .int (zI m), .int (zI 0), y7] [] (G M o S U kt F E mv) = den (callD (d + 1)) 224 116 [.ref o, .int (zI s), .int (zI n), .int (zI p), .int (zI 0), .int (zI (if m = 1 then yesN 1 sz (E s) n else 0)), .int (zI n), y7] [] (G M o S U kt F E mv) := by
  refine loopQ (fun j (m' : Int) => den (callD (d + 1)) 224 85 [.ref o, .int (zI s), .int (zI n), .int (zI p), .int (zI 0), .int (zI m'), .int (zI j), y7] [] (G M o S U kt F E mv)) (fun x => x = den (callD (d + 1)) 224 116 [.ref o, .int (zI s), .int (zI n), .int (zI p), .int (zI 0), .int (zI (if m = 1 then yesN 1 sz (E s) n else 0)), .int (zI n), y7] [] (G M o S U kt F E mv)) (fun j m' => (m' = 0 ∨ m' = 1) ∧ (if m = 1 then yesN 1 sz (E s) n else 0) = (if m' = 1 then mO (fF (fun i => if (celA 1 sz (E s) i).toInt = 0 ∨ (celA 1 sz (E s) i).toInt = 1 then none else some (0 : Int)) (n - j) j) (fun b => b) 1 else 0)) n (fun j m' hj hy => ?_) (fun m' hy => ?_) n 0 m (by omega) ⟨hm, rfl⟩
  · obtain ⟨hm', he⟩ := hy
    have hcl : celA 1 sz (E s) j = E s j := celA_1 (by omega)
    rw [show n - j = (n - (j + 1)) + 1 by omega] at he
    left
    by_cases h1 : (E s j).toInt = 0 ∨ (E s j).toInt = 1
    · have hr := r_in (d := d) (M := (G M o S U kt F E mv)) (E s j) (zJ 0) (zJ 1)
      rw [zJ_toInt (by omega) (by omega), zJ_toInt (by omega) (by omega), if_pos (by omega)] at hr
      rw [fF_n (by rw [hcl, if_pos h1])] at he
      refine ⟨m', ?_, hm', he⟩
      try dsimp only
      conv => lhs; rw [e_224_85]
      rcases hm' with rfl | rfl
      · simp (disch := omega) only [e_224_87, e_224_88, e_224_91, e_224_93, e_224_94, e_224_97, e_224_98, e_224_99, e_224_101, e_224_102, e_224_103, e_224_104, e_224_107, e_224_108, e_224_110, e_224_113, gfA_i, pfA_i, List.getElem?_cons_zero, List.getElem?_cons_succ, oK_some, rK_some, pR_some, pR_none, kq_i, kq_r, kq_n, kq_u, kq_o, kq_l, isRf_r, isRf_n, isRf_o, okv_r, okv_n, okv_o, is2_r, is2_o, is2_n, rcv_r, isC_i, if_true, if_pos, zI_add, zI_sub, zI_mul, nc_12, nc_8, nc_6, nc_40, nc_250, nc_3, nc_s, len4_0, len4_1, len4_2, len4_3, len4_4, and_self, and_true, true_and, lenA_i, va_rf_s, va_rf_n, oN_none, oN_some, zI_lt, zI_eq, nat_tn, nc_s, Int.lt_irrefl, Int.reduceEq, Int.reduceNe, Int.reduceLT, Int.reduceLE, Int.reduceSub, Int.reduceAdd, Int.reduceMul, Int.reduceDiv, Int.reduceNeg, Int.reduceToNat, or_self, or_false, false_or, if_false, if_true, not_true_eq_false, not_false_eq_true, or_true, true_or, and_false, false_and, ldI_0, stI_0, isC_mcl, Int.add_zero, zJ_eq, Nat.reduceAdd, Nat.reduceLT, G_o, G_1, G_2, G_3, G_4, G_13, G_14, G_15, G_16, G_17, G_18, G_19, G_20, G_21, G_22, G_23, G_24, G_25, G_26, G_27, G_28, G_29, gm_0, gm_1, gm_2, gm_3, gm_4, gm_5, gm_6, gm_7, gm_8, gm_9, gm_10, gm_11, gm_12, gm_13, gm_14, gm_15, gm_16, gm_17, gm_18, gm_19, gm_20, gm_21, gm_22, gm_23, gm_24, gm_25, gm_26, gm_27, gm_28, gm_29, gm_30, gm_31, gm_32, gm_33, gm_34, gm_35, pm_7, pm_23, pm_24, pm_25, pm_26, pm_27, pm_29, pm_31, pm_34, pm_35, pm_9, pm_19, pm_20, pm_21, pm_22, mG_U, mG_8, mG_25, mG_1, mG_2, mG_3, mG_13, mG_14, mG_15, mG_16, mG_26, mG_27, mG_28, mG_29, mG_17, mG_18, mG_19, mG_20, mG_21, mG_22, mG_23, mG_24, kq_l, va_up_ne, va_up_self, aR_i, G_E, cel, ldJ_1, hr, and_01]
      · simp (disch := omega) only [e_224_87, e_224_88, e_224_91, e_224_93, e_224_94, e_224_97, e_224_98, e_224_99, e_224_101, e_224_102, e_224_103, e_224_104, e_224_107, e_224_108, e_224_110, e_224_113, gfA_i, pfA_i, List.getElem?_cons_zero, List.getElem?_cons_succ, oK_some, rK_some, pR_some, pR_none, kq_i, kq_r, kq_n, kq_u, kq_o, kq_l, isRf_r, isRf_n, isRf_o, okv_r, okv_n, okv_o, is2_r, is2_o, is2_n, rcv_r, isC_i, if_true, if_pos, zI_add, zI_sub, zI_mul, nc_12, nc_8, nc_6, nc_40, nc_250, nc_3, nc_s, len4_0, len4_1, len4_2, len4_3, len4_4, and_self, and_true, true_and, lenA_i, va_rf_s, va_rf_n, oN_none, oN_some, zI_lt, zI_eq, nat_tn, nc_s, Int.lt_irrefl, Int.reduceEq, Int.reduceNe, Int.reduceLT, Int.reduceLE, Int.reduceSub, Int.reduceAdd, Int.reduceMul, Int.reduceDiv, Int.reduceNeg, Int.reduceToNat, or_self, or_false, false_or, if_false, if_true, not_true_eq_false, not_false_eq_true, or_true, true_or, and_false, false_and, ldI_0, stI_0, isC_mcl, Int.add_zero, zJ_eq, Nat.reduceAdd, Nat.reduceLT, G_o, G_1, G_2, G_3, G_4, G_13, G_14, G_15, G_16, G_17, G_18, G_19, G_20, G_21, G_22, G_23, G_24, G_25, G_26, G_27, G_28, G_29, gm_0, gm_1, gm_2, gm_3, gm_4, gm_5, gm_6, gm_7, gm_8, gm_9, gm_10, gm_11, gm_12, gm_13, gm_14, gm_15, gm_16, gm_17, gm_18, gm_19, gm_20, gm_21, gm_22, gm_23, gm_24, gm_25, gm_26, gm_27, gm_28, gm_29, gm_30, gm_31, gm_32, gm_33, gm_34, gm_35, pm_7, pm_23, pm_24, pm_25, pm_26, pm_27, pm_29, pm_31, pm_34, pm_35, pm_9, pm_19, pm_20, pm_21, pm_22, mG_U, mG_8, mG_25, mG_1, mG_2, mG_3, mG_13, mG_14, mG_15, mG_16, mG_26, mG_27, mG_28, mG_29, mG_17, mG_18, mG_19, mG_20, mG_21, mG_22, mG_23, mG_24, kq_l, va_up_ne, va_up_self, aR_i, G_E, cel, ldJ_1, hr, and_11]
    · have hr := r_in (d := d) (M := (G M o S U kt F E mv)) (E s j) (zJ 0) (zJ 1)
      rw [zJ_toInt (by omega) (by omega), zJ_toInt (by omega) (by omega), if_neg (by omega)] at hr
      rw [fF_s (b := 0) (by rw [hcl, if_neg h1])] at he
      refine ⟨0, ?_, Or.inl rfl, ?_⟩
      · try dsimp only
        conv => lhs; rw [e_224_85]
        rcases hm' with rfl | rfl
        · simp (disch := omega) only [e_224_87, e_224_88, e_224_91, e_224_93, e_224_94, e_224_97, e_224_98, e_224_99, e_224_101, e_224_102, e_224_103, e_224_104, e_224_107, e_224_108, e_224_110, e_224_113, gfA_i, pfA_i, List.getElem?_cons_zero, List.getElem?_cons_succ, oK_some, rK_some, pR_some, pR_none, kq_i, kq_r, kq_n, kq_u, kq_o, kq_l, isRf_r, isRf_n, isRf_o, okv_r, okv_n, okv_o, is2_r, is2_o, is2_n, rcv_r, isC_i, if_true, if_pos, zI_add, zI_sub, zI_mul, nc_12, nc_8, nc_6, nc_40, nc_250, nc_3, nc_s, len4_0, len4_1, len4_2, len4_3, len4_4, and_self, and_true, true_and, lenA_i, va_rf_s, va_rf_n, oN_none, oN_some, zI_lt, zI_eq, nat_tn, nc_s, Int.lt_irrefl, Int.reduceEq, Int.reduceNe, Int.reduceLT, Int.reduceLE, Int.reduceSub, Int.reduceAdd, Int.reduceMul, Int.reduceDiv, Int.reduceNeg, Int.reduceToNat, or_self, or_false, false_or, if_false, if_true, not_true_eq_false, not_false_eq_true, or_true, true_or, and_false, false_and, ldI_0, stI_0, isC_mcl, Int.add_zero, zJ_eq, Nat.reduceAdd, Nat.reduceLT, G_o, G_1, G_2, G_3, G_4, G_13, G_14, G_15, G_16, G_17, G_18, G_19, G_20, G_21, G_22, G_23, G_24, G_25, G_26, G_27, G_28, G_29, gm_0, gm_1, gm_2, gm_3, gm_4, gm_5, gm_6, gm_7, gm_8, gm_9, gm_10, gm_11, gm_12, gm_13, gm_14, gm_15, gm_16, gm_17, gm_18, gm_19, gm_20, gm_21, gm_22, gm_23, gm_24, gm_25, gm_26, gm_27, gm_28, gm_29, gm_30, gm_31, gm_32, gm_33, gm_34, gm_35, pm_7, pm_23, pm_24, pm_25, pm_26, pm_27, pm_29, pm_31, pm_34, pm_35, pm_9, pm_19, pm_20, pm_21, pm_22, mG_U, mG_8, mG_25, mG_1, mG_2, mG_3, mG_13, mG_14, mG_15, mG_16, mG_26, mG_27, mG_28, mG_29, mG_17, mG_18, mG_19, mG_20, mG_21, mG_22, mG_23, mG_24, kq_l, va_up_ne, va_up_self, aR_i, G_E, cel, ldJ_1, hr, and_00]
        · simp (disch := omega) only [e_224_87, e_224_88, e_224_91, e_224_93, e_224_94, e_224_97, e_224_98, e_224_99, e_224_101, e_224_102, e_224_103, e_224_104, e_224_107, e_224_108, e_224_110, e_224_113, gfA_i, pfA_i, List.getElem?_cons_zero, List.getElem?_cons_succ, oK_some, rK_some, pR_some, pR_none, kq_i, kq_r, kq_n, kq_u, kq_o, kq_l, isRf_r, isRf_n, isRf_o, okv_r, okv_n, okv_o, is2_r, is2_o, is2_n, rcv_r, isC_i, if_true, if_pos, zI_add, zI_sub, zI_mul, nc_12, nc_8, nc_6, nc_40, nc_250, nc_3, nc_s, len4_0, len4_1, len4_2, len4_3, len4_4, and_self, and_true, true_and, lenA_i, va_rf_s, va_rf_n, oN_none, oN_some, zI_lt, zI_eq, nat_tn, nc_s, Int.lt_irrefl, Int.reduceEq, Int.reduceNe, Int.reduceLT, Int.reduceLE, Int.reduceSub, Int.reduceAdd, Int.reduceMul, Int.reduceDiv, Int.reduceNeg, Int.reduceToNat, or_self, or_false, false_or, if_false, if_true, not_true_eq_false, not_false_eq_true, or_true, true_or, and_false, false_and, ldI_0, stI_0, isC_mcl, Int.add_zero, zJ_eq, Nat.reduceAdd, Nat.reduceLT, G_o, G_1, G_2, G_3, G_4, G_13, G_14, G_15, G_16, G_17, G_18, G_19, G_20, G_21, G_22, G_23, G_24, G_25, G_26, G_27, G_28, G_29, gm_0, gm_1, gm_2, gm_3, gm_4, gm_5, gm_6, gm_7, gm_8, gm_9, gm_10, gm_11, gm_12, gm_13, gm_14, gm_15, gm_16, gm_17, gm_18, gm_19, gm_20, gm_21, gm_22, gm_23, gm_24, gm_25, gm_26, gm_27, gm_28, gm_29, gm_30, gm_31, gm_32, gm_33, gm_34, gm_35, pm_7, pm_23, pm_24, pm_25, pm_26, pm_27, pm_29, pm_31, pm_34, pm_35, pm_9, pm_19, pm_20, pm_21, pm_22, mG_U, mG_8, mG_25, mG_1, mG_2, mG_3, mG_13, mG_14, mG_15, mG_16, mG_26, mG_27, mG_28, mG_29, mG_17, mG_18, mG_19, mG_20, mG_21, mG_22, mG_23, mG_24, kq_l, va_up_ne, va_up_self, aR_i, G_E, cel, ldJ_1, hr, and_10]
      · rw [he, mO_s, if_neg (show ¬ (0 : Int) = 1 by omega)]
        split <;> rfl
  · obtain ⟨hm', he⟩ := hy
    rw [Nat.sub_self] at he
    have he' : (if m = 1 then yesN 1 sz (E s) n else 0) = m' := by
      rw [he]
      rcases hm' with rfl | rfl <;> rfl
    rw [he']
    try dsimp only
    rw [e_224_85]
    simp (disch := omega) only [e_224_87, e_224_88, gfA_i, pfA_i, List.getElem?_cons_zero, List.getElem?_cons_succ, oK_some, rK_some, pR_some, pR_none, kq_i, kq_r, kq_n, kq_u, kq_o, kq_l, isRf_r, isRf_n, isRf_o, okv_r, okv_n, okv_o, is2_r, is2_o, is2_n, rcv_r, isC_i, if_true, if_pos, zI_add, zI_sub, zI_mul, nc_12, nc_8, nc_6, nc_40, nc_250, nc_3, nc_s, len4_0, len4_1, len4_2, len4_3, len4_4, and_self, and_true, true_and, lenA_i, va_rf_s, va_rf_n, oN_none, oN_some, zI_lt, zI_eq, nat_tn, nc_s, Int.lt_irrefl, Int.reduceEq, Int.reduceNe, Int.reduceLT, Int.reduceLE, Int.reduceSub, Int.reduceAdd, Int.reduceMul, Int.reduceDiv, Int.reduceNeg, Int.reduceToNat, or_self, or_false, false_or, if_false, if_true, not_true_eq_false, not_false_eq_true, or_true, true_or, and_false, false_and, ldI_0, stI_0, isC_mcl, Int.add_zero, zJ_eq, Nat.reduceAdd, Nat.reduceLT, G_o, G_1, G_2, G_3, G_4, G_13, G_14, G_15, G_16, G_17, G_18, G_19, G_20, G_21, G_22, G_23, G_24, G_25, G_26, G_27, G_28, G_29, gm_0, gm_1, gm_2, gm_3, gm_4, gm_5, gm_6, gm_7, gm_8, gm_9, gm_10, gm_11, gm_12, gm_13, gm_14, gm_15, gm_16, gm_17, gm_18, gm_19, gm_20, gm_21, gm_22, gm_23, gm_24, gm_25, gm_26, gm_27, gm_28, gm_29, gm_30, gm_31, gm_32, gm_33, gm_34, gm_35, pm_7, pm_23, pm_24, pm_25, pm_26, pm_27, pm_29, pm_31, pm_34, pm_35, pm_9, pm_19, pm_20, pm_21, pm_22, mG_U, mG_8, mG_25, mG_1, mG_2, mG_3, mG_13, mG_14, mG_15, mG_16, mG_26, mG_27, mG_28, mG_29, mG_17, mG_18, mG_19, mG_20, mG_21, mG_22, mG_23, mG_24, kq_l, va_up_ne, va_up_self]
theorem yesN_01 {t sz : Int} {e : Nat → Int64} : ∀ n, yesN t sz e n = 0 ∨ yesN t sz e n = 1 := by
  intro n
  unfold yesN
  have : ∀ (k i : Nat), fF (fun i => if (celA t sz e i).toInt = 0 ∨ (celA t sz e i).toInt = 1 then none else some (0 : Int)) k i = none ∨ fF (fun i => if (celA t sz e i).toInt = 0 ∨ (celA t sz e i).toInt = 1 then none else some (0 : Int)) k i = some 0 := by
    intro k
    induction k with
    | zero => intro i; exact Or.inl rfl
    | succ k ih =>
      intro i
      by_cases h : (celA t sz e i).toInt = 0 ∨ (celA t sz e i).toInt = 1
      · rw [fF_n (if_pos h)]; exact ih (i + 1)
      · rw [fF_s (if_neg h)]; exact Or.inr rfl
  rcases this n 0 with h | h
  · rw [h]; exact Or.inr rfl
  · rw [h]; exact Or.inl rfl
theorem k_meantL {d n s p : Nat} {sz : Int} (hI : In S) (h : prd S p) (hs : s < 8) (hn : n ≤ 40) (ht : T 0 s = 1) (hz0 : 0 ≤ T 2 s ∧ T 2 s ≤ 40) : ∃ Sx, den (callD (d + 6)) 119 101 [.ref 0, .int (zI s), .int (zI n), .int (zI p), .ref (49 + 2 * s), .ref (1 + 2 + p), .int (zI 0), .int (zI 0), .int (zI 0)] [] (H S S2 K kp X T nC E z B Y Rf D) = some (some (.int (fN (meF (E s) (T 2 s) p n S) 6 0 (zI 0))), (H S (Sx) K kp X T nC E z B Y Rf D)) := by
  have hR1 : ∀ Sx, RS (H S (Sx) K kp X T nC E z B Y Rf D) 1 S := fun Sx => RS_1
  have hRa : RS (H S (S) K kp X T nC E z B Y Rf D) 15 S := RS_15
  have hRc : ∀ Sx, isC ((H S (Sx) K kp X T nC E z B Y Rf D).2.2 15) 2 = true := fun Sx => by rw [RS_15.1]; rfl
  have hk2 : ∀ Sx, callD (d + 4 + 2) 26 [.ref 15, .ref 1] (H S (Sx) K kp X T nC E z B Y Rf D) = some (none, (H S (S) K kp X T nC E z B Y Rf D)) := fun Sx => k_take hI
  obtain ⟨⟨y, hlo⟩, -⟩ := loopY (fun j (x : Int32) (y : Sc) => den (callD (d + 6)) 119 101 [.ref 0, .int (zI s), .int (zI n), .int (zI p), .ref (49 + 2 * s), .ref (1 + 2 + p), .int (zI 0), .int x, .int (zI j)] [] (H S (y) K kp X T nC E z B Y Rf D)) (meF (E s) (T 2 s) p n S) (fun _ _ => True) 6 (fun j x y hj _ => by
    obtain ⟨Sx, hc⟩ := m_couldHave (d := d) (k := j) (t := T 0 s) (sz := T 2 s) (e := E s) hI hRa h (by omega) hn (H_sh hs) (H_ce hs) (by omega) hz0 (by omega)
    rw [put_15, ht] at hc
    try dsimp only
    refine ⟨⟨Sx, ?_⟩, trivial⟩
    conv => lhs; rw [e_119_101]
    rcases okS_01 (fS (chFn 1 (T 2 s) (E s) p) n 0 (sU S 0 p j)) with h1 | h1
    · rw [h1] at hc
      have h2 : meB (E s) (T 2 s) p n S j = 0 := h1
      rw [show meF (E s) (T 2 s) p n S j x = x from if_neg (by omega)]
      simp (disch := omega) only [e_119_103, e_119_105, e_119_108, e_119_109, e_119_112, e_119_113, e_119_116, e_119_119, e_119_120, e_119_123, e_119_124, e_119_126, e_119_128, e_119_129, e_119_132, e_119_135, e_119_137, e_119_138, e_119_140, e_119_141, e_119_142, e_119_144, e_119_147, gfA_i, pfA_i, List.getElem?_cons_zero, List.getElem?_cons_succ, oK_some, rK_some, pR_some, pR_none, kq_i, kq_r, kq_n, kq_u, kq_o, kq_l, isRf_r, isRf_n, isRf_o, okv_r, okv_n, okv_o, is2_r, is2_o, is2_n, rcv_r, isC_i, if_true, if_pos, zI_add, zI_sub, zI_mul, nc_12, nc_8, nc_6, nc_40, nc_250, nc_3, nc_s, len4_0, len4_1, len4_2, len4_3, len4_4, and_self, and_true, true_and, lenA_i, va_rf_s, va_rf_n, oN_none, oN_some, zI_lt, zI_eq, nat_tn, nc_s, Int.lt_irrefl, Int.reduceEq, Int.reduceNe, Int.reduceLT, Int.reduceLE, Int.reduceSub, Int.reduceAdd, Int.reduceMul, Int.reduceDiv, Int.reduceNeg, Int.reduceToNat, or_self, or_false, false_or, if_false, if_true, not_true_eq_false, not_false_eq_true, or_true, true_or, and_false, false_and, ldI_0, stI_0, ldQ_q, gfA_0, gfA_43, gfA_65, H_0, H_43, H_48, H_65, H_66, H_67, kq_l, isC_0, isC_43, isC_65, isC_sh, gfA_sh, hk2, (hR1 _).1, hRc, hRa.1, hc]
    · rw [h1] at hc
      have h2 : meB (E s) (T 2 s) p n S j = 1 := h1
      rw [show meF (E s) (T 2 s) p n S j x = bor j x from if_pos h2]
      simp (disch := omega) only [e_119_103, e_119_105, e_119_108, e_119_109, e_119_112, e_119_113, e_119_116, e_119_119, e_119_120, e_119_123, e_119_124, e_119_126, e_119_128, e_119_129, e_119_132, e_119_135, e_119_137, e_119_138, e_119_140, e_119_141, e_119_142, e_119_144, e_119_147, gfA_i, pfA_i, List.getElem?_cons_zero, List.getElem?_cons_succ, oK_some, rK_some, pR_some, pR_none, kq_i, kq_r, kq_n, kq_u, kq_o, kq_l, isRf_r, isRf_n, isRf_o, okv_r, okv_n, okv_o, is2_r, is2_o, is2_n, rcv_r, isC_i, if_true, if_pos, zI_add, zI_sub, zI_mul, nc_12, nc_8, nc_6, nc_40, nc_250, nc_3, nc_s, len4_0, len4_1, len4_2, len4_3, len4_4, and_self, and_true, true_and, lenA_i, va_rf_s, va_rf_n, oN_none, oN_some, zI_lt, zI_eq, nat_tn, nc_s, Int.lt_irrefl, Int.reduceEq, Int.reduceNe, Int.reduceLT, Int.reduceLE, Int.reduceSub, Int.reduceAdd, Int.reduceMul, Int.reduceDiv, Int.reduceNeg, Int.reduceToNat, or_self, or_false, false_or, if_false, if_true, not_true_eq_false, not_false_eq_true, or_true, true_or, and_false, false_and, ldI_0, stI_0, ldQ_q, gfA_0, gfA_43, gfA_65, H_0, H_43, H_48, H_65, H_66, H_67, kq_l, isC_0, isC_43, isC_65, isC_sh, gfA_sh, hk2, (hR1 _).1, hRc, hRa.1, hc, bor]) 6 0 (zI 0) S2 rfl trivial
  refine ⟨y, hlo.trans ?_⟩
  try dsimp only
  rw [e_119_101]
  simp (disch := omega) only [e_119_103, e_119_105, e_119_150, e_119_152, gfA_i, pfA_i, List.getElem?_cons_zero, List.getElem?_cons_succ, oK_some, rK_some, pR_some, pR_none, kq_i, kq_r, kq_n, kq_u, kq_o, kq_l, isRf_r, isRf_n, isRf_o, okv_r, okv_n, okv_o, is2_r, is2_o, is2_n, rcv_r, isC_i, if_true, if_pos, zI_add, zI_sub, zI_mul, nc_12, nc_8, nc_6, nc_40, nc_250, nc_3, len4_0, len4_1, len4_2, len4_3, len4_4, and_self, and_true, true_and, lenA_i, va_rf_s, va_rf_n, oN_none, oN_some, zI_lt, zI_eq, nat_tn, Int.lt_irrefl, Int.reduceEq, Int.reduceNe, Int.reduceLT, Int.reduceLE, Int.reduceSub, Int.reduceAdd, Int.reduceMul, Int.reduceDiv, Int.reduceNeg, Int.reduceToNat, or_self, or_false, false_or, if_false, if_true, not_true_eq_false, not_false_eq_true, or_true, true_or, and_false, false_and, ldI_0, stI_0, ldQ_q, gfA_0, gfA_43, gfA_65, H_0, H_43, H_48, H_65, H_66, H_67, kq_l, isC_0, isC_43, isC_65, isC_sh, gfA_sh]
theorem KTP_a (hK : KTP K kp (some a, k2) D) (hI : In S) (hL : LY D' a S) (h1 : D'.1 = D.1) (h2 : D'.2.1 = D.2.1) (hf : ∀ q, q < a ∨ a + 30 ≤ q → D'.2.2 q = D.2.2 q) : KTP S 1 (some a, k2) D' := by
  obtain ⟨hc, hk, ht, hd⟩ := hK
  refine ⟨by rw [h1, h2]; exact hc, ?_, ?_, hd⟩
  · rcases hk with ⟨hk, -⟩ | ⟨a', e1, e2, e3, e4, e5, e6⟩
    · cases hk
    · cases e1
      exact Or.inr ⟨a, rfl, rfl, hI, e4, by rw [h1]; exact e5, hL⟩
  · rcases ht with ht | ⟨b', e1, e2, e3, Sa, e4, e5⟩
    · exact Or.inl ht
    · refine Or.inr ⟨b', e1, e2, by rw [h1]; exact e3, Sa, LY_ne e4 (fun q q1 q2 => hf q ?_), e5⟩
      rcases hd a b' rfl e1 with h | h <;> omega
theorem KTP_na (hK : KTP K kp (none, k2) D) (hI : In S) (hL : LY D' D.1 S) (h1 : D'.1 = D.1 + 30) (h2 : D'.2.1 = D.2.1 + 814) (hf : ∀ q, q < D.1 → D'.2.2 q = D.2.2 q) : KTP S 1 (some D.1, k2) D' := by
  obtain ⟨hc, hk, ht, hd⟩ := hK
  obtain ⟨c1, c2, c3⟩ := hc
  have c2' : D.1 ≤ 98 + 30 * (0 + nO k2) := c2
  have c3' : D.2.1 ≤ 100000 + 100000 * (0 + nO k2) := c3
  refine ⟨?_, Or.inr ⟨D.1, rfl, rfl, hI, c1, by rw [h1]; exact Nat.le_refl _, hL⟩, ?_, fun x y ex ey => ?_⟩
  · rw [h1, h2]
    show 98 ≤ D.1 + 30 ∧ D.1 + 30 ≤ 98 + 30 * (1 + nO k2) ∧ D.2.1 + 814 ≤ 100000 + 100000 * (1 + nO k2)
    omega
  · rcases ht with ht | ⟨b', e1, e2, e3, Sa, e4, e5⟩
    · exact Or.inl ht
    · exact Or.inr ⟨b', e1, e2, by rw [h1]; omega, Sa, LY_ne e4 (fun q q1 q2 => hf q (by omega)), e5⟩
  · cases ex
    rcases ht with ht | ⟨b', e1, e2, e3, e4⟩
    · rw [show k2 = none from ht] at ey; cases ey
    · rw [show k2 = some b' from e1] at ey; cases ey; omega
theorem nO_le (x : Option Nat) : nO x ≤ 1 := by
  cases x with
  | none => exact Nat.zero_le 1
  | some y => exact Nat.le_refl 1
theorem r_image {d : Nat} {K0 : Sc} {kp0 : Int} (hI : In S) (hK : KTP K0 kp0 kt D) : ∃ a D', callD (d + 4) 239 [.ref 68] (G ((H (Sh) S2 K kp X T nC E z B Y Rf D)) (68) S U kt F E mv) = some (some (.int (zI 1)), (G ((H (Sh) S2 K kp X T nC E z B Y Rf (D'))) (68) S U ((some a, kt.2)) F E mv)) ∧ KTP S 1 (some a, kt.2) D' := by
  obtain ⟨k1, k2⟩ := kt
  cases k1 with
  | some a =>
    obtain ⟨hc, hk, ht, hd⟩ := id hK
    rcases hk with ⟨hk, -⟩ | ⟨a', e1, e2, e3, e4, e5, e6⟩
    · cases hk
    · cases e1
      obtain ⟨D', t1, t2, t3, t4, t5⟩ := tk_b (Sh := Sh) (S := S) (S2 := S2) (K := K) (kp := kp) (X := X) (T := T) (nC := nC) (E := E) (z := z) (B := B) (Y := Y) (Rf := Rf) (U := U) (kt := (some a, k2)) (F := F) (mv := mv) (d := d + 1) hI e6 e4 (In_z e3)
      have hrb := W_isC (S := S) (Sh := Sh) (S2 := S2) (K := K) (kp := kp) (X := X) (T := T) (nC := nC) (E := E) (z := z) (B := B) (Y := Y) (Rf := Rf) (U := U) (kt := (some a, k2)) (F := F) (mv := mv) e6 e4
      refine ⟨a, D', ?_, KTP_a hK hI t2 t3 t4 t5⟩
      rw [c_239]
      simp (disch := omega) only [e_239_0, e_239_1, e_239_4, e_239_4_n, e_239_4_r, e_239_7, e_239_8, e_239_11, e_239_11_i, e_239_12, e_239_15, e_239_18, e_239_19, e_239_22, e_239_23, e_239_26, e_239_27, gfA_i, pfA_i, List.getElem?_cons_zero, List.getElem?_cons_succ, oK_some, rK_some, pR_some, pR_none, kq_i, kq_r, kq_n, kq_u, kq_o, kq_l, isRf_r, isRf_n, isRf_o, okv_r, okv_n, okv_o, is2_r, is2_o, is2_n, rcv_r, isC_i, if_true, if_pos, zI_add, zI_sub, zI_mul, nc_12, nc_8, nc_6, nc_40, nc_250, nc_3, nc_s, len4_0, len4_1, len4_2, len4_3, len4_4, and_self, and_true, true_and, lenA_i, va_rf_s, va_rf_n, oN_none, oN_some, zI_lt, zI_eq, nat_tn, nc_s, Int.lt_irrefl, Int.reduceEq, Int.reduceNe, Int.reduceLT, Int.reduceLE, Int.reduceSub, Int.reduceAdd, Int.reduceMul, Int.reduceDiv, Int.reduceNeg, Int.reduceToNat, or_self, or_false, false_or, if_false, if_true, not_true_eq_false, not_false_eq_true, or_true, true_or, and_false, false_and, ldI_0, stI_0, isC_mcl, Int.add_zero, zJ_eq, Nat.reduceAdd, Nat.reduceLT, G_o, G_1, G_2, G_3, G_4, G_13, G_14, G_15, G_16, G_17, G_18, G_19, G_20, G_21, G_22, G_23, G_24, G_25, G_26, G_27, G_28, G_29, gm_0, gm_1, gm_2, gm_3, gm_4, gm_5, gm_6, gm_7, gm_8, gm_9, gm_10, gm_11, gm_12, gm_13, gm_14, gm_15, gm_16, gm_17, gm_18, gm_19, gm_20, gm_21, gm_22, gm_23, gm_24, gm_25, gm_26, gm_27, gm_28, gm_29, gm_30, gm_31, gm_32, gm_33, gm_34, gm_35, pm_7, pm_23, pm_24, pm_25, pm_26, pm_27, pm_29, pm_31, pm_34, pm_35, pm_9, pm_19, pm_20, pm_21, pm_22, mG_U, mG_8, mG_25, mG_1, mG_2, mG_3, mG_13, mG_14, mG_15, mG_16, mG_26, mG_27, mG_28, mG_29, mG_17, mG_18, mG_19, mG_20, mG_21, mG_22, mG_23, mG_24, kq_l, va_up_ne, va_up_self, hrb, t1]
  | none =>
    obtain ⟨hc, hk, ht, hd⟩ := id hK
    obtain ⟨c1, c2, c3⟩ := hc
    have n1 := nO_le k2
    have c2' : D.1 ≤ 98 + 30 * (0 + nO k2) := c2
    have hnw := nw_b (Sh := Sh) (S := S) (S2 := S2) (K := K) (kp := kp) (X := X) (T := T) (nC := nC) (E := E) (z := z) (B := B) (Y := Y) (Rf := Rf) (D := D) (U := U) (kt := (none, k2)) (F := F) (mv := mv) (d := d + 2) (by omega) c1 c1
    obtain ⟨D', t1, t2, t3, t4, t5⟩ := tk_b (Sh := Sh) (S := S) (S2 := S2) (K := K) (kp := kp) (X := X) (T := T) (nC := nC) (E := E) (z := z) (B := B) (Y := Y) (Rf := Rf) (D := gw0 (D.1 + 30, D.2.1 + 814, D.2.2) D.1) (U := U) (kt := (some D.1, k2)) (F := F) (mv := mv) (d := d + 1) hI (LY_G : LY _ D.1 sc0) c1 sc0_z
    have hrc : isC ((mN (G ((H (Sh) S2 K kp X T nC E z B Y Rf D)) (68) S U ((none, k2)) F E mv) 36 (.inl (6, dflA 6))).2.2 D.1) 6 = true := by
      show isC (if D.1 = D.1 then _ else _) 6 = true
      rw [if_pos rfl]
      rfl
    have hrb := W_isC (S := S) (Sh := Sh) (S2 := S2) (K := K) (kp := kp) (X := X) (T := T) (nC := nC) (E := E) (z := z) (B := B) (Y := Y) (Rf := Rf) (D := gw0 (D.1 + 30, D.2.1 + 814, D.2.2) D.1) (U := U) (kt := (some D.1, k2)) (F := F) (mv := mv) (LY_G : LY _ D.1 sc0) c1
    have e1 : ((G ((H (Sh) S2 K kp X T nC E z B Y Rf D)) (68) S U ((none, k2)) F E mv) : AM).1 = D.1 := rfl
    refine ⟨D.1, D', ?_, KTP_na hK hI t2 t3 t4 (fun q hq => (t5 q (Or.inl hq)).trans (G_ne (M := (D.1 + 30, D.2.1 + 814, D.2.2)) (Or.inl hq)))⟩
    rw [c_239]
    simp (disch := omega) only [e_239_0, e_239_1, e_239_4, e_239_4_n, e_239_4_r, e_239_7, e_239_8, e_239_11, e_239_11_i, e_239_12, e_239_15, e_239_18, e_239_19, e_239_22, e_239_23, e_239_26, e_239_27, gfA_i, pfA_i, List.getElem?_cons_zero, List.getElem?_cons_succ, oK_some, rK_some, pR_some, pR_none, kq_i, kq_r, kq_n, kq_u, kq_o, kq_l, isRf_r, isRf_n, isRf_o, okv_r, okv_n, okv_o, is2_r, is2_o, is2_n, rcv_r, isC_i, if_true, if_pos, zI_add, zI_sub, zI_mul, nc_12, nc_8, nc_6, nc_40, nc_250, nc_3, nc_s, len4_0, len4_1, len4_2, len4_3, len4_4, and_self, and_true, true_and, lenA_i, va_rf_s, va_rf_n, oN_none, oN_some, zI_lt, zI_eq, nat_tn, nc_s, Int.lt_irrefl, Int.reduceEq, Int.reduceNe, Int.reduceLT, Int.reduceLE, Int.reduceSub, Int.reduceAdd, Int.reduceMul, Int.reduceDiv, Int.reduceNeg, Int.reduceToNat, or_self, or_false, false_or, if_false, if_true, not_true_eq_false, not_false_eq_true, or_true, true_or, and_false, false_and, ldI_0, stI_0, isC_mcl, Int.add_zero, zJ_eq, Nat.reduceAdd, Nat.reduceLT, G_o, G_1, G_2, G_3, G_4, G_13, G_14, G_15, G_16, G_17, G_18, G_19, G_20, G_21, G_22, G_23, G_24, G_25, G_26, G_27, G_28, G_29, gm_0, gm_1, gm_2, gm_3, gm_4, gm_5, gm_6, gm_7, gm_8, gm_9, gm_10, gm_11, gm_12, gm_13, gm_14, gm_15, gm_16, gm_17, gm_18, gm_19, gm_20, gm_21, gm_22, gm_23, gm_24, gm_25, gm_26, gm_27, gm_28, gm_29, gm_30, gm_31, gm_32, gm_33, gm_34, gm_35, pm_7, pm_23, pm_24, pm_25, pm_26, pm_27, pm_29, pm_31, pm_34, pm_35, pm_9, pm_19, pm_20, pm_21, pm_22, mG_U, mG_8, mG_25, mG_1, mG_2, mG_3, mG_13, mG_14, mG_15, mG_16, mG_26, mG_27, mG_28, mG_29, mG_17, mG_18, mG_19, mG_20, mG_21, mG_22, mG_23, mG_24, kq_l, va_up_ne, va_up_self, e1, hrc, hnw, hrb, t1]
theorem k_backL {d : Nat} {y4 : Value} (hI : In S) (hT : ∀ s, s < 8 → (0 ≤ T 0 s ∧ T 0 s ≤ 2) ∧ (T 0 s = 2 → 0 ≤ nC s ∧ nC s < 12)) : den (callD (d + 2)) 126 35 [.ref 0, .ref 48, .int (zI 8), .int (zI 0), y4] [] (H S S2 K kp X T nC E z B Y Rf D) = some (some (.int (zI 1)), (H S S2 K kp X ((bkT S T nC 8)) nC E z B Y Rf D)) := by
  have hR1 : ∀ T, RS (H S S2 K kp X (T) nC E z B Y Rf D) 1 S := fun T => RS_1
  have hshv : ∀ T s, s < 8 → (H S S2 K kp X (T) nC E z B Y Rf D).2.2 (49 + 2 * s) = shl (49 + 2 * s) (T 0 s) (nC s) (T 1 s) (T 2 s) := fun T s hs => H_sh hs
  obtain ⟨⟨y, hlo⟩, -⟩ := loopY (fun j (_ : Unit) (y : Value) => den (callD (d + 2)) 126 35 [.ref 0, .ref 48, .int (zI 8), .int (zI j), y] [] (H S S2 K kp X ((bkT S T nC j)) nC E z B Y Rf D)) (fun _ c => c) (fun _ _ => True) 8 (fun j c y hj _ => by
    obtain ⟨t0, t2⟩ := hT j hj
    have hsj := hshv (bkT S T nC j) j hj
    rw [bkT_j, bkT_j, bkT_j] at hsj
    try dsimp only
    refine ⟨⟨.ref (49 + 2 * j), ?_⟩, trivial⟩
    conv => lhs; rw [e_126_35]
    by_cases h2 : T 0 j = 2
    · obtain ⟨n0, n1⟩ := t2 h2
      by_cases h3 : S 8 0 ≤ nC j
      · have hat := m_at_n (d := d + 1) hI (hR1 (bkT S T nC j)) (a := nC j) (by unfold i32; omega) (by omega)
        have hcl := m_clear (d := d + 1) hsj
        have hm := mU_sh (S := S) (S2 := S2) (K := K) (kp := kp) (X := X) (T := bkT S T nC j) (nC := nC) (E := E) (z := z) (B := B) (Y := Y) (Rf := Rf) (D := D) (a := 0) (n := nC j) (b := T 1 j) (c := T 2 j) hj
        rw [bkT_s ⟨h2, h3⟩, va_upI] at hm
        simp (disch := omega) only [e_126_36, e_126_37, e_126_40, e_126_41, e_126_42, e_126_43, e_126_45, e_126_47, e_126_50, e_126_51, e_126_54, e_126_55, e_126_58, e_126_60, e_126_63, e_126_66, e_126_66_n, e_126_66_r, e_126_69, e_126_71, e_126_74, e_126_77, gfA_i, pfA_i, List.getElem?_cons_zero, List.getElem?_cons_succ, oK_some, rK_some, pR_some, pR_none, kq_i, kq_r, kq_n, kq_u, kq_o, kq_l, isRf_r, isRf_n, isRf_o, okv_r, okv_n, okv_o, is2_r, is2_o, is2_n, rcv_r, isC_i, if_true, if_pos, zI_add, zI_sub, zI_mul, nc_12, nc_8, nc_6, nc_40, nc_250, nc_3, nc_s, len4_0, len4_1, len4_2, len4_3, len4_4, and_self, and_true, true_and, lenA_i, va_rf_s, va_rf_n, oN_none, oN_some, zI_lt, zI_eq, nat_tn, nc_s, Int.lt_irrefl, Int.reduceEq, Int.reduceNe, Int.reduceLT, Int.reduceLE, Int.reduceSub, Int.reduceAdd, Int.reduceMul, Int.reduceDiv, Int.reduceNeg, Int.reduceToNat, or_self, or_false, false_or, if_false, if_true, not_true_eq_false, not_false_eq_true, or_true, true_or, and_false, false_and, ldI_0, stI_0, ldQ_q, gfA_0, gfA_43, gfA_65, H_0, H_43, H_48, H_65, H_66, H_67, kq_l, isC_0, isC_43, isC_65, isC_sh, gfA_sh, c48, hj, hsj, h2, (hR1 _).1, hat, hcl, hm]
      · obtain ⟨q, hq⟩ : ∃ q : Nat, nC j = (q : Int) := ⟨(nC j).toNat, by omega⟩
        have hat := m_at_s (d := d + 1) hI (hR1 (bkT S T nC j)) (i := q) (by omega)
        rw [hq] at hsj
        rw [bkT_n (fun q => h3 q.2)]
        simp (disch := omega) only [e_126_36, e_126_37, e_126_40, e_126_41, e_126_42, e_126_43, e_126_45, e_126_47, e_126_50, e_126_51, e_126_54, e_126_55, e_126_58, e_126_60, e_126_63, e_126_66, e_126_66_n, e_126_66_r, e_126_69, e_126_71, e_126_74, e_126_77, gfA_i, pfA_i, List.getElem?_cons_zero, List.getElem?_cons_succ, oK_some, rK_some, pR_some, pR_none, kq_i, kq_r, kq_n, kq_u, kq_o, kq_l, isRf_r, isRf_n, isRf_o, okv_r, okv_n, okv_o, is2_r, is2_o, is2_n, rcv_r, isC_i, if_true, if_pos, zI_add, zI_sub, zI_mul, nc_12, nc_8, nc_6, nc_40, nc_250, nc_3, nc_s, len4_0, len4_1, len4_2, len4_3, len4_4, and_self, and_true, true_and, lenA_i, va_rf_s, va_rf_n, oN_none, oN_some, zI_lt, zI_eq, nat_tn, nc_s, Int.lt_irrefl, Int.reduceEq, Int.reduceNe, Int.reduceLT, Int.reduceLE, Int.reduceSub, Int.reduceAdd, Int.reduceMul, Int.reduceDiv, Int.reduceNeg, Int.reduceToNat, or_self, or_false, false_or, if_false, if_true, not_true_eq_false, not_false_eq_true, or_true, true_or, and_false, false_and, ldI_0, stI_0, ldQ_q, gfA_0, gfA_43, gfA_65, H_0, H_43, H_48, H_65, H_66, H_67, kq_l, isC_0, isC_43, isC_65, isC_sh, gfA_sh, c48, hj, hsj, h2, (hR1 _).1, hat]
    · rw [bkT_n (fun q => h2 q.1)]
      simp (disch := omega) only [e_126_36, e_126_37, e_126_40, e_126_41, e_126_42, e_126_43, e_126_45, e_126_47, e_126_50, e_126_51, e_126_54, e_126_55, e_126_58, e_126_60, e_126_63, e_126_66, e_126_66_n, e_126_66_r, e_126_69, e_126_71, e_126_74, e_126_77, gfA_i, pfA_i, List.getElem?_cons_zero, List.getElem?_cons_succ, oK_some, rK_some, pR_some, pR_none, kq_i, kq_r, kq_n, kq_u, kq_o, kq_l, isRf_r, isRf_n, isRf_o, okv_r, okv_n, okv_o, is2_r, is2_o, is2_n, rcv_r, isC_i, if_true, if_pos, zI_add, zI_sub, zI_mul, nc_12, nc_8, nc_6, nc_40, nc_250, nc_3, nc_s, len4_0, len4_1, len4_2, len4_3, len4_4, and_self, and_true, true_and, lenA_i, va_rf_s, va_rf_n, oN_none, oN_some, zI_lt, zI_eq, nat_tn, nc_s, Int.lt_irrefl, Int.reduceEq, Int.reduceNe, Int.reduceLT, Int.reduceLE, Int.reduceSub, Int.reduceAdd, Int.reduceMul, Int.reduceDiv, Int.reduceNeg, Int.reduceToNat, or_self, or_false, false_or, if_false, if_true, not_true_eq_false, not_false_eq_true, or_true, true_or, and_false, false_and, ldI_0, stI_0, ldQ_q, gfA_0, gfA_43, gfA_65, H_0, H_43, H_48, H_65, H_66, H_67, kq_l, isC_0, isC_43, isC_65, isC_sh, gfA_sh, c48, hj, hsj, h2]) 8 0 () y4 rfl trivial
  try dsimp only at hlo
  rw [bkT_0] at hlo
  refine hlo.trans ?_
  rw [e_126_35]
  simp (disch := omega) only [e_126_36, e_126_37, e_126_80, e_126_81, gfA_i, pfA_i, List.getElem?_cons_zero, List.getElem?_cons_succ, oK_some, rK_some, pR_some, pR_none, kq_i, kq_r, kq_n, kq_u, kq_o, kq_l, isRf_r, isRf_n, isRf_o, okv_r, okv_n, okv_o, is2_r, is2_o, is2_n, rcv_r, isC_i, if_true, if_pos, zI_add, zI_sub, zI_mul, nc_12, nc_8, nc_6, nc_40, nc_250, nc_3, len4_0, len4_1, len4_2, len4_3, len4_4, and_self, and_true, true_and, lenA_i, va_rf_s, va_rf_n, oN_none, oN_some, zI_lt, zI_eq, nat_tn, Int.lt_irrefl, Int.reduceEq, Int.reduceNe, Int.reduceLT, Int.reduceLE, Int.reduceSub, Int.reduceAdd, Int.reduceMul, Int.reduceDiv, Int.reduceNeg, Int.reduceToNat, or_self, or_false, false_or, if_false, if_true, not_true_eq_false, not_false_eq_true, or_true, true_or, and_false, false_and, ldI_0, stI_0, ldQ_q, gfA_0, gfA_43, gfA_65, H_0, H_43, H_48, H_65, H_66, H_67, kq_l, isC_0, isC_43, isC_65, isC_sh, gfA_sh]
theorem r_backL {M : AM} {o d : Nat} (hT : ∀ s, s < 8 → (0 ≤ T 0 s ∧ T 0 s ≤ 2) ∧ (T 0 s = 2 → 0 ≤ nC s ∧ nC s < 12 ∧ F 3 s = zI (nC s))) (hF : ∀ s, F 0 s = zI (T 0 s)) (hc : 0 ≤ S 8 0 ∧ S 8 0 ≤ 12) : den (callD d) 240 24 [.ref o, .int (zI 0)] [] (G M o S U kt F E mv) = some (some (.int (zI 1)), (G M o S U kt ((va_up F 0 (fun s => zI (bkT S T nC 8 0 s)))) E mv)) := by
  have h00 : va_up F 0 (fun s => zI (bkT S T nC 0 0 s)) = F := by
    rw [bkT_0]
    have : (fun s => zI (T 0 s)) = F 0 := by funext s; exact (hF s).symm
    rw [this, va_upI]
  have hlo := loopN (fun j (_ : Unit) => den (callD d) 240 24 [.ref o, .int (zI j)] [] (G M o S U kt ((va_up F 0 (fun s => zI (bkT S T nC j 0 s)))) E mv)) (fun _ c => c) 8 (fun j c hj => by
    obtain ⟨t0, t2⟩ := hT j hj
    have hbj : bkT S T nC j 0 j = T 0 j := bkT_j
    try dsimp only
    conv => lhs; rw [e_240_24]
    by_cases h2 : T 0 j = 2
    · obtain ⟨n0, n1, n2⟩ := t2 h2
      by_cases h3 : S 8 0 ≤ nC j
      · have h4 : ¬ nC j < S 8 0 := by omega
        have hu : upd (fun s => zI (bkT S T nC j 0 s)) j (zI 0) = fun s => zI (bkT S T nC (j + 1) 0 s) := by
          funext s
          rw [← bkT_s ⟨h2, h3⟩]
          unfold upd shT
          by_cases e : s = j
          · rw [if_pos e, if_pos e, if_pos rfl]
          · rw [if_neg e, if_neg e]
        simp (disch := omega) only [e_240_25, e_240_27, e_240_30, e_240_31, e_240_34, e_240_35, e_240_36, e_240_37, e_240_40, e_240_41, e_240_44, e_240_45, e_240_46, e_240_47, e_240_50, e_240_53, e_240_54, e_240_57, e_240_58, e_240_59, e_240_60, e_240_63, gfA_i, pfA_i, List.getElem?_cons_zero, List.getElem?_cons_succ, oK_some, rK_some, pR_some, pR_none, kq_i, kq_r, kq_n, kq_u, kq_o, kq_l, isRf_r, isRf_n, isRf_o, okv_r, okv_n, okv_o, is2_r, is2_o, is2_n, rcv_r, isC_i, if_true, if_pos, zI_add, zI_sub, zI_mul, nc_12, nc_8, nc_6, nc_40, nc_250, nc_3, nc_s, len4_0, len4_1, len4_2, len4_3, len4_4, and_self, and_true, true_and, lenA_i, va_rf_s, va_rf_n, oN_none, oN_some, zI_lt, zI_eq, nat_tn, nc_s, Int.lt_irrefl, Int.reduceEq, Int.reduceNe, Int.reduceLT, Int.reduceLE, Int.reduceSub, Int.reduceAdd, Int.reduceMul, Int.reduceDiv, Int.reduceNeg, Int.reduceToNat, or_self, or_false, false_or, if_false, if_true, not_true_eq_false, not_false_eq_true, or_true, true_or, and_false, false_and, ldI_0, stI_0, isC_mcl, Int.add_zero, zJ_eq, Nat.reduceAdd, Nat.reduceLT, G_o, G_1, G_2, G_3, G_4, G_13, G_14, G_15, G_16, G_17, G_18, G_19, G_20, G_21, G_22, G_23, G_24, G_25, G_26, G_27, G_28, G_29, gm_0, gm_1, gm_2, gm_3, gm_4, gm_5, gm_6, gm_7, gm_8, gm_9, gm_10, gm_11, gm_12, gm_13, gm_14, gm_15, gm_16, gm_17, gm_18, gm_19, gm_20, gm_21, gm_22, gm_23, gm_24, gm_25, gm_26, gm_27, gm_28, gm_29, gm_30, gm_31, gm_32, gm_33, gm_34, gm_35, pm_7, pm_23, pm_24, pm_25, pm_26, pm_27, pm_29, pm_31, pm_34, pm_35, pm_9, pm_19, pm_20, pm_21, pm_22, mG_U, mG_8, mG_25, mG_1, mG_2, mG_3, mG_13, mG_14, mG_15, mG_16, mG_26, mG_27, mG_28, mG_29, mG_17, mG_18, mG_19, mG_20, mG_21, mG_22, mG_23, mG_24, kq_l, va_up_ne, va_up_self, hbj, h2, n2, h4, hu, va_up2]
      · have h4 : nC j < S 8 0 := by omega
        rw [bkT_n (fun q => h3 q.2)]
        simp (disch := omega) only [e_240_25, e_240_27, e_240_30, e_240_31, e_240_34, e_240_35, e_240_36, e_240_37, e_240_40, e_240_41, e_240_44, e_240_45, e_240_46, e_240_47, e_240_50, e_240_53, e_240_54, e_240_57, e_240_58, e_240_59, e_240_60, e_240_63, gfA_i, pfA_i, List.getElem?_cons_zero, List.getElem?_cons_succ, oK_some, rK_some, pR_some, pR_none, kq_i, kq_r, kq_n, kq_u, kq_o, kq_l, isRf_r, isRf_n, isRf_o, okv_r, okv_n, okv_o, is2_r, is2_o, is2_n, rcv_r, isC_i, if_true, if_pos, zI_add, zI_sub, zI_mul, nc_12, nc_8, nc_6, nc_40, nc_250, nc_3, nc_s, len4_0, len4_1, len4_2, len4_3, len4_4, and_self, and_true, true_and, lenA_i, va_rf_s, va_rf_n, oN_none, oN_some, zI_lt, zI_eq, nat_tn, nc_s, Int.lt_irrefl, Int.reduceEq, Int.reduceNe, Int.reduceLT, Int.reduceLE, Int.reduceSub, Int.reduceAdd, Int.reduceMul, Int.reduceDiv, Int.reduceNeg, Int.reduceToNat, or_self, or_false, false_or, if_false, if_true, not_true_eq_false, not_false_eq_true, or_true, true_or, and_false, false_and, ldI_0, stI_0, isC_mcl, Int.add_zero, zJ_eq, Nat.reduceAdd, Nat.reduceLT, G_o, G_1, G_2, G_3, G_4, G_13, G_14, G_15, G_16, G_17, G_18, G_19, G_20, G_21, G_22, G_23, G_24, G_25, G_26, G_27, G_28, G_29, gm_0, gm_1, gm_2, gm_3, gm_4, gm_5, gm_6, gm_7, gm_8, gm_9, gm_10, gm_11, gm_12, gm_13, gm_14, gm_15, gm_16, gm_17, gm_18, gm_19, gm_20, gm_21, gm_22, gm_23, gm_24, gm_25, gm_26, gm_27, gm_28, gm_29, gm_30, gm_31, gm_32, gm_33, gm_34, gm_35, pm_7, pm_23, pm_24, pm_25, pm_26, pm_27, pm_29, pm_31, pm_34, pm_35, pm_9, pm_19, pm_20, pm_21, pm_22, mG_U, mG_8, mG_25, mG_1, mG_2, mG_3, mG_13, mG_14, mG_15, mG_16, mG_26, mG_27, mG_28, mG_29, mG_17, mG_18, mG_19, mG_20, mG_21, mG_22, mG_23, mG_24, kq_l, va_up_ne, va_up_self, hbj, h2, n2, h4]
    · rw [bkT_n (fun q => h2 q.1)]
      simp (disch := omega) only [e_240_25, e_240_27, e_240_30, e_240_31, e_240_34, e_240_35, e_240_36, e_240_37, e_240_40, e_240_41, e_240_44, e_240_45, e_240_46, e_240_47, e_240_50, e_240_53, e_240_54, e_240_57, e_240_58, e_240_59, e_240_60, e_240_63, gfA_i, pfA_i, List.getElem?_cons_zero, List.getElem?_cons_succ, oK_some, rK_some, pR_some, pR_none, kq_i, kq_r, kq_n, kq_u, kq_o, kq_l, isRf_r, isRf_n, isRf_o, okv_r, okv_n, okv_o, is2_r, is2_o, is2_n, rcv_r, isC_i, if_true, if_pos, zI_add, zI_sub, zI_mul, nc_12, nc_8, nc_6, nc_40, nc_250, nc_3, nc_s, len4_0, len4_1, len4_2, len4_3, len4_4, and_self, and_true, true_and, lenA_i, va_rf_s, va_rf_n, oN_none, oN_some, zI_lt, zI_eq, nat_tn, nc_s, Int.lt_irrefl, Int.reduceEq, Int.reduceNe, Int.reduceLT, Int.reduceLE, Int.reduceSub, Int.reduceAdd, Int.reduceMul, Int.reduceDiv, Int.reduceNeg, Int.reduceToNat, or_self, or_false, false_or, if_false, if_true, not_true_eq_false, not_false_eq_true, or_true, true_or, and_false, false_and, ldI_0, stI_0, isC_mcl, Int.add_zero, zJ_eq, Nat.reduceAdd, Nat.reduceLT, G_o, G_1, G_2, G_3, G_4, G_13, G_14, G_15, G_16, G_17, G_18, G_19, G_20, G_21, G_22, G_23, G_24, G_25, G_26, G_27, G_28, G_29, gm_0, gm_1, gm_2, gm_3, gm_4, gm_5, gm_6, gm_7, gm_8, gm_9, gm_10, gm_11, gm_12, gm_13, gm_14, gm_15, gm_16, gm_17, gm_18, gm_19, gm_20, gm_21, gm_22, gm_23, gm_24, gm_25, gm_26, gm_27, gm_28, gm_29, gm_30, gm_31, gm_32, gm_33, gm_34, gm_35, pm_7, pm_23, pm_24, pm_25, pm_26, pm_27, pm_29, pm_31, pm_34, pm_35, pm_9, pm_19, pm_20, pm_21, pm_22, mG_U, mG_8, mG_25, mG_1, mG_2, mG_3, mG_13, mG_14, mG_15, mG_16, mG_26, mG_27, mG_28, mG_29, mG_17, mG_18, mG_19, mG_20, mG_21, mG_22, mG_23, mG_24, kq_l, va_up_ne, va_up_self, hbj, h2]) 8 0 () rfl
  try dsimp only at hlo
  rw [h00] at hlo
  refine hlo.trans ?_
  rw [e_240_24]
  simp (disch := omega) only [e_240_25, e_240_27, e_240_66, e_240_67, gfA_i, pfA_i, List.getElem?_cons_zero, List.getElem?_cons_succ, oK_some, rK_some, pR_some, pR_none, kq_i, kq_r, kq_n, kq_u, kq_o, kq_l, isRf_r, isRf_n, isRf_o, okv_r, okv_n, okv_o, is2_r, is2_o, is2_n, rcv_r, isC_i, if_true, if_pos, zI_add, zI_sub, zI_mul, nc_12, nc_8, nc_6, nc_40, nc_250, nc_3, len4_0, len4_1, len4_2, len4_3, len4_4, and_self, and_true, true_and, lenA_i, va_rf_s, va_rf_n, oN_none, oN_some, zI_lt, zI_eq, nat_tn, Int.lt_irrefl, Int.reduceEq, Int.reduceNe, Int.reduceLT, Int.reduceLE, Int.reduceSub, Int.reduceAdd, Int.reduceMul, Int.reduceDiv, Int.reduceNeg, Int.reduceToNat, or_self, or_false, false_or, if_false, if_true, not_true_eq_false, not_false_eq_true, or_true, true_or, and_false, false_and, ldI_0, stI_0, isC_mcl, Int.add_zero, zJ_eq, Nat.reduceAdd, Nat.reduceLT, G_o, G_1, G_2, G_3, G_4, G_13, G_14, G_15, G_16, G_17, G_18, G_19, G_20, G_21, G_22, G_23, G_24, G_25, G_26, G_27, G_28, G_29, gm_0, gm_1, gm_2, gm_3, gm_4, gm_5, gm_6, gm_7, gm_8, gm_9, gm_10, gm_11, gm_12, gm_13, gm_14, gm_15, gm_16, gm_17, gm_18, gm_19, gm_20, gm_21, gm_22, gm_23, gm_24, gm_25, gm_26, gm_27, gm_28, gm_29, gm_30, gm_31, gm_32, gm_33, gm_34, gm_35, pm_7, pm_23, pm_24, pm_25, pm_26, pm_27, pm_29, pm_31, pm_34, pm_35, pm_9, pm_19, pm_20, pm_21, pm_22, mG_U, mG_8, mG_25, mG_1, mG_2, mG_3, mG_13, mG_14, mG_15, mG_16, mG_26, mG_27, mG_28, mG_29, mG_17, mG_18, mG_19, mG_20, mG_21, mG_22, mG_23, mG_24, kq_l, va_up_ne, va_up_self]
end K10
