section Q14
theorem q_list : SpX 89 175 [] := by
  intro d st hR
  obtain ⟨S, S2, K, kp, X, T, nC, E, z, B, Y, Rf, U, kt, F, mv, D⟩ := st
  have hR' := hR
  obtain ⟨hI, hT, ⟨hF0, hF1, hF2⟩, hF4, hF5, hU, hz, hK⟩ := hR'
  have hc := hI.1
  have hR1 : RS (H S S2 K kp X T nC E z B Y Rf ((G (D) (68) S U kt F E mv))) 1 S := RS_1
  have hR15 : isC ((H S S2 K kp X T nC E z B Y Rf ((G (D) (68) S U kt F E mv))).2.2 15) 2 = true := by rw [RS_15.1]; rfl
  have hsh : ∀ s, s < 8 → (H S S2 K kp X T nC E z B Y Rf ((G (D) (68) S U kt F E mv))).2.2 (49 + 2 * s) = shl (49 + 2 * s) (T 0 s) (nC s) (T 1 s) (T 2 s) := fun s hs => H_sh hs
  have hce : ∀ s, s < 8 → (H S S2 K kp X T nC E z B Y Rf ((G (D) (68) S U kt F E mv))).2.2 (49 + 2 * s + 1) = cel (E s) := fun s hs => H_ce hs
  obtain ⟨⟨hz0, hz250⟩, hBB⟩ := hz
  obtain ⟨zn, rfl⟩ : ∃ zn : Nat, z = (zn : Int) := ⟨z.toNat, by omega⟩
  have hz2 : zn ≤ 250 := by omega
  have hkt := fun Y => k_take (d := d + 27) (S := S) (S2 := S2) (K := K) (kp := kp) (X := X) (T := T) (nC := nC) (E := E) (z := zn) (B := B) (Y := Y) (Rf := Rf) (D := (G (D) (68) S U kt F E mv)) hI
  obtain ⟨Sx, Yx, g1, g2, g3⟩ := k_into (Sn := S) (S := S) (K := K) (kp := kp) (X := X) (T := T) (nC := nC) (E := E) (z := zn) (zn := zn) (B := B) (Rf := Rf) (D := (G (D) (68) S U kt F E mv)) (Y := Y) (d := d + 22) hI rfl hz2 hBB
  have hps : mU (H S Sx K kp X T nC E zn B Yx Rf (G (D) (68) S U kt F E mv)) 65 (.inl (4, [.ref 66, .int (zI 0), .int (zI (Yx.1 0)), va_rf Yx.2, .int (zI (Yx.1 1)), .int (zI (Yx.1 2)), .int (zI (Yx.1 3))])) = H S Sx K kp X T nC E 0 B Yx Rf (G (D) (68) S U kt F E mv) := mU_65
  have hUz : U 0 = (zn : Int) := hU
  cases hp : pall B zn 251 S 0 1 with
  | inl s =>
    rw [hp] at g1
    have e1 : Yx.1 0 = (s : Int) := g2 s hp
    rw [e1] at hps
    obtain ⟨b, D', hrf, hK', hL'⟩ := r_fresh (Sh := S) (S := S) (S2 := Sx) (K := K) (kp := kp) (X := X) (T := T) (nC := nC) (E := E) (z := 0) (B := B) (Y := Yx) (Rf := refF Rf (-2)) (D := D) (U := U) (kt := kt) (F := F) (mv := mv) (d := d + 25) hI hK
    have hbb := KTP_bb hK'
    obtain ⟨Sr, Ur, Fr, r1, r2, r3, r4, r5⟩ := r_readAll (M := (H S (Sx) K kp X T nC E (0) B (Yx) ((refF Rf (-2))) (D'))) (o := 68) (S := S) (U := U) (kt := (kt.1, some b)) (F := F) (E := E) (mv := mv) (d := d + 22) hI hz2 hBB hUz hF4
    rw [hp] at r1
    obtain ⟨g, rfl⟩ : ∃ g, Fr = va_up F 6 g := ⟨Fr 6, by
      funext y
      by_cases h : y = 6
      · subst h; exact (va_up_self _ _ _).symm
      · rw [va_up_ne _ _ h]; exact r5 y h⟩
    have e2 : Ur 5 = (s : Int) := r2 s hp
    have hto := r_takeO (Sh := S) (S2 := Sx) (K := K) (kp := kp) (X := X) (T := T) (nC := nC) (E := E) (z := 0) (B := B) (Y := Yx) (Rf := refF Rf (-2)) (D := D') (U := va_up Ur 0 0) (kt := (kt.1, some b)) (F := va_up F 6 g) (mv := mv) (d := d + 27) (So := Sr) hL' hbb.1 (In_z r4) (In_z hI)
    refine mk (.int (zI (-20 - s))) (S, (Sx), K, kp, X, T, nC, E, (0), B, (Yx), ((refF Rf (-2))), ((va_up Ur 0 0)), ((kt.1, some b)), ((va_up (va_up F 6 g) 5 (refF (F 5) (-2)))), mv, (D')) ?_ ?_ ?_ <;> try dsimp only [HC, HP]
    · rw [c_89]
      simp (disch := omega) only [e_89_0, e_89_1, e_89_4, e_89_5, e_89_8, e_89_11, e_89_12, e_89_15, e_89_16, e_89_19, e_89_22, e_89_23, e_89_24, e_89_27, e_89_28, e_89_31, e_89_32, e_89_33, e_89_36, e_89_37, e_89_39, e_89_42, e_89_43, e_89_45, e_89_46, e_89_49, e_89_52, e_89_53, e_89_54, e_89_55, e_89_58, e_89_59, e_89_62, e_89_65, e_89_66, gfA_i, pfA_i, List.getElem?_cons_zero, List.getElem?_cons_succ, oK_some, rK_some, pR_some, pR_none, kq_i, kq_r, kq_n, kq_u, kq_o, kq_l, isRf_r, isRf_n, isRf_o, okv_r, okv_n, okv_o, is2_r, is2_o, is2_n, rcv_r, isC_i, if_true, if_pos, zI_add, zI_sub, zI_mul, nc_12, nc_8, nc_6, nc_40, nc_250, nc_3, nc_s, len4_0, len4_1, len4_2, len4_3, len4_4, and_self, and_true, true_and, lenA_i, va_rf_s, va_rf_n, oN_none, oN_some, zI_lt, zI_eq, nat_tn, nc_s, Int.lt_irrefl, Int.reduceEq, Int.reduceNe, Int.reduceLT, Int.reduceLE, Int.reduceSub, Int.reduceAdd, Int.reduceMul, Int.reduceDiv, Int.reduceNeg, Int.reduceToNat, or_self, or_false, false_or, if_false, if_true, not_true_eq_false, not_false_eq_true, or_true, true_or, and_false, false_and, ldI_0, stI_0, ldQ_q, gfA_0, gfA_43, gfA_65, H_0, H_43, H_48, H_65, H_66, H_67, kq_l, isC_0, isC_43, isC_65, isC_sh, gfA_sh, hR15, hkt, isC_65, g1, okN, c65, mU_at, mU_mU, List.set_cons_succ, List.set_cons_zero, okv_0, okv_1, okv_i, okv_r, okv_n, okv_o, List.length_cons, List.length_nil, Nat.reduceAdd, Nat.reduceLT, Nat.zero_le, Nat.reduceLeDiff, hps, k_ref, e1]
    · rw [c_175]
      simp (disch := omega) only [e_175_0, e_175_1, e_175_4, e_175_5, e_175_6, e_175_9, e_175_10, e_175_11, e_175_12, e_175_15, e_175_16, e_175_19, e_175_20, e_175_21, e_175_24, e_175_25, e_175_27, e_175_30, e_175_31, e_175_33, e_175_34, e_175_37, e_175_38, e_175_39, e_175_40, e_175_43, gfA_i, pfA_i, List.getElem?_cons_zero, List.getElem?_cons_succ, oK_some, rK_some, pR_some, pR_none, kq_i, kq_r, kq_n, kq_u, kq_o, kq_l, isRf_r, isRf_n, isRf_o, okv_r, okv_n, okv_o, is2_r, is2_o, is2_n, rcv_r, isC_i, if_true, if_pos, zI_add, zI_sub, zI_mul, nc_12, nc_8, nc_6, nc_40, nc_250, nc_3, nc_s, len4_0, len4_1, len4_2, len4_3, len4_4, and_self, and_true, true_and, lenA_i, va_rf_s, va_rf_n, oN_none, oN_some, zI_lt, zI_eq, nat_tn, nc_s, Int.lt_irrefl, Int.reduceEq, Int.reduceNe, Int.reduceLT, Int.reduceLE, Int.reduceSub, Int.reduceAdd, Int.reduceMul, Int.reduceDiv, Int.reduceNeg, Int.reduceToNat, or_self, or_false, false_or, if_false, if_true, not_true_eq_false, not_false_eq_true, or_true, true_or, and_false, false_and, ldI_0, stI_0, isC_mcl, Int.add_zero, zJ_eq, Nat.reduceAdd, Nat.reduceLT, G_o, G_1, G_2, G_3, G_4, G_13, G_14, G_15, G_16, G_17, G_18, G_19, G_20, G_21, G_22, G_23, G_24, G_25, G_26, G_27, G_28, G_29, gm_0, gm_1, gm_2, gm_3, gm_4, gm_5, gm_6, gm_7, gm_8, gm_9, gm_10, gm_11, gm_12, gm_13, gm_14, gm_15, gm_16, gm_17, gm_18, gm_19, gm_20, gm_21, gm_22, gm_23, gm_24, gm_25, gm_26, gm_27, gm_28, gm_29, gm_30, gm_31, gm_32, gm_33, gm_34, gm_35, pm_7, pm_23, pm_24, pm_25, pm_26, pm_27, pm_29, pm_31, pm_34, pm_35, pm_9, pm_19, pm_20, pm_21, pm_22, mG_U, mG_8, mG_25, mG_1, mG_2, mG_3, mG_13, mG_14, mG_15, mG_16, mG_26, mG_27, mG_28, mG_29, mG_17, mG_18, mG_19, mG_20, mG_21, mG_22, mG_23, mG_24, kq_l, va_up_ne, va_up_self, hrf, r1, okS, hto, r_ref, e2]
    · exact ⟨hI, hT, ⟨hF0, hF1, hF2⟩, hF4, congrArg (fun f => refF f (-2)) hF5, va_up_self Ur 0 0, ⟨by omega, fun i hi => absurd hi (by omega)⟩, hK'⟩
  | inr r =>
    obtain ⟨S', n⟩ := r
    rw [hp] at g1
    have e1 : Sx = S' := g3 S' n hp
    subst e1
    obtain ⟨o1, o2, o3, o4⟩ := pall_o _ _ _ _ _ _ hI (Nat.zero_le _) hp
    have n1 : ¬ (n : Int) = -1 := by omega
    obtain ⟨b, D', hrf, hK', hL'⟩ := r_fresh (Sh := Sx) (S := S) (S2 := Sx) (K := K) (kp := kp) (X := X) (T := T) (nC := nC) (E := E) (z := 0) (B := B) (Y := Yx) (Rf := Rf) (D := D) (U := U) (kt := kt) (F := F) (mv := mv) (d := d + 25) hI hK
    obtain ⟨Sr, Ur, Fr, r1, r2, r3, r4, r5⟩ := r_readAll (M := (H (Sx) (Sx) K kp X T nC E (0) B (Yx) Rf (D'))) (o := 68) (S := S) (U := U) (kt := (kt.1, some b)) (F := F) (E := E) (mv := mv) (d := d + 22) hI hz2 hBB hUz hF4
    rw [hp] at r1
    obtain ⟨g, rfl⟩ : ∃ g, Fr = va_up F 6 g := ⟨Fr 6, by
      funext y
      by_cases h : y = 6
      · subst h; exact (va_up_self _ _ _).symm
      · rw [va_up_ne _ _ h]; exact r5 y h⟩
    obtain ⟨e2, e3⟩ := r3 Sx n hp
    subst e2
    have hk0 := k_take0 (d := d + 27) (S := S) (S2 := Sr) (K := K) (kp := kp) (X := X) (T := T) (nC := nC) (E := E) (z := 0) (B := B) (Y := Yx) (Rf := Rf) (D := (G (D) (68) S U kt F E mv)) r4
    have hq1 : isC ((H S Sr K kp X T nC E 0 B Yx Rf (G (D) (68) S U kt F E mv)).2.2 1) 2 = true := by rw [RS_1.1]; rfl
    refine mk (.int (zI n)) ((Sr), (Sr), K, kp, X, T, nC, E, (0), B, (Yx), Rf, ((va_up Ur 0 0)), ((kt.1, some b)), ((va_up F 6 g)), mv, (D')) ?_ ?_ ?_ <;> try dsimp only [HC, HP]
    · rw [c_89]
      simp (disch := omega) only [e_89_0, e_89_1, e_89_4, e_89_5, e_89_8, e_89_11, e_89_12, e_89_15, e_89_16, e_89_19, e_89_22, e_89_23, e_89_24, e_89_27, e_89_28, e_89_31, e_89_32, e_89_33, e_89_36, e_89_37, e_89_39, e_89_42, e_89_43, e_89_45, e_89_46, e_89_49, e_89_52, e_89_53, e_89_54, e_89_55, e_89_58, e_89_59, e_89_62, e_89_65, e_89_66, gfA_i, pfA_i, List.getElem?_cons_zero, List.getElem?_cons_succ, oK_some, rK_some, pR_some, pR_none, kq_i, kq_r, kq_n, kq_u, kq_o, kq_l, isRf_r, isRf_n, isRf_o, okv_r, okv_n, okv_o, is2_r, is2_o, is2_n, rcv_r, isC_i, if_true, if_pos, zI_add, zI_sub, zI_mul, nc_12, nc_8, nc_6, nc_40, nc_250, nc_3, nc_s, len4_0, len4_1, len4_2, len4_3, len4_4, and_self, and_true, true_and, lenA_i, va_rf_s, va_rf_n, oN_none, oN_some, zI_lt, zI_eq, nat_tn, nc_s, Int.lt_irrefl, Int.reduceEq, Int.reduceNe, Int.reduceLT, Int.reduceLE, Int.reduceSub, Int.reduceAdd, Int.reduceMul, Int.reduceDiv, Int.reduceNeg, Int.reduceToNat, or_self, or_false, false_or, if_false, if_true, not_true_eq_false, not_false_eq_true, or_true, true_or, and_false, false_and, ldI_0, stI_0, ldQ_q, gfA_0, gfA_43, gfA_65, H_0, H_43, H_48, H_65, H_66, H_67, kq_l, isC_0, isC_43, isC_65, isC_sh, gfA_sh, hR15, hR1.1, hkt, isC_65, g1, okN, c65, mU_at, mU_mU, List.set_cons_succ, List.set_cons_zero, okv_0, okv_1, okv_i, okv_r, okv_n, okv_o, List.length_cons, List.length_nil, Nat.reduceAdd, Nat.reduceLT, Nat.zero_le, Nat.reduceLeDiff, hps, n1, hk0, hq1]
    · rw [c_175]
      simp (disch := omega) only [e_175_0, e_175_1, e_175_4, e_175_5, e_175_6, e_175_9, e_175_10, e_175_11, e_175_12, e_175_15, e_175_16, e_175_19, e_175_20, e_175_21, e_175_24, e_175_25, e_175_27, e_175_30, e_175_31, e_175_33, e_175_34, e_175_37, e_175_38, e_175_39, e_175_40, e_175_43, gfA_i, pfA_i, List.getElem?_cons_zero, List.getElem?_cons_succ, oK_some, rK_some, pR_some, pR_none, kq_i, kq_r, kq_n, kq_u, kq_o, kq_l, isRf_r, isRf_n, isRf_o, okv_r, okv_n, okv_o, is2_r, is2_o, is2_n, rcv_r, isC_i, if_true, if_pos, zI_add, zI_sub, zI_mul, nc_12, nc_8, nc_6, nc_40, nc_250, nc_3, nc_s, len4_0, len4_1, len4_2, len4_3, len4_4, and_self, and_true, true_and, lenA_i, va_rf_s, va_rf_n, oN_none, oN_some, zI_lt, zI_eq, nat_tn, nc_s, Int.lt_irrefl, Int.reduceEq, Int.reduceNe, Int.reduceLT, Int.reduceLE, Int.reduceSub, Int.reduceAdd, Int.reduceMul, Int.reduceDiv, Int.reduceNeg, Int.reduceToNat, or_self, or_false, false_or, if_false, if_true, not_true_eq_false, not_false_eq_true, or_true, true_or, and_false, false_and, ldI_0, stI_0, isC_mcl, Int.add_zero, zJ_eq, Nat.reduceAdd, Nat.reduceLT, G_o, G_1, G_2, G_3, G_4, G_13, G_14, G_15, G_16, G_17, G_18, G_19, G_20, G_21, G_22, G_23, G_24, G_25, G_26, G_27, G_28, G_29, gm_0, gm_1, gm_2, gm_3, gm_4, gm_5, gm_6, gm_7, gm_8, gm_9, gm_10, gm_11, gm_12, gm_13, gm_14, gm_15, gm_16, gm_17, gm_18, gm_19, gm_20, gm_21, gm_22, gm_23, gm_24, gm_25, gm_26, gm_27, gm_28, gm_29, gm_30, gm_31, gm_32, gm_33, gm_34, gm_35, pm_7, pm_23, pm_24, pm_25, pm_26, pm_27, pm_29, pm_31, pm_34, pm_35, pm_9, pm_19, pm_20, pm_21, pm_22, mG_U, mG_8, mG_25, mG_1, mG_2, mG_3, mG_13, mG_14, mG_15, mG_16, mG_26, mG_27, mG_28, mG_29, mG_17, mG_18, mG_19, mG_20, mG_21, mG_22, mG_23, mG_24, kq_l, va_up_ne, va_up_self, hrf, r1, okS, e3]
    · refine ⟨r4, fun s hs => ?_, ⟨hF0, hF1, hF2⟩, hF4, hF5, va_up_self Ur 0 0, ⟨by omega, fun i hi => absurd hi (by omega)⟩, hK'⟩
      obtain ⟨t0, t1, t2, t3⟩ := hT s hs
      exact ⟨t0, t1, t2, fun h => ⟨(t3 h).1, by have := (t3 h).2.1; omega, (t3 h).2.2⟩⟩
end Q14
