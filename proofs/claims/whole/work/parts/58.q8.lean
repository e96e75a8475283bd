def laF (S : Sc) (i : Nat) (j : Nat) : Option Int := if wlS S i (S 6 i + j) = 0 then some (j : Int) else none
def laN (S : Sc) (i : Nat) : Int := mO (fF (laF S i) 100 0) (fun x => x) (-1)
theorem Z_si {S : Sc} {i n : Nat} (hz : Z12 S) (hi : i < 12) : Z12 (siN S i n) := fun f j hf hj => by
  unfold siN sU
  rw [if_neg (by omega)]
  exact hz f j hf hj
theorem Z_sU {S : Sc} {f i : Nat} {v : Int} (hz : Z12 S) (hi : i < 12) : Z12 (sU S f i v) := fun g j hf hj => by
  unfold sU
  rw [if_neg (by omega)]
  exact hz g j hf hj
theorem dbt_wr {S : Sc} {i : Nat} (hI : In S) (h : prd S i) : dbt (wrS S (dbt S i) 1) i = fr S (dbt S i) := by
  obtain ⟨p1, p2, p3, p4, p5⟩ := prd_fr hI h
  have h5 := (hI.f i).2.2.2.2.2.1
  have hne : ¬ i = fr S i := fun e => by rw [← e] at p4; omega
  by_cases e : S 5 i = 1
  · have ed : dbt S i = i := if_pos e
    rw [ed]
    show (if wrS S i 1 5 i = 1 then i else (S 4 i).toNat) = fr S i
    have e2 : wrS S i 1 5 i = 0 := by
      show (if i = i then (0 : Int) else _) = 0
      rw [if_pos rfl]
    rw [e2, if_neg (by omega)]
    rfl
  · have ed : dbt S i = fr S i := if_neg e
    rw [ed, p2]
    show (if wrS S (fr S i) 1 5 i = 1 then i else (S 4 i).toNat) = i
    have e2 : wrS S (fr S i) 1 5 i = 1 := by
      show (if i = fr S i then (0 : Int) else if i = fr S (fr S i) then 1 else _) = 1
      rw [if_neg hne, p2, if_pos rfl]
    rw [if_pos e2]
def drS (i : Nat) (n : Nat) (S : Sc) : Sc := fN (fun _ Sx => wrS Sx (dbt Sx i) 1) n 0 S
theorem drS_s (i n : Nat) (S : Sc) : drS i (n + 1) S = wrS (drS i n S) (dbt (drS i n S) i) 1 := fN_last _ _ _
/-- what stays so while letters come by turns -/
def drI (S : Sc) (i : Nat) (Sx : Sc) : Prop := In Sx ∧ prd Sx i ∧ (∀ j, fr Sx j = fr S j) ∧ Sx 8 0 = S 8 0
theorem drI_s {S Sx : Sc} {i : Nat} (h : drI S i Sx) : drI S i (wrS Sx (dbt Sx i) 1) := by
  obtain ⟨h1, h2, h3, h4⟩ := h
  obtain ⟨d1, d2, d3, d4⟩ := prd_dbt h1 h2
  exact ⟨In_wr1 h1 d1 d3, prd_wr h2, h3, h4⟩
theorem drI_n {S : Sc} {i : Nat} (hI : In S) (h : prd S i) : ∀ n, drI S i (drS i n S) := by
  intro n
  induction n with
  | zero => exact ⟨hI, h, fun _ => rfl, rfl⟩
  | succ n ih => rw [drS_s]; exact drI_s ih
theorem fr_dbt {S : Sc} {i : Nat} (hI : In S) (h : prd S i) : fr S (dbt S i) < 12 := (prd_fr hI (prd_dbt hI h).1).2.2.1
section K8
variable {S S2 K : Sc} {kp : Int} {X : Xm} {T : Sc} {nC : Nat → Int} {E : Nat → Nat → Int64} {z : Int} {B : Nat → Int32} {Y : Yt} {Rf : Nat → Int32} {D D' : AM} {U : Nat → Int} {kt : Option Nat × Option Nat} {k1 : Option Nat} {F : Nat → Nat → Int32} {mv : Nat → Int64} {b : Nat} {S' Sh : Sc}
theorem KTP_b (hK : KTP K kp (k1, some b) D) (hL : LY D' b S') (hz : Z12 S') (h1 : D'.1 = D.1) (h2 : D'.2.1 = D.2.1) (hf : ∀ q, q < b ∨ b + 30 ≤ q → D'.2.2 q = D.2.2 q) : KTP K kp (k1, some b) D' := by
  obtain ⟨hc, hk, ht, hd⟩ := hK
  refine ⟨by rw [h1, h2]; exact hc, ?_, ?_, hd⟩
  · rcases hk with hk | ⟨a, e1, e2, e3, e4, e5, e6⟩
    · exact Or.inl hk
    · refine Or.inr ⟨a, e1, e2, e3, e4, by rw [h1]; exact e5, LY_ne e6 (fun q q1 q2 => hf q ?_)⟩
      rcases hd a b e1 rfl with h | h <;> omega
  · rcases ht with ht | ⟨b', e1, e2, e3, e4⟩
    · cases ht
    · cases e1
      exact Or.inr ⟨b, rfl, e2, by rw [h1]; exact e3, S', hL, hz⟩
theorem KTP_bb (hK : KTP K kp (k1, some b) D) : 98 ≤ b ∧ b + 30 ≤ D.1 := by
  obtain ⟨hc, hk, ht, hd⟩ := hK
  rcases ht with ht | ⟨b', e1, e2, e3, e4⟩
  · cases ht
  · cases e1; exact ⟨e2, e3⟩
theorem KTP_new (hK : KTP K kp (k1, none) D) : KTP K kp (k1, some D.1) (gw0 (D.1 + 30, D.2.1 + 814, D.2.2) D.1) := by
  obtain ⟨hc, hk, ht, hd⟩ := hK
  obtain ⟨c1, c2, c3⟩ := hc
  have c2' : D.1 ≤ 98 + 30 * (nO k1 + 0) := c2
  have c3' : D.2.1 ≤ 100000 + 100000 * (nO k1 + 0) := c3
  have g1 : (gw0 (D.1 + 30, D.2.1 + 814, D.2.2) D.1).1 = D.1 + 30 := rfl
  have g2 : (gw0 (D.1 + 30, D.2.1 + 814, D.2.2) D.1).2.1 = D.2.1 + 814 := rfl
  refine ⟨?_, ?_, Or.inr ⟨D.1, rfl, c1, by rw [g1]; exact Nat.le_refl _, sc0, LY_G, sc0_z⟩, fun a b ea eb => ?_⟩
  · rw [g1, g2]
    show 98 ≤ D.1 + 30 ∧ D.1 + 30 ≤ 98 + 30 * (nO k1 + 1) ∧ D.2.1 + 814 ≤ 100000 + 100000 * (nO k1 + 1)
    omega
  · rcases hk with hk | ⟨a, e1, e2, e3, e4, e5, e6⟩
    · exact Or.inl hk
    · refine Or.inr ⟨a, e1, e2, e3, e4, by rw [g1]; omega, LY_ne e6 (fun q q1 q2 => ?_)⟩
      exact G_ne (M := (D.1 + 30, D.2.1 + 814, D.2.2)) (by omega)
  · cases eb
    rcases hk with ⟨hk, -⟩ | ⟨a', e1, e2, e3, e4, e5, e6⟩
    · rw [show k1 = none from hk] at ea; cases ea
    · rw [show k1 = some a' from e1] at ea; cases ea; omega
theorem r_fresh {d : Nat} (hI : In S) (hK : KTP K kp kt D) : ∃ b D', callD (d + 4) 174 [.ref 68] (G ((H (Sh) S2 K kp X T nC E z B Y Rf D)) (68) S U kt F E mv) = some (some (.ref b), (G ((H (Sh) S2 K kp X T nC E z B Y Rf (D'))) (68) S U ((kt.1, some b)) F E mv)) ∧ KTP K kp (kt.1, some b) D' ∧ LY D' b S := by
  obtain ⟨k1, k2⟩ := kt
  cases k2 with
  | some b =>
    have hbb := KTP_bb hK
    obtain ⟨hc, hk, ht, hd⟩ := id hK
    rcases ht with ht | ⟨b', e1, e2, e3, Sa, e4, e5⟩
    · cases ht
    · cases e1
      obtain ⟨D', t1, t2, t3, t4, t5⟩ := tk_b (Sh := Sh) (S2 := S2) (K := K) (kp := kp) (X := X) (T := T) (nC := nC) (E := E) (z := z) (B := B) (Y := Y) (Rf := Rf) (U := U) (kt := (k1, some b)) (F := F) (mv := mv) (d := d + 1) hI e4 e2 e5
      have hrb : isC ((G ((H (Sh) S2 K kp X T nC E z B Y Rf D)) (68) S U ((k1, some b)) F E mv).2.2 b) 6 = true := by
        rw [G_ne (by omega), H_hi (by omega)]
        obtain ⟨U1, q1, F1, E1, m1, e⟩ := e4
        rw [← e, G_o]
        rfl
      refine ⟨b, D', ?_, KTP_b hK t2 (In_z hI) t3 t4 t5, t2⟩
      rw [c_174]
      simp (disch := omega) only [e_174_0, e_174_1, e_174_4, e_174_4_n, e_174_4_r, e_174_7, e_174_8, e_174_11, e_174_11_i, e_174_12, e_174_15, e_174_18, e_174_19, e_174_22, e_174_23, e_174_26, e_174_27, e_174_30, gfA_i, pfA_i, List.getElem?_cons_zero, List.getElem?_cons_succ, oK_some, rK_some, pR_some, pR_none, kq_i, kq_r, kq_n, kq_u, kq_o, kq_l, isRf_r, isRf_n, isRf_o, okv_r, okv_n, okv_o, is2_r, is2_o, is2_n, rcv_r, isC_i, if_true, if_pos, zI_add, zI_sub, zI_mul, nc_12, nc_8, nc_6, nc_40, nc_250, nc_3, nc_s, len4_0, len4_1, len4_2, len4_3, len4_4, and_self, and_true, true_and, lenA_i, va_rf_s, va_rf_n, oN_none, oN_some, zI_lt, zI_eq, nat_tn, nc_s, Int.lt_irrefl, Int.reduceEq, Int.reduceNe, Int.reduceLT, Int.reduceLE, Int.reduceSub, Int.reduceAdd, Int.reduceMul, Int.reduceDiv, Int.reduceNeg, Int.reduceToNat, or_self, or_false, false_or, if_false, if_true, not_true_eq_false, not_false_eq_true, or_true, true_or, and_false, false_and, ldI_0, stI_0, isC_mcl, Int.add_zero, zJ_eq, Nat.reduceAdd, Nat.reduceLT, G_o, G_1, G_2, G_3, G_4, G_13, G_14, G_15, G_16, G_17, G_18, G_19, G_20, G_21, G_22, G_23, G_24, G_25, G_26, G_27, G_28, G_29, gm_0, gm_1, gm_2, gm_3, gm_4, gm_5, gm_6, gm_7, gm_8, gm_9, gm_10, gm_11, gm_12, gm_13, gm_14, gm_15, gm_16, gm_17, gm_18, gm_19, gm_20, gm_21, gm_22, gm_23, gm_24, gm_25, gm_26, gm_27, gm_28, gm_29, gm_30, gm_31, gm_32, gm_33, gm_34, gm_35, pm_7, pm_23, pm_24, pm_25, pm_26, pm_27, pm_29, pm_31, pm_34, pm_35, pm_9, pm_19, pm_20, pm_21, pm_22, mG_U, mG_8, mG_25, mG_1, mG_2, mG_3, mG_13, mG_14, mG_15, mG_16, mG_26, mG_27, mG_28, mG_29, mG_17, mG_18, mG_19, mG_20, mG_21, mG_22, mG_23, mG_24, kq_l, va_up_ne, va_up_self, hrb, t1]
  | none =>
    have hN := KTP_new hK
    obtain ⟨hc, hk, ht, hd⟩ := id hK
    obtain ⟨c1, c2, c3⟩ := hc
    have n1 : nO k1 ≤ 1 := by
      cases k1 with
      | none => exact Nat.zero_le 1
      | some x => exact Nat.le_refl 1
    have c2' : D.1 ≤ 98 + 30 * (nO k1 + 0) := c2
    have hnw := nw_b (Sh := Sh) (S := S) (S2 := S2) (K := K) (kp := kp) (X := X) (T := T) (nC := nC) (E := E) (z := z) (B := B) (Y := Y) (Rf := Rf) (D := D) (U := U) (kt := (k1, none)) (F := F) (mv := mv) (d := d + 2) (by omega) c1 c1
    obtain ⟨D', t1, t2, t3, t4, t5⟩ := tk_b (Sh := Sh) (S := S) (S2 := S2) (K := K) (kp := kp) (X := X) (T := T) (nC := nC) (E := E) (z := z) (B := B) (Y := Y) (Rf := Rf) (D := gw0 (D.1 + 30, D.2.1 + 814, D.2.2) D.1) (U := U) (kt := (k1, some D.1)) (F := F) (mv := mv) (d := d + 1) hI (LY_G : LY _ D.1 sc0) c1 sc0_z
    have hrc : isC ((mN (G ((H (Sh) S2 K kp X T nC E z B Y Rf D)) (68) S U ((k1, none)) F E mv) 36 (.inl (6, dflA 6))).2.2 D.1) 6 = true := by
      show isC (if D.1 = D.1 then _ else _) 6 = true
      rw [if_pos rfl]
      rfl
    have hrb : isC ((G ((H (Sh) S2 K kp X T nC E z B Y Rf ((gw0 (D.1 + 30, D.2.1 + 814, D.2.2) D.1)))) (68) S U ((k1, some D.1)) F E mv).2.2 D.1) 6 = true := by
      rw [G_ne (by omega), H_hi (by omega)]
      unfold gw0
      rw [G_o]
      rfl
    have e1 : ((G ((H (Sh) S2 K kp X T nC E z B Y Rf D)) (68) S U ((k1, none)) F E mv) : AM).1 = D.1 := rfl
    refine ⟨D.1, D', ?_, KTP_b hN t2 (In_z hI) t3 t4 t5, t2⟩
    rw [c_174]
    simp (disch := omega) only [e_174_0, e_174_1, e_174_4, e_174_4_n, e_174_4_r, e_174_7, e_174_8, e_174_11, e_174_11_i, e_174_12, e_174_15, e_174_18, e_174_19, e_174_22, e_174_23, e_174_26, e_174_27, e_174_30, gfA_i, pfA_i, List.getElem?_cons_zero, List.getElem?_cons_succ, oK_some, rK_some, pR_some, pR_none, kq_i, kq_r, kq_n, kq_u, kq_o, kq_l, isRf_r, isRf_n, isRf_o, okv_r, okv_n, okv_o, is2_r, is2_o, is2_n, rcv_r, isC_i, if_true, if_pos, zI_add, zI_sub, zI_mul, nc_12, nc_8, nc_6, nc_40, nc_250, nc_3, nc_s, len4_0, len4_1, len4_2, len4_3, len4_4, and_self, and_true, true_and, lenA_i, va_rf_s, va_rf_n, oN_none, oN_some, zI_lt, zI_eq, nat_tn, nc_s, Int.lt_irrefl, Int.reduceEq, Int.reduceNe, Int.reduceLT, Int.reduceLE, Int.reduceSub, Int.reduceAdd, Int.reduceMul, Int.reduceDiv, Int.reduceNeg, Int.reduceToNat, or_self, or_false, false_or, if_false, if_true, not_true_eq_false, not_false_eq_true, or_true, true_or, and_false, false_and, ldI_0, stI_0, isC_mcl, Int.add_zero, zJ_eq, Nat.reduceAdd, Nat.reduceLT, G_o, G_1, G_2, G_3, G_4, G_13, G_14, G_15, G_16, G_17, G_18, G_19, G_20, G_21, G_22, G_23, G_24, G_25, G_26, G_27, G_28, G_29, gm_0, gm_1, gm_2, gm_3, gm_4, gm_5, gm_6, gm_7, gm_8, gm_9, gm_10, gm_11, gm_12, gm_13, gm_14, gm_15, gm_16, gm_17, gm_18, gm_19, gm_20, gm_21, gm_22, gm_23, gm_24, gm_25, gm_26, gm_27, gm_28, gm_29, gm_30, gm_31, gm_32, gm_33, gm_34, gm_35, pm_7, pm_23, pm_24, pm_25, pm_26, pm_27, pm_29, pm_31, pm_34, pm_35, pm_9, pm_19, pm_20, pm_21, pm_22, mG_U, mG_8, mG_25, mG_1, mG_2, mG_3, mG_13, mG_14, mG_15, mG_16, mG_26, mG_27, mG_28, mG_29, mG_17, mG_18, mG_19, mG_20, mG_21, mG_22, mG_23, mG_24, kq_l, va_up_ne, va_up_self, e1, hrc, hnw, hrb, t1]
/-- the second reference as it stands in all -/
theorem onW {Sa : Sc} (hL : LY D b Sa) (hb : 98 ≤ b) : ∃ U' kt' F' E' mv', G (G ((H (Sh) S2 K kp X T nC E z B Y Rf D)) (68) S U kt F E mv) b Sa U' kt' F' E' mv' = (G ((H (Sh) S2 K kp X T nC E z B Y Rf D)) (68) S U kt F E mv) := LYl hL hb
theorem k_lastsL {d i : Nat} {a : Int} (hI : In S) (h : prd S i) : den (callD (d + 3)) 97 36 [.ref 0, .int (zI a), .ref (1 + 2 + i), .int (zI 0)] [] (H S S2 K kp X T nC E z B Y Rf D) = some (some (.int (zI (laN S i))), (H S S2 K kp X T nC E z B Y Rf D)) := by
  obtain ⟨p1, p2, p3, p4, hi⟩ := prd_fr hI h
  have hR1 : RS (H S S2 K kp X T nC E z B Y Rf D) 1 S := RS_1
  have hp := hR1.2.2 i hi
  unfold pcl at hp
  rw [frO_p h] at hp
  have h6 := (hI.f i).2.2.2.2.2.2.1
  obtain ⟨c', hlo⟩ := loopF (fun j (_ : Unit) => den (callD (d + 3)) 97 36 [.ref 0, .int (zI a), .ref (1 + 2 + i), .int (zI j)] [] (H S S2 K kp X T nC E z B Y Rf D)) (fun _ c => c) (fun x => some (some (.int (zI x)), (H S S2 K kp X T nC E z B Y Rf D))) (laF S i) 100 (fun j c hj => by
    have hw : callD (d + 3) 28 [.ref 1, .ref (1 + 2 + i), .ref (1 + 2 + fr S i), .int (zI (S 6 i + j))] (H S S2 K kp X T nC E z B Y Rf D) = some (some (.int (zI (wlS S i (S 6 i + j)))), (H S S2 K kp X T nC E z B Y Rf D)) := m_will hI hR1 hi p3 (by omega) (by omega)
    have hwb := wlS_b S i (S 6 i + j)
    have e9 : ¬ (99 : Int) < (j : Int) := by omega
    try dsimp only
    conv => lhs; rw [e_97_36]
    by_cases h4 : wlS S i (S 6 i + j) = 0
    · rw [show laF S i j = some (j : Int) from if_pos h4, mO_s]
      simp (disch := omega) only [e_97_37, e_97_39, e_97_42, e_97_43, e_97_46, e_97_47, e_97_48, e_97_51, e_97_52, e_97_55, e_97_56, e_97_57, e_97_60, e_97_63, e_97_64, e_97_65, e_97_68, gfA_i, pfA_i, List.getElem?_cons_zero, List.getElem?_cons_succ, oK_some, rK_some, pR_some, pR_none, kq_i, kq_r, kq_n, kq_u, kq_o, kq_l, isRf_r, isRf_n, isRf_o, okv_r, okv_n, okv_o, is2_r, is2_o, is2_n, rcv_r, isC_i, if_true, if_pos, zI_add, zI_sub, zI_mul, nc_12, nc_8, nc_6, nc_40, nc_250, nc_3, nc_s, len4_0, len4_1, len4_2, len4_3, len4_4, and_self, and_true, true_and, lenA_i, va_rf_s, va_rf_n, oN_none, oN_some, zI_lt, zI_eq, nat_tn, nc_s, Int.lt_irrefl, Int.reduceEq, Int.reduceNe, Int.reduceLT, Int.reduceLE, Int.reduceSub, Int.reduceAdd, Int.reduceMul, Int.reduceDiv, Int.reduceNeg, Int.reduceToNat, or_self, or_false, false_or, if_false, if_true, not_true_eq_false, not_false_eq_true, or_true, true_or, and_false, false_and, ldI_0, stI_0, ldQ_q, gfA_0, gfA_43, gfA_65, H_0, H_43, H_48, H_65, H_66, H_67, kq_l, isC_0, isC_43, isC_65, isC_sh, gfA_sh, hR1.1, hp, hw, h4, e9]
    · rw [show laF S i j = none from if_neg h4, mO_n]
      simp (disch := omega) only [e_97_37, e_97_39, e_97_42, e_97_43, e_97_46, e_97_47, e_97_48, e_97_51, e_97_52, e_97_55, e_97_56, e_97_57, e_97_60, e_97_63, e_97_64, e_97_65, e_97_68, gfA_i, pfA_i, List.getElem?_cons_zero, List.getElem?_cons_succ, oK_some, rK_some, pR_some, pR_none, kq_i, kq_r, kq_n, kq_u, kq_o, kq_l, isRf_r, isRf_n, isRf_o, okv_r, okv_n, okv_o, is2_r, is2_o, is2_n, rcv_r, isC_i, if_true, if_pos, zI_add, zI_sub, zI_mul, nc_12, nc_8, nc_6, nc_40, nc_250, nc_3, nc_s, len4_0, len4_1, len4_2, len4_3, len4_4, and_self, and_true, true_and, lenA_i, va_rf_s, va_rf_n, oN_none, oN_some, zI_lt, zI_eq, nat_tn, nc_s, Int.lt_irrefl, Int.reduceEq, Int.reduceNe, Int.reduceLT, Int.reduceLE, Int.reduceSub, Int.reduceAdd, Int.reduceMul, Int.reduceDiv, Int.reduceNeg, Int.reduceToNat, or_self, or_false, false_or, if_false, if_true, not_true_eq_false, not_false_eq_true, or_true, true_or, and_false, false_and, ldI_0, stI_0, ldQ_q, gfA_0, gfA_43, gfA_65, H_0, H_43, H_48, H_65, H_66, H_67, kq_l, isC_0, isC_43, isC_65, isC_sh, gfA_sh, hR1.1, hp, hw, h4, e9]) 100 0 () rfl
  refine hlo.trans ?_
  unfold laN
  cases fF (laF S i) 100 0 with
  | some x => rfl
  | none =>
    show den (callD (d + 3)) 97 36 [.ref 0, .int (zI a), .ref (1 + 2 + i), .int (zI 100)] [] _ = _
    rw [e_97_36]
    simp (disch := omega) only [e_97_37, e_97_39, e_97_42, e_97_43, e_97_46, e_97_47, e_97_48, e_97_51, e_97_52, e_97_55, e_97_56, e_97_57, e_97_60, e_97_63, e_97_64, e_97_65, e_97_68, e_97_71, e_97_72, gfA_i, pfA_i, List.getElem?_cons_zero, List.getElem?_cons_succ, oK_some, rK_some, pR_some, pR_none, kq_i, kq_r, kq_n, kq_u, kq_o, kq_l, isRf_r, isRf_n, isRf_o, okv_r, okv_n, okv_o, is2_r, is2_o, is2_n, rcv_r, isC_i, if_true, if_pos, zI_add, zI_sub, zI_mul, nc_12, nc_8, nc_6, nc_40, nc_250, nc_3, len4_0, len4_1, len4_2, len4_3, len4_4, and_self, and_true, true_and, lenA_i, va_rf_s, va_rf_n, oN_none, oN_some, zI_lt, zI_eq, nat_tn, Int.lt_irrefl, Int.reduceEq, Int.reduceNe, Int.reduceLT, Int.reduceLE, Int.reduceSub, Int.reduceAdd, Int.reduceMul, Int.reduceDiv, Int.reduceNeg, Int.reduceToNat, or_self, or_false, false_or, if_false, if_true, not_true_eq_false, not_false_eq_true, or_true, true_or, and_false, false_and, ldI_0, stI_0, ldQ_q, gfA_0, gfA_43, gfA_65, H_0, H_43, H_48, H_65, H_66, H_67, kq_l, isC_0, isC_43, isC_65, isC_sh, gfA_sh, mO_n]
theorem r_lastsL {W : AM} {d i : Nat} {U' : Nat → Int} {kt' : Option Nat × Option Nat} {F' : Nat → Nat → Int32} {E' : Nat → Nat → Int64} {mv' : Nat → Int64} (hI : In S) (h : prd S i) (hW0 : W.2.2 68 = mcl 68 S U kt) (hW17 : W.2.2 85 = .inr (0, 12, .inl (fun i => zI (S 0 i)))) (hb : 98 ≤ b) : ∃ n, den (callD (d + 3)) 213 20 [.ref 68, .int (zI i), .int (zI 0), .ref b, .int (zI 0)] [] (G W b S U' kt' F' E' mv') = some (some (.int (zI (laN S i))), G W b (siN S i n) U' kt' F' E' mv') := by
  obtain ⟨p1, p2, p3, p4, hi⟩ := prd_fr hI h
  have h6 := (hI.f i).2.2.2.2.2.2.1
  have hB := hI.bd
  have hx0 : ∀ Sx, (G W b Sx U' kt' F' E' mv').2.2 68 = mcl 68 S U kt := fun Sx => (G_ne (by omega)).trans hW0
  have hx17 : ∀ Sx, (G W b Sx U' kt' F' E' mv').2.2 85 = .inr (0, 12, .inl (fun i => zI (S 0 i))) := fun Sx => (G_ne (by omega)).trans hW17
  have hst : G W b S U' kt' F' E' mv' = G W b (siN S i 0) U' kt' F' E' mv' := by rw [siN_0 h6.2]
  rw [hst]
  refine loopQ (fun j (_ : Unit) => den (callD (d + 3)) 213 20 [.ref 68, .int (zI i), .int (zI 0), .ref b, .int (zI j)] [] (G W b (siN S i j) U' kt' F' E' mv')) (fun x => ∃ n, x = some (some (.int (zI (laN S i))), G W b (siN S i n) U' kt' F' E' mv')) (fun j _ => laN S i = mO (fF (laF S i) (100 - j) j) (fun x => x) (-1)) 100 (fun j c hj hc => ?_) (fun c hc => ?_) 100 0 () rfl rfl
  · have e9 : ¬ (99 : Int) < (j : Int) := by omega
    have hwl := r_wl (M := W) (o := b) (U := U') (kt := kt') (F := F') (E := E') (mv := mv') (d := d) (S := siN S i j) (Bd_siN hB) hi h.2
    rw [wl_siN hB, siN_a _ _ _ 0 _ (by omega)] at hwl
    have hsi := r_isSilent (M := W) (o := b) (U := U') (kt := kt') (F := F') (E := E') (mv := mv') (d := d + 2) (S := siN S i j) (Bd_siN hB) hi
    rw [siN_s] at hsi
    have hwb := wlS_b S i (S 6 i + j)
    have e10 : 100 - j = (100 - (j + 1)) + 1 := by omega
    by_cases h4 : wlS S i (S 6 i + j) = 0
    · right
      rw [e10, fF_s (show laF S i j = some (j : Int) from if_pos h4)] at hc
      refine ⟨j, ?_⟩
      rw [hc]
      try dsimp only
      conv => lhs; rw [e_213_20]
      simp (disch := omega) only [e_213_22, e_213_24, e_213_27, e_213_28, e_213_29, e_213_30, e_213_33, e_213_34, e_213_35, e_213_38, e_213_41, e_213_43, e_213_44, e_213_45, e_213_46, e_213_49, e_213_52, gfA_i, pfA_i, List.getElem?_cons_zero, List.getElem?_cons_succ, oK_some, rK_some, pR_some, pR_none, kq_i, kq_r, kq_n, kq_u, kq_o, kq_l, isRf_r, isRf_n, isRf_o, okv_r, okv_n, okv_o, is2_r, is2_o, is2_n, rcv_r, isC_i, if_true, if_pos, zI_add, zI_sub, zI_mul, nc_12, nc_8, nc_6, nc_40, nc_250, nc_3, nc_s, len4_0, len4_1, len4_2, len4_3, len4_4, and_self, and_true, true_and, lenA_i, va_rf_s, va_rf_n, oN_none, oN_some, zI_lt, zI_eq, nat_tn, nc_s, Int.lt_irrefl, Int.reduceEq, Int.reduceNe, Int.reduceLT, Int.reduceLE, Int.reduceSub, Int.reduceAdd, Int.reduceMul, Int.reduceDiv, Int.reduceNeg, Int.reduceToNat, or_self, or_false, false_or, if_false, if_true, not_true_eq_false, not_false_eq_true, or_true, true_or, and_false, false_and, ldI_0, stI_0, isC_mcl, Int.add_zero, zJ_eq, Nat.reduceAdd, Nat.reduceLT, G_o, G_1, G_2, G_3, G_4, G_13, G_14, G_15, G_16, G_17, G_18, G_19, G_20, G_21, G_22, G_23, G_24, G_25, G_26, G_27, G_28, G_29, gm_0, gm_1, gm_2, gm_3, gm_4, gm_5, gm_6, gm_7, gm_8, gm_9, gm_10, gm_11, gm_12, gm_13, gm_14, gm_15, gm_16, gm_17, gm_18, gm_19, gm_20, gm_21, gm_22, gm_23, gm_24, gm_25, gm_26, gm_27, gm_28, gm_29, gm_30, gm_31, gm_32, gm_33, gm_34, gm_35, pm_7, pm_23, pm_24, pm_25, pm_26, pm_27, pm_29, pm_31, pm_34, pm_35, pm_9, pm_19, pm_20, pm_21, pm_22, mG_U, mG_8, mG_25, mG_1, mG_2, mG_3, mG_13, mG_14, mG_15, mG_16, mG_26, mG_27, mG_28, mG_29, mG_17, mG_18, mG_19, mG_20, mG_21, mG_22, mG_23, mG_24, kq_l, va_up_ne, va_up_self, hx0, hx17, hwl, h4, e9, mO_s]
    · left
      rw [e10, fF_n (show laF S i j = none from if_neg h4)] at hc
      refine ⟨(), ?_, hc⟩
      try dsimp only
      conv => lhs; rw [e_213_20]
      simp (disch := omega) only [e_213_22, e_213_24, e_213_27, e_213_28, e_213_29, e_213_30, e_213_33, e_213_34, e_213_35, e_213_38, e_213_41, e_213_43, e_213_44, e_213_45, e_213_46, e_213_49, e_213_52, gfA_i, pfA_i, List.getElem?_cons_zero, List.getElem?_cons_succ, oK_some, rK_some, pR_some, pR_none, kq_i, kq_r, kq_n, kq_u, kq_o, kq_l, isRf_r, isRf_n, isRf_o, okv_r, okv_n, okv_o, is2_r, is2_o, is2_n, rcv_r, isC_i, if_true, if_pos, zI_add, zI_sub, zI_mul, nc_12, nc_8, nc_6, nc_40, nc_250, nc_3, nc_s, len4_0, len4_1, len4_2, len4_3, len4_4, and_self, and_true, true_and, lenA_i, va_rf_s, va_rf_n, oN_none, oN_some, zI_lt, zI_eq, nat_tn, nc_s, Int.lt_irrefl, Int.reduceEq, Int.reduceNe, Int.reduceLT, Int.reduceLE, Int.reduceSub, Int.reduceAdd, Int.reduceMul, Int.reduceDiv, Int.reduceNeg, Int.reduceToNat, or_self, or_false, false_or, if_false, if_true, not_true_eq_false, not_false_eq_true, or_true, true_or, and_false, false_and, ldI_0, stI_0, isC_mcl, Int.add_zero, zJ_eq, Nat.reduceAdd, Nat.reduceLT, G_o, G_1, G_2, G_3, G_4, G_13, G_14, G_15, G_16, G_17, G_18, G_19, G_20, G_21, G_22, G_23, G_24, G_25, G_26, G_27, G_28, G_29, gm_0, gm_1, gm_2, gm_3, gm_4, gm_5, gm_6, gm_7, gm_8, gm_9, gm_10, gm_11, gm_12, gm_13, gm_14, gm_15, gm_16, gm_17, gm_18, gm_19, gm_20, gm_21, gm_22, gm_23, gm_24, gm_25, gm_26, gm_27, gm_28, gm_29, gm_30, gm_31, gm_32, gm_33, gm_34, gm_35, pm_7, pm_23, pm_24, pm_25, pm_26, pm_27, pm_29, pm_31, pm_34, pm_35, pm_9, pm_19, pm_20, pm_21, pm_22, mG_U, mG_8, mG_25, mG_1, mG_2, mG_3, mG_13, mG_14, mG_15, mG_16, mG_26, mG_27, mG_28, mG_29, mG_17, mG_18, mG_19, mG_20, mG_21, mG_22, mG_23, mG_24, kq_l, va_up_ne, va_up_self, hx0, hx17, hwl, hsi, h4, e9]
  · have hc' : laN S i = -1 := hc
    refine ⟨100, ?_⟩
    rw [hc']
    show den (callD (d + 3)) 213 20 [.ref 68, .int (zI i), .int (zI 0), .ref b, .int (zI 100)] [] _ = _
    rw [e_213_20]
    simp (disch := omega) only [e_213_22, e_213_24, e_213_55, e_213_56, gfA_i, pfA_i, List.getElem?_cons_zero, List.getElem?_cons_succ, oK_some, rK_some, pR_some, pR_none, kq_i, kq_r, kq_n, kq_u, kq_o, kq_l, isRf_r, isRf_n, isRf_o, okv_r, okv_n, okv_o, is2_r, is2_o, is2_n, rcv_r, isC_i, if_true, if_pos, zI_add, zI_sub, zI_mul, nc_12, nc_8, nc_6, nc_40, nc_250, nc_3, len4_0, len4_1, len4_2, len4_3, len4_4, and_self, and_true, true_and, lenA_i, va_rf_s, va_rf_n, oN_none, oN_some, zI_lt, zI_eq, nat_tn, Int.lt_irrefl, Int.reduceEq, Int.reduceNe, Int.reduceLT, Int.reduceLE, Int.reduceSub, Int.reduceAdd, Int.reduceMul, Int.reduceDiv, Int.reduceNeg, Int.reduceToNat, or_self, or_false, false_or, if_false, if_true, not_true_eq_false, not_false_eq_true, or_true, true_or, and_false, false_and, ldI_0, stI_0, isC_mcl, Int.add_zero, zJ_eq, Nat.reduceAdd, Nat.reduceLT, G_o, G_1, G_2, G_3, G_4, G_13, G_14, G_15, G_16, G_17, G_18, G_19, G_20, G_21, G_22, G_23, G_24, G_25, G_26, G_27, G_28, G_29, gm_0, gm_1, gm_2, gm_3, gm_4, gm_5, gm_6, gm_7, gm_8, gm_9, gm_10, gm_11, gm_12, gm_13, gm_14, gm_15, gm_16, gm_17, gm_18, gm_19, gm_20, gm_21, gm_22, gm_23, gm_24, gm_25, gm_26, gm_27, gm_28, gm_29, gm_30, gm_31, gm_32, gm_33, gm_34, gm_35, pm_7, pm_23, pm_24, pm_25, pm_26, pm_27, pm_29, pm_31, pm_34, pm_35, pm_9, pm_19, pm_20, pm_21, pm_22, mG_U, mG_8, mG_25, mG_1, mG_2, mG_3, mG_13, mG_14, mG_15, mG_16, mG_26, mG_27, mG_28, mG_29, mG_17, mG_18, mG_19, mG_20, mG_21, mG_22, mG_23, mG_24, kq_l, va_up_ne, va_up_self]
theorem k_driftL {d i n : Nat} {a : Int} {y7 : Value} (hI : In S) (h : prd S i) (hn : n ≤ 40) : den (callD (d + 3)) 101 76 [.ref 0, .int (zI a), .int (zI n), .ref (15 + 2 + i), .ref (15 + 2 + dbt S i), .ref (15 + 2 + fr S (dbt S i)), .int (zI 0), y7] [] (H S (S) K kp X T nC E z B Y Rf D) = some (some (.int (zI (drS i n S 7 (fr S (dbt (drS i n S) i))))), (H S ((drS i n S)) K kp X T nC E z B Y Rf D)) := by
  obtain ⟨⟨y, hlo⟩, -⟩ := loopY (fun j (_ : Unit) (y : Value) => den (callD (d + 3)) 101 76 [.ref 0, .int (zI a), .int (zI n), .ref (15 + 2 + i), .ref (15 + 2 + dbt (drS i j S) i), .ref (15 + 2 + fr S (dbt (drS i j S) i)), .int (zI j), y] [] (H S ((drS i j S)) K kp X T nC E z B Y Rf D)) (fun _ c => c) (fun _ _ => True) n (fun j c y hj _ => by
    obtain ⟨h1, h2, h3, h4⟩ := drI_n hI h j
    obtain ⟨d1, d2, d3, d4⟩ := prd_dbt h1 h2
    have hR : RS (H S ((drS i j S)) K kp X T nC E z B Y Rf D) 15 (drS i j S) := RS_15
    have hw := m_write (d := d) (b := 1) h1 hR d1 (Or.inr rfl)
    rw [put_15, ← drS_s] at hw
    have e1 : dbt (drS i (j + 1) S) i = fr S (dbt (drS i j S) i) := by rw [drS_s, dbt_wr h1 h2, h3]
    have e2 : fr S (dbt (drS i (j + 1) S) i) = dbt (drS i j S) i := by
      rw [e1]
      have := (prd_fr h1 d1).2.1
      rw [h3, h3] at this
      exact this
    try dsimp only
    refine ⟨⟨.ref (15 + 2 + fr S (dbt (drS i j S) i)), ?_⟩, trivial⟩
    conv => lhs; rw [e_101_76]
    rw [e2, e1]
    simp (disch := omega) only [e_101_78, e_101_79, e_101_82, e_101_84, e_101_86, e_101_87, e_101_90, e_101_92, e_101_93, e_101_96, e_101_98, e_101_100, e_101_102, e_101_104, e_101_107, gfA_i, pfA_i, List.getElem?_cons_zero, List.getElem?_cons_succ, oK_some, rK_some, pR_some, pR_none, kq_i, kq_r, kq_n, kq_u, kq_o, kq_l, isRf_r, isRf_n, isRf_o, okv_r, okv_n, okv_o, is2_r, is2_o, is2_n, rcv_r, isC_i, if_true, if_pos, zI_add, zI_sub, zI_mul, nc_12, nc_8, nc_6, nc_40, nc_250, nc_3, nc_s, len4_0, len4_1, len4_2, len4_3, len4_4, and_self, and_true, true_and, lenA_i, va_rf_s, va_rf_n, oN_none, oN_some, zI_lt, zI_eq, nat_tn, nc_s, Int.lt_irrefl, Int.reduceEq, Int.reduceNe, Int.reduceLT, Int.reduceLE, Int.reduceSub, Int.reduceAdd, Int.reduceMul, Int.reduceDiv, Int.reduceNeg, Int.reduceToNat, or_self, or_false, false_or, if_false, if_true, not_true_eq_false, not_false_eq_true, or_true, true_or, and_false, false_and, ldI_0, stI_0, ldQ_q, gfA_0, gfA_43, gfA_65, H_0, H_43, H_48, H_65, H_66, H_67, kq_l, isC_0, isC_43, isC_65, isC_sh, gfA_sh, hR.1, hw]) n 0 () y7 (by omega) trivial
  refine hlo.trans ?_
  obtain ⟨h1, h2, h3, h4⟩ := drI_n hI h n
  have hf12 := fr_dbt h1 h2
  rw [h3] at hf12
  have hR : RS (H S ((drS i n S)) K kp X T nC E z B Y Rf D) 15 (drS i n S) := RS_15
  try dsimp only
  rw [e_101_76]
  simp (disch := omega) only [e_101_78, e_101_79, e_101_110, e_101_112, e_101_115, gfA_i, pfA_i, List.getElem?_cons_zero, List.getElem?_cons_succ, oK_some, rK_some, pR_some, pR_none, kq_i, kq_r, kq_n, kq_u, kq_o, kq_l, isRf_r, isRf_n, isRf_o, okv_r, okv_n, okv_o, is2_r, is2_o, is2_n, rcv_r, isC_i, if_true, if_pos, zI_add, zI_sub, zI_mul, nc_12, nc_8, nc_6, nc_40, nc_250, nc_3, nc_s, len4_0, len4_1, len4_2, len4_3, len4_4, and_self, and_true, true_and, lenA_i, va_rf_s, va_rf_n, oN_none, oN_some, zI_lt, zI_eq, nat_tn, nc_s, Int.lt_irrefl, Int.reduceEq, Int.reduceNe, Int.reduceLT, Int.reduceLE, Int.reduceSub, Int.reduceAdd, Int.reduceMul, Int.reduceDiv, Int.reduceNeg, Int.reduceToNat, or_self, or_false, false_or, if_false, if_true, not_true_eq_false, not_false_eq_true, or_true, true_or, and_false, false_and, ldI_0, stI_0, ldQ_q, gfA_0, gfA_43, gfA_65, H_0, H_43, H_48, H_65, H_66, H_67, kq_l, isC_0, isC_43, isC_65, isC_sh, gfA_sh, hR.2.2 _ hf12, pcl]
theorem r_driftL {W : AM} {d i n : Nat} {U' : Nat → Int} {kt' : Option Nat × Option Nat} {F' : Nat → Nat → Int32} {E' : Nat → Nat → Int64} {mv' : Nat → Int64} (hI : In S) (h : prd S i) (hn : n ≤ 40) (hW0 : W.2.2 68 = mcl 68 S U kt) (hW21 : W.2.2 89 = .inr (0, 12, .inl (fun i => zI (S 4 i)))) (hb : 98 ≤ b) : den (callD (d + 3)) 218 48 [.ref 68, .int (zI i), .int (zI n), .int (zI 0), .ref b, .int (zI 0)] [] (G W b S U' kt' F' E' mv') = some (some (.int (zI (drS i n S 7 (fr S (dbt (drS i n S) i))))), G W b (drS i n S) U' kt' F' E' mv') := by
  have hx0 : ∀ Sx, (G W b Sx U' kt' F' E' mv').2.2 68 = mcl 68 S U kt := fun Sx => (G_ne (by omega)).trans hW0
  have hx21 : ∀ Sx, (G W b Sx U' kt' F' E' mv').2.2 89 = .inr (0, 12, .inl (fun i => zI (S 4 i))) := fun Sx => (G_ne (by omega)).trans hW21
  have hlo := loopN (fun j (_ : Unit) => den (callD (d + 3)) 218 48 [.ref 68, .int (zI i), .int (zI n), .int (zI 0), .ref b, .int (zI j)] [] (G W b (drS i j S) U' kt' F' E' mv')) (fun _ c => c) n (fun j c hj => by
    obtain ⟨h1, h2, h3, h4⟩ := drI_n hI h j
    obtain ⟨d1, d2, d3, d4⟩ := prd_dbt h1 h2
    have hi := (prd_fr hI h).2.2.2.2
    have hd := r_debtor (M := W) (o := b) (U := U') (kt := kt') (F := F') (E := E') (mv := mv') (d := d + 2) h1.bd hi h2
    have hw := r_writes (M := W) (o := b) (U := U') (kt := kt') (F := F') (E := E') (mv := mv') (d := d + 1) (b := 1) h1 d1 (Or.inr rfl)
    rw [← drS_s] at hw
    try dsimp only
    conv => lhs; rw [e_218_48]
    simp (disch := omega) only [e_218_50, e_218_51, e_218_54, e_218_56, e_218_58, e_218_59, e_218_62, e_218_63, e_218_66, e_218_69, gfA_i, pfA_i, List.getElem?_cons_zero, List.getElem?_cons_succ, oK_some, rK_some, pR_some, pR_none, kq_i, kq_r, kq_n, kq_u, kq_o, kq_l, isRf_r, isRf_n, isRf_o, okv_r, okv_n, okv_o, is2_r, is2_o, is2_n, rcv_r, isC_i, if_true, if_pos, zI_add, zI_sub, zI_mul, nc_12, nc_8, nc_6, nc_40, nc_250, nc_3, nc_s, len4_0, len4_1, len4_2, len4_3, len4_4, and_self, and_true, true_and, lenA_i, va_rf_s, va_rf_n, oN_none, oN_some, zI_lt, zI_eq, nat_tn, nc_s, Int.lt_irrefl, Int.reduceEq, Int.reduceNe, Int.reduceLT, Int.reduceLE, Int.reduceSub, Int.reduceAdd, Int.reduceMul, Int.reduceDiv, Int.reduceNeg, Int.reduceToNat, or_self, or_false, false_or, if_false, if_true, not_true_eq_false, not_false_eq_true, or_true, true_or, and_false, false_and, ldI_0, stI_0, isC_mcl, Int.add_zero, zJ_eq, Nat.reduceAdd, Nat.reduceLT, G_o, G_1, G_2, G_3, G_4, G_13, G_14, G_15, G_16, G_17, G_18, G_19, G_20, G_21, G_22, G_23, G_24, G_25, G_26, G_27, G_28, G_29, gm_0, gm_1, gm_2, gm_3, gm_4, gm_5, gm_6, gm_7, gm_8, gm_9, gm_10, gm_11, gm_12, gm_13, gm_14, gm_15, gm_16, gm_17, gm_18, gm_19, gm_20, gm_21, gm_22, gm_23, gm_24, gm_25, gm_26, gm_27, gm_28, gm_29, gm_30, gm_31, gm_32, gm_33, gm_34, gm_35, pm_7, pm_23, pm_24, pm_25, pm_26, pm_27, pm_29, pm_31, pm_34, pm_35, pm_9, pm_19, pm_20, pm_21, pm_22, mG_U, mG_8, mG_25, mG_1, mG_2, mG_3, mG_13, mG_14, mG_15, mG_16, mG_26, mG_27, mG_28, mG_29, mG_17, mG_18, mG_19, mG_20, mG_21, mG_22, mG_23, mG_24, kq_l, va_up_ne, va_up_self, hd, hw]) n 0 () (by omega)
  refine hlo.trans ?_
  obtain ⟨h1, h2, h3, h4⟩ := drI_n hI h n
  have hf12 := fr_dbt h1 h2
  rw [h3] at hf12
  obtain ⟨d1, d2, d3, d4⟩ := prd_dbt h1 h2
  have hi := (prd_fr hI h).2.2.2.2
  have hd := r_debtor (M := W) (o := b) (U := U') (kt := kt') (F := F') (E := E') (mv := mv') (d := d + 2) h1.bd hi h2
  have e4 : S 4 (dbt (drS i n S) i) = ((fr S (dbt (drS i n S) i) : Nat) : Int) := by
    have hd0 : prd S (dbt (drS i n S) i) := by
      rcases d4 with e | e
      · rw [e]; exact h
      · rw [e, h3]; exact (prd_fr hI h).1
    exact (frE hI.bd hd0.2).1
  try dsimp only
  rw [e_218_48]
  simp (disch := omega) only [e_218_50, e_218_51, e_218_72, e_218_74, e_218_77, e_218_78, e_218_81, e_218_83, e_218_84, e_218_87, e_218_88, e_218_89, gfA_i, pfA_i, List.getElem?_cons_zero, List.getElem?_cons_succ, oK_some, rK_some, pR_some, pR_none, kq_i, kq_r, kq_n, kq_u, kq_o, kq_l, isRf_r, isRf_n, isRf_o, okv_r, okv_n, okv_o, is2_r, is2_o, is2_n, rcv_r, isC_i, if_true, if_pos, zI_add, zI_sub, zI_mul, nc_12, nc_8, nc_6, nc_40, nc_250, nc_3, nc_s, len4_0, len4_1, len4_2, len4_3, len4_4, and_self, and_true, true_and, lenA_i, va_rf_s, va_rf_n, oN_none, oN_some, zI_lt, zI_eq, nat_tn, nc_s, Int.lt_irrefl, Int.reduceEq, Int.reduceNe, Int.reduceLT, Int.reduceLE, Int.reduceSub, Int.reduceAdd, Int.reduceMul, Int.reduceDiv, Int.reduceNeg, Int.reduceToNat, or_self, or_false, false_or, if_false, if_true, not_true_eq_false, not_false_eq_true, or_true, true_or, and_false, false_and, ldI_0, stI_0, isC_mcl, Int.add_zero, zJ_eq, Nat.reduceAdd, Nat.reduceLT, G_o, G_1, G_2, G_3, G_4, G_13, G_14, G_15, G_16, G_17, G_18, G_19, G_20, G_21, G_22, G_23, G_24, G_25, G_26, G_27, G_28, G_29, gm_0, gm_1, gm_2, gm_3, gm_4, gm_5, gm_6, gm_7, gm_8, gm_9, gm_10, gm_11, gm_12, gm_13, gm_14, gm_15, gm_16, gm_17, gm_18, gm_19, gm_20, gm_21, gm_22, gm_23, gm_24, gm_25, gm_26, gm_27, gm_28, gm_29, gm_30, gm_31, gm_32, gm_33, gm_34, gm_35, pm_7, pm_23, pm_24, pm_25, pm_26, pm_27, pm_29, pm_31, pm_34, pm_35, pm_9, pm_19, pm_20, pm_21, pm_22, mG_U, mG_8, mG_25, mG_1, mG_2, mG_3, mG_13, mG_14, mG_15, mG_16, mG_26, mG_27, mG_28, mG_29, mG_17, mG_18, mG_19, mG_20, mG_21, mG_22, mG_23, mG_24, kq_l, va_up_ne, va_up_self, hx0, hx21, hd, e4]
theorem Bd_s4 {S : Sc} {k : Nat} {v : Int} (hB : Bd S) (h : -1 ≤ v ∧ v ≤ 11) : Bd (sU S 4 k v) := by
  refine ⟨hB.1, hB.2.1, hB.2.2.1, fun i => ?_⟩
  obtain ⟨h0, h1, h2, h3, h4, h5, h6, h7⟩ := hB.f i
  refine ⟨h0, h1, h2, h3, ?_, h5, h6, h7⟩
  unfold sU
  split <;> omega
theorem r_asPL {W : AM} {d i j : Nat} {w : Int} {U' : Nat → Int} {kt' : Option Nat × Option Nat} {F' : Nat → Nat → Int32} {E' : Nat → Nat → Int64} {mv' : Nat → Int64} (hI : In S) (hi : i < 12) (hj : j < 12) (hw : w = 0 ∨ w = 1) (hW0 : W.2.2 68 = mcl 68 S U kt) (hW17 : W.2.2 85 = .inr (0, 12, .inl (fun i => zI (S 0 i)))) (hb : 98 ≤ b) : den (callD (d + 3)) 215 54 [.ref 68, .int (zI i), .int (zI j), .int (zI w), .ref b] [] (G W b S U' kt' F' E' mv') = some (some (.int (zI (if w = 0 then W6 (S 0 i) (cm S i j) (S 8 2) (S 6 i) (S 1 i) (S 7 i) (S 8 3) else L6 (S 0 i) (S 1 i) (S 7 j) (S 6 i) (S 8 3)))), G W b (sU S 4 i j) U' kt' F' E' mv') := by
  have hx0 : ∀ Sx, (G W b Sx U' kt' F' E' mv').2.2 68 = mcl 68 S U kt := fun Sx => (G_ne (by omega)).trans hW0
  have hx17 : ∀ Sx, (G W b Sx U' kt' F' E' mv').2.2 85 = .inr (0, 12, .inl (fun i => zI (S 0 i))) := fun Sx => (G_ne (by omega)).trans hW17
  have hB : Bd (sU S 4 i j) := Bd_s4 hI.bd (by omega)
  have hk := (hI.f i).1
  have h4 : 0 ≤ sU S 4 i j 4 i := by rw [sU_t]; omega
  have ef : fr (sU S 4 i j) i = j := by
    unfold fr
    rw [sU_t, nat_tn]
  have hwl := r_will (M := W) (o := b) (U := U') (kt := kt') (F := F') (E := E') (mv := mv') (d := d) hB hi h4 hk
  have hln := r_lines (M := W) (o := b) (U := U') (kt := kt') (F := F') (E := E') (mv := mv') (d := d + 2) hB hi h4 hk
  rw [ef] at hwl hln
  rcases hw with rfl | rfl
  · simp (disch := omega) only [e_215_54, e_215_56, e_215_59, e_215_60, e_215_61, e_215_62, e_215_63, e_215_66, e_215_68, e_215_69, e_215_70, e_215_73, e_215_74, e_215_75, e_215_78, e_215_81, e_215_83, e_215_84, e_215_85, e_215_88, e_215_89, e_215_90, e_215_93, gfA_i, pfA_i, List.getElem?_cons_zero, List.getElem?_cons_succ, oK_some, rK_some, pR_some, pR_none, kq_i, kq_r, kq_n, kq_u, kq_o, kq_l, isRf_r, isRf_n, isRf_o, okv_r, okv_n, okv_o, is2_r, is2_o, is2_n, rcv_r, isC_i, if_true, if_pos, zI_add, zI_sub, zI_mul, nc_12, nc_8, nc_6, nc_40, nc_250, nc_3, nc_s, len4_0, len4_1, len4_2, len4_3, len4_4, and_self, and_true, true_and, lenA_i, va_rf_s, va_rf_n, oN_none, oN_some, zI_lt, zI_eq, nat_tn, nc_s, Int.lt_irrefl, Int.reduceEq, Int.reduceNe, Int.reduceLT, Int.reduceLE, Int.reduceSub, Int.reduceAdd, Int.reduceMul, Int.reduceDiv, Int.reduceNeg, Int.reduceToNat, or_self, or_false, false_or, if_false, if_true, not_true_eq_false, not_false_eq_true, or_true, true_or, and_false, false_and, ldI_0, stI_0, isC_mcl, Int.add_zero, zJ_eq, Nat.reduceAdd, Nat.reduceLT, G_o, G_1, G_2, G_3, G_4, G_13, G_14, G_15, G_16, G_17, G_18, G_19, G_20, G_21, G_22, G_23, G_24, G_25, G_26, G_27, G_28, G_29, gm_0, gm_1, gm_2, gm_3, gm_4, gm_5, gm_6, gm_7, gm_8, gm_9, gm_10, gm_11, gm_12, gm_13, gm_14, gm_15, gm_16, gm_17, gm_18, gm_19, gm_20, gm_21, gm_22, gm_23, gm_24, gm_25, gm_26, gm_27, gm_28, gm_29, gm_30, gm_31, gm_32, gm_33, gm_34, gm_35, pm_7, pm_23, pm_24, pm_25, pm_26, pm_27, pm_29, pm_31, pm_34, pm_35, pm_9, pm_19, pm_20, pm_21, pm_22, mG_U, mG_8, mG_25, mG_1, mG_2, mG_3, mG_13, mG_14, mG_15, mG_16, mG_26, mG_27, mG_28, mG_29, mG_17, mG_18, mG_19, mG_20, mG_21, mG_22, mG_23, mG_24, kq_l, va_up_ne, va_up_self, hx0, hx17, hwl]
    rfl
  · simp (disch := omega) only [e_215_54, e_215_56, e_215_59, e_215_60, e_215_61, e_215_62, e_215_63, e_215_66, e_215_68, e_215_69, e_215_70, e_215_73, e_215_74, e_215_75, e_215_78, e_215_81, e_215_83, e_215_84, e_215_85, e_215_88, e_215_89, e_215_90, e_215_93, gfA_i, pfA_i, List.getElem?_cons_zero, List.getElem?_cons_succ, oK_some, rK_some, pR_some, pR_none, kq_i, kq_r, kq_n, kq_u, kq_o, kq_l, isRf_r, isRf_n, isRf_o, okv_r, okv_n, okv_o, is2_r, is2_o, is2_n, rcv_r, isC_i, if_true, if_pos, zI_add, zI_sub, zI_mul, nc_12, nc_8, nc_6, nc_40, nc_250, nc_3, nc_s, len4_0, len4_1, len4_2, len4_3, len4_4, and_self, and_true, true_and, lenA_i, va_rf_s, va_rf_n, oN_none, oN_some, zI_lt, zI_eq, nat_tn, nc_s, Int.lt_irrefl, Int.reduceEq, Int.reduceNe, Int.reduceLT, Int.reduceLE, Int.reduceSub, Int.reduceAdd, Int.reduceMul, Int.reduceDiv, Int.reduceNeg, Int.reduceToNat, or_self, or_false, false_or, if_false, if_true, not_true_eq_false, not_false_eq_true, or_true, true_or, and_false, false_and, ldI_0, stI_0, isC_mcl, Int.add_zero, zJ_eq, Nat.reduceAdd, Nat.reduceLT, G_o, G_1, G_2, G_3, G_4, G_13, G_14, G_15, G_16, G_17, G_18, G_19, G_20, G_21, G_22, G_23, G_24, G_25, G_26, G_27, G_28, G_29, gm_0, gm_1, gm_2, gm_3, gm_4, gm_5, gm_6, gm_7, gm_8, gm_9, gm_10, gm_11, gm_12, gm_13, gm_14, gm_15, gm_16, gm_17, gm_18, gm_19, gm_20, gm_21, gm_22, gm_23, gm_24, gm_25, gm_26, gm_27, gm_28, gm_29, gm_30, gm_31, gm_32, gm_33, gm_34, gm_35, pm_7, pm_23, pm_24, pm_25, pm_26, pm_27, pm_29, pm_31, pm_34, pm_35, pm_9, pm_19, pm_20, pm_21, pm_22, mG_U, mG_8, mG_25, mG_1, mG_2, mG_3, mG_13, mG_14, mG_15, mG_16, mG_26, mG_27, mG_28, mG_29, mG_17, mG_18, mG_19, mG_20, mG_21, mG_22, mG_23, mG_24, kq_l, va_up_ne, va_up_self, hx0, hx17, hln]
    rfl
end K8
section Q8
variable {a b c e : Int}
theorem q_lasts (ha : i32 a) : SpX 97 213 [.int (zI a)] := by
  intro d st hR
  obtain ⟨S, S2, K, kp, X, T, nC, E, z, B, Y, Rf, U, kt, F, mv, D⟩ := st
  have hR' := hR
  obtain ⟨hI, hT, ⟨hF0, hF1, hF2⟩, hF4, hF5, hU, hz, hK⟩ := hR'
  have hc := hI.1
  have hR1 : RS (H S S2 K kp X T nC E z B Y Rf ((G (D) (68) S U kt F E mv))) 1 S := RS_1
  have hR15 : isC ((H S S2 K kp X T nC E z B Y Rf ((G (D) (68) S U kt F E mv))).2.2 15) 2 = true := by rw [RS_15.1]; rfl
  have hsh : ∀ s, s < 8 → (H S S2 K kp X T nC E z B Y Rf ((G (D) (68) S U kt F E mv))).2.2 (49 + 2 * s) = shl (49 + 2 * s) (T 0 s) (nC s) (T 1 s) (T 2 s) := fun s hs => H_sh hs
  have hce : ∀ s, s < 8 → (H S S2 K kp X T nC E z B Y Rf ((G (D) (68) S U kt F E mv))).2.2 (49 + 2 * s + 1) = cel (E s) := fun s hs => H_ce hs
  have ha' := ha
  unfold i32 at ha'
  by_cases h1 : 0 ≤ a ∧ a < S 8 0
  · obtain ⟨i, rfl⟩ : ∃ i : Nat, a = (i : Int) := ⟨a.toNat, by omega⟩
    have hi : (i : Int) < S 8 0 := h1.2
    have hi2 : i < 12 := by omega
    have hB := hI.bd
    have hf := hI.f i
    have hat := fun d => m_at_s (d := d) hI hR1 hi
    have fp : inB i 0 (S 8 0 - 1) = 1 := inB_1 (by omega)
    have hp := hR1.2.2 i hi2
    unfold pcl at hp
    by_cases h4 : 0 ≤ S 4 i
    · have hpr : prd S i := ⟨hi, h4⟩
      obtain ⟨p1, p2, p3, p4, p5⟩ := prd_fr hI hpr
      obtain ⟨e4, -⟩ := frE hB h4
      have hfr := frO_p (o := 1) hpr
      rw [hfr] at hp
      obtain ⟨b, D', hfr1, hK', hL'⟩ := r_fresh (Sh := S) (S := S) (S2 := S2) (K := K) (kp := kp) (X := X) (T := T) (nC := nC) (E := E) (z := z) (B := B) (Y := Y) (Rf := Rf) (D := D) (U := U) (kt := kt) (F := F) (mv := mv) (d := d + 25) hI hK
      obtain ⟨hb1, hb2⟩ := KTP_bb hK'
      obtain ⟨U1, kt1, F1, E1, m1, eW⟩ := onW (Sh := S) (S := S) (S2 := S2) (K := K) (kp := kp) (X := X) (T := T) (nC := nC) (E := E) (z := z) (B := B) (Y := Y) (Rf := Rf) (D := D') (U := U) (kt := (kt.1, some b)) (F := F) (mv := mv) hL' hb1
      obtain ⟨n, hrl⟩ := r_lastsL (W := (G ((H S S2 K kp X T nC E z B Y Rf (D'))) (68) S U ((kt.1, some b)) F E mv)) (U := U) (kt := (kt.1, some b)) (U' := U1) (kt' := kt1) (F' := F1) (E' := E1) (mv' := m1) (d := d + 26) (b := b) hI hpr G_o G_17 hb1
      rw [eW, GC hb1] at hrl
      refine mk (.int (zI (laN S i))) (S, S2, K, kp, X, T, nC, E, z, B, Y, Rf, U, ((kt.1, some b)), F, mv, ((G D' b (siN S i n) U1 kt1 F1 E1 m1))) ?_ ?_ ?_ <;> try dsimp only [HC, HP]
      · rw [c_97]
        simp (disch := omega) only [e_97_0, e_97_1, e_97_4, e_97_5, e_97_8, e_97_9, e_97_10, e_97_10_n, e_97_10_r, e_97_13, e_97_14, e_97_16, e_97_19, e_97_20, e_97_21, e_97_24, e_97_24_n, e_97_24_r, e_97_27, e_97_28, e_97_30, e_97_33, e_97_34, e_97_35, gfA_i, pfA_i, List.getElem?_cons_zero, List.getElem?_cons_succ, oK_some, rK_some, pR_some, pR_none, kq_i, kq_r, kq_n, kq_u, kq_o, kq_l, isRf_r, isRf_n, isRf_o, okv_r, okv_n, okv_o, is2_r, is2_o, is2_n, rcv_r, isC_i, if_true, if_pos, zI_add, zI_sub, zI_mul, nc_12, nc_8, nc_6, nc_40, nc_250, nc_3, len4_0, len4_1, len4_2, len4_3, len4_4, and_self, and_true, true_and, lenA_i, va_rf_s, va_rf_n, oN_none, oN_some, zI_lt, zI_eq, nat_tn, Int.lt_irrefl, Int.reduceEq, Int.reduceNe, Int.reduceLT, Int.reduceLE, Int.reduceSub, Int.reduceAdd, Int.reduceMul, Int.reduceDiv, Int.reduceNeg, Int.reduceToNat, or_self, or_false, false_or, if_false, if_true, not_true_eq_false, not_false_eq_true, or_true, true_or, and_false, false_and, ldI_0, stI_0, ldQ_q, gfA_0, gfA_43, gfA_65, H_0, H_43, H_48, H_65, H_66, H_67, kq_l, isC_0, isC_43, isC_65, isC_sh, gfA_sh, hR1.1, hat, hp]
        exact k_lastsL (d := d + 26) hI hpr
      · rw [c_213]
        simp (disch := omega) only [e_213_0, e_213_1, e_213_2, e_213_5, e_213_6, e_213_7, e_213_10, e_213_11, e_213_12, e_213_13, e_213_16, e_213_17, e_213_18, gfA_i, pfA_i, List.getElem?_cons_zero, List.getElem?_cons_succ, oK_some, rK_some, pR_some, pR_none, kq_i, kq_r, kq_n, kq_u, kq_o, kq_l, isRf_r, isRf_n, isRf_o, okv_r, okv_n, okv_o, is2_r, is2_o, is2_n, rcv_r, isC_i, if_true, if_pos, zI_add, zI_sub, zI_mul, nc_12, nc_8, nc_6, nc_40, nc_250, nc_3, nc_s, len4_0, len4_1, len4_2, len4_3, len4_4, and_self, and_true, true_and, lenA_i, va_rf_s, va_rf_n, oN_none, oN_some, zI_lt, zI_eq, nat_tn, nc_s, Int.lt_irrefl, Int.reduceEq, Int.reduceNe, Int.reduceLT, Int.reduceLE, Int.reduceSub, Int.reduceAdd, Int.reduceMul, Int.reduceDiv, Int.reduceNeg, Int.reduceToNat, or_self, or_false, false_or, if_false, if_true, not_true_eq_false, not_false_eq_true, or_true, true_or, and_false, false_and, ldI_0, stI_0, isC_mcl, Int.add_zero, zJ_eq, Nat.reduceAdd, Nat.reduceLT, G_o, G_1, G_2, G_3, G_4, G_13, G_14, G_15, G_16, G_17, G_18, G_19, G_20, G_21, G_22, G_23, G_24, G_25, G_26, G_27, G_28, G_29, gm_0, gm_1, gm_2, gm_3, gm_4, gm_5, gm_6, gm_7, gm_8, gm_9, gm_10, gm_11, gm_12, gm_13, gm_14, gm_15, gm_16, gm_17, gm_18, gm_19, gm_20, gm_21, gm_22, gm_23, gm_24, gm_25, gm_26, gm_27, gm_28, gm_29, gm_30, gm_31, gm_32, gm_33, gm_34, gm_35, pm_7, pm_23, pm_24, pm_25, pm_26, pm_27, pm_29, pm_31, pm_34, pm_35, pm_9, pm_19, pm_20, pm_21, pm_22, mG_U, mG_8, mG_25, mG_1, mG_2, mG_3, mG_13, mG_14, mG_15, mG_16, mG_26, mG_27, mG_28, mG_29, mG_17, mG_18, mG_19, mG_20, mG_21, mG_22, mG_23, mG_24, kq_l, va_up_ne, va_up_self, r_nf_0 hI hpr, hfr1]
        exact hrl
      · obtain ⟨hI, hT, ⟨hF0, hF1, hF2⟩, hF4, hF5, hU, hz, hK⟩ := hR
        exact ⟨hI, hT, ⟨hF0, hF1, hF2⟩, hF4, hF5, hU, hz, KTP_b hK' LY_G (Z_si (In_z hI) hi2) rfl rfl (fun q hq => G_ne hq)⟩
    · have hfr : frO S 1 i = none := if_neg (fun q => h4 q.2)
      have e4 : S 4 i = -1 := by omega
      have e4n : S 4 i < 0 := by omega
      rw [hfr] at hp
      refine mk (.int (zI (-5))) (S, S2, K, kp, X, T, nC, E, z, B, Y, ((refF Rf (-5))), U, kt, ((va_up F 5 (refF (F 5) (-5)))), mv, D) ?_ ?_ (Rl_ref hR) <;> dsimp only [HC, HP]
      · rw [c_97]
        simp (disch := omega) only [e_97_0, e_97_1, e_97_4, e_97_5, e_97_8, e_97_9, e_97_10, e_97_10_n, e_97_10_r, e_97_13, e_97_14, e_97_16, e_97_19, e_97_20, e_97_21, e_97_24, e_97_24_n, e_97_24_r, e_97_27, e_97_28, e_97_30, e_97_33, gfA_i, pfA_i, List.getElem?_cons_zero, List.getElem?_cons_succ, oK_some, rK_some, pR_some, pR_none, kq_i, kq_r, kq_n, kq_u, kq_o, kq_l, isRf_r, isRf_n, isRf_o, okv_r, okv_n, okv_o, is2_r, is2_o, is2_n, rcv_r, isC_i, if_true, if_pos, zI_add, zI_sub, zI_mul, nc_12, nc_8, nc_6, nc_40, nc_250, nc_3, nc_s, len4_0, len4_1, len4_2, len4_3, len4_4, and_self, and_true, true_and, lenA_i, va_rf_s, va_rf_n, oN_none, oN_some, zI_lt, zI_eq, nat_tn, nc_s, Int.lt_irrefl, Int.reduceEq, Int.reduceNe, Int.reduceLT, Int.reduceLE, Int.reduceSub, Int.reduceAdd, Int.reduceMul, Int.reduceDiv, Int.reduceNeg, Int.reduceToNat, or_self, or_false, false_or, if_false, if_true, not_true_eq_false, not_false_eq_true, or_true, true_or, and_false, false_and, ldI_0, stI_0, ldQ_q, gfA_0, gfA_43, gfA_65, H_0, H_43, H_48, H_65, H_66, H_67, kq_l, isC_0, isC_43, isC_65, isC_sh, gfA_sh, hR1.1, hat, hp, k_ref]
      · rw [c_213]
        simp (disch := omega) only [e_213_0, e_213_1, e_213_2, e_213_5, e_213_6, e_213_7, e_213_10, e_213_11, gfA_i, pfA_i, List.getElem?_cons_zero, List.getElem?_cons_succ, oK_some, rK_some, pR_some, pR_none, kq_i, kq_r, kq_n, kq_u, kq_o, kq_l, isRf_r, isRf_n, isRf_o, okv_r, okv_n, okv_o, is2_r, is2_o, is2_n, rcv_r, isC_i, if_true, if_pos, zI_add, zI_sub, zI_mul, nc_12, nc_8, nc_6, nc_40, nc_250, nc_3, nc_s, len4_0, len4_1, len4_2, len4_3, len4_4, and_self, and_true, true_and, lenA_i, va_rf_s, va_rf_n, oN_none, oN_some, zI_lt, zI_eq, nat_tn, nc_s, Int.lt_irrefl, Int.reduceEq, Int.reduceNe, Int.reduceLT, Int.reduceLE, Int.reduceSub, Int.reduceAdd, Int.reduceMul, Int.reduceDiv, Int.reduceNeg, Int.reduceToNat, or_self, or_false, false_or, if_false, if_true, not_true_eq_false, not_false_eq_true, or_true, true_or, and_false, false_and, ldI_0, stI_0, isC_mcl, Int.add_zero, zJ_eq, Nat.reduceAdd, Nat.reduceLT, G_o, G_1, G_2, G_3, G_4, G_13, G_14, G_15, G_16, G_17, G_18, G_19, G_20, G_21, G_22, G_23, G_24, G_25, G_26, G_27, G_28, G_29, gm_0, gm_1, gm_2, gm_3, gm_4, gm_5, gm_6, gm_7, gm_8, gm_9, gm_10, gm_11, gm_12, gm_13, gm_14, gm_15, gm_16, gm_17, gm_18, gm_19, gm_20, gm_21, gm_22, gm_23, gm_24, gm_25, gm_26, gm_27, gm_28, gm_29, gm_30, gm_31, gm_32, gm_33, gm_34, gm_35, pm_7, pm_23, pm_24, pm_25, pm_26, pm_27, pm_29, pm_31, pm_34, pm_35, pm_9, pm_19, pm_20, pm_21, pm_22, mG_U, mG_8, mG_25, mG_1, mG_2, mG_3, mG_13, mG_14, mG_15, mG_16, mG_26, mG_27, mG_28, mG_29, mG_17, mG_18, mG_19, mG_20, mG_21, mG_22, mG_23, mG_24, kq_l, va_up_ne, va_up_self, r_nf_1 hI hi e4n]
  · have fp : inB a 0 (S 8 0 - 1) = 0 := inB_0 (by omega)
    have hat := fun d => m_at_n (d := d) hI hR1 ha h1
    refine mk (.int (zI (-2))) (S, S2, K, kp, X, T, nC, E, z, B, Y, ((refF Rf (-2))), U, kt, ((va_up F 5 (refF (F 5) (-2)))), mv, D) ?_ ?_ (Rl_ref hR) <;> dsimp only [HC, HP]
    · rw [c_97]
      simp (disch := omega) only [e_97_0, e_97_1, e_97_4, e_97_5, e_97_8, e_97_9, e_97_10, e_97_10_n, e_97_10_r, e_97_13, e_97_14, e_97_16, e_97_19, e_97_20, e_97_21, e_97_24, e_97_24_n, e_97_24_r, e_97_27, e_97_28, e_97_30, e_97_33, gfA_i, pfA_i, List.getElem?_cons_zero, List.getElem?_cons_succ, oK_some, rK_some, pR_some, pR_none, kq_i, kq_r, kq_n, kq_u, kq_o, kq_l, isRf_r, isRf_n, isRf_o, okv_r, okv_n, okv_o, is2_r, is2_o, is2_n, rcv_r, isC_i, if_true, if_pos, zI_add, zI_sub, zI_mul, nc_12, nc_8, nc_6, nc_40, nc_250, nc_3, nc_s, len4_0, len4_1, len4_2, len4_3, len4_4, and_self, and_true, true_and, lenA_i, va_rf_s, va_rf_n, oN_none, oN_some, zI_lt, zI_eq, nat_tn, nc_s, Int.lt_irrefl, Int.reduceEq, Int.reduceNe, Int.reduceLT, Int.reduceLE, Int.reduceSub, Int.reduceAdd, Int.reduceMul, Int.reduceDiv, Int.reduceNeg, Int.reduceToNat, or_self, or_false, false_or, if_false, if_true, not_true_eq_false, not_false_eq_true, or_true, true_or, and_false, false_and, ldI_0, stI_0, ldQ_q, gfA_0, gfA_43, gfA_65, H_0, H_43, H_48, H_65, H_66, H_67, kq_l, isC_0, isC_43, isC_65, isC_sh, gfA_sh, hR1.1, hat, k_ref]
    · rw [c_213]
      simp (disch := omega) only [e_213_0, e_213_1, e_213_2, e_213_5, e_213_6, e_213_7, e_213_10, e_213_11, gfA_i, pfA_i, List.getElem?_cons_zero, List.getElem?_cons_succ, oK_some, rK_some, pR_some, pR_none, kq_i, kq_r, kq_n, kq_u, kq_o, kq_l, isRf_r, isRf_n, isRf_o, okv_r, okv_n, okv_o, is2_r, is2_o, is2_n, rcv_r, isC_i, if_true, if_pos, zI_add, zI_sub, zI_mul, nc_12, nc_8, nc_6, nc_40, nc_250, nc_3, nc_s, len4_0, len4_1, len4_2, len4_3, len4_4, and_self, and_true, true_and, lenA_i, va_rf_s, va_rf_n, oN_none, oN_some, zI_lt, zI_eq, nat_tn, nc_s, Int.lt_irrefl, Int.reduceEq, Int.reduceNe, Int.reduceLT, Int.reduceLE, Int.reduceSub, Int.reduceAdd, Int.reduceMul, Int.reduceDiv, Int.reduceNeg, Int.reduceToNat, or_self, or_false, false_or, if_false, if_true, not_true_eq_false, not_false_eq_true, or_true, true_or, and_false, false_and, ldI_0, stI_0, isC_mcl, Int.add_zero, zJ_eq, Nat.reduceAdd, Nat.reduceLT, G_o, G_1, G_2, G_3, G_4, G_13, G_14, G_15, G_16, G_17, G_18, G_19, G_20, G_21, G_22, G_23, G_24, G_25, G_26, G_27, G_28, G_29, gm_0, gm_1, gm_2, gm_3, gm_4, gm_5, gm_6, gm_7, gm_8, gm_9, gm_10, gm_11, gm_12, gm_13, gm_14, gm_15, gm_16, gm_17, gm_18, gm_19, gm_20, gm_21, gm_22, gm_23, gm_24, gm_25, gm_26, gm_27, gm_28, gm_29, gm_30, gm_31, gm_32, gm_33, gm_34, gm_35, pm_7, pm_23, pm_24, pm_25, pm_26, pm_27, pm_29, pm_31, pm_34, pm_35, pm_9, pm_19, pm_20, pm_21, pm_22, mG_U, mG_8, mG_25, mG_1, mG_2, mG_3, mG_13, mG_14, mG_15, mG_16, mG_26, mG_27, mG_28, mG_29, mG_17, mG_18, mG_19, mG_20, mG_21, mG_22, mG_23, mG_24, kq_l, va_up_ne, va_up_self, r_nf_x hI ha h1]
theorem q_drift (ha : i32 a) (hb : i32 b) : SpX 101 218 [.int (zI a), .int (zI b)] := by
  intro d st hR
  obtain ⟨S, S2, K, kp, X, T, nC, E, z, B, Y, Rf, U, kt, F, mv, D⟩ := st
  have hR' := hR
  obtain ⟨hI, hT, ⟨hF0, hF1, hF2⟩, hF4, hF5, hU, hz, hK⟩ := hR'
  have hc := hI.1
  have hR1 : RS (H S S2 K kp X T nC E z B Y Rf ((G (D) (68) S U kt F E mv))) 1 S := RS_1
  have hR15 : isC ((H S S2 K kp X T nC E z B Y Rf ((G (D) (68) S U kt F E mv))).2.2 15) 2 = true := by rw [RS_15.1]; rfl
  have hsh : ∀ s, s < 8 → (H S S2 K kp X T nC E z B Y Rf ((G (D) (68) S U kt F E mv))).2.2 (49 + 2 * s) = shl (49 + 2 * s) (T 0 s) (nC s) (T 1 s) (T 2 s) := fun s hs => H_sh hs
  have hce : ∀ s, s < 8 → (H S S2 K kp X T nC E z B Y Rf ((G (D) (68) S U kt F E mv))).2.2 (49 + 2 * s + 1) = cel (E s) := fun s hs => H_ce hs
  have hb' := hb
  unfold i32 at hb'
  have hRa : RS (H S (S) K kp X T nC E z B Y Rf ((G (D) (68) S U kt F E mv))) 15 S := RS_15
  have hwb := k_within (d := d + 28) (M := (H S (S) K kp X T nC E z B Y Rf ((G (D) (68) S U kt F E mv)))) (m := 40) hb (by unfold i32; omega)
  have ha' := ha
  unfold i32 at ha'
  by_cases h1 : 0 ≤ a ∧ a < S 8 0
  · obtain ⟨i, rfl⟩ : ∃ i : Nat, a = (i : Int) := ⟨a.toNat, by omega⟩
    have hi : (i : Int) < S 8 0 := h1.2
    have hi2 : i < 12 := by omega
    have hB := hI.bd
    have hf := hI.f i
    have fp : inB i 0 (S 8 0 - 1) = 1 := inB_1 (by omega)
    have hat := fun d => m_at_s (d := d) hI hRa hi
    have hp := hRa.2.2 i hi2
    unfold pcl at hp
    have hdb := m_debtor (d := d + 28) hI hRa hi2
    rcases inB_c b 0 40 with ⟨f2, g2⟩ | ⟨f2, g2⟩
    · refine mk (.int (zI (-2))) (S, (S), K, kp, X, T, nC, E, z, B, Y, ((refF Rf (-2))), U, kt, ((va_up F 5 (refF (F 5) (-2)))), mv, D) ?_ ?_ ?_ <;> try dsimp only [HC, HP]
      · rw [c_101]
        simp (disch := omega) only [e_101_0, e_101_1, e_101_4, e_101_5, e_101_8, e_101_11, e_101_12, e_101_15, e_101_16, e_101_19, e_101_20, e_101_21, e_101_21_n, e_101_21_r, e_101_24, e_101_25, e_101_27, e_101_30, e_101_33, e_101_34, e_101_36, e_101_39, gfA_i, pfA_i, List.getElem?_cons_zero, List.getElem?_cons_succ, oK_some, rK_some, pR_some, pR_none, kq_i, kq_r, kq_n, kq_u, kq_o, kq_l, isRf_r, isRf_n, isRf_o, okv_r, okv_n, okv_o, is2_r, is2_o, is2_n, rcv_r, isC_i, if_true, if_pos, zI_add, zI_sub, zI_mul, nc_12, nc_8, nc_6, nc_40, nc_250, nc_3, len4_0, len4_1, len4_2, len4_3, len4_4, and_self, and_true, true_and, lenA_i, va_rf_s, va_rf_n, oN_none, oN_some, zI_lt, zI_eq, nat_tn, Int.lt_irrefl, Int.reduceEq, Int.reduceNe, Int.reduceLT, Int.reduceLE, Int.reduceSub, Int.reduceAdd, Int.reduceMul, Int.reduceDiv, Int.reduceNeg, Int.reduceToNat, or_self, or_false, false_or, if_false, if_true, not_true_eq_false, not_false_eq_true, or_true, true_or, and_false, false_and, ldI_0, stI_0, ldQ_q, gfA_0, gfA_43, gfA_65, H_0, H_43, H_48, H_65, H_66, H_67, kq_l, isC_0, isC_43, isC_65, isC_sh, gfA_sh, hR1.1, hR15, k_take hI, hRa.1, hat, hp, hwb, f2, k_ref]
      · rw [c_218]
        simp (disch := omega) only [e_218_0, e_218_1, e_218_2, e_218_5, e_218_8, e_218_9, e_218_10, e_218_11, e_218_14, e_218_17, e_218_20, e_218_21, e_218_23, e_218_26, e_218_27, e_218_28, e_218_29, e_218_32, e_218_33, e_218_34, e_218_37, e_218_38, gfA_i, pfA_i, List.getElem?_cons_zero, List.getElem?_cons_succ, oK_some, rK_some, pR_some, pR_none, kq_i, kq_r, kq_n, kq_u, kq_o, kq_l, isRf_r, isRf_n, isRf_o, okv_r, okv_n, okv_o, is2_r, is2_o, is2_n, rcv_r, isC_i, if_true, if_pos, zI_add, zI_sub, zI_mul, nc_12, nc_8, nc_6, nc_40, nc_250, nc_3, nc_s, len4_0, len4_1, len4_2, len4_3, len4_4, and_self, and_true, true_and, lenA_i, va_rf_s, va_rf_n, oN_none, oN_some, zI_lt, zI_eq, nat_tn, nc_s, Int.lt_irrefl, Int.reduceEq, Int.reduceNe, Int.reduceLT, Int.reduceLE, Int.reduceSub, Int.reduceAdd, Int.reduceMul, Int.reduceDiv, Int.reduceNeg, Int.reduceToNat, or_self, or_false, false_or, if_false, if_true, not_true_eq_false, not_false_eq_true, or_true, true_or, and_false, false_and, ldI_0, stI_0, isC_mcl, Int.add_zero, zJ_eq, Nat.reduceAdd, Nat.reduceLT, G_o, G_1, G_2, G_3, G_4, G_13, G_14, G_15, G_16, G_17, G_18, G_19, G_20, G_21, G_22, G_23, G_24, G_25, G_26, G_27, G_28, G_29, gm_0, gm_1, gm_2, gm_3, gm_4, gm_5, gm_6, gm_7, gm_8, gm_9, gm_10, gm_11, gm_12, gm_13, gm_14, gm_15, gm_16, gm_17, gm_18, gm_19, gm_20, gm_21, gm_22, gm_23, gm_24, gm_25, gm_26, gm_27, gm_28, gm_29, gm_30, gm_31, gm_32, gm_33, gm_34, gm_35, pm_7, pm_23, pm_24, pm_25, pm_26, pm_27, pm_29, pm_31, pm_34, pm_35, pm_9, pm_19, pm_20, pm_21, pm_22, mG_U, mG_8, mG_25, mG_1, mG_2, mG_3, mG_13, mG_14, mG_15, mG_16, mG_26, mG_27, mG_28, mG_29, mG_17, mG_18, mG_19, mG_20, mG_21, mG_22, mG_23, mG_24, kq_l, va_up_ne, va_up_self, r_isPupil hc ha, fp, i2J, r_inJ, f2, r_ref]
      · exact Rl_S2 (Rl_ref hR)
    · obtain ⟨n, rfl⟩ : ∃ n : Nat, b = (n : Int) := ⟨b.toNat, by omega⟩
      have hn : n ≤ 40 := by omega
      by_cases h4 : 0 ≤ S 4 i
      · have hpr : prd S i := ⟨hi, h4⟩
        rw [dbt_o hpr] at hdb
        obtain ⟨d1, d2, d3, d4⟩ := prd_dbt hI hpr
        have hpd := hRa.2.2 _ d2
        unfold pcl at hpd
        rw [frO_p d1] at hpd
        obtain ⟨b, D', hfr1, hK', hL'⟩ := r_fresh (Sh := S) (S := S) (S2 := drS i n S) (K := K) (kp := kp) (X := X) (T := T) (nC := nC) (E := E) (z := z) (B := B) (Y := Y) (Rf := Rf) (D := D) (U := U) (kt := kt) (F := F) (mv := mv) (d := d + 25) hI hK
        obtain ⟨hb1, hb2⟩ := KTP_bb hK'
        obtain ⟨U1, kt1, F1, E1, m1, eW⟩ := onW (Sh := S) (S := S) (S2 := drS i n S) (K := K) (kp := kp) (X := X) (T := T) (nC := nC) (E := E) (z := z) (B := B) (Y := Y) (Rf := Rf) (D := D') (U := U) (kt := (kt.1, some b)) (F := F) (mv := mv) hL' hb1
        have hrl := r_driftL (W := (G ((H S ((drS i n S)) K kp X T nC E z B Y Rf (D'))) (68) S U ((kt.1, some b)) F E mv)) (U := U) (kt := (kt.1, some b)) (U' := U1) (kt' := kt1) (F' := F1) (E' := E1) (mv' := m1) (d := d + 26) (b := b) hI hpr hn G_o G_21 hb1
        rw [eW, GC hb1] at hrl
        refine mk (.int (zI (drS i n S 7 (fr S (dbt (drS i n S) i))))) (S, ((drS i n S)), K, kp, X, T, nC, E, z, B, Y, Rf, U, ((kt.1, some b)), F, mv, ((G D' b (drS i n S) U1 kt1 F1 E1 m1))) ?_ ?_ ?_ <;> try dsimp only [HC, HP]
        · rw [c_101]
          simp (disch := omega) only [e_101_0, e_101_1, e_101_4, e_101_5, e_101_8, e_101_11, e_101_12, e_101_15, e_101_16, e_101_19, e_101_20, e_101_21, e_101_21_n, e_101_21_r, e_101_24, e_101_25, e_101_27, e_101_30, e_101_33, e_101_34, e_101_36, e_101_39, e_101_40, e_101_41, e_101_44, e_101_46, e_101_48, e_101_48_n, e_101_48_r, e_101_51, e_101_53, e_101_56, e_101_56_n, e_101_56_r, e_101_59, e_101_60, e_101_62, e_101_65, e_101_66, e_101_68, e_101_71, e_101_73, e_101_74, gfA_i, pfA_i, List.getElem?_cons_zero, List.getElem?_cons_succ, oK_some, rK_some, pR_some, pR_none, kq_i, kq_r, kq_n, kq_u, kq_o, kq_l, isRf_r, isRf_n, isRf_o, okv_r, okv_n, okv_o, is2_r, is2_o, is2_n, rcv_r, isC_i, if_true, if_pos, zI_add, zI_sub, zI_mul, nc_12, nc_8, nc_6, nc_40, nc_250, nc_3, len4_0, len4_1, len4_2, len4_3, len4_4, and_self, and_true, true_and, lenA_i, va_rf_s, va_rf_n, oN_none, oN_some, zI_lt, zI_eq, nat_tn, Int.lt_irrefl, Int.reduceEq, Int.reduceNe, Int.reduceLT, Int.reduceLE, Int.reduceSub, Int.reduceAdd, Int.reduceMul, Int.reduceDiv, Int.reduceNeg, Int.reduceToNat, or_self, or_false, false_or, if_false, if_true, not_true_eq_false, not_false_eq_true, or_true, true_or, and_false, false_and, ldI_0, stI_0, ldQ_q, gfA_0, gfA_43, gfA_65, H_0, H_43, H_48, H_65, H_66, H_67, kq_l, isC_0, isC_43, isC_65, isC_sh, gfA_sh, hR1.1, hR15, k_take hI, hRa.1, hat, hp, hwb, f2, hdb, hpd]
          exact k_driftL (d := d + 26) hI hpr hn
        · rw [c_218]
          simp (disch := omega) only [e_218_0, e_218_1, e_218_2, e_218_5, e_218_8, e_218_9, e_218_10, e_218_11, e_218_14, e_218_17, e_218_20, e_218_21, e_218_23, e_218_26, e_218_27, e_218_28, e_218_29, e_218_32, e_218_33, e_218_34, e_218_37, e_218_38, e_218_39, e_218_40, e_218_43, e_218_45, e_218_46, gfA_i, pfA_i, List.getElem?_cons_zero, List.getElem?_cons_succ, oK_some, rK_some, pR_some, pR_none, kq_i, kq_r, kq_n, kq_u, kq_o, kq_l, isRf_r, isRf_n, isRf_o, okv_r, okv_n, okv_o, is2_r, is2_o, is2_n, rcv_r, isC_i, if_true, if_pos, zI_add, zI_sub, zI_mul, nc_12, nc_8, nc_6, nc_40, nc_250, nc_3, nc_s, len4_0, len4_1, len4_2, len4_3, len4_4, and_self, and_true, true_and, lenA_i, va_rf_s, va_rf_n, oN_none, oN_some, zI_lt, zI_eq, nat_tn, nc_s, Int.lt_irrefl, Int.reduceEq, Int.reduceNe, Int.reduceLT, Int.reduceLE, Int.reduceSub, Int.reduceAdd, Int.reduceMul, Int.reduceDiv, Int.reduceNeg, Int.reduceToNat, or_self, or_false, false_or, if_false, if_true, not_true_eq_false, not_false_eq_true, or_true, true_or, and_false, false_and, ldI_0, stI_0, isC_mcl, Int.add_zero, zJ_eq, Nat.reduceAdd, Nat.reduceLT, G_o, G_1, G_2, G_3, G_4, G_13, G_14, G_15, G_16, G_17, G_18, G_19, G_20, G_21, G_22, G_23, G_24, G_25, G_26, G_27, G_28, G_29, gm_0, gm_1, gm_2, gm_3, gm_4, gm_5, gm_6, gm_7, gm_8, gm_9, gm_10, gm_11, gm_12, gm_13, gm_14, gm_15, gm_16, gm_17, gm_18, gm_19, gm_20, gm_21, gm_22, gm_23, gm_24, gm_25, gm_26, gm_27, gm_28, gm_29, gm_30, gm_31, gm_32, gm_33, gm_34, gm_35, pm_7, pm_23, pm_24, pm_25, pm_26, pm_27, pm_29, pm_31, pm_34, pm_35, pm_9, pm_19, pm_20, pm_21, pm_22, mG_U, mG_8, mG_25, mG_1, mG_2, mG_3, mG_13, mG_14, mG_15, mG_16, mG_26, mG_27, mG_28, mG_29, mG_17, mG_18, mG_19, mG_20, mG_21, mG_22, mG_23, mG_24, kq_l, va_up_ne, va_up_self, r_isPupil hc ha, fp, i2J, r_inJ, f2, r_nf_0 hI hpr, hfr1]
          exact hrl
        · obtain ⟨hI, hT, ⟨hF0, hF1, hF2⟩, hF4, hF5, hU, hz, hK⟩ := hR
          exact ⟨hI, hT, ⟨hF0, hF1, hF2⟩, hF4, hF5, hU, hz, KTP_b hK' LY_G (In_z (drI_n hI hpr n).1) rfl rfl (fun q hq => G_ne hq)⟩
      · have hfr : frO S 15 i = none := if_neg (fun q => h4 q.2)
        have e4n : S 4 i < 0 := by omega
        have h5 := hI.n hi e4n
        rw [hfr] at hp
        rw [if_neg (show ¬ S 5 i = 1 by omega), hfr] at hdb
        refine mk (.int (zI (-5))) (S, (S), K, kp, X, T, nC, E, z, B, Y, ((refF Rf (-5))), U, kt, ((va_up F 5 (refF (F 5) (-5)))), mv, D) ?_ ?_ ?_ <;> try dsimp only [HC, HP]
        · rw [c_101]
          simp (disch := omega) only [e_101_0, e_101_1, e_101_4, e_101_5, e_101_8, e_101_11, e_101_12, e_101_15, e_101_16, e_101_19, e_101_20, e_101_21, e_101_21_n, e_101_21_r, e_101_24, e_101_25, e_101_27, e_101_30, e_101_33, e_101_34, e_101_36, e_101_39, e_101_40, e_101_41, e_101_44, e_101_46, e_101_48, e_101_48_n, e_101_48_r, e_101_51, e_101_53, e_101_56, e_101_56_n, e_101_56_r, e_101_59, e_101_60, e_101_62, e_101_65, gfA_i, pfA_i, List.getElem?_cons_zero, List.getElem?_cons_succ, oK_some, rK_some, pR_some, pR_none, kq_i, kq_r, kq_n, kq_u, kq_o, kq_l, isRf_r, isRf_n, isRf_o, okv_r, okv_n, okv_o, is2_r, is2_o, is2_n, rcv_r, isC_i, if_true, if_pos, zI_add, zI_sub, zI_mul, nc_12, nc_8, nc_6, nc_40, nc_250, nc_3, len4_0, len4_1, len4_2, len4_3, len4_4, and_self, and_true, true_and, lenA_i, va_rf_s, va_rf_n, oN_none, oN_some, zI_lt, zI_eq, nat_tn, Int.lt_irrefl, Int.reduceEq, Int.reduceNe, Int.reduceLT, Int.reduceLE, Int.reduceSub, Int.reduceAdd, Int.reduceMul, Int.reduceDiv, Int.reduceNeg, Int.reduceToNat, or_self, or_false, false_or, if_false, if_true, not_true_eq_false, not_false_eq_true, or_true, true_or, and_false, false_and, ldI_0, stI_0, ldQ_q, gfA_0, gfA_43, gfA_65, H_0, H_43, H_48, H_65, H_66, H_67, kq_l, isC_0, isC_43, isC_65, isC_sh, gfA_sh, hR1.1, hR15, k_take hI, hRa.1, hat, hp, hwb, f2, hdb, k_ref]
        · rw [c_218]
          simp (disch := omega) only [e_218_0, e_218_1, e_218_2, e_218_5, e_218_8, e_218_9, e_218_10, e_218_11, e_218_14, e_218_17, e_218_20, e_218_21, e_218_23, e_218_26, e_218_27, e_218_28, e_218_29, e_218_32, e_218_33, e_218_34, e_218_37, e_218_38, gfA_i, pfA_i, List.getElem?_cons_zero, List.getElem?_cons_succ, oK_some, rK_some, pR_some, pR_none, kq_i, kq_r, kq_n, kq_u, kq_o, kq_l, isRf_r, isRf_n, isRf_o, okv_r, okv_n, okv_o, is2_r, is2_o, is2_n, rcv_r, isC_i, if_true, if_pos, zI_add, zI_sub, zI_mul, nc_12, nc_8, nc_6, nc_40, nc_250, nc_3, nc_s, len4_0, len4_1, len4_2, len4_3, len4_4, and_self, and_true, true_and, lenA_i, va_rf_s, va_rf_n, oN_none, oN_some, zI_lt, zI_eq, nat_tn, nc_s, Int.lt_irrefl, Int.reduceEq, Int.reduceNe, Int.reduceLT, Int.reduceLE, Int.reduceSub, Int.reduceAdd, Int.reduceMul, Int.reduceDiv, Int.reduceNeg, Int.reduceToNat, or_self, or_false, false_or, if_false, if_true, not_true_eq_false, not_false_eq_true, or_true, true_or, and_false, false_and, ldI_0, stI_0, isC_mcl, Int.add_zero, zJ_eq, Nat.reduceAdd, Nat.reduceLT, G_o, G_1, G_2, G_3, G_4, G_13, G_14, G_15, G_16, G_17, G_18, G_19, G_20, G_21, G_22, G_23, G_24, G_25, G_26, G_27, G_28, G_29, gm_0, gm_1, gm_2, gm_3, gm_4, gm_5, gm_6, gm_7, gm_8, gm_9, gm_10, gm_11, gm_12, gm_13, gm_14, gm_15, gm_16, gm_17, gm_18, gm_19, gm_20, gm_21, gm_22, gm_23, gm_24, gm_25, gm_26, gm_27, gm_28, gm_29, gm_30, gm_31, gm_32, gm_33, gm_34, gm_35, pm_7, pm_23, pm_24, pm_25, pm_26, pm_27, pm_29, pm_31, pm_34, pm_35, pm_9, pm_19, pm_20, pm_21, pm_22, mG_U, mG_8, mG_25, mG_1, mG_2, mG_3, mG_13, mG_14, mG_15, mG_16, mG_26, mG_27, mG_28, mG_29, mG_17, mG_18, mG_19, mG_20, mG_21, mG_22, mG_23, mG_24, kq_l, va_up_ne, va_up_self, r_isPupil hc ha, fp, i2J, r_inJ, f2, r_nf_1 hI hi e4n]
        · exact Rl_S2 (Rl_ref hR)
  · have hat := fun d => m_at_n (d := d) hI hRa ha h1
    have fp : inB a 0 (S 8 0 - 1) = 0 := inB_0 (by omega)
    refine mk (.int (zI (-2))) (S, (S), K, kp, X, T, nC, E, z, B, Y, ((refF Rf (-2))), U, kt, ((va_up F 5 (refF (F 5) (-2)))), mv, D) ?_ ?_ ?_ <;> try dsimp only [HC, HP]
    · rw [c_101]
      simp (disch := omega) only [e_101_0, e_101_1, e_101_4, e_101_5, e_101_8, e_101_11, e_101_12, e_101_15, e_101_16, e_101_19, e_101_20, e_101_21, e_101_21_n, e_101_21_r, e_101_24, e_101_25, e_101_27, e_101_30, e_101_33, e_101_34, e_101_36, e_101_39, gfA_i, pfA_i, List.getElem?_cons_zero, List.getElem?_cons_succ, oK_some, rK_some, pR_some, pR_none, kq_i, kq_r, kq_n, kq_u, kq_o, kq_l, isRf_r, isRf_n, isRf_o, okv_r, okv_n, okv_o, is2_r, is2_o, is2_n, rcv_r, isC_i, if_true, if_pos, zI_add, zI_sub, zI_mul, nc_12, nc_8, nc_6, nc_40, nc_250, nc_3, len4_0, len4_1, len4_2, len4_3, len4_4, and_self, and_true, true_and, lenA_i, va_rf_s, va_rf_n, oN_none, oN_some, zI_lt, zI_eq, nat_tn, Int.lt_irrefl, Int.reduceEq, Int.reduceNe, Int.reduceLT, Int.reduceLE, Int.reduceSub, Int.reduceAdd, Int.reduceMul, Int.reduceDiv, Int.reduceNeg, Int.reduceToNat, or_self, or_false, false_or, if_false, if_true, not_true_eq_false, not_false_eq_true, or_true, true_or, and_false, false_and, ldI_0, stI_0, ldQ_q, gfA_0, gfA_43, gfA_65, H_0, H_43, H_48, H_65, H_66, H_67, kq_l, isC_0, isC_43, isC_65, isC_sh, gfA_sh, hR1.1, hR15, k_take hI, hRa.1, hat, k_ref]
    · rw [c_218]
      simp (disch := omega) only [e_218_0, e_218_1, e_218_2, e_218_5, e_218_8, e_218_9, e_218_10, e_218_11, e_218_14, e_218_17, e_218_20, e_218_21, e_218_23, e_218_26, e_218_27, e_218_28, e_218_29, e_218_32, e_218_33, e_218_34, e_218_37, e_218_38, gfA_i, pfA_i, List.getElem?_cons_zero, List.getElem?_cons_succ, oK_some, rK_some, pR_some, pR_none, kq_i, kq_r, kq_n, kq_u, kq_o, kq_l, isRf_r, isRf_n, isRf_o, okv_r, okv_n, okv_o, is2_r, is2_o, is2_n, rcv_r, isC_i, if_true, if_pos, zI_add, zI_sub, zI_mul, nc_12, nc_8, nc_6, nc_40, nc_250, nc_3, nc_s, len4_0, len4_1, len4_2, len4_3, len4_4, and_self, and_true, true_and, lenA_i, va_rf_s, va_rf_n, oN_none, oN_some, zI_lt, zI_eq, nat_tn, nc_s, Int.lt_irrefl, Int.reduceEq, Int.reduceNe, Int.reduceLT, Int.reduceLE, Int.reduceSub, Int.reduceAdd, Int.reduceMul, Int.reduceDiv, Int.reduceNeg, Int.reduceToNat, or_self, or_false, false_or, if_false, if_true, not_true_eq_false, not_false_eq_true, or_true, true_or, and_false, false_and, ldI_0, stI_0, isC_mcl, Int.add_zero, zJ_eq, Nat.reduceAdd, Nat.reduceLT, G_o, G_1, G_2, G_3, G_4, G_13, G_14, G_15, G_16, G_17, G_18, G_19, G_20, G_21, G_22, G_23, G_24, G_25, G_26, G_27, G_28, G_29, gm_0, gm_1, gm_2, gm_3, gm_4, gm_5, gm_6, gm_7, gm_8, gm_9, gm_10, gm_11, gm_12, gm_13, gm_14, gm_15, gm_16, gm_17, gm_18, gm_19, gm_20, gm_21, gm_22, gm_23, gm_24, gm_25, gm_26, gm_27, gm_28, gm_29, gm_30, gm_31, gm_32, gm_33, gm_34, gm_35, pm_7, pm_23, pm_24, pm_25, pm_26, pm_27, pm_29, pm_31, pm_34, pm_35, pm_9, pm_19, pm_20, pm_21, pm_22, mG_U, mG_8, mG_25, mG_1, mG_2, mG_3, mG_13, mG_14, mG_15, mG_16, mG_26, mG_27, mG_28, mG_29, mG_17, mG_18, mG_19, mG_20, mG_21, mG_22, mG_23, mG_24, kq_l, va_up_ne, va_up_self, r_isPupil hc ha, fp, r_ref]
    · exact Rl_S2 (Rl_ref hR)
theorem q_asPair (ha : i32 a) (hb : i32 b) (hc' : i32 c) : SpX 99 215 [.int (zI a), .int (zI b), .int (zI c)] := by
  intro d st hR
  obtain ⟨S, S2, K, kp, X, T, nC, E, z, B, Y, Rf, U, kt, F, mv, D⟩ := st
  have hR' := hR
  obtain ⟨hI, hT, ⟨hF0, hF1, hF2⟩, hF4, hF5, hU, hz, hK⟩ := hR'
  have hc := hI.1
  have hR1 : RS (H S S2 K kp X T nC E z B Y Rf ((G (D) (68) S U kt F E mv))) 1 S := RS_1
  have hR15 : isC ((H S S2 K kp X T nC E z B Y Rf ((G (D) (68) S U kt F E mv))).2.2 15) 2 = true := by rw [RS_15.1]; rfl
  have hsh : ∀ s, s < 8 → (H S S2 K kp X T nC E z B Y Rf ((G (D) (68) S U kt F E mv))).2.2 (49 + 2 * s) = shl (49 + 2 * s) (T 0 s) (nC s) (T 1 s) (T 2 s) := fun s hs => H_sh hs
  have hce : ∀ s, s < 8 → (H S S2 K kp X T nC E z B Y Rf ((G (D) (68) S U kt F E mv))).2.2 (49 + 2 * s + 1) = cel (E s) := fun s hs => H_ce hs
  have ha' := ha
  have hb' := hb
  have hc2 := hc'
  unfold i32 at ha' hb' hc2
  have hwc := k_within (d := d + 28) (M := (H S S2 K kp X T nC E z B Y Rf ((G (D) (68) S U kt F E mv)))) (m := 1) hc' (by unfold i32; omega)
  by_cases h1 : 0 ≤ a ∧ a < S 8 0
  · obtain ⟨i, rfl⟩ : ∃ i : Nat, a = (i : Int) := ⟨a.toNat, by omega⟩
    have hi : (i : Int) < S 8 0 := h1.2
    have hi2 : i < 12 := by omega
    have hB := hI.bd
    have hf := hI.f i
    have hat := fun d => m_at_s (d := d) hI hR1 hi
    have fp : inB i 0 (S 8 0 - 1) = 1 := inB_1 (by omega)
    have hp := hR1.2.2 i hi2
    unfold pcl at hp
    by_cases h2 : 0 ≤ b ∧ b < S 8 0
    · obtain ⟨j, rfl⟩ : ∃ j : Nat, b = (j : Int) := ⟨b.toNat, by omega⟩
      have hj2 : j < 12 := by omega
      have hfj := hI.f j
      have hatj := fun d => m_at_s (d := d) hI hR1 h2.2
      have fpj : inB j 0 (S 8 0 - 1) = 1 := inB_1 (by omega)
      have hpj := hR1.2.2 j hj2
      unfold pcl at hpj
      rcases inB_c c 0 1 with ⟨f3, g3⟩ | ⟨f3, g3⟩
      · refine mk (.int (zI (-2))) (S, S2, K, kp, X, T, nC, E, z, B, Y, ((refF Rf (-2))), U, kt, ((va_up F 5 (refF (F 5) (-2)))), mv, D) ?_ ?_ (Rl_ref hR) <;> dsimp only [HC, HP]
        · rw [c_99]
          by_cases h3 : S 2 i = S 2 j
          · simp (disch := omega) only [e_99_0, e_99_1, e_99_4, e_99_5, e_99_8, e_99_10, e_99_11, e_99_14, e_99_15, e_99_18, e_99_20, e_99_22, e_99_22_n, e_99_22_r, e_99_25, e_99_27, e_99_27_n, e_99_27_r, e_99_30, e_99_32, e_99_35, e_99_37, e_99_40, e_99_43, e_99_44, e_99_45, e_99_48, e_99_51, e_99_52, e_99_54, e_99_57, gfA_i, pfA_i, List.getElem?_cons_zero, List.getElem?_cons_succ, oK_some, rK_some, pR_some, pR_none, kq_i, kq_r, kq_n, kq_u, kq_o, kq_l, isRf_r, isRf_n, isRf_o, okv_r, okv_n, okv_o, is2_r, is2_o, is2_n, rcv_r, isC_i, if_true, if_pos, zI_add, zI_sub, zI_mul, nc_12, nc_8, nc_6, nc_40, nc_250, nc_3, nc_s, len4_0, len4_1, len4_2, len4_3, len4_4, and_self, and_true, true_and, lenA_i, va_rf_s, va_rf_n, oN_none, oN_some, zI_lt, zI_eq, nat_tn, nc_s, Int.lt_irrefl, Int.reduceEq, Int.reduceNe, Int.reduceLT, Int.reduceLE, Int.reduceSub, Int.reduceAdd, Int.reduceMul, Int.reduceDiv, Int.reduceNeg, Int.reduceToNat, or_self, or_false, false_or, if_false, if_true, not_true_eq_false, not_false_eq_true, or_true, true_or, and_false, false_and, ldI_0, stI_0, ldQ_q, gfA_0, gfA_43, gfA_65, H_0, H_43, H_48, H_65, H_66, H_67, kq_l, isC_0, isC_43, isC_65, isC_sh, gfA_sh, hR1.1, hat, hatj, hp, hpj, h3, k_ref]
          · simp (disch := omega) only [e_99_0, e_99_1, e_99_4, e_99_5, e_99_8, e_99_10, e_99_11, e_99_14, e_99_15, e_99_18, e_99_20, e_99_22, e_99_22_n, e_99_22_r, e_99_25, e_99_27, e_99_27_n, e_99_27_r, e_99_30, e_99_32, e_99_35, e_99_37, e_99_40, e_99_43, e_99_44, e_99_45, e_99_48, e_99_51, e_99_52, e_99_54, e_99_57, gfA_i, pfA_i, List.getElem?_cons_zero, List.getElem?_cons_succ, oK_some, rK_some, pR_some, pR_none, kq_i, kq_r, kq_n, kq_u, kq_o, kq_l, isRf_r, isRf_n, isRf_o, okv_r, okv_n, okv_o, is2_r, is2_o, is2_n, rcv_r, isC_i, if_true, if_pos, zI_add, zI_sub, zI_mul, nc_12, nc_8, nc_6, nc_40, nc_250, nc_3, nc_s, len4_0, len4_1, len4_2, len4_3, len4_4, and_self, and_true, true_and, lenA_i, va_rf_s, va_rf_n, oN_none, oN_some, zI_lt, zI_eq, nat_tn, nc_s, Int.lt_irrefl, Int.reduceEq, Int.reduceNe, Int.reduceLT, Int.reduceLE, Int.reduceSub, Int.reduceAdd, Int.reduceMul, Int.reduceDiv, Int.reduceNeg, Int.reduceToNat, or_self, or_false, false_or, if_false, if_true, not_true_eq_false, not_false_eq_true, or_true, true_or, and_false, false_and, ldI_0, stI_0, ldQ_q, gfA_0, gfA_43, gfA_65, H_0, H_43, H_48, H_65, H_66, H_67, kq_l, isC_0, isC_43, isC_65, isC_sh, gfA_sh, hR1.1, hat, hatj, hp, hpj, h3, hwc, f3, k_ref]
        · rw [c_215]
          simp (disch := omega) only [e_215_0, e_215_1, e_215_2, e_215_5, e_215_8, e_215_9, e_215_10, e_215_13, e_215_16, e_215_17, e_215_18, e_215_19, e_215_20, e_215_23, e_215_26, e_215_27, e_215_30, e_215_31, e_215_32, e_215_33, e_215_36, e_215_37, e_215_38, e_215_41, e_215_42, e_215_44, e_215_47, gfA_i, pfA_i, List.getElem?_cons_zero, List.getElem?_cons_succ, oK_some, rK_some, pR_some, pR_none, kq_i, kq_r, kq_n, kq_u, kq_o, kq_l, isRf_r, isRf_n, isRf_o, okv_r, okv_n, okv_o, is2_r, is2_o, is2_n, rcv_r, isC_i, if_true, if_pos, zI_add, zI_sub, zI_mul, nc_12, nc_8, nc_6, nc_40, nc_250, nc_3, nc_s, len4_0, len4_1, len4_2, len4_3, len4_4, and_self, and_true, true_and, lenA_i, va_rf_s, va_rf_n, oN_none, oN_some, zI_lt, zI_eq, nat_tn, nc_s, Int.lt_irrefl, Int.reduceEq, Int.reduceNe, Int.reduceLT, Int.reduceLE, Int.reduceSub, Int.reduceAdd, Int.reduceMul, Int.reduceDiv, Int.reduceNeg, Int.reduceToNat, or_self, or_false, false_or, if_false, if_true, not_true_eq_false, not_false_eq_true, or_true, true_or, and_false, false_and, ldI_0, stI_0, isC_mcl, Int.add_zero, zJ_eq, Nat.reduceAdd, Nat.reduceLT, G_o, G_1, G_2, G_3, G_4, G_13, G_14, G_15, G_16, G_17, G_18, G_19, G_20, G_21, G_22, G_23, G_24, G_25, G_26, G_27, G_28, G_29, gm_0, gm_1, gm_2, gm_3, gm_4, gm_5, gm_6, gm_7, gm_8, gm_9, gm_10, gm_11, gm_12, gm_13, gm_14, gm_15, gm_16, gm_17, gm_18, gm_19, gm_20, gm_21, gm_22, gm_23, gm_24, gm_25, gm_26, gm_27, gm_28, gm_29, gm_30, gm_31, gm_32, gm_33, gm_34, gm_35, pm_7, pm_23, pm_24, pm_25, pm_26, pm_27, pm_29, pm_31, pm_34, pm_35, pm_9, pm_19, pm_20, pm_21, pm_22, mG_U, mG_8, mG_25, mG_1, mG_2, mG_3, mG_13, mG_14, mG_15, mG_16, mG_26, mG_27, mG_28, mG_29, mG_17, mG_18, mG_19, mG_20, mG_21, mG_22, mG_23, mG_24, kq_l, va_up_ne, va_up_self, r_isPupil hc ha, r_isPupil hc hb, fp, fpj, i2J, r_inJ, f3, r_ref]
      · by_cases h3 : S 2 i = S 2 j
        · refine mk (.int (zI (-2))) (S, S2, K, kp, X, T, nC, E, z, B, Y, ((refF Rf (-2))), U, kt, ((va_up F 5 (refF (F 5) (-2)))), mv, D) ?_ ?_ (Rl_ref hR) <;> dsimp only [HC, HP]
          · rw [c_99]
            simp (disch := omega) only [e_99_0, e_99_1, e_99_4, e_99_5, e_99_8, e_99_10, e_99_11, e_99_14, e_99_15, e_99_18, e_99_20, e_99_22, e_99_22_n, e_99_22_r, e_99_25, e_99_27, e_99_27_n, e_99_27_r, e_99_30, e_99_32, e_99_35, e_99_37, e_99_40, e_99_43, e_99_44, e_99_45, e_99_48, e_99_51, e_99_52, e_99_54, e_99_57, gfA_i, pfA_i, List.getElem?_cons_zero, List.getElem?_cons_succ, oK_some, rK_some, pR_some, pR_none, kq_i, kq_r, kq_n, kq_u, kq_o, kq_l, isRf_r, isRf_n, isRf_o, okv_r, okv_n, okv_o, is2_r, is2_o, is2_n, rcv_r, isC_i, if_true, if_pos, zI_add, zI_sub, zI_mul, nc_12, nc_8, nc_6, nc_40, nc_250, nc_3, nc_s, len4_0, len4_1, len4_2, len4_3, len4_4, and_self, and_true, true_and, lenA_i, va_rf_s, va_rf_n, oN_none, oN_some, zI_lt, zI_eq, nat_tn, nc_s, Int.lt_irrefl, Int.reduceEq, Int.reduceNe, Int.reduceLT, Int.reduceLE, Int.reduceSub, Int.reduceAdd, Int.reduceMul, Int.reduceDiv, Int.reduceNeg, Int.reduceToNat, or_self, or_false, false_or, if_false, if_true, not_true_eq_false, not_false_eq_true, or_true, true_or, and_false, false_and, ldI_0, stI_0, ldQ_q, gfA_0, gfA_43, gfA_65, H_0, H_43, H_48, H_65, H_66, H_67, kq_l, isC_0, isC_43, isC_65, isC_sh, gfA_sh, hR1.1, hat, hatj, hp, hpj, h3, k_ref]
          · rw [c_215]
            simp (disch := omega) only [e_215_0, e_215_1, e_215_2, e_215_5, e_215_8, e_215_9, e_215_10, e_215_13, e_215_16, e_215_17, e_215_18, e_215_19, e_215_20, e_215_23, e_215_26, e_215_27, e_215_30, e_215_31, e_215_32, e_215_33, e_215_36, e_215_37, e_215_38, e_215_41, e_215_42, e_215_44, e_215_47, gfA_i, pfA_i, List.getElem?_cons_zero, List.getElem?_cons_succ, oK_some, rK_some, pR_some, pR_none, kq_i, kq_r, kq_n, kq_u, kq_o, kq_l, isRf_r, isRf_n, isRf_o, okv_r, okv_n, okv_o, is2_r, is2_o, is2_n, rcv_r, isC_i, if_true, if_pos, zI_add, zI_sub, zI_mul, nc_12, nc_8, nc_6, nc_40, nc_250, nc_3, nc_s, len4_0, len4_1, len4_2, len4_3, len4_4, and_self, and_true, true_and, lenA_i, va_rf_s, va_rf_n, oN_none, oN_some, zI_lt, zI_eq, nat_tn, nc_s, Int.lt_irrefl, Int.reduceEq, Int.reduceNe, Int.reduceLT, Int.reduceLE, Int.reduceSub, Int.reduceAdd, Int.reduceMul, Int.reduceDiv, Int.reduceNeg, Int.reduceToNat, or_self, or_false, false_or, if_false, if_true, not_true_eq_false, not_false_eq_true, or_true, true_or, and_false, false_and, ldI_0, stI_0, isC_mcl, Int.add_zero, zJ_eq, Nat.reduceAdd, Nat.reduceLT, G_o, G_1, G_2, G_3, G_4, G_13, G_14, G_15, G_16, G_17, G_18, G_19, G_20, G_21, G_22, G_23, G_24, G_25, G_26, G_27, G_28, G_29, gm_0, gm_1, gm_2, gm_3, gm_4, gm_5, gm_6, gm_7, gm_8, gm_9, gm_10, gm_11, gm_12, gm_13, gm_14, gm_15, gm_16, gm_17, gm_18, gm_19, gm_20, gm_21, gm_22, gm_23, gm_24, gm_25, gm_26, gm_27, gm_28, gm_29, gm_30, gm_31, gm_32, gm_33, gm_34, gm_35, pm_7, pm_23, pm_24, pm_25, pm_26, pm_27, pm_29, pm_31, pm_34, pm_35, pm_9, pm_19, pm_20, pm_21, pm_22, mG_U, mG_8, mG_25, mG_1, mG_2, mG_3, mG_13, mG_14, mG_15, mG_16, mG_26, mG_27, mG_28, mG_29, mG_17, mG_18, mG_19, mG_20, mG_21, mG_22, mG_23, mG_24, kq_l, va_up_ne, va_up_self, r_isPupil hc ha, r_isPupil hc hb, fp, fpj, i2J, r_inJ, f3, h3, r_ref]
        · obtain ⟨b, D', hfr1, hK', hL'⟩ := r_fresh (Sh := S) (S := S) (S2 := S2) (K := K) (kp := kp) (X := X) (T := T) (nC := nC) (E := E) (z := z) (B := B) (Y := Y) (Rf := Rf) (D := D) (U := U) (kt := kt) (F := F) (mv := mv) (d := d + 25) hI hK
          obtain ⟨hb1, hb2⟩ := KTP_bb hK'
          obtain ⟨U1, kt1, F1, E1, m1, eW⟩ := onW (Sh := S) (S := S) (S2 := S2) (K := K) (kp := kp) (X := X) (T := T) (nC := nC) (E := E) (z := z) (B := B) (Y := Y) (Rf := Rf) (D := D') (U := U) (kt := (kt.1, some b)) (F := F) (mv := mv) hL' hb1
          have h01 : c = 0 ∨ c = 1 := by omega
          have hrl := r_asPL (W := (G ((H S S2 K kp X T nC E z B Y Rf (D'))) (68) S U ((kt.1, some b)) F E mv)) (U := U) (kt := (kt.1, some b)) (U' := U1) (kt' := kt1) (F' := F1) (E' := E1) (mv' := m1) (d := d + 26) (b := b) hI hi2 hj2 h01 G_o G_17 hb1
          rw [eW, GC hb1] at hrl
          refine mk (.int (zI (if c = 0 then W6 (S 0 i) (cm S i j) (S 8 2) (S 6 i) (S 1 i) (S 7 i) (S 8 3) else L6 (S 0 i) (S 1 i) (S 7 j) (S 6 i) (S 8 3)))) (S, S2, K, kp, X, T, nC, E, z, B, Y, Rf, U, ((kt.1, some b)), F, mv, ((G D' b (sU S 4 i j) U1 kt1 F1 E1 m1))) ?_ ?_ ?_ <;> try dsimp only [HC, HP]
          · rw [c_99]
            have hmw := m_willTo (d := d + 25) hI hR1 hi2 hj2
            have hml := m_lines (d := d + 27) hI hR1 hi2 hj2
            rcases h01 with rfl | rfl
            · simp (disch := omega) only [e_99_0, e_99_1, e_99_4, e_99_5, e_99_8, e_99_10, e_99_11, e_99_14, e_99_15, e_99_18, e_99_20, e_99_22, e_99_22_n, e_99_22_r, e_99_25, e_99_27, e_99_27_n, e_99_27_r, e_99_30, e_99_32, e_99_35, e_99_37, e_99_40, e_99_43, e_99_44, e_99_45, e_99_48, e_99_51, e_99_52, e_99_54, e_99_57, e_99_58, e_99_59, e_99_62, e_99_63, e_99_66, e_99_68, e_99_70, e_99_73, e_99_76, e_99_77, e_99_80, e_99_82, e_99_84, e_99_87, gfA_i, pfA_i, List.getElem?_cons_zero, List.getElem?_cons_succ, oK_some, rK_some, pR_some, pR_none, kq_i, kq_r, kq_n, kq_u, kq_o, kq_l, isRf_r, isRf_n, isRf_o, okv_r, okv_n, okv_o, is2_r, is2_o, is2_n, rcv_r, isC_i, if_true, if_pos, zI_add, zI_sub, zI_mul, nc_12, nc_8, nc_6, nc_40, nc_250, nc_3, nc_s, len4_0, len4_1, len4_2, len4_3, len4_4, and_self, and_true, true_and, lenA_i, va_rf_s, va_rf_n, oN_none, oN_some, zI_lt, zI_eq, nat_tn, nc_s, Int.lt_irrefl, Int.reduceEq, Int.reduceNe, Int.reduceLT, Int.reduceLE, Int.reduceSub, Int.reduceAdd, Int.reduceMul, Int.reduceDiv, Int.reduceNeg, Int.reduceToNat, or_self, or_false, false_or, if_false, if_true, not_true_eq_false, not_false_eq_true, or_true, true_or, and_false, false_and, ldI_0, stI_0, ldQ_q, gfA_0, gfA_43, gfA_65, H_0, H_43, H_48, H_65, H_66, H_67, kq_l, isC_0, isC_43, isC_65, isC_sh, gfA_sh, hR1.1, hat, hatj, hp, hpj, h3, hwc, f3, hmw]
            · simp (disch := omega) only [e_99_0, e_99_1, e_99_4, e_99_5, e_99_8, e_99_10, e_99_11, e_99_14, e_99_15, e_99_18, e_99_20, e_99_22, e_99_22_n, e_99_22_r, e_99_25, e_99_27, e_99_27_n, e_99_27_r, e_99_30, e_99_32, e_99_35, e_99_37, e_99_40, e_99_43, e_99_44, e_99_45, e_99_48, e_99_51, e_99_52, e_99_54, e_99_57, e_99_58, e_99_59, e_99_62, e_99_63, e_99_66, e_99_68, e_99_70, e_99_73, e_99_76, e_99_77, e_99_80, e_99_82, e_99_84, e_99_87, gfA_i, pfA_i, List.getElem?_cons_zero, List.getElem?_cons_succ, oK_some, rK_some, pR_some, pR_none, kq_i, kq_r, kq_n, kq_u, kq_o, kq_l, isRf_r, isRf_n, isRf_o, okv_r, okv_n, okv_o, is2_r, is2_o, is2_n, rcv_r, isC_i, if_true, if_pos, zI_add, zI_sub, zI_mul, nc_12, nc_8, nc_6, nc_40, nc_250, nc_3, nc_s, len4_0, len4_1, len4_2, len4_3, len4_4, and_self, and_true, true_and, lenA_i, va_rf_s, va_rf_n, oN_none, oN_some, zI_lt, zI_eq, nat_tn, nc_s, Int.lt_irrefl, Int.reduceEq, Int.reduceNe, Int.reduceLT, Int.reduceLE, Int.reduceSub, Int.reduceAdd, Int.reduceMul, Int.reduceDiv, Int.reduceNeg, Int.reduceToNat, or_self, or_false, false_or, if_false, if_true, not_true_eq_false, not_false_eq_true, or_true, true_or, and_false, false_and, ldI_0, stI_0, ldQ_q, gfA_0, gfA_43, gfA_65, H_0, H_43, H_48, H_65, H_66, H_67, kq_l, isC_0, isC_43, isC_65, isC_sh, gfA_sh, hR1.1, hat, hatj, hp, hpj, h3, hwc, f3, hml]
          · rw [c_215]
            simp (disch := omega) only [e_215_0, e_215_1, e_215_2, e_215_5, e_215_8, e_215_9, e_215_10, e_215_13, e_215_16, e_215_17, e_215_18, e_215_19, e_215_20, e_215_23, e_215_26, e_215_27, e_215_30, e_215_31, e_215_32, e_215_33, e_215_36, e_215_37, e_215_38, e_215_41, e_215_42, e_215_44, e_215_47, e_215_48, e_215_49, e_215_52, gfA_i, pfA_i, List.getElem?_cons_zero, List.getElem?_cons_succ, oK_some, rK_some, pR_some, pR_none, kq_i, kq_r, kq_n, kq_u, kq_o, kq_l, isRf_r, isRf_n, isRf_o, okv_r, okv_n, okv_o, is2_r, is2_o, is2_n, rcv_r, isC_i, if_true, if_pos, zI_add, zI_sub, zI_mul, nc_12, nc_8, nc_6, nc_40, nc_250, nc_3, nc_s, len4_0, len4_1, len4_2, len4_3, len4_4, and_self, and_true, true_and, lenA_i, va_rf_s, va_rf_n, oN_none, oN_some, zI_lt, zI_eq, nat_tn, nc_s, Int.lt_irrefl, Int.reduceEq, Int.reduceNe, Int.reduceLT, Int.reduceLE, Int.reduceSub, Int.reduceAdd, Int.reduceMul, Int.reduceDiv, Int.reduceNeg, Int.reduceToNat, or_self, or_false, false_or, if_false, if_true, not_true_eq_false, not_false_eq_true, or_true, true_or, and_false, false_and, ldI_0, stI_0, isC_mcl, Int.add_zero, zJ_eq, Nat.reduceAdd, Nat.reduceLT, G_o, G_1, G_2, G_3, G_4, G_13, G_14, G_15, G_16, G_17, G_18, G_19, G_20, G_21, G_22, G_23, G_24, G_25, G_26, G_27, G_28, G_29, gm_0, gm_1, gm_2, gm_3, gm_4, gm_5, gm_6, gm_7, gm_8, gm_9, gm_10, gm_11, gm_12, gm_13, gm_14, gm_15, gm_16, gm_17, gm_18, gm_19, gm_20, gm_21, gm_22, gm_23, gm_24, gm_25, gm_26, gm_27, gm_28, gm_29, gm_30, gm_31, gm_32, gm_33, gm_34, gm_35, pm_7, pm_23, pm_24, pm_25, pm_26, pm_27, pm_29, pm_31, pm_34, pm_35, pm_9, pm_19, pm_20, pm_21, pm_22, mG_U, mG_8, mG_25, mG_1, mG_2, mG_3, mG_13, mG_14, mG_15, mG_16, mG_26, mG_27, mG_28, mG_29, mG_17, mG_18, mG_19, mG_20, mG_21, mG_22, mG_23, mG_24, kq_l, va_up_ne, va_up_self, r_isPupil hc ha, r_isPupil hc hb, fp, fpj, i2J, r_inJ, f3, h3, hfr1]
            exact hrl
          · obtain ⟨hI, hT, ⟨hF0, hF1, hF2⟩, hF4, hF5, hU, hz, hK⟩ := hR
            exact ⟨hI, hT, ⟨hF0, hF1, hF2⟩, hF4, hF5, hU, hz, KTP_b hK' LY_G (Z_sU (In_z hI) hi2) rfl rfl (fun q hq => G_ne hq)⟩
    · have hatj := fun d => m_at_n (d := d) hI hR1 hb h2
      have fpj : inB b 0 (S 8 0 - 1) = 0 := inB_0 (by omega)
      refine mk (.int (zI (-2))) (S, S2, K, kp, X, T, nC, E, z, B, Y, ((refF Rf (-2))), U, kt, ((va_up F 5 (refF (F 5) (-2)))), mv, D) ?_ ?_ (Rl_ref hR) <;> dsimp only [HC, HP]
      · rw [c_99]
        simp (disch := omega) only [e_99_0, e_99_1, e_99_4, e_99_5, e_99_8, e_99_10, e_99_11, e_99_14, e_99_15, e_99_18, e_99_20, e_99_22, e_99_22_n, e_99_22_r, e_99_25, e_99_27, e_99_27_n, e_99_27_r, e_99_30, e_99_32, e_99_35, e_99_37, e_99_40, e_99_43, e_99_44, e_99_45, e_99_48, e_99_51, e_99_52, e_99_54, e_99_57, gfA_i, pfA_i, List.getElem?_cons_zero, List.getElem?_cons_succ, oK_some, rK_some, pR_some, pR_none, kq_i, kq_r, kq_n, kq_u, kq_o, kq_l, isRf_r, isRf_n, isRf_o, okv_r, okv_n, okv_o, is2_r, is2_o, is2_n, rcv_r, isC_i, if_true, if_pos, zI_add, zI_sub, zI_mul, nc_12, nc_8, nc_6, nc_40, nc_250, nc_3, nc_s, len4_0, len4_1, len4_2, len4_3, len4_4, and_self, and_true, true_and, lenA_i, va_rf_s, va_rf_n, oN_none, oN_some, zI_lt, zI_eq, nat_tn, nc_s, Int.lt_irrefl, Int.reduceEq, Int.reduceNe, Int.reduceLT, Int.reduceLE, Int.reduceSub, Int.reduceAdd, Int.reduceMul, Int.reduceDiv, Int.reduceNeg, Int.reduceToNat, or_self, or_false, false_or, if_false, if_true, not_true_eq_false, not_false_eq_true, or_true, true_or, and_false, false_and, ldI_0, stI_0, ldQ_q, gfA_0, gfA_43, gfA_65, H_0, H_43, H_48, H_65, H_66, H_67, kq_l, isC_0, isC_43, isC_65, isC_sh, gfA_sh, hR1.1, hat, hatj, hp, k_ref]
      · rw [c_215]
        simp (disch := omega) only [e_215_0, e_215_1, e_215_2, e_215_5, e_215_8, e_215_9, e_215_10, e_215_13, e_215_16, e_215_17, e_215_18, e_215_19, e_215_20, e_215_23, e_215_26, e_215_27, e_215_30, e_215_31, e_215_32, e_215_33, e_215_36, e_215_37, e_215_38, e_215_41, e_215_42, e_215_44, e_215_47, gfA_i, pfA_i, List.getElem?_cons_zero, List.getElem?_cons_succ, oK_some, rK_some, pR_some, pR_none, kq_i, kq_r, kq_n, kq_u, kq_o, kq_l, isRf_r, isRf_n, isRf_o, okv_r, okv_n, okv_o, is2_r, is2_o, is2_n, rcv_r, isC_i, if_true, if_pos, zI_add, zI_sub, zI_mul, nc_12, nc_8, nc_6, nc_40, nc_250, nc_3, nc_s, len4_0, len4_1, len4_2, len4_3, len4_4, and_self, and_true, true_and, lenA_i, va_rf_s, va_rf_n, oN_none, oN_some, zI_lt, zI_eq, nat_tn, nc_s, Int.lt_irrefl, Int.reduceEq, Int.reduceNe, Int.reduceLT, Int.reduceLE, Int.reduceSub, Int.reduceAdd, Int.reduceMul, Int.reduceDiv, Int.reduceNeg, Int.reduceToNat, or_self, or_false, false_or, if_false, if_true, not_true_eq_false, not_false_eq_true, or_true, true_or, and_false, false_and, ldI_0, stI_0, isC_mcl, Int.add_zero, zJ_eq, Nat.reduceAdd, Nat.reduceLT, G_o, G_1, G_2, G_3, G_4, G_13, G_14, G_15, G_16, G_17, G_18, G_19, G_20, G_21, G_22, G_23, G_24, G_25, G_26, G_27, G_28, G_29, gm_0, gm_1, gm_2, gm_3, gm_4, gm_5, gm_6, gm_7, gm_8, gm_9, gm_10, gm_11, gm_12, gm_13, gm_14, gm_15, gm_16, gm_17, gm_18, gm_19, gm_20, gm_21, gm_22, gm_23, gm_24, gm_25, gm_26, gm_27, gm_28, gm_29, gm_30, gm_31, gm_32, gm_33, gm_34, gm_35, pm_7, pm_23, pm_24, pm_25, pm_26, pm_27, pm_29, pm_31, pm_34, pm_35, pm_9, pm_19, pm_20, pm_21, pm_22, mG_U, mG_8, mG_25, mG_1, mG_2, mG_3, mG_13, mG_14, mG_15, mG_16, mG_26, mG_27, mG_28, mG_29, mG_17, mG_18, mG_19, mG_20, mG_21, mG_22, mG_23, mG_24, kq_l, va_up_ne, va_up_self, r_isPupil hc ha, r_isPupil hc hb, fp, fpj, r_ref]
  · have fp : inB a 0 (S 8 0 - 1) = 0 := inB_0 (by omega)
    have hat := fun d => m_at_n (d := d) hI hR1 ha h1
    have fp : inB a 0 (S 8 0 - 1) = 0 := inB_0 (by omega)
    obtain ⟨x, hatj⟩ : ∃ x, callD (d + 28 + 1) 24 [.ref 1, .int (zI b)] (H S S2 K kp X T nC E z B Y Rf ((G (D) (68) S U kt F E mv))) = some (some (va_rf x), (H S S2 K kp X T nC E z B Y Rf ((G (D) (68) S U kt F E mv)))) := ⟨_, m_at hI hR1 hb⟩
    refine mk (.int (zI (-2))) (S, S2, K, kp, X, T, nC, E, z, B, Y, ((refF Rf (-2))), U, kt, ((va_up F 5 (refF (F 5) (-2)))), mv, D) ?_ ?_ (Rl_ref hR) <;> dsimp only [HC, HP]
    · rw [c_99]
      simp (disch := omega) only [e_99_0, e_99_1, e_99_4, e_99_5, e_99_8, e_99_10, e_99_11, e_99_14, e_99_15, e_99_18, e_99_20, e_99_22, e_99_22_n, e_99_22_r, e_99_25, e_99_27, e_99_27_n, e_99_27_r, e_99_30, e_99_32, e_99_35, e_99_37, e_99_40, e_99_43, e_99_44, e_99_45, e_99_48, e_99_51, e_99_52, e_99_54, e_99_57, gfA_i, pfA_i, List.getElem?_cons_zero, List.getElem?_cons_succ, oK_some, rK_some, pR_some, pR_none, kq_i, kq_r, kq_n, kq_u, kq_o, kq_l, isRf_r, isRf_n, isRf_o, okv_r, okv_n, okv_o, is2_r, is2_o, is2_n, rcv_r, isC_i, if_true, if_pos, zI_add, zI_sub, zI_mul, nc_12, nc_8, nc_6, nc_40, nc_250, nc_3, nc_s, len4_0, len4_1, len4_2, len4_3, len4_4, and_self, and_true, true_and, lenA_i, va_rf_s, va_rf_n, oN_none, oN_some, zI_lt, zI_eq, nat_tn, nc_s, Int.lt_irrefl, Int.reduceEq, Int.reduceNe, Int.reduceLT, Int.reduceLE, Int.reduceSub, Int.reduceAdd, Int.reduceMul, Int.reduceDiv, Int.reduceNeg, Int.reduceToNat, or_self, or_false, false_or, if_false, if_true, not_true_eq_false, not_false_eq_true, or_true, true_or, and_false, false_and, ldI_0, stI_0, ldQ_q, gfA_0, gfA_43, gfA_65, H_0, H_43, H_48, H_65, H_66, H_67, kq_l, isC_0, isC_43, isC_65, isC_sh, gfA_sh, hR1.1, hat, hatj, k_ref]
    · rw [c_215]
      simp (disch := omega) only [e_215_0, e_215_1, e_215_2, e_215_5, e_215_8, e_215_9, e_215_10, e_215_13, e_215_16, e_215_17, e_215_18, e_215_19, e_215_20, e_215_23, e_215_26, e_215_27, e_215_30, e_215_31, e_215_32, e_215_33, e_215_36, e_215_37, e_215_38, e_215_41, e_215_42, e_215_44, e_215_47, gfA_i, pfA_i, List.getElem?_cons_zero, List.getElem?_cons_succ, oK_some, rK_some, pR_some, pR_none, kq_i, kq_r, kq_n, kq_u, kq_o, kq_l, isRf_r, isRf_n, isRf_o, okv_r, okv_n, okv_o, is2_r, is2_o, is2_n, rcv_r, isC_i, if_true, if_pos, zI_add, zI_sub, zI_mul, nc_12, nc_8, nc_6, nc_40, nc_250, nc_3, nc_s, len4_0, len4_1, len4_2, len4_3, len4_4, and_self, and_true, true_and, lenA_i, va_rf_s, va_rf_n, oN_none, oN_some, zI_lt, zI_eq, nat_tn, nc_s, Int.lt_irrefl, Int.reduceEq, Int.reduceNe, Int.reduceLT, Int.reduceLE, Int.reduceSub, Int.reduceAdd, Int.reduceMul, Int.reduceDiv, Int.reduceNeg, Int.reduceToNat, or_self, or_false, false_or, if_false, if_true, not_true_eq_false, not_false_eq_true, or_true, true_or, and_false, false_and, ldI_0, stI_0, isC_mcl, Int.add_zero, zJ_eq, Nat.reduceAdd, Nat.reduceLT, G_o, G_1, G_2, G_3, G_4, G_13, G_14, G_15, G_16, G_17, G_18, G_19, G_20, G_21, G_22, G_23, G_24, G_25, G_26, G_27, G_28, G_29, gm_0, gm_1, gm_2, gm_3, gm_4, gm_5, gm_6, gm_7, gm_8, gm_9, gm_10, gm_11, gm_12, gm_13, gm_14, gm_15, gm_16, gm_17, gm_18, gm_19, gm_20, gm_21, gm_22, gm_23, gm_24, gm_25, gm_26, gm_27, gm_28, gm_29, gm_30, gm_31, gm_32, gm_33, gm_34, gm_35, pm_7, pm_23, pm_24, pm_25, pm_26, pm_27, pm_29, pm_31, pm_34, pm_35, pm_9, pm_19, pm_20, pm_21, pm_22, mG_U, mG_8, mG_25, mG_1, mG_2, mG_3, mG_13, mG_14, mG_15, mG_16, mG_26, mG_27, mG_28, mG_29, mG_17, mG_18, mG_19, mG_20, mG_21, mG_22, mG_23, mG_24, kq_l, va_up_ne, va_up_self, r_isPupil hc ha, fp, r_ref]
end Q8
