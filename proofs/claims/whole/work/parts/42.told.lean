/-- a fold that may stop: at which place, or with what -/
def fS {α : Type} (f : Nat → α → Option α) (k i : Nat) (a : α) : Nat ⊕ α := match k with
  | 0 => .inr a
  | k + 1 => match f i a with
    | none => .inl i
    | some b => fS f k (i + 1) b
theorem fS_n {α : Type} {f : Nat → α → Option α} {k i : Nat} {a : α} (h : f i a = none) : fS f (k + 1) i a = .inl i := by
  show (match f i a with
    | none => Sum.inl i
    | some b => fS f k (i + 1) b) = _
  rw [h]
theorem fS_s {α : Type} {f : Nat → α → Option α} {k i : Nat} {a b : α} (h : f i a = some b) : fS f (k + 1) i a = fS f k (i + 1) b := by
  show (match f i a with
    | none => Sum.inl i
    | some b => fS f k (i + 1) b) = _
  rw [h]
def chFn (t sz : Int) (e : Nat → Int64) (p : Nat) (i : Nat) (S : Sc) : Option Sc := if (celA t sz e i).toInt = 1 then (if wl S p = 0 then none else some (wrS S p 0)) else (if wl S p = 12 then none else some (siS S p))
def okS {α : Type} (x : Nat ⊕ α) : Int := match x with
  | .inl _ => 0
  | .inr _ => 1
theorem prd_wr0 {S : Sc} {p i : Nat} (h : prd S p) : prd (wrS S i 0) p := h
theorem prd_wr {S : Sc} {p i : Nat} {b : Int} (h : prd S p) : prd (wrS S i b) p := h
theorem prd_si {S : Sc} {p i : Nat} (h : prd S p) : prd (siS S i) p := h
theorem m_wl {d : Nat} {M : AM} {o i : Nat} {S : Sc} (hI : In S) (hR : RS M o S) (h : prd S i) : callD (d + 4) 27 [.ref o, .ref (o + 2 + i), .ref (o + 2 + fr S i)] M = some (some (.int (zI (wl S i))), M) := by
  obtain ⟨h1, h2, h3, h4, hi⟩ := prd_fr hI h
  exact m_willTo hI hR hi h3
theorem wl_b (S : Sc) (i : Nat) : 0 ≤ wl S i ∧ wl S i ≤ 12 := W6_b _ _ _ _ _ _ _
theorem m_couldHave {d n p : Nat} {M : AM} {o q : Nat} {S : Sc} {k t nm so sz : Int} {e : Nat → Int64} (hI : In S) (hR : RS M o S) (h : prd S p) (hk : 0 ≤ k ∧ k ≤ 5) (hn : n ≤ 40) (h0 : M.2.2 q = shl q t nm so sz) (h1 : M.2.2 (q + 1) = cel e) (ht : 0 ≤ t ∧ t ≤ 2) (hs : 0 ≤ sz ∧ sz ≤ 40) (hq : q + 1 < o ∨ o + 14 ≤ q) : ∃ S', callD (d + 6) 44 [.ref o, .int (zI p), .int (zI k), .ref q, .int (zI n)] M = some (some (.int (zI (okS (fS (chFn t sz e p) n 0 (sU S 0 p k))))), putS M o S') := by
  obtain ⟨p1, p2, p3, p4, p5⟩ := prd_fr hI h
  have hlt := h.1
  have hp := hR.2.2 p p5
  unfold pcl at hp
  rw [c_44 (is2_r _)]
  have hI1 : In (sU S 0 p k) := In_sU hI (Or.inl ⟨rfl, hk.1, hk.2, hlt⟩)
  have hpr1 : prd (sU S 0 p k) p := h
  have hp1 : ∀ c : AC, c = pcl (sU S 0 p k) o p → mU M (o + 2 + p) c = putS M o (sU S 0 p k) := fun c hc => put1 hR p5 hc (fun j => rfl) (fun f j hf hj => if_neg (fun x => hj x.2))
  have hst : (Sum.inl (1, [Value.int (zI p), .int (zI (hrI S p)), .int (zI k), .int (zI (S 1 p)), .int (zI (S 2 p)), .int (zI (S 3 p)), va_rf (frO S o p), .int (zI (S 5 p)), .int (zI (S 6 p)), .int (zI (S 7 p))]) : AC) = pcl (sU S 0 p k) o p := by
    simp [pcl, sU, hrI, frO]
  simp (disch := omega) only [e_44_0, e_44_1, e_44_2, e_44_5, e_44_7, e_44_9, e_44_9_n, e_44_9_r, e_44_12, e_44_13, e_44_14, e_44_16, e_44_17, e_44_20, e_44_21, m_at_s hI hR hlt, hR.1, hp, gfA_i, pfA_i, List.getElem?_cons_zero, List.getElem?_cons_succ, oK_some, rK_some, pR_some, pR_none, kq_i, kq_r, kq_n, kq_u, kq_o, kq_l, isRf_r, isRf_n, isRf_o, okv_r, okv_n, okv_o, is2_r, is2_o, is2_n, rcv_r, isC_i, if_true, if_pos, zI_add, zI_sub, zI_mul, nc_12, nc_8, nc_6, nc_40, nc_250, nc_3, nc_s, len4_0, len4_1, len4_2, len4_3, len4_4, and_self, and_true, true_and, lenA_i, va_rf_s, va_rf_n, oN_none, oN_some, mU_at, mU_mU, List.set_cons_succ, List.set_cons_zero, okv_0, okv_1, okv_i, okv_r, okv_n, okv_o, List.length_cons, List.length_nil, Nat.reduceAdd, Nat.reduceLT, Nat.zero_le, Nat.reduceLeDiff, hst, hp1 _ rfl]
  refine loopQ (fun i (a : Sc × Value) => den (callD (d + 5)) 44 23 [.ref o, .int (zI p), .int (zI k), .ref q, .int (zI n), .ref (o + 2 + p), .int (zI i), a.2] [] (putS M o a.1)) (fun x => ∃ S', x = some (some (.int (zI (okS (fS (chFn t sz e p) n 0 (sU S 0 p k))))), putS M o S')) (fun i a => In a.1 ∧ prd a.1 p ∧ fS (chFn t sz e p) n 0 (sU S 0 p k) = fS (chFn t sz e p) (n - i) i a.1) n (fun i a hi ha => ?_) (fun a ha => ?_) n 0 (sU S 0 p k, uu) (by omega) ⟨hI1, hpr1, rfl⟩
  · obtain ⟨T, c⟩ := a
    obtain ⟨hT, hpT, hf⟩ := ha
    have hwb := wl_b T p
    have hRT := RS_put M o T
    have hfr := frO_p (o := o) hpT
    have hce := m_cellAt (d := d + 4) (M := putS M o T) (i := i) ((put_ne (by omega)).trans h0) ((put_ne (by omega)).trans h1) ht hs (by unfold i32; omega)
    have hc0 : (putS M o T).2.2 q = shl q t nm so sz := (put_ne (by omega)).trans h0
    unfold shl at hc0
    have hwl := m_wl (d := d + 1) hT hRT hpT
    have hwr := m_write (d := d + 2) hT hRT hpT (Or.inl rfl : (0 : Int) = 0 ∨ (0 : Int) = 1)
    have hks := m_keepSilent (d := d + 3) hT hRT p5
    rw [show n - i = (n - (i + 1)) + 1 by omega] at hf
    try dsimp only at hf ⊢
    by_cases e1 : (celA t sz e i).toInt = 1
    · by_cases e2 : wl T p = 0
      · refine Or.inr ⟨T, ?_⟩
        have ech : chFn t sz e p i T = none := by unfold chFn; rw [if_pos e1, if_pos e2]
        rw [fS_n ech] at hf
        rw [hf]
        conv => lhs; rw [e_44_23]
        simp (disch := omega) only [e_44_25, e_44_27, e_44_30, e_44_31, e_44_33, e_44_35, e_44_38, e_44_41, e_44_43, e_44_44, e_44_46, e_44_49, e_44_50, e_44_51, e_44_54, e_44_56, e_44_59, e_44_60, hRT.1, hRT.2.2 p p5, hc0, hfr, hwl, hce, hi, gfA_i, pfA_i, List.getElem?_cons_zero, List.getElem?_cons_succ, oK_some, rK_some, pR_some, pR_none, kq_i, kq_r, kq_n, kq_u, kq_o, kq_l, isRf_r, isRf_n, isRf_o, okv_r, okv_n, okv_o, is2_r, is2_o, is2_n, rcv_r, isC_i, if_true, if_pos, zI_add, zI_sub, zI_mul, nc_12, nc_8, nc_6, nc_40, nc_250, nc_3, nc_s, len4_0, len4_1, len4_2, len4_3, len4_4, and_self, and_true, true_and, lenA_i, va_rf_s, va_rf_n, oN_none, oN_some, ldQ_q, zI_lt, zI_eq, nat_tn, pcl, nc_s, Int.lt_irrefl, Int.reduceEq, Int.reduceNe, Int.reduceLT, Int.reduceLE, Int.reduceSub, Int.reduceAdd, Int.reduceMul, Int.reduceDiv, Int.reduceNeg, Int.reduceToNat, or_self, or_false, false_or, if_false, if_true, not_true_eq_false, not_false_eq_true, or_true, true_or, and_false, false_and, e1, e2, lc_eq, zJ_toInt]
        rfl
      · have ech : chFn t sz e p i T = some (wrS T p 0) := by unfold chFn; rw [if_pos e1, if_neg e2]
        refine Or.inl ⟨(wrS T p 0, .int (zI (wl T p))), ?_, In_wr0 hT hpT.1, prd_wr hpT, ?_⟩
        · conv => lhs; rw [e_44_23]
          simp (disch := omega) only [e_44_25, e_44_27, e_44_30, e_44_31, e_44_33, e_44_35, e_44_38, e_44_41, e_44_43, e_44_44, e_44_46, e_44_49, e_44_50, e_44_51, e_44_54, e_44_56, e_44_59, e_44_60, e_44_61, e_44_62, e_44_64, e_44_65, e_44_68, e_44_71, e_44_73, e_44_75, e_44_78, e_44_79, e_44_80, e_44_81, e_44_83, e_44_86, e_44_89, hRT.1, hRT.2.2 p p5, hc0, hfr, hwl, hwr, hce, hi, gfA_i, pfA_i, List.getElem?_cons_zero, List.getElem?_cons_succ, oK_some, rK_some, pR_some, pR_none, kq_i, kq_r, kq_n, kq_u, kq_o, kq_l, isRf_r, isRf_n, isRf_o, okv_r, okv_n, okv_o, is2_r, is2_o, is2_n, rcv_r, isC_i, if_true, if_pos, zI_add, zI_sub, zI_mul, nc_12, nc_8, nc_6, nc_40, nc_250, nc_3, nc_s, len4_0, len4_1, len4_2, len4_3, len4_4, and_self, and_true, true_and, lenA_i, va_rf_s, va_rf_n, oN_none, oN_some, ldQ_q, zI_lt, zI_eq, nat_tn, pcl, nc_s, Int.lt_irrefl, Int.reduceEq, Int.reduceNe, Int.reduceLT, Int.reduceLE, Int.reduceSub, Int.reduceAdd, Int.reduceMul, Int.reduceDiv, Int.reduceNeg, Int.reduceToNat, or_self, or_false, false_or, if_false, if_true, not_true_eq_false, not_false_eq_true, or_true, true_or, and_false, false_and, e1, e2, lc_eq, zJ_toInt, put_put, okv_0]
        · rw [hf, fS_s ech]
    · by_cases e2 : wl T p = 12
      · refine Or.inr ⟨T, ?_⟩
        have ech : chFn t sz e p i T = none := by unfold chFn; rw [if_neg e1, if_pos e2]
        rw [fS_n ech] at hf
        rw [hf]
        conv => lhs; rw [e_44_23]
        simp (disch := omega) only [e_44_25, e_44_27, e_44_30, e_44_31, e_44_33, e_44_35, e_44_38, e_44_41, e_44_43, e_44_44, e_44_46, e_44_49, e_44_50, e_44_51, e_44_54, e_44_56, e_44_59, e_44_60, e_44_61, e_44_62, e_44_64, e_44_65, e_44_68, e_44_71, e_44_73, e_44_75, e_44_78, e_44_79, hRT.1, hRT.2.2 p p5, hc0, hfr, hwl, hce, hi, gfA_i, pfA_i, List.getElem?_cons_zero, List.getElem?_cons_succ, oK_some, rK_some, pR_some, pR_none, kq_i, kq_r, kq_n, kq_u, kq_o, kq_l, isRf_r, isRf_n, isRf_o, okv_r, okv_n, okv_o, is2_r, is2_o, is2_n, rcv_r, isC_i, if_true, if_pos, zI_add, zI_sub, zI_mul, nc_12, nc_8, nc_6, nc_40, nc_250, nc_3, nc_s, len4_0, len4_1, len4_2, len4_3, len4_4, and_self, and_true, true_and, lenA_i, va_rf_s, va_rf_n, oN_none, oN_some, ldQ_q, zI_lt, zI_eq, nat_tn, pcl, nc_s, Int.lt_irrefl, Int.reduceEq, Int.reduceNe, Int.reduceLT, Int.reduceLE, Int.reduceSub, Int.reduceAdd, Int.reduceMul, Int.reduceDiv, Int.reduceNeg, Int.reduceToNat, or_self, or_false, false_or, if_false, if_true, not_true_eq_false, not_false_eq_true, or_true, true_or, and_false, false_and, e1, e2, lc_eq, zJ_toInt]
        rfl
      · have ech : chFn t sz e p i T = some (siS T p) := by unfold chFn; rw [if_neg e1, if_neg e2]
        refine Or.inl ⟨(siS T p, .int (zI (wl T p))), ?_, In_si hT hpT.1, prd_si hpT, ?_⟩
        · conv => lhs; rw [e_44_23]
          simp (disch := omega) only [e_44_25, e_44_27, e_44_30, e_44_31, e_44_33, e_44_35, e_44_38, e_44_41, e_44_43, e_44_44, e_44_46, e_44_49, e_44_50, e_44_51, e_44_54, e_44_56, e_44_59, e_44_60, e_44_61, e_44_62, e_44_64, e_44_65, e_44_68, e_44_71, e_44_73, e_44_75, e_44_78, e_44_79, e_44_80, e_44_81, e_44_83, e_44_86, e_44_89, hRT.1, hRT.2.2 p p5, hc0, hfr, hwl, hks, hce, hi, gfA_i, pfA_i, List.getElem?_cons_zero, List.getElem?_cons_succ, oK_some, rK_some, pR_some, pR_none, kq_i, kq_r, kq_n, kq_u, kq_o, kq_l, isRf_r, isRf_n, isRf_o, okv_r, okv_n, okv_o, is2_r, is2_o, is2_n, rcv_r, isC_i, if_true, if_pos, zI_add, zI_sub, zI_mul, nc_12, nc_8, nc_6, nc_40, nc_250, nc_3, nc_s, len4_0, len4_1, len4_2, len4_3, len4_4, and_self, and_true, true_and, lenA_i, va_rf_s, va_rf_n, oN_none, oN_some, ldQ_q, zI_lt, zI_eq, nat_tn, pcl, nc_s, Int.lt_irrefl, Int.reduceEq, Int.reduceNe, Int.reduceLT, Int.reduceLE, Int.reduceSub, Int.reduceAdd, Int.reduceMul, Int.reduceDiv, Int.reduceNeg, Int.reduceToNat, or_self, or_false, false_or, if_false, if_true, not_true_eq_false, not_false_eq_true, or_true, true_or, and_false, false_and, e1, e2, lc_eq, zJ_toInt, put_put]
        · rw [hf, fS_s ech]
  · obtain ⟨T, c⟩ := a
    obtain ⟨hT, hpT, hf⟩ := ha
    refine ⟨T, ?_⟩
    rw [hf, Nat.sub_self]
    show den (callD (d + 5)) 44 23 [.ref o, .int (zI p), .int (zI k), .ref q, .int (zI n), .ref (o + 2 + p), .int (zI n), c] [] (putS M o T) = _
    rw [e_44_23]
    simp (disch := omega) only [e_44_25, e_44_27, e_44_30, e_44_31, e_44_33, e_44_35, e_44_38, e_44_41, e_44_43, e_44_44, e_44_46, e_44_49, e_44_50, e_44_51, e_44_54, e_44_56, e_44_59, e_44_60, e_44_61, e_44_62, e_44_64, e_44_65, e_44_68, e_44_71, e_44_73, e_44_75, e_44_78, e_44_79, e_44_80, e_44_81, e_44_83, e_44_86, e_44_89, e_44_92, e_44_93, gfA_i, pfA_i, List.getElem?_cons_zero, List.getElem?_cons_succ, oK_some, rK_some, pR_some, pR_none, kq_i, kq_r, kq_n, kq_u, kq_o, kq_l, isRf_r, isRf_n, isRf_o, okv_r, okv_n, okv_o, is2_r, is2_o, is2_n, rcv_r, isC_i, if_true, if_pos, zI_add, zI_sub, zI_mul, nc_12, nc_8, nc_6, nc_40, nc_250, nc_3, nc_s, len4_0, len4_1, len4_2, len4_3, len4_4, and_self, and_true, true_and, lenA_i, va_rf_s, va_rf_n, oN_none, oN_some, ldQ_q, zI_lt, zI_eq, nat_tn, pcl, nc_s, Int.lt_irrefl, Int.reduceEq, Int.reduceNe, Int.reduceLT, Int.reduceLE, Int.reduceSub, Int.reduceAdd, Int.reduceMul, Int.reduceDiv, Int.reduceNeg, Int.reduceToNat, or_self, or_false, false_or, if_false, if_true, not_true_eq_false, not_false_eq_true, or_true, true_or, and_false, false_and]
    rfl
def tdF (S : Sc) (z : Int) : Option Sc := if 100 ≤ z ∧ z ≤ 399 ∧ z % 100 < S 8 0 ∧ 0 ≤ S 4 (z % 100).toNat ∧ S 5 (z % 100).toNat = 1 then (if z / 100 = 3 then (if wl S (z % 100).toNat = 12 then none else some (siS S (z % 100).toNat)) else (if wl S (z % 100).toNat = 0 then none else some (wrS S (z % 100).toNat (if z / 100 = 1 then 1 else 0)))) else none
def oB {α : Type} (x : Option α) : Int := match x with
  | none => 0
  | some _ => 1
theorem m_tellDeed {d : Nat} {M : AM} {o : Nat} {S : Sc} {v : Int64} (hI : In S) (hR : RS M o S) : callD (d + 6) 45 [.ref o, .long v] M = some (some (.int (zI (oB (tdF S v.toInt)))), putS M o ((tdF S v.toInt).getD S)) := by
  have hzl : -9223372036854775808 ≤ v.toInt := Int64.le_toInt v
  have hzu : v.toInt < 9223372036854775808 := Int64.toInt_lt v
  rw [c_45]
  generalize hz : v.toInt = z at *
  have hv : v = zJ z := by rw [← hz, zJ_self]
  have hc := hI.1
  have hps := put_self hR
  by_cases e1 : z < 100
  · have e : tdF S z = none := if_neg (by omega)
    rw [e, hv]
    simp (disch := omega) only [e_45_0, e_45_1, e_45_4, e_45_5, e_45_8, e_45_9, e_45_12, e_45_13, e_45_16, e_45_17, e_45_18, e_45_19, e_45_22, e_45_23, e_45_24, e_45_25, e_45_26, e_45_27, e_45_30, e_45_31, e_45_32, e_45_35, e_45_37, e_45_39, e_45_39_n, e_45_39_r, e_45_42, e_45_44, e_45_47, e_45_47_n, e_45_47_r, e_45_50, e_45_52, e_45_55, e_45_58, e_45_59, e_45_60, e_45_61, e_45_63, e_45_65, e_45_68, e_45_71, e_45_73, e_45_75, e_45_76, e_45_77, e_45_80, e_45_82, e_45_85, e_45_86, e_45_89, e_45_90, e_45_91, e_45_92, e_45_93, e_45_96, e_45_97, e_45_99, e_45_102, e_45_105, e_45_106, e_45_108, e_45_109, e_45_110, e_45_113, e_45_114, e_45_117, e_45_118, e_45_121, e_45_122, gfA_i, pfA_i, List.getElem?_cons_zero, List.getElem?_cons_succ, oK_some, rK_some, pR_some, pR_none, kq_i, kq_r, kq_n, kq_u, kq_o, kq_l, isRf_r, isRf_n, isRf_o, okv_r, okv_n, okv_o, is2_r, is2_o, is2_n, rcv_r, isC_i, if_true, if_pos, zI_add, zI_sub, zI_mul, nc_12, nc_8, nc_6, nc_40, nc_250, nc_3, nc_s, len4_0, len4_1, len4_2, len4_3, len4_4, and_self, and_true, true_and, lenA_i, va_rf_s, va_rf_n, oN_none, oN_some, ldQ_q, zI_lt, zI_eq, nat_tn, pcl, nc_s, Int.lt_irrefl, Int.reduceEq, Int.reduceNe, Int.reduceLT, Int.reduceLE, Int.reduceSub, Int.reduceAdd, Int.reduceMul, Int.reduceDiv, Int.reduceNeg, Int.reduceToNat, or_self, or_false, false_or, if_false, if_true, not_true_eq_false, not_false_eq_true, or_true, true_or, and_false, false_and, lc_lt, zJ_toInt, e1, Option.getD_none, hps]
    rfl
  · by_cases e2 : 399 < z
    · have e : tdF S z = none := if_neg (by omega)
      rw [e, hv]
      simp (disch := omega) only [e_45_0, e_45_1, e_45_4, e_45_5, e_45_8, e_45_9, e_45_12, e_45_13, e_45_16, e_45_17, e_45_18, e_45_19, e_45_22, e_45_23, e_45_24, e_45_25, e_45_26, e_45_27, e_45_30, e_45_31, e_45_32, e_45_35, e_45_37, e_45_39, e_45_39_n, e_45_39_r, e_45_42, e_45_44, e_45_47, e_45_47_n, e_45_47_r, e_45_50, e_45_52, e_45_55, e_45_58, e_45_59, e_45_60, e_45_61, e_45_63, e_45_65, e_45_68, e_45_71, e_45_73, e_45_75, e_45_76, e_45_77, e_45_80, e_45_82, e_45_85, e_45_86, e_45_89, e_45_90, e_45_91, e_45_92, e_45_93, e_45_96, e_45_97, e_45_99, e_45_102, e_45_105, e_45_106, e_45_108, e_45_109, e_45_110, e_45_113, e_45_114, e_45_117, e_45_118, e_45_121, e_45_122, gfA_i, pfA_i, List.getElem?_cons_zero, List.getElem?_cons_succ, oK_some, rK_some, pR_some, pR_none, kq_i, kq_r, kq_n, kq_u, kq_o, kq_l, isRf_r, isRf_n, isRf_o, okv_r, okv_n, okv_o, is2_r, is2_o, is2_n, rcv_r, isC_i, if_true, if_pos, zI_add, zI_sub, zI_mul, nc_12, nc_8, nc_6, nc_40, nc_250, nc_3, nc_s, len4_0, len4_1, len4_2, len4_3, len4_4, and_self, and_true, true_and, lenA_i, va_rf_s, va_rf_n, oN_none, oN_some, ldQ_q, zI_lt, zI_eq, nat_tn, pcl, nc_s, Int.lt_irrefl, Int.reduceEq, Int.reduceNe, Int.reduceLT, Int.reduceLE, Int.reduceSub, Int.reduceAdd, Int.reduceMul, Int.reduceDiv, Int.reduceNeg, Int.reduceToNat, or_self, or_false, false_or, if_false, if_true, not_true_eq_false, not_false_eq_true, or_true, true_or, and_false, false_and, lc_lt, lc_gt, zJ_toInt, e1, e2, Option.getD_none, hps]
      rfl
    · have hm : z - z / 100 * 100 = z % 100 := by omega
      have hm2 : 0 ≤ z % 100 ∧ z % 100 < 100 := by omega
      by_cases e3 : z % 100 < S 8 0
      · obtain ⟨p, hp⟩ : ∃ p : Nat, z % 100 = (p : Int) := ⟨(z % 100).toNat, by omega⟩
        have hp2 : (z % 100).toNat = p := by omega
        rw [hp] at e3 hm
        have hp12 : p < 12 := by omega
        have h5 := (hI.f p).2.2.2.2.2.1
        by_cases e4 : 0 ≤ S 4 p
        · have hpr : prd S p := ⟨e3, e4⟩
          have hfr := frO_p (o := o) hpr
          by_cases e5 : S 5 p = 1
          · have hwb := wl_b S p
            have hwl := m_wl (d := d + 1) hI hR hpr
            have hks := m_keepSilent (d := d + 3) hI hR hp12
            by_cases e6 : z / 100 = 3
            · have hm' : z - 300 = p := by omega
              by_cases e7 : wl S p = 12
              · have e : tdF S z = none := by unfold tdF; rw [if_pos (by rw [hp2, hp]; exact ⟨by omega, by omega, e3, e4, e5⟩), if_pos e6, hp2, if_pos e7]
                rw [e, hv]
                simp (disch := omega) only [e_45_0, e_45_1, e_45_4, e_45_5, e_45_8, e_45_9, e_45_12, e_45_13, e_45_16, e_45_17, e_45_18, e_45_19, e_45_22, e_45_23, e_45_24, e_45_25, e_45_26, e_45_27, e_45_30, e_45_31, e_45_32, e_45_35, e_45_37, e_45_39, e_45_39_n, e_45_39_r, e_45_42, e_45_44, e_45_47, e_45_47_n, e_45_47_r, e_45_50, e_45_52, e_45_55, e_45_58, e_45_59, e_45_60, e_45_61, e_45_63, e_45_65, e_45_68, e_45_71, e_45_73, e_45_75, e_45_76, e_45_77, e_45_80, e_45_82, e_45_85, e_45_86, e_45_89, e_45_90, e_45_91, e_45_92, e_45_93, e_45_96, e_45_97, e_45_99, e_45_102, e_45_105, e_45_106, e_45_108, e_45_109, e_45_110, e_45_113, e_45_114, e_45_117, e_45_118, e_45_121, e_45_122, gfA_i, pfA_i, List.getElem?_cons_zero, List.getElem?_cons_succ, oK_some, rK_some, pR_some, pR_none, kq_i, kq_r, kq_n, kq_u, kq_o, kq_l, isRf_r, isRf_n, isRf_o, okv_r, okv_n, okv_o, is2_r, is2_o, is2_n, rcv_r, isC_i, if_true, if_pos, zI_add, zI_sub, zI_mul, nc_12, nc_8, nc_6, nc_40, nc_250, nc_3, nc_s, len4_0, len4_1, len4_2, len4_3, len4_4, and_self, and_true, true_and, lenA_i, va_rf_s, va_rf_n, oN_none, oN_some, ldQ_q, zI_lt, zI_eq, nat_tn, pcl, nc_s, Int.lt_irrefl, Int.reduceEq, Int.reduceNe, Int.reduceLT, Int.reduceLE, Int.reduceSub, Int.reduceAdd, Int.reduceMul, Int.reduceDiv, Int.reduceNeg, Int.reduceToNat, or_self, or_false, false_or, if_false, if_true, not_true_eq_false, not_false_eq_true, or_true, true_or, and_false, false_and, lc_lt, lc_gt, zJ_toInt, zJ_eq, zJ_div, zJ_mul, zJ_sub, J2i, hm, m_at_s hI hR e3, hR.1, hR.2.2 p hp12, hfr, hwl, e1, e2, e5, e6, e7, hm', Option.getD_none, hps]
                rfl
              · have e : tdF S z = some (siS S p) := by unfold tdF; rw [if_pos (by rw [hp2, hp]; exact ⟨by omega, by omega, e3, e4, e5⟩), if_pos e6, hp2, if_neg e7]
                rw [e, hv]
                simp (disch := omega) only [e_45_0, e_45_1, e_45_4, e_45_5, e_45_8, e_45_9, e_45_12, e_45_13, e_45_16, e_45_17, e_45_18, e_45_19, e_45_22, e_45_23, e_45_24, e_45_25, e_45_26, e_45_27, e_45_30, e_45_31, e_45_32, e_45_35, e_45_37, e_45_39, e_45_39_n, e_45_39_r, e_45_42, e_45_44, e_45_47, e_45_47_n, e_45_47_r, e_45_50, e_45_52, e_45_55, e_45_58, e_45_59, e_45_60, e_45_61, e_45_63, e_45_65, e_45_68, e_45_71, e_45_73, e_45_75, e_45_76, e_45_77, e_45_80, e_45_82, e_45_85, e_45_86, e_45_89, e_45_90, e_45_91, e_45_92, e_45_93, e_45_96, e_45_97, e_45_99, e_45_102, e_45_105, e_45_106, e_45_108, e_45_109, e_45_110, e_45_113, e_45_114, e_45_117, e_45_118, e_45_121, e_45_122, gfA_i, pfA_i, List.getElem?_cons_zero, List.getElem?_cons_succ, oK_some, rK_some, pR_some, pR_none, kq_i, kq_r, kq_n, kq_u, kq_o, kq_l, isRf_r, isRf_n, isRf_o, okv_r, okv_n, okv_o, is2_r, is2_o, is2_n, rcv_r, isC_i, if_true, if_pos, zI_add, zI_sub, zI_mul, nc_12, nc_8, nc_6, nc_40, nc_250, nc_3, nc_s, len4_0, len4_1, len4_2, len4_3, len4_4, and_self, and_true, true_and, lenA_i, va_rf_s, va_rf_n, oN_none, oN_some, ldQ_q, zI_lt, zI_eq, nat_tn, pcl, nc_s, Int.lt_irrefl, Int.reduceEq, Int.reduceNe, Int.reduceLT, Int.reduceLE, Int.reduceSub, Int.reduceAdd, Int.reduceMul, Int.reduceDiv, Int.reduceNeg, Int.reduceToNat, or_self, or_false, false_or, if_false, if_true, not_true_eq_false, not_false_eq_true, or_true, true_or, and_false, false_and, lc_lt, lc_gt, zJ_toInt, zJ_eq, zJ_div, zJ_mul, zJ_sub, J2i, hm, m_at_s hI hR e3, hR.1, hR.2.2 p hp12, hfr, hwl, hks, e1, e2, e5, e6, e7, hm', Option.getD_some]
                rfl
            · by_cases e7 : wl S p = 0
              · have e : tdF S z = none := by unfold tdF; rw [if_pos (by rw [hp2, hp]; exact ⟨by omega, by omega, e3, e4, e5⟩), if_neg e6, hp2, if_pos e7]
                rw [e, hv]
                simp (disch := omega) only [e_45_0, e_45_1, e_45_4, e_45_5, e_45_8, e_45_9, e_45_12, e_45_13, e_45_16, e_45_17, e_45_18, e_45_19, e_45_22, e_45_23, e_45_24, e_45_25, e_45_26, e_45_27, e_45_30, e_45_31, e_45_32, e_45_35, e_45_37, e_45_39, e_45_39_n, e_45_39_r, e_45_42, e_45_44, e_45_47, e_45_47_n, e_45_47_r, e_45_50, e_45_52, e_45_55, e_45_58, e_45_59, e_45_60, e_45_61, e_45_63, e_45_65, e_45_68, e_45_71, e_45_73, e_45_75, e_45_76, e_45_77, e_45_80, e_45_82, e_45_85, e_45_86, e_45_89, e_45_90, e_45_91, e_45_92, e_45_93, e_45_96, e_45_97, e_45_99, e_45_102, e_45_105, e_45_106, e_45_108, e_45_109, e_45_110, e_45_113, e_45_114, e_45_117, e_45_118, e_45_121, e_45_122, gfA_i, pfA_i, List.getElem?_cons_zero, List.getElem?_cons_succ, oK_some, rK_some, pR_some, pR_none, kq_i, kq_r, kq_n, kq_u, kq_o, kq_l, isRf_r, isRf_n, isRf_o, okv_r, okv_n, okv_o, is2_r, is2_o, is2_n, rcv_r, isC_i, if_true, if_pos, zI_add, zI_sub, zI_mul, nc_12, nc_8, nc_6, nc_40, nc_250, nc_3, nc_s, len4_0, len4_1, len4_2, len4_3, len4_4, and_self, and_true, true_and, lenA_i, va_rf_s, va_rf_n, oN_none, oN_some, ldQ_q, zI_lt, zI_eq, nat_tn, pcl, nc_s, Int.lt_irrefl, Int.reduceEq, Int.reduceNe, Int.reduceLT, Int.reduceLE, Int.reduceSub, Int.reduceAdd, Int.reduceMul, Int.reduceDiv, Int.reduceNeg, Int.reduceToNat, or_self, or_false, false_or, if_false, if_true, not_true_eq_false, not_false_eq_true, or_true, true_or, and_false, false_and, lc_lt, lc_gt, zJ_toInt, zJ_eq, zJ_div, zJ_mul, zJ_sub, J2i, hm, m_at_s hI hR e3, hR.1, hR.2.2 p hp12, hfr, hwl, e1, e2, e5, e6, e7, Option.getD_none, hps]
                rfl
              · have e : tdF S z = some (wrS S p (if z / 100 = 1 then 1 else 0)) := by unfold tdF; rw [if_pos (by rw [hp2, hp]; exact ⟨by omega, by omega, e3, e4, e5⟩), if_neg e6, hp2, if_neg e7]
                rw [e, hv]
                by_cases e8 : z / 100 = 1
                · have hm' : z - 100 = p := by omega
                  have hwr := m_write (d := d + 2) hI hR hpr (Or.inr rfl : (1 : Int) = 0 ∨ (1 : Int) = 1)
                  simp (disch := omega) only [e_45_0, e_45_1, e_45_4, e_45_5, e_45_8, e_45_9, e_45_12, e_45_13, e_45_16, e_45_17, e_45_18, e_45_19, e_45_22, e_45_23, e_45_24, e_45_25, e_45_26, e_45_27, e_45_30, e_45_31, e_45_32, e_45_35, e_45_37, e_45_39, e_45_39_n, e_45_39_r, e_45_42, e_45_44, e_45_47, e_45_47_n, e_45_47_r, e_45_50, e_45_52, e_45_55, e_45_58, e_45_59, e_45_60, e_45_61, e_45_63, e_45_65, e_45_68, e_45_71, e_45_73, e_45_75, e_45_76, e_45_77, e_45_80, e_45_82, e_45_85, e_45_86, e_45_89, e_45_90, e_45_91, e_45_92, e_45_93, e_45_96, e_45_97, e_45_99, e_45_102, e_45_105, e_45_106, e_45_108, e_45_109, e_45_110, e_45_113, e_45_114, e_45_117, e_45_118, e_45_121, e_45_122, gfA_i, pfA_i, List.getElem?_cons_zero, List.getElem?_cons_succ, oK_some, rK_some, pR_some, pR_none, kq_i, kq_r, kq_n, kq_u, kq_o, kq_l, isRf_r, isRf_n, isRf_o, okv_r, okv_n, okv_o, is2_r, is2_o, is2_n, rcv_r, isC_i, if_true, if_pos, zI_add, zI_sub, zI_mul, nc_12, nc_8, nc_6, nc_40, nc_250, nc_3, nc_s, len4_0, len4_1, len4_2, len4_3, len4_4, and_self, and_true, true_and, lenA_i, va_rf_s, va_rf_n, oN_none, oN_some, ldQ_q, zI_lt, zI_eq, nat_tn, pcl, nc_s, Int.lt_irrefl, Int.reduceEq, Int.reduceNe, Int.reduceLT, Int.reduceLE, Int.reduceSub, Int.reduceAdd, Int.reduceMul, Int.reduceDiv, Int.reduceNeg, Int.reduceToNat, or_self, or_false, false_or, if_false, if_true, not_true_eq_false, not_false_eq_true, or_true, true_or, and_false, false_and, lc_lt, lc_gt, zJ_toInt, zJ_eq, zJ_div, zJ_mul, zJ_sub, J2i, hm, m_at_s hI hR e3, hR.1, hR.2.2 p hp12, hfr, hwl, hwr, e1, e2, e5, e6, e7, e8, hm', Option.getD_some]
                  rfl
                · have hwr := m_write (d := d + 2) hI hR hpr (Or.inl rfl : (0 : Int) = 0 ∨ (0 : Int) = 1)
                  simp (disch := omega) only [e_45_0, e_45_1, e_45_4, e_45_5, e_45_8, e_45_9, e_45_12, e_45_13, e_45_16, e_45_17, e_45_18, e_45_19, e_45_22, e_45_23, e_45_24, e_45_25, e_45_26, e_45_27, e_45_30, e_45_31, e_45_32, e_45_35, e_45_37, e_45_39, e_45_39_n, e_45_39_r, e_45_42, e_45_44, e_45_47, e_45_47_n, e_45_47_r, e_45_50, e_45_52, e_45_55, e_45_58, e_45_59, e_45_60, e_45_61, e_45_63, e_45_65, e_45_68, e_45_71, e_45_73, e_45_75, e_45_76, e_45_77, e_45_80, e_45_82, e_45_85, e_45_86, e_45_89, e_45_90, e_45_91, e_45_92, e_45_93, e_45_96, e_45_97, e_45_99, e_45_102, e_45_105, e_45_106, e_45_108, e_45_109, e_45_110, e_45_113, e_45_114, e_45_117, e_45_118, e_45_121, e_45_122, gfA_i, pfA_i, List.getElem?_cons_zero, List.getElem?_cons_succ, oK_some, rK_some, pR_some, pR_none, kq_i, kq_r, kq_n, kq_u, kq_o, kq_l, isRf_r, isRf_n, isRf_o, okv_r, okv_n, okv_o, is2_r, is2_o, is2_n, rcv_r, isC_i, if_true, if_pos, zI_add, zI_sub, zI_mul, nc_12, nc_8, nc_6, nc_40, nc_250, nc_3, nc_s, len4_0, len4_1, len4_2, len4_3, len4_4, and_self, and_true, true_and, lenA_i, va_rf_s, va_rf_n, oN_none, oN_some, ldQ_q, zI_lt, zI_eq, nat_tn, pcl, nc_s, Int.lt_irrefl, Int.reduceEq, Int.reduceNe, Int.reduceLT, Int.reduceLE, Int.reduceSub, Int.reduceAdd, Int.reduceMul, Int.reduceDiv, Int.reduceNeg, Int.reduceToNat, or_self, or_false, false_or, if_false, if_true, not_true_eq_false, not_false_eq_true, or_true, true_or, and_false, false_and, lc_lt, lc_gt, zJ_toInt, zJ_eq, zJ_div, zJ_mul, zJ_sub, J2i, hm, m_at_s hI hR e3, hR.1, hR.2.2 p hp12, hfr, hwl, hwr, e1, e2, e5, e6, e7, e8, Option.getD_some]
                  rfl
          · have e : tdF S z = none := if_neg (by rw [hp2]; exact fun q => e5 q.2.2.2.2)
            have e50 : S 5 p = 0 := by omega
            rw [e, hv]
            simp (disch := omega) only [e_45_0, e_45_1, e_45_4, e_45_5, e_45_8, e_45_9, e_45_12, e_45_13, e_45_16, e_45_17, e_45_18, e_45_19, e_45_22, e_45_23, e_45_24, e_45_25, e_45_26, e_45_27, e_45_30, e_45_31, e_45_32, e_45_35, e_45_37, e_45_39, e_45_39_n, e_45_39_r, e_45_42, e_45_44, e_45_47, e_45_47_n, e_45_47_r, e_45_50, e_45_52, e_45_55, e_45_58, e_45_59, e_45_60, e_45_61, e_45_63, e_45_65, e_45_68, e_45_71, e_45_73, e_45_75, e_45_76, e_45_77, e_45_80, e_45_82, e_45_85, e_45_86, e_45_89, e_45_90, e_45_91, e_45_92, e_45_93, e_45_96, e_45_97, e_45_99, e_45_102, e_45_105, e_45_106, e_45_108, e_45_109, e_45_110, e_45_113, e_45_114, e_45_117, e_45_118, e_45_121, e_45_122, gfA_i, pfA_i, List.getElem?_cons_zero, List.getElem?_cons_succ, oK_some, rK_some, pR_some, pR_none, kq_i, kq_r, kq_n, kq_u, kq_o, kq_l, isRf_r, isRf_n, isRf_o, okv_r, okv_n, okv_o, is2_r, is2_o, is2_n, rcv_r, isC_i, if_true, if_pos, zI_add, zI_sub, zI_mul, nc_12, nc_8, nc_6, nc_40, nc_250, nc_3, nc_s, len4_0, len4_1, len4_2, len4_3, len4_4, and_self, and_true, true_and, lenA_i, va_rf_s, va_rf_n, oN_none, oN_some, ldQ_q, zI_lt, zI_eq, nat_tn, pcl, nc_s, Int.lt_irrefl, Int.reduceEq, Int.reduceNe, Int.reduceLT, Int.reduceLE, Int.reduceSub, Int.reduceAdd, Int.reduceMul, Int.reduceDiv, Int.reduceNeg, Int.reduceToNat, or_self, or_false, false_or, if_false, if_true, not_true_eq_false, not_false_eq_true, or_true, true_or, and_false, false_and, lc_lt, lc_gt, zJ_toInt, zJ_eq, zJ_div, zJ_mul, zJ_sub, J2i, hm, m_at_s hI hR e3, hR.1, hR.2.2 p hp12, hfr, e1, e2, e50, Option.getD_none, hps]
            rfl
        · have hfr : frO S o p = none := if_neg (fun q => e4 q.2)
          have e : tdF S z = none := if_neg (by rw [hp2]; exact fun q => e4 q.2.2.2.1)
          rw [e, hv]
          simp (disch := omega) only [e_45_0, e_45_1, e_45_4, e_45_5, e_45_8, e_45_9, e_45_12, e_45_13, e_45_16, e_45_17, e_45_18, e_45_19, e_45_22, e_45_23, e_45_24, e_45_25, e_45_26, e_45_27, e_45_30, e_45_31, e_45_32, e_45_35, e_45_37, e_45_39, e_45_39_n, e_45_39_r, e_45_42, e_45_44, e_45_47, e_45_47_n, e_45_47_r, e_45_50, e_45_52, e_45_55, e_45_58, e_45_59, e_45_60, e_45_61, e_45_63, e_45_65, e_45_68, e_45_71, e_45_73, e_45_75, e_45_76, e_45_77, e_45_80, e_45_82, e_45_85, e_45_86, e_45_89, e_45_90, e_45_91, e_45_92, e_45_93, e_45_96, e_45_97, e_45_99, e_45_102, e_45_105, e_45_106, e_45_108, e_45_109, e_45_110, e_45_113, e_45_114, e_45_117, e_45_118, e_45_121, e_45_122, gfA_i, pfA_i, List.getElem?_cons_zero, List.getElem?_cons_succ, oK_some, rK_some, pR_some, pR_none, kq_i, kq_r, kq_n, kq_u, kq_o, kq_l, isRf_r, isRf_n, isRf_o, okv_r, okv_n, okv_o, is2_r, is2_o, is2_n, rcv_r, isC_i, if_true, if_pos, zI_add, zI_sub, zI_mul, nc_12, nc_8, nc_6, nc_40, nc_250, nc_3, nc_s, len4_0, len4_1, len4_2, len4_3, len4_4, and_self, and_true, true_and, lenA_i, va_rf_s, va_rf_n, oN_none, oN_some, ldQ_q, zI_lt, zI_eq, nat_tn, pcl, nc_s, Int.lt_irrefl, Int.reduceEq, Int.reduceNe, Int.reduceLT, Int.reduceLE, Int.reduceSub, Int.reduceAdd, Int.reduceMul, Int.reduceDiv, Int.reduceNeg, Int.reduceToNat, or_self, or_false, false_or, if_false, if_true, not_true_eq_false, not_false_eq_true, or_true, true_or, and_false, false_and, lc_lt, lc_gt, zJ_toInt, zJ_eq, zJ_div, zJ_mul, zJ_sub, J2i, hm, m_at_s hI hR e3, hR.1, hR.2.2 p hp12, hfr, e1, e2, Option.getD_none, hps]
          rfl
      · have e : tdF S z = none := if_neg (fun q => e3 q.2.2.1)
        have hat := m_at_n (d := d + 4) (a := z % 100) hI hR (by unfold i32; omega) (by omega)
        rw [e, hv]
        simp (disch := omega) only [e_45_0, e_45_1, e_45_4, e_45_5, e_45_8, e_45_9, e_45_12, e_45_13, e_45_16, e_45_17, e_45_18, e_45_19, e_45_22, e_45_23, e_45_24, e_45_25, e_45_26, e_45_27, e_45_30, e_45_31, e_45_32, e_45_35, e_45_37, e_45_39, e_45_39_n, e_45_39_r, e_45_42, e_45_44, e_45_47, e_45_47_n, e_45_47_r, e_45_50, e_45_52, e_45_55, e_45_58, e_45_59, e_45_60, e_45_61, e_45_63, e_45_65, e_45_68, e_45_71, e_45_73, e_45_75, e_45_76, e_45_77, e_45_80, e_45_82, e_45_85, e_45_86, e_45_89, e_45_90, e_45_91, e_45_92, e_45_93, e_45_96, e_45_97, e_45_99, e_45_102, e_45_105, e_45_106, e_45_108, e_45_109, e_45_110, e_45_113, e_45_114, e_45_117, e_45_118, e_45_121, e_45_122, gfA_i, pfA_i, List.getElem?_cons_zero, List.getElem?_cons_succ, oK_some, rK_some, pR_some, pR_none, kq_i, kq_r, kq_n, kq_u, kq_o, kq_l, isRf_r, isRf_n, isRf_o, okv_r, okv_n, okv_o, is2_r, is2_o, is2_n, rcv_r, isC_i, if_true, if_pos, zI_add, zI_sub, zI_mul, nc_12, nc_8, nc_6, nc_40, nc_250, nc_3, nc_s, len4_0, len4_1, len4_2, len4_3, len4_4, and_self, and_true, true_and, lenA_i, va_rf_s, va_rf_n, oN_none, oN_some, ldQ_q, zI_lt, zI_eq, nat_tn, pcl, nc_s, Int.lt_irrefl, Int.reduceEq, Int.reduceNe, Int.reduceLT, Int.reduceLE, Int.reduceSub, Int.reduceAdd, Int.reduceMul, Int.reduceDiv, Int.reduceNeg, Int.reduceToNat, or_self, or_false, false_or, if_false, if_true, not_true_eq_false, not_false_eq_true, or_true, true_or, and_false, false_and, lc_lt, lc_gt, zJ_toInt, zJ_eq, zJ_div, zJ_mul, zJ_sub, J2i, hm, hat, hR.1, e1, e2, Option.getD_none, hps]
        rfl
