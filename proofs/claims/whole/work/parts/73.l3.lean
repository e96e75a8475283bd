/-! words, numbers, statements: what they come to, and the class -/
def wFr : List Nat := [102, 114, 105, 100, 97, 121]
def wLi : List Nat := [108, 105, 107, 101, 115]
def wLo : List Nat := [108, 111, 115, 115]
def wPr : List Nat := [112, 97, 105, 114]
def wPt : List Nat := [112, 97, 114, 116]
def wPu : List Nat := [112, 117, 112, 105, 108]
def wTo : List Nat := [116, 111, 105, 108]
theorem str_1 : strT 1000001 = some wFr := by decide +kernel
theorem str_2 : strT 1000002 = some wLi := by decide +kernel
theorem str_3 : strT 1000003 = some wLo := by decide +kernel
theorem str_4 : strT 1000004 = some wPr := by decide +kernel
theorem str_5 : strT 1000005 = some wPt := by decide +kernel
theorem str_6 : strT 1000006 = some wPu := by decide +kernel
theorem str_7 : strT 1000007 = some wTo := by decide +kernel
def isWp (B : Nat → Int32) (z s : Nat) (w : List Nat) : Prop := tkn B z s = 1 ∧ ten B z s = s + w.length ∧ ∀ i, i < w.length → bt B z (s + i) = ((w.getD i 0 : Nat) : Int)
noncomputable def isW (B : Nat → Int32) (z s : Nat) (w : List Nat) : Int := @ite Int (isWp B z s w) (Classical.propDecidable _) 1 0
theorem isW_1 {B : Nat → Int32} {z s : Nat} {w : List Nat} (h : isWp B z s w) : isW B z s w = 1 := if_pos h
theorem isW_0 {B : Nat → Int32} {z s : Nat} {w : List Nat} (h : ¬ isWp B z s w) : isW B z s w = 0 := if_neg h
theorem isW_c (B : Nat → Int32) (z s : Nat) (w : List Nat) : (isW B z s w = 0 ∧ ¬ isWp B z s w) ∨ (isW B z s w = 1 ∧ isWp B z s w) := by
  rcases Classical.em (isWp B z s w) with h | h
  · exact Or.inr ⟨isW_1 h, h⟩
  · exact Or.inl ⟨isW_0 h, h⟩
theorem isWp_u {B : Nat → Int32} {z s : Nat} {w w' : List Nat} (h : isWp B z s w) (h' : isWp B z s w') : w = w' := by
  obtain ⟨h1, h2, h3⟩ := h
  obtain ⟨g1, g2, g3⟩ := h'
  have hl : w.length = w'.length := by omega
  refine List.ext_getElem hl (fun i a b => ?_)
  have h4 := h3 i a
  have g4 := g3 i b
  rw [h4] at g4
  have e1 : w.getD i 0 = w[i] := by simp [List.getD, a]
  have e2 : w'.getD i 0 = w'[i] := by simp [List.getD, b]
  rw [e1, e2] at g4
  omega
def nm (B : Nat → Int32) (z p : Nat) (m : Int) : Nat ⊕ (Int × Nat) := if tkn B z (tst B z p) = 2 ∧ nvl B z (tst B z p) ≤ m then .inr (nvl B z (tst B z p), ten B z (tst B z p)) else .inl (tst B z p)
def nK {α : Type} (r : Nat ⊕ (Int × Nat)) (k : Int → Nat → Nat ⊕ α) : Nat ⊕ α := match r with
  | .inl s => .inl s
  | .inr (v, p) => k v p
theorem nK_s {α : Type} {B : Nat → Int32} {z p : Nat} {m : Int} {k : Int → Nat → Nat ⊕ α} (h : tkn B z (tst B z p) = 2 ∧ nvl B z (tst B z p) ≤ m) : nK (nm B z p m) k = k (nvl B z (tst B z p)) (ten B z (tst B z p)) := by unfold nm; rw [if_pos h]; rfl
theorem nK_n {α : Type} {B : Nat → Int32} {z p : Nat} {m : Int} {k : Int → Nat → Nat ⊕ α} (h : ¬ (tkn B z (tst B z p) = 2 ∧ nvl B z (tst B z p) ≤ m)) : nK (nm B z p m) k = .inl (tst B z p) := by unfold nm; rw [if_neg h]; rfl
section PS
variable (B : Nat → Int32) (z : Nat) (S : Sc)
def psPu (s q : Nat) : Nat ⊕ (Sc × Nat) := if S 8 0 < 12 then nK (nm B z q 5) (fun k p1 => nK (nm B z p1 9) (fun a p2 => nK (nm B z p2 1) (fun c p3 => .inr (adS S k a c, p3)))) else .inl s
def psLi (q : Nat) : Nat ⊕ (Sc × Nat) := nK (nm B z q (S 8 0 - 1)) (fun x p1 => nK (nm B z p1 7) (fun b p2 => .inr (sU S 3 x.toNat (orb (S 3 x.toNat) b.toNat), p2)))
def psPr (q : Nat) : Nat ⊕ (Sc × Nat) := nK (nm B z q (S 8 0 - 1)) (fun x p1 => if S 2 x.toNat = 0 ∧ S 4 x.toNat < 0 then nK (nm B z p1 (S 8 0 - 1)) (fun y p2 => if S 2 y.toNat = 1 ∧ S 4 y.toNat < 0 then .inr (joS S x.toNat y.toNat, p2) else .inl (tst B z p1)) else .inl (tst B z q))
def psPt (q : Nat) : Nat ⊕ (Sc × Nat) := nK (nm B z q (S 8 0 - 1)) (fun x p1 => if 0 ≤ S 4 x.toNat then .inr (leS S x.toNat, p1) else .inl (tst B z q))
def psAs (q i : Nat) (m : Int) : Nat ⊕ (Sc × Nat) := nK (nm B z q m) (fun v p1 => .inr (sU S 8 i v, p1))
noncomputable def stmP (p : Nat) : Nat ⊕ (Sc × Nat) :=
  if isW B z (tst B z p) wPu = 1 then psPu B z S (tst B z p) (ten B z (tst B z p)) else
  if isW B z (tst B z p) wLi = 1 then psLi B z S (ten B z (tst B z p)) else
  if isW B z (tst B z p) wPr = 1 then psPr B z S (ten B z (tst B z p)) else
  if isW B z (tst B z p) wPt = 1 then psPt B z S (ten B z (tst B z p)) else
  if isW B z (tst B z p) wLo = 1 then psAs B z S (ten B z (tst B z p)) 1 12 else
  if isW B z (tst B z p) wTo = 1 then psAs B z S (ten B z (tst B z p)) 2 9 else
  if isW B z (tst B z p) wFr = 1 then psAs B z S (ten B z (tst B z p)) 3 1 else .inl (tst B z p)
end PS
theorem rcv_90 {M : AM} {a : Nat} {as : List Value} (h : 1000000 < a) : rcv M 90 (.ref a :: as) = true := by
  show (if (90 : Nat) = 90 then decide (1000000 < a) else isC (M.2.2 a) 90) = true
  rw [if_pos rfl]
  exact decide_eq_true h
theorem s_len {d a : Nat} {M : AM} {w : List Nat} (h : 1000000 < a) (hw : strT a = some w) : callD (d + 1) 300 [.ref a] M = some (some (.int (zI (w.length : Nat))), M) := by
  show (if (300 : Nat) = 300 then sLen [.ref a] M else _) = _
  rw [if_pos rfl]
  unfold sLen
  dsimp only
  rw [if_pos h, hw]
  dsimp only
  rw [zI_nat]
theorem s_at {d a i : Nat} {M : AM} {w : List Nat} (h : 1000000 < a) (hw : strT a = some w) (hi : i < w.length) (hl : w.length ≤ 20) : callD (d + 1) 301 [.ref a, .int (zI i)] M = some (some (.int (zI ((w.getD i 0 : Nat) : Int))), M) := by
  show (if (301 : Nat) = 300 then _ else if (301 : Nat) = 301 then sAt [.ref a, .int (zI i)] M else _) = _
  rw [if_neg (by omega), if_pos rfl]
  unfold sAt
  dsimp only
  rw [if_pos ⟨h, by rw [zI_toInt (by omega) (by omega)]; omega⟩, hw]
  dsimp only
  rw [zI_tn (by omega) (by omega), nat_tn]
  have e : w[i]? = some (w.getD i 0) := by simp [List.getD, hi]
  rw [e]
  dsimp only
  rw [zI_nat]
theorem wd_b : ∀ w, w ∈ [wFr, wLi, wLo, wPr, wPt, wPu, wTo] → w.length ≤ 6 ∧ ∀ i, i < 10 → w.getD i 0 < 256 := by decide
section KL3
variable {S S2 K : Sc} {kp : Int} {X : Xm} {T : Sc} {nC : Nat → Int} {E : Nat → Nat → Int64} {z : Int} {zn : Nat} {B : Nat → Int32} {Y : Yt} {f : Nat → Int} {t : Option Nat} {Rf : Nat → Int32} {D : AM}
theorem k_isWord {d s a : Nat} {w : List Nat} {x : Int} (hz : z = (zn : Int)) (hz2 : zn ≤ 250) (hb : BB B z) (hs : s ≤ zn) (ha : 1000000 < a) (hw : strT a = some w) (hwm : w ∈ [wFr, wLi, wLo, wPr, wPt, wPu, wTo]) : callD (d + 2) 71 [.ref 65, .ref a] (H S S2 K kp X T nC E z B ((yV f x (tkn B zn s) s (ten B zn s), t)) Rf D) = some (some (.int (zI (isW B zn s w))), (H S S2 K kp X T nC E z B ((yV f x (tkn B zn s) s (ten B zn s), t)) Rf D)) := by
  obtain ⟨hl, hch⟩ := wd_b w hwm
  have hby := fun (i : Nat) (hi : i ≤ 300) (f : Nat → Int) => k_byteAt (S := S) (S2 := S2) (K := K) (kp := kp) (X := X) (T := T) (nC := nC) (E := E) (z := z) (zn := zn) (B := B) (f := f) (t := t) (Rf := Rf) (D := D) (d := d) (i := i) hz hz2 hb hi
  have hbr := fun i => bt_r (hz ▸ hb) i
  have htb := tkn_b B zn s
  have heb := ten_b (B := B) hs
  have hsl := fun M => s_len (d := d) (M := M) ha hw
  have hrc : ∀ M as, rcv M 90 (.ref a :: as) = true := fun M as => rcv_90 ha
  rw [c_71 (is2_r _)]
  by_cases h1 : tkn B zn s = 1
  · by_cases h2 : ten B zn s = s + w.length
    · have e2 : ((ten B zn s : Nat) : Int) - (s : Int) = ((w.length : Nat) : Int) := by omega
      have hgo : den (callD (d + 1)) 71 0 [.ref 65, .ref a, uu] [] (H S S2 K kp X T nC E z B ((yV f x (tkn B zn s) s (ten B zn s), t)) Rf D) = den (callD (d + 1)) 71 28 [.ref 65, .ref a, .int (zI 0)] [] (H S S2 K kp X T nC E z B ((yV f x (tkn B zn s) s (ten B zn s), t)) Rf D) := by
        simp (disch := omega) only [e_71_0, e_71_1, e_71_4, e_71_5, e_71_8, e_71_9, e_71_12, e_71_13, e_71_16, e_71_17, e_71_18, e_71_21, e_71_24, e_71_25, e_71_26, e_71_27, gfA_i, pfA_i, List.getElem?_cons_zero, List.getElem?_cons_succ, oK_some, rK_some, pR_some, pR_none, kq_i, kq_r, kq_n, kq_u, kq_o, kq_l, isRf_r, isRf_n, isRf_o, okv_r, okv_n, okv_o, is2_r, is2_o, is2_n, rcv_r, isC_i, if_true, if_pos, zI_add, zI_sub, zI_mul, nc_12, nc_8, nc_6, nc_40, nc_250, nc_3, nc_s, len4_0, len4_1, len4_2, len4_3, len4_4, and_self, and_true, true_and, lenA_i, va_rf_s, va_rf_n, oN_none, oN_some, zI_lt, zI_eq, nat_tn, nc_s, Int.lt_irrefl, Int.reduceEq, Int.reduceNe, Int.reduceLT, Int.reduceLE, Int.reduceSub, Int.reduceAdd, Int.reduceMul, Int.reduceDiv, Int.reduceNeg, Int.reduceToNat, or_self, or_false, false_or, if_false, if_true, not_true_eq_false, not_false_eq_true, or_true, true_or, and_false, false_and, ldI_0, stI_0, ldQ_q, gfA_0, gfA_43, gfA_65, H_0, H_43, H_48, H_65, H_66, H_67, kq_l, isC_0, isC_43, isC_65, isC_sh, gfA_sh, c65_y, h1, e2, hrc, hsl]
      refine hgo.trans ?_
      refine loopQ (fun i (_ : Unit) => den (callD (d + 1)) 71 28 [.ref 65, .ref a, .int (zI i)] [] (H S S2 K kp X T nC E z B ((yV f x (tkn B zn s) s (ten B zn s), t)) Rf D)) (fun y => y = some (some (.int (zI (isW B zn s w))), (H S S2 K kp X T nC E z B ((yV f x (tkn B zn s) s (ten B zn s), t)) Rf D))) (fun i _ => ∀ j, j < i → bt B zn (s + j) = ((w.getD j 0 : Nat) : Int)) w.length (fun i c hi hI => ?_) (fun c hI => ?_) w.length 0 () (by omega) (fun j hj => absurd hj (Nat.not_lt_zero j))
      · have hbi := hby (s + i) (by omega) (yV f x (tkn B zn s) s (ten B zn s))
        have hbi' := hbr (s + i)
        have hsa := fun M => s_at (d := d) (M := M) ha hw hi (by omega)
        have hci := hch i (by omega)
        rw [show ((s + i : Nat) : Int) = (s : Int) + (i : Int) by omega] at hbi
        by_cases h : bt B zn (s + i) = ((w.getD i 0 : Nat) : Int)
        · left
          refine ⟨(), ?_, fun j hj => ?_⟩
          · try dsimp only
            conv => lhs; rw [e_71_28]
            rw [h] at hbi
            simp (disch := omega) only [e_71_29, e_71_30, e_71_33, e_71_36, e_71_37, e_71_38, e_71_41, e_71_42, e_71_43, e_71_46, e_71_47, e_71_48, e_71_51, e_71_54, e_71_55, e_71_56, e_71_59, gfA_i, pfA_i, List.getElem?_cons_zero, List.getElem?_cons_succ, oK_some, rK_some, pR_some, pR_none, kq_i, kq_r, kq_n, kq_u, kq_o, kq_l, isRf_r, isRf_n, isRf_o, okv_r, okv_n, okv_o, is2_r, is2_o, is2_n, rcv_r, isC_i, if_true, if_pos, zI_add, zI_sub, zI_mul, nc_12, nc_8, nc_6, nc_40, nc_250, nc_3, nc_s, len4_0, len4_1, len4_2, len4_3, len4_4, and_self, and_true, true_and, lenA_i, va_rf_s, va_rf_n, oN_none, oN_some, zI_lt, zI_eq, nat_tn, nc_s, Int.lt_irrefl, Int.reduceEq, Int.reduceNe, Int.reduceLT, Int.reduceLE, Int.reduceSub, Int.reduceAdd, Int.reduceMul, Int.reduceDiv, Int.reduceNeg, Int.reduceToNat, or_self, or_false, false_or, if_false, if_true, not_true_eq_false, not_false_eq_true, or_true, true_or, and_false, false_and, ldI_0, stI_0, ldQ_q, gfA_0, gfA_43, gfA_65, H_0, H_43, H_48, H_65, H_66, H_67, kq_l, isC_0, isC_43, isC_65, isC_sh, gfA_sh, c65_y, isC_i, hrc, hsl, hsa, hbi]
          · by_cases ej : j = i
            · rw [ej]; exact h
            · exact hI j (by omega)
        · right
          rw [isW_0 (fun q => h (q.2.2 i hi))]
          try dsimp only
          conv => lhs; rw [e_71_28]
          have h' : ¬ ((w.getD i 0 : Nat) : Int) = bt B zn (s + i) := fun q => h q.symm
          simp (disch := omega) only [e_71_29, e_71_30, e_71_33, e_71_36, e_71_37, e_71_38, e_71_41, e_71_42, e_71_43, e_71_46, e_71_47, e_71_48, e_71_51, e_71_54, e_71_55, e_71_56, e_71_59, gfA_i, pfA_i, List.getElem?_cons_zero, List.getElem?_cons_succ, oK_some, rK_some, pR_some, pR_none, kq_i, kq_r, kq_n, kq_u, kq_o, kq_l, isRf_r, isRf_n, isRf_o, okv_r, okv_n, okv_o, is2_r, is2_o, is2_n, rcv_r, isC_i, if_true, if_pos, zI_add, zI_sub, zI_mul, nc_12, nc_8, nc_6, nc_40, nc_250, nc_3, nc_s, len4_0, len4_1, len4_2, len4_3, len4_4, and_self, and_true, true_and, lenA_i, va_rf_s, va_rf_n, oN_none, oN_some, zI_lt, zI_eq, nat_tn, nc_s, Int.lt_irrefl, Int.reduceEq, Int.reduceNe, Int.reduceLT, Int.reduceLE, Int.reduceSub, Int.reduceAdd, Int.reduceMul, Int.reduceDiv, Int.reduceNeg, Int.reduceToNat, or_self, or_false, false_or, if_false, if_true, not_true_eq_false, not_false_eq_true, or_true, true_or, and_false, false_and, ldI_0, stI_0, ldQ_q, gfA_0, gfA_43, gfA_65, H_0, H_43, H_48, H_65, H_66, H_67, kq_l, isC_0, isC_43, isC_65, isC_sh, gfA_sh, c65_y, isC_i, hrc, hsl, hsa, hbi, h']
      · rw [isW_1 ⟨h1, h2, hI⟩]
        try dsimp only
        rw [e_71_28]
        simp (disch := omega) only [e_71_29, e_71_30, e_71_33, e_71_62, e_71_63, gfA_i, pfA_i, List.getElem?_cons_zero, List.getElem?_cons_succ, oK_some, rK_some, pR_some, pR_none, kq_i, kq_r, kq_n, kq_u, kq_o, kq_l, isRf_r, isRf_n, isRf_o, okv_r, okv_n, okv_o, is2_r, is2_o, is2_n, rcv_r, isC_i, if_true, if_pos, zI_add, zI_sub, zI_mul, nc_12, nc_8, nc_6, nc_40, nc_250, nc_3, nc_s, len4_0, len4_1, len4_2, len4_3, len4_4, and_self, and_true, true_and, lenA_i, va_rf_s, va_rf_n, oN_none, oN_some, zI_lt, zI_eq, nat_tn, nc_s, Int.lt_irrefl, Int.reduceEq, Int.reduceNe, Int.reduceLT, Int.reduceLE, Int.reduceSub, Int.reduceAdd, Int.reduceMul, Int.reduceDiv, Int.reduceNeg, Int.reduceToNat, or_self, or_false, false_or, if_false, if_true, not_true_eq_false, not_false_eq_true, or_true, true_or, and_false, false_and, ldI_0, stI_0, ldQ_q, gfA_0, gfA_43, gfA_65, H_0, H_43, H_48, H_65, H_66, H_67, kq_l, isC_0, isC_43, isC_65, isC_sh, gfA_sh, hrc, hsl]
    · rw [isW_0 (fun q => h2 q.2.1)]
      have e2 : ¬ ((ten B zn s : Nat) : Int) - (s : Int) = ((w.length : Nat) : Int) := by omega
      simp (disch := omega) only [e_71_0, e_71_1, e_71_4, e_71_5, e_71_8, e_71_9, e_71_12, e_71_13, e_71_16, e_71_17, e_71_18, e_71_21, e_71_24, e_71_25, gfA_i, pfA_i, List.getElem?_cons_zero, List.getElem?_cons_succ, oK_some, rK_some, pR_some, pR_none, kq_i, kq_r, kq_n, kq_u, kq_o, kq_l, isRf_r, isRf_n, isRf_o, okv_r, okv_n, okv_o, is2_r, is2_o, is2_n, rcv_r, isC_i, if_true, if_pos, zI_add, zI_sub, zI_mul, nc_12, nc_8, nc_6, nc_40, nc_250, nc_3, nc_s, len4_0, len4_1, len4_2, len4_3, len4_4, and_self, and_true, true_and, lenA_i, va_rf_s, va_rf_n, oN_none, oN_some, zI_lt, zI_eq, nat_tn, nc_s, Int.lt_irrefl, Int.reduceEq, Int.reduceNe, Int.reduceLT, Int.reduceLE, Int.reduceSub, Int.reduceAdd, Int.reduceMul, Int.reduceDiv, Int.reduceNeg, Int.reduceToNat, or_self, or_false, false_or, if_false, if_true, not_true_eq_false, not_false_eq_true, or_true, true_or, and_false, false_and, ldI_0, stI_0, ldQ_q, gfA_0, gfA_43, gfA_65, H_0, H_43, H_48, H_65, H_66, H_67, kq_l, isC_0, isC_43, isC_65, isC_sh, gfA_sh, c65_y, h1, e2, hrc, hsl]
  · rw [isW_0 (fun q => h1 q.1)]
    simp (disch := omega) only [e_71_0, e_71_1, e_71_4, e_71_5, e_71_8, e_71_9, e_71_12, e_71_13, e_71_16, e_71_17, e_71_18, e_71_21, e_71_24, e_71_25, gfA_i, pfA_i, List.getElem?_cons_zero, List.getElem?_cons_succ, oK_some, rK_some, pR_some, pR_none, kq_i, kq_r, kq_n, kq_u, kq_o, kq_l, isRf_r, isRf_n, isRf_o, okv_r, okv_n, okv_o, is2_r, is2_o, is2_n, rcv_r, isC_i, if_true, if_pos, zI_add, zI_sub, zI_mul, nc_12, nc_8, nc_6, nc_40, nc_250, nc_3, nc_s, len4_0, len4_1, len4_2, len4_3, len4_4, and_self, and_true, true_and, lenA_i, va_rf_s, va_rf_n, oN_none, oN_some, zI_lt, zI_eq, nat_tn, nc_s, Int.lt_irrefl, Int.reduceEq, Int.reduceNe, Int.reduceLT, Int.reduceLE, Int.reduceSub, Int.reduceAdd, Int.reduceMul, Int.reduceDiv, Int.reduceNeg, Int.reduceToNat, or_self, or_false, false_or, if_false, if_true, not_true_eq_false, not_false_eq_true, or_true, true_or, and_false, false_and, ldI_0, stI_0, ldQ_q, gfA_0, gfA_43, gfA_65, H_0, H_43, H_48, H_65, H_66, H_67, kq_l, isC_0, isC_43, isC_65, isC_sh, gfA_sh, c65_y, h1]
theorem k_faulty {d : Nat} {a b c e : Int} : callD (d + 1) 63 [.ref 65] (H S S2 K kp X T nC E z B ((yV f a b c e, t)) Rf D) = some (some (.int (zI 0)), (H S S2 K kp X T nC E z B ((yV f c b c e, t)) Rf D)) := by
  rw [c_63]
  simp (disch := omega) only [e_63_0, e_63_1, e_63_2, e_63_5, e_63_8, e_63_9, gfA_i, pfA_i, List.getElem?_cons_zero, List.getElem?_cons_succ, oK_some, rK_some, pR_some, pR_none, kq_i, kq_r, kq_n, kq_u, kq_o, kq_l, isRf_r, isRf_n, isRf_o, okv_r, okv_n, okv_o, is2_r, is2_o, is2_n, rcv_r, isC_i, if_true, if_pos, zI_add, zI_sub, zI_mul, nc_12, nc_8, nc_6, nc_40, nc_250, nc_3, nc_s, len4_0, len4_1, len4_2, len4_3, len4_4, and_self, and_true, true_and, lenA_i, va_rf_s, va_rf_n, oN_none, oN_some, zI_lt, zI_eq, nat_tn, nc_s, Int.lt_irrefl, Int.reduceEq, Int.reduceNe, Int.reduceLT, Int.reduceLE, Int.reduceSub, Int.reduceAdd, Int.reduceMul, Int.reduceDiv, Int.reduceNeg, Int.reduceToNat, or_self, or_false, false_or, if_false, if_true, not_true_eq_false, not_false_eq_true, or_true, true_or, and_false, false_and, ldI_0, stI_0, ldQ_q, gfA_0, gfA_43, gfA_65, H_0, H_43, H_48, H_65, H_66, H_67, kq_l, isC_0, isC_43, isC_65, isC_sh, gfA_sh, c65_y, mU_at, mU_mU, List.set_cons_succ, List.set_cons_zero, okv_0, okv_1, okv_i, okv_r, okv_n, okv_o, List.length_cons, List.length_nil, Nat.reduceAdd, Nat.reduceLT, Nat.zero_le, Nat.reduceLeDiff, mU65_y]
theorem k_numL {d s : Nat} {a m : Int} (hz : z = (zn : Int)) (hz2 : zn ≤ 250) (hb : BB B z) (hs : s ≤ zn) : ∃ x : Int32, den (callD (d + 1)) 70 11 [.ref 65, .int (zI m), .int (zI 0), .int (zI s)] [] (H S S2 K kp X T nC E z B ((yV f a (tkn B zn s) s (ten B zn s), t)) Rf D) = den (callD (d + 1)) 70 39 [.ref 65, .int (zI m), .int x, .int (zI (ten B zn s))] [] (H S S2 K kp X T nC E z B ((yV f a (tkn B zn s) s (ten B zn s), t)) Rf D) ∧ (tkn B zn s = 2 → ten B zn s ≤ s + 2 → x = zI (nvl B zn s)) := by
  have heb := ten_b (B := B) hs
  have hby := fun (i : Nat) (hi : i ≤ 300) (f : Nat → Int) => k_byteAt (S := S) (S2 := S2) (K := K) (kp := kp) (X := X) (T := T) (nC := nC) (E := E) (z := z) (zn := zn) (B := B) (f := f) (t := t) (Rf := Rf) (D := D) (d := d) (i := i) hz hz2 hb hi
  refine ⟨fN (fun i (x : Int32) => zI 10 * x + zI (bt B zn i) - zI 48) (ten B zn s - s) s (zI 0), ?_, fun h1 h2 => ?_⟩
  · have hlo := loopN (fun i (x : Int32) => den (callD (d + 1)) 70 11 [.ref 65, .int (zI m), .int x, .int (zI i)] [] (H S S2 K kp X T nC E z B ((yV f a (tkn B zn s) s (ten B zn s), t)) Rf D)) (fun i (x : Int32) => zI 10 * x + zI (bt B zn i) - zI 48) (ten B zn s) (fun i x hi => by
      have hbi := hby i (by omega) (yV f a (tkn B zn s) s (ten B zn s))
      try dsimp only
      conv => lhs; rw [e_70_11]
      simp (disch := omega) only [e_70_12, e_70_13, e_70_16, e_70_19, e_70_21, e_70_22, e_70_23, e_70_24, e_70_25, e_70_28, e_70_29, e_70_31, e_70_32, e_70_33, e_70_36, gfA_i, pfA_i, List.getElem?_cons_zero, List.getElem?_cons_succ, oK_some, rK_some, pR_some, pR_none, kq_i, kq_r, kq_n, kq_u, kq_o, kq_l, isRf_r, isRf_n, isRf_o, okv_r, okv_n, okv_o, is2_r, is2_o, is2_n, rcv_r, isC_i, if_true, if_pos, zI_add, zI_sub, zI_mul, nc_12, nc_8, nc_6, nc_40, nc_250, nc_3, nc_s, len4_0, len4_1, len4_2, len4_3, len4_4, and_self, and_true, true_and, lenA_i, va_rf_s, va_rf_n, oN_none, oN_some, zI_lt, zI_eq, nat_tn, nc_s, Int.lt_irrefl, Int.reduceEq, Int.reduceNe, Int.reduceLT, Int.reduceLE, Int.reduceSub, Int.reduceAdd, Int.reduceMul, Int.reduceDiv, Int.reduceNeg, Int.reduceToNat, or_self, or_false, false_or, if_false, if_true, not_true_eq_false, not_false_eq_true, or_true, true_or, and_false, false_and, ldI_0, stI_0, ldQ_q, gfA_0, gfA_43, gfA_65, H_0, H_43, H_48, H_65, H_66, H_67, kq_l, isC_0, isC_43, isC_65, isC_sh, gfA_sh, c65_y, isC_i, hbi]) (ten B zn s - s) s (zI 0) (by omega)
    refine hlo.trans ?_
    try dsimp only
    rw [e_70_11]
    simp (disch := omega) only [e_70_12, e_70_13, e_70_16, gfA_i, pfA_i, List.getElem?_cons_zero, List.getElem?_cons_succ, oK_some, rK_some, pR_some, pR_none, kq_i, kq_r, kq_n, kq_u, kq_o, kq_l, isRf_r, isRf_n, isRf_o, okv_r, okv_n, okv_o, is2_r, is2_o, is2_n, rcv_r, isC_i, if_true, if_pos, zI_add, zI_sub, zI_mul, nc_12, nc_8, nc_6, nc_40, nc_250, nc_3, nc_s, len4_0, len4_1, len4_2, len4_3, len4_4, and_self, and_true, true_and, lenA_i, va_rf_s, va_rf_n, oN_none, oN_some, zI_lt, zI_eq, nat_tn, nc_s, Int.lt_irrefl, Int.reduceEq, Int.reduceNe, Int.reduceLT, Int.reduceLE, Int.reduceSub, Int.reduceAdd, Int.reduceMul, Int.reduceDiv, Int.reduceNeg, Int.reduceToNat, or_self, or_false, false_or, if_false, if_true, not_true_eq_false, not_false_eq_true, or_true, true_or, and_false, false_and, ldI_0, stI_0, ldQ_q, gfA_0, gfA_43, gfA_65, H_0, H_43, H_48, H_65, H_66, H_67, kq_l, isC_0, isC_43, isC_65, isC_sh, gfA_sh, c65_y]
  · have h3 := heb.2.2 (by omega)
    unfold nvl
    by_cases e1 : ten B zn s = s + 1
    · rw [if_pos e1, show ten B zn s - s = 0 + 1 by omega]
      show zI 10 * zI 0 + zI (bt B zn s) - zI 48 = _
      rw [zI_mul, zI_add, zI_sub]
      unfold dg
      congr 1
      omega
    · rw [if_neg e1, if_pos (by omega), show ten B zn s - s = 0 + 1 + 1 by omega]
      show zI 10 * (zI 10 * zI 0 + zI (bt B zn s) - zI 48) + zI (bt B zn (s + 1)) - zI 48 = _
      rw [zI_mul, zI_add, zI_sub, zI_mul, zI_add, zI_sub]
      unfold dg
      congr 1
      omega
theorem k_num_s {d p : Nat} {a b c m : Int} (hz : z = (zn : Int)) (hz2 : zn ≤ 250) (hb : BB B z) (hp : p ≤ zn) (hm : -1 ≤ m ∧ m ≤ 100) (h : tkn B zn (tst B zn p) = 2 ∧ nvl B zn (tst B zn p) ≤ m) : callD (d + 3) 70 [.ref 65, .int (zI m)] (H S S2 K kp X T nC E z B ((yV f a b c p, t)) Rf D) = some (some (.int (zI (nvl B zn (tst B zn p)))), (H S S2 K kp X T nC E z B ((yV f a 2 (tst B zn p) (ten B zn (tst B zn p)), t)) Rf D)) := by
  have hsb := tst_b (B := B) hp
  have heb := ten_b (B := B) hsb.2
  have hnv := nvl_b h.1 hsb.2
  have hnx := k_next (S2 := S2) (f := f) (t := t) (S := S) (K := K) (kp := kp) (X := X) (T := T) (nC := nC) (E := E) (z := z) (zn := zn) (B := B) (Rf := Rf) (D := D) (d := d) (a := a) (b := b) (c := c) hz hz2 hb hp
  obtain ⟨x, h1, h2⟩ := k_numL (S2 := S2) (f := f) (t := t) (S := S) (K := K) (kp := kp) (X := X) (T := T) (nC := nC) (E := E) (z := z) (zn := zn) (B := B) (Rf := Rf) (D := D) (d := d + 1) (a := a) (m := m) hz hz2 hb hsb.2
  have hx := h2 h.1 (by omega)
  rw [hx] at h1
  rw [h.1] at h1 hnx
  have e1 : ¬ (2 : Int) < ((ten B zn (tst B zn p) : Nat) : Int) - ((tst B zn p : Nat) : Int) := by omega
  have e2 : ¬ m < nvl B zn (tst B zn p) := by omega
  rw [c_70]
  simp (disch := omega) only [e_70_0, e_70_1, e_70_4, e_70_5, e_70_6, e_70_7, e_70_10, gfA_i, pfA_i, List.getElem?_cons_zero, List.getElem?_cons_succ, oK_some, rK_some, pR_some, pR_none, kq_i, kq_r, kq_n, kq_u, kq_o, kq_l, isRf_r, isRf_n, isRf_o, okv_r, okv_n, okv_o, is2_r, is2_o, is2_n, rcv_r, isC_i, if_true, if_pos, zI_add, zI_sub, zI_mul, nc_12, nc_8, nc_6, nc_40, nc_250, nc_3, nc_s, len4_0, len4_1, len4_2, len4_3, len4_4, and_self, and_true, true_and, lenA_i, va_rf_s, va_rf_n, oN_none, oN_some, zI_lt, zI_eq, nat_tn, nc_s, Int.lt_irrefl, Int.reduceEq, Int.reduceNe, Int.reduceLT, Int.reduceLE, Int.reduceSub, Int.reduceAdd, Int.reduceMul, Int.reduceDiv, Int.reduceNeg, Int.reduceToNat, or_self, or_false, false_or, if_false, if_true, not_true_eq_false, not_false_eq_true, or_true, true_or, and_false, false_and, ldI_0, stI_0, ldQ_q, gfA_0, gfA_43, gfA_65, H_0, H_43, H_48, H_65, H_66, H_67, kq_l, isC_0, isC_43, isC_65, isC_sh, gfA_sh, H_65, isC_65, c65_y, hnx]
  refine h1.trans ?_
  simp (disch := omega) only [e_70_39, e_70_40, e_70_43, e_70_44, e_70_47, e_70_48, e_70_51, e_70_52, e_70_55, e_70_56, e_70_57, e_70_60, e_70_61, e_70_62, e_70_65, e_70_66, e_70_69, e_70_70, e_70_71, e_70_72, e_70_73, gfA_i, pfA_i, List.getElem?_cons_zero, List.getElem?_cons_succ, oK_some, rK_some, pR_some, pR_none, kq_i, kq_r, kq_n, kq_u, kq_o, kq_l, isRf_r, isRf_n, isRf_o, okv_r, okv_n, okv_o, is2_r, is2_o, is2_n, rcv_r, isC_i, if_true, if_pos, zI_add, zI_sub, zI_mul, nc_12, nc_8, nc_6, nc_40, nc_250, nc_3, nc_s, len4_0, len4_1, len4_2, len4_3, len4_4, and_self, and_true, true_and, lenA_i, va_rf_s, va_rf_n, oN_none, oN_some, zI_lt, zI_eq, nat_tn, nc_s, Int.lt_irrefl, Int.reduceEq, Int.reduceNe, Int.reduceLT, Int.reduceLE, Int.reduceSub, Int.reduceAdd, Int.reduceMul, Int.reduceDiv, Int.reduceNeg, Int.reduceToNat, or_self, or_false, false_or, if_false, if_true, not_true_eq_false, not_false_eq_true, or_true, true_or, and_false, false_and, ldI_0, stI_0, ldQ_q, gfA_0, gfA_43, gfA_65, H_0, H_43, H_48, H_65, H_66, H_67, kq_l, isC_0, isC_43, isC_65, isC_sh, gfA_sh, c65_y, e1, e2]
theorem k_num_n {d p : Nat} {a b c m : Int} (hz : z = (zn : Int)) (hz2 : zn ≤ 250) (hb : BB B z) (hp : p ≤ zn) (hm : -1 ≤ m ∧ m ≤ 100) (h : ¬ (tkn B zn (tst B zn p) = 2 ∧ nvl B zn (tst B zn p) ≤ m)) : callD (d + 3) 70 [.ref 65, .int (zI m)] (H S S2 K kp X T nC E z B ((yV f a b c p, t)) Rf D) = some (some (.int (zI (-1))), (H S S2 K kp X T nC E z B ((yV f (tst B zn p) (tkn B zn (tst B zn p)) (tst B zn p) (ten B zn (tst B zn p)), t)) Rf D)) := by
  have hsb := tst_b (B := B) hp
  have heb := ten_b (B := B) hsb.2
  have htb := tkn_b B zn (tst B zn p)
  have hnx := k_next (S2 := S2) (f := f) (t := t) (S := S) (K := K) (kp := kp) (X := X) (T := T) (nC := nC) (E := E) (z := z) (zn := zn) (B := B) (Rf := Rf) (D := D) (d := d) (a := a) (b := b) (c := c) hz hz2 hb hp
  obtain ⟨x, h1, h2⟩ := k_numL (S2 := S2) (f := f) (t := t) (S := S) (K := K) (kp := kp) (X := X) (T := T) (nC := nC) (E := E) (z := z) (zn := zn) (B := B) (Rf := Rf) (D := D) (d := d + 1) (a := a) (m := m) hz hz2 hb hsb.2
  have hfa : callD (d + 2) 63 [.ref 65] (H S S2 K kp X T nC E z B ((yV f a (tkn B zn (tst B zn p)) (tst B zn p) (ten B zn (tst B zn p)), t)) Rf D) = _ := k_faulty (d := d + 1)
  rw [c_70]
  simp (disch := omega) only [e_70_0, e_70_1, e_70_4, e_70_5, e_70_6, e_70_7, e_70_10, gfA_i, pfA_i, List.getElem?_cons_zero, List.getElem?_cons_succ, oK_some, rK_some, pR_some, pR_none, kq_i, kq_r, kq_n, kq_u, kq_o, kq_l, isRf_r, isRf_n, isRf_o, okv_r, okv_n, okv_o, is2_r, is2_o, is2_n, rcv_r, isC_i, if_true, if_pos, zI_add, zI_sub, zI_mul, nc_12, nc_8, nc_6, nc_40, nc_250, nc_3, nc_s, len4_0, len4_1, len4_2, len4_3, len4_4, and_self, and_true, true_and, lenA_i, va_rf_s, va_rf_n, oN_none, oN_some, zI_lt, zI_eq, nat_tn, nc_s, Int.lt_irrefl, Int.reduceEq, Int.reduceNe, Int.reduceLT, Int.reduceLE, Int.reduceSub, Int.reduceAdd, Int.reduceMul, Int.reduceDiv, Int.reduceNeg, Int.reduceToNat, or_self, or_false, false_or, if_false, if_true, not_true_eq_false, not_false_eq_true, or_true, true_or, and_false, false_and, ldI_0, stI_0, ldQ_q, gfA_0, gfA_43, gfA_65, H_0, H_43, H_48, H_65, H_66, H_67, kq_l, isC_0, isC_43, isC_65, isC_sh, gfA_sh, H_65, isC_65, c65_y, hnx]
  refine h1.trans ?_
  by_cases g1 : tkn B zn (tst B zn p) = 2
  · have hnv := nvl_b g1 hsb.2
    rw [g1] at hfa ⊢
    by_cases g2 : ((ten B zn (tst B zn p) : Nat) : Int) - ((tst B zn p : Nat) : Int) ≤ 2
    · have e1 : ¬ (2 : Int) < ((ten B zn (tst B zn p) : Nat) : Int) - ((tst B zn p : Nat) : Int) := by omega
      have hx := h2 g1 (by omega)
      have g3 : m < nvl B zn (tst B zn p) := by omega
      rw [hx]
      simp (disch := omega) only [e_70_39, e_70_40, e_70_43, e_70_44, e_70_47, e_70_48, e_70_51, e_70_52, e_70_55, e_70_56, e_70_57, e_70_60, e_70_61, e_70_62, e_70_65, e_70_66, e_70_69, e_70_70, e_70_71, gfA_i, pfA_i, List.getElem?_cons_zero, List.getElem?_cons_succ, oK_some, rK_some, pR_some, pR_none, kq_i, kq_r, kq_n, kq_u, kq_o, kq_l, isRf_r, isRf_n, isRf_o, okv_r, okv_n, okv_o, is2_r, is2_o, is2_n, rcv_r, isC_i, if_true, if_pos, zI_add, zI_sub, zI_mul, nc_12, nc_8, nc_6, nc_40, nc_250, nc_3, nc_s, len4_0, len4_1, len4_2, len4_3, len4_4, and_self, and_true, true_and, lenA_i, va_rf_s, va_rf_n, oN_none, oN_some, zI_lt, zI_eq, nat_tn, nc_s, Int.lt_irrefl, Int.reduceEq, Int.reduceNe, Int.reduceLT, Int.reduceLE, Int.reduceSub, Int.reduceAdd, Int.reduceMul, Int.reduceDiv, Int.reduceNeg, Int.reduceToNat, or_self, or_false, false_or, if_false, if_true, not_true_eq_false, not_false_eq_true, or_true, true_or, and_false, false_and, ldI_0, stI_0, ldQ_q, gfA_0, gfA_43, gfA_65, H_0, H_43, H_48, H_65, H_66, H_67, kq_l, isC_0, isC_43, isC_65, isC_sh, gfA_sh, c65_y, isC_i, e1, g3, hfa]
    · have e1 : (2 : Int) < ((ten B zn (tst B zn p) : Nat) : Int) - ((tst B zn p : Nat) : Int) := by omega
      simp (disch := omega) only [e_70_39, e_70_40, e_70_43, e_70_44, e_70_47, e_70_48, e_70_51, e_70_52, e_70_55, e_70_56, e_70_57, e_70_60, e_70_61, e_70_62, e_70_65, e_70_66, e_70_69, e_70_70, e_70_71, gfA_i, pfA_i, List.getElem?_cons_zero, List.getElem?_cons_succ, oK_some, rK_some, pR_some, pR_none, kq_i, kq_r, kq_n, kq_u, kq_o, kq_l, isRf_r, isRf_n, isRf_o, okv_r, okv_n, okv_o, is2_r, is2_o, is2_n, rcv_r, isC_i, if_true, if_pos, zI_add, zI_sub, zI_mul, nc_12, nc_8, nc_6, nc_40, nc_250, nc_3, nc_s, len4_0, len4_1, len4_2, len4_3, len4_4, and_self, and_true, true_and, lenA_i, va_rf_s, va_rf_n, oN_none, oN_some, zI_lt, zI_eq, nat_tn, nc_s, Int.lt_irrefl, Int.reduceEq, Int.reduceNe, Int.reduceLT, Int.reduceLE, Int.reduceSub, Int.reduceAdd, Int.reduceMul, Int.reduceDiv, Int.reduceNeg, Int.reduceToNat, or_self, or_false, false_or, if_false, if_true, not_true_eq_false, not_false_eq_true, or_true, true_or, and_false, false_and, ldI_0, stI_0, ldQ_q, gfA_0, gfA_43, gfA_65, H_0, H_43, H_48, H_65, H_66, H_67, kq_l, isC_0, isC_43, isC_65, isC_sh, gfA_sh, c65_y, isC_i, e1, hfa]
  · simp (disch := omega) only [e_70_39, e_70_40, e_70_43, e_70_44, e_70_47, e_70_48, e_70_51, e_70_52, e_70_55, e_70_56, e_70_57, e_70_60, e_70_61, e_70_62, e_70_65, e_70_66, e_70_69, e_70_70, e_70_71, gfA_i, pfA_i, List.getElem?_cons_zero, List.getElem?_cons_succ, oK_some, rK_some, pR_some, pR_none, kq_i, kq_r, kq_n, kq_u, kq_o, kq_l, isRf_r, isRf_n, isRf_o, okv_r, okv_n, okv_o, is2_r, is2_o, is2_n, rcv_r, isC_i, if_true, if_pos, zI_add, zI_sub, zI_mul, nc_12, nc_8, nc_6, nc_40, nc_250, nc_3, nc_s, len4_0, len4_1, len4_2, len4_3, len4_4, and_self, and_true, true_and, lenA_i, va_rf_s, va_rf_n, oN_none, oN_some, zI_lt, zI_eq, nat_tn, nc_s, Int.lt_irrefl, Int.reduceEq, Int.reduceNe, Int.reduceLT, Int.reduceLE, Int.reduceSub, Int.reduceAdd, Int.reduceMul, Int.reduceDiv, Int.reduceNeg, Int.reduceToNat, or_self, or_false, false_or, if_false, if_true, not_true_eq_false, not_false_eq_true, or_true, true_or, and_false, false_and, ldI_0, stI_0, ldQ_q, gfA_0, gfA_43, gfA_65, H_0, H_43, H_48, H_65, H_66, H_67, kq_l, isC_0, isC_43, isC_65, isC_sh, gfA_sh, c65_y, isC_i, g1, hfa]
theorem k_one_s {d p x : Nat} {a b c : Int} (hI : In S2) (hz : z = (zn : Int)) (hz2 : zn ≤ 250) (hb : BB B z) (hp : p ≤ zn) (h : tkn B zn (tst B zn p) = 2 ∧ nvl B zn (tst B zn p) ≤ S2 8 0 - 1) (hx : nvl B zn (tst B zn p) = (x : Int)) : callD (d + 4) 69 [.ref 65] (H S S2 K kp X T nC E z B ((yV f a b c p, some 15)) Rf D) = some (some (.ref (15 + 2 + x)), (H S S2 K kp X T nC E z B ((yV f a 2 (tst B zn p) (ten B zn (tst B zn p)), some 15)) Rf D)) := by
  have hR : ∀ Y, RS (H S S2 K kp X T nC E z B (Y) Rf D) 15 S2 := fun Y => RS_15
  have hc := hI.1
  have hn := k_num_s (S2 := S2) (f := f) (t := some 15) (S := S) (K := K) (kp := kp) (X := X) (T := T) (nC := nC) (E := E) (z := z) (zn := zn) (B := B) (Rf := Rf) (D := D) (d := d) (a := a) (b := b) (c := c) (m := S2 8 0 - 1) hz hz2 hb hp (by omega) h
  rw [hx] at hn
  have hat := m_at_s (d := d + 2) (i := x) hI (hR (yV f a 2 (tst B zn p) (ten B zn (tst B zn p)), some 15)) (by omega)
  rw [c_69]
  simp (disch := omega) only [e_69_0, e_69_1, e_69_4, e_69_5, e_69_6, e_69_9, e_69_12, e_69_13, e_69_14, e_69_17, e_69_20, gfA_i, pfA_i, List.getElem?_cons_zero, List.getElem?_cons_succ, oK_some, rK_some, pR_some, pR_none, kq_i, kq_r, kq_n, kq_u, kq_o, kq_l, isRf_r, isRf_n, isRf_o, okv_r, okv_n, okv_o, is2_r, is2_o, is2_n, rcv_r, isC_i, if_true, if_pos, zI_add, zI_sub, zI_mul, nc_12, nc_8, nc_6, nc_40, nc_250, nc_3, nc_s, len4_0, len4_1, len4_2, len4_3, len4_4, and_self, and_true, true_and, lenA_i, va_rf_s, va_rf_n, oN_none, oN_some, zI_lt, zI_eq, nat_tn, nc_s, Int.lt_irrefl, Int.reduceEq, Int.reduceNe, Int.reduceLT, Int.reduceLE, Int.reduceSub, Int.reduceAdd, Int.reduceMul, Int.reduceDiv, Int.reduceNeg, Int.reduceToNat, or_self, or_false, false_or, if_false, if_true, not_true_eq_false, not_false_eq_true, or_true, true_or, and_false, false_and, ldI_0, stI_0, ldQ_q, gfA_0, gfA_43, gfA_65, H_0, H_43, H_48, H_65, H_66, H_67, kq_l, isC_0, isC_43, isC_65, isC_sh, gfA_sh, c65_y, (hR _).1, hn, hat]
theorem k_one_n {d p : Nat} {a b c : Int} (hI : In S2) (hz : z = (zn : Int)) (hz2 : zn ≤ 250) (hb : BB B z) (hp : p ≤ zn) (h : ¬ (tkn B zn (tst B zn p) = 2 ∧ nvl B zn (tst B zn p) ≤ S2 8 0 - 1)) : callD (d + 4) 69 [.ref 65] (H S S2 K kp X T nC E z B ((yV f a b c p, some 15)) Rf D) = some (some .null, (H S S2 K kp X T nC E z B ((yV f (tst B zn p) (tkn B zn (tst B zn p)) (tst B zn p) (ten B zn (tst B zn p)), some 15)) Rf D)) := by
  have hR : ∀ Y, RS (H S S2 K kp X T nC E z B (Y) Rf D) 15 S2 := fun Y => RS_15
  have hc := hI.1
  have hn := k_num_n (S2 := S2) (f := f) (t := some 15) (S := S) (K := K) (kp := kp) (X := X) (T := T) (nC := nC) (E := E) (z := z) (zn := zn) (B := B) (Rf := Rf) (D := D) (d := d) (a := a) (b := b) (c := c) (m := S2 8 0 - 1) hz hz2 hb hp (by omega) h
  have hat := m_at_n (d := d + 2) hI (hR (yV f (tst B zn p) (tkn B zn (tst B zn p)) (tst B zn p) (ten B zn (tst B zn p)), some 15)) (a := -1) (by unfold i32; omega) (by omega)
  rw [c_69]
  simp (disch := omega) only [e_69_0, e_69_1, e_69_4, e_69_5, e_69_6, e_69_9, e_69_12, e_69_13, e_69_14, e_69_17, e_69_20, gfA_i, pfA_i, List.getElem?_cons_zero, List.getElem?_cons_succ, oK_some, rK_some, pR_some, pR_none, kq_i, kq_r, kq_n, kq_u, kq_o, kq_l, isRf_r, isRf_n, isRf_o, okv_r, okv_n, okv_o, is2_r, is2_o, is2_n, rcv_r, isC_i, if_true, if_pos, zI_add, zI_sub, zI_mul, nc_12, nc_8, nc_6, nc_40, nc_250, nc_3, nc_s, len4_0, len4_1, len4_2, len4_3, len4_4, and_self, and_true, true_and, lenA_i, va_rf_s, va_rf_n, oN_none, oN_some, zI_lt, zI_eq, nat_tn, nc_s, Int.lt_irrefl, Int.reduceEq, Int.reduceNe, Int.reduceLT, Int.reduceLE, Int.reduceSub, Int.reduceAdd, Int.reduceMul, Int.reduceDiv, Int.reduceNeg, Int.reduceToNat, or_self, or_false, false_or, if_false, if_true, not_true_eq_false, not_false_eq_true, or_true, true_or, and_false, false_and, ldI_0, stI_0, ldQ_q, gfA_0, gfA_43, gfA_65, H_0, H_43, H_48, H_65, H_66, H_67, kq_l, isC_0, isC_43, isC_65, isC_sh, gfA_sh, c65_y, (hR _).1, hn, hat]
end KL3
