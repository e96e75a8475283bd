/-! what a method writes: cells, whole schools -/
theorem mU_at {M : AM} {a : Nat} {c : AC} : (mU M a c).2.2 a = c := if_pos rfl
theorem mU_ne {M : AM} {a q : Nat} {c : AC} (h : ¬ q = a) : (mU M a c).2.2 q = M.2.2 q := if_neg h
theorem mU_mU (M : AM) (a : Nat) (c c' : AC) : mU (mU M a c) a c' = mU M a c' := by
  unfold mU
  refine congrArg (fun z => (M.1, M.2.1, z)) (funext fun q => ?_)
  dsimp only
  split <;> rfl
theorem mU_3 {M : AM} {a b : Nat} {c c' c'' : AC} (h : ¬ a = b) : mU (mU (mU M a c) b c') a c'' = mU (mU M a c'') b c' := by
  unfold mU
  refine congrArg (fun z => (M.1, M.2.1, z)) (funext fun q => ?_)
  dsimp only
  by_cases h1 : q = a
  · subst h1; rw [if_pos rfl, if_neg h, if_pos rfl]
  · rw [if_neg h1, if_neg h1]; by_cases h2 : q = b
    · rw [if_pos h2, if_pos h2]
    · rw [if_neg h2, if_neg h2, if_neg h1]
theorem okv_0 : okv 1 (.int (zI 0)) = true := rfl
theorem okv_1 : okv 1 (.int (zI 1)) = true := rfl
theorem okv_b {z : Int} (h0 : 0 ≤ z) (h1 : z ≤ 1) : okv 1 (.int (zI z)) = true := by
  have : z = 0 ∨ z = 1 := by omega
  rcases this with rfl | rfl <;> rfl
theorem okv_i (x : Int32) : okv 0 (.int x) = true := rfl
def scl (S : Sc) (o : Nat) : AC := .inl (2, [.ref (o + 1), .int (zI (S 8 0)), .int (zI (S 8 1)), .int (zI (S 8 2)), .int (zI (S 8 3)), .int (zI (S 8 4)), .int (zI (S 8 5))])
def parr (o : Nat) : AC := .inr (2, 12, .inr (.inr fun i => if i < 12 then some (o + 2 + i) else none))
def putS (M : AM) (o : Nat) (S : Sc) : AM := (M.1, M.2.1, fun q => if q = o then scl S o else if q = o + 1 then parr o else if o + 2 ≤ q ∧ q < o + 14 then pcl S o (q - (o + 2)) else M.2.2 q)
theorem RS_put (M : AM) (o : Nat) (S : Sc) : RS (putS M o S) o S := by
  refine ⟨if_pos rfl, ?_, fun i hi => ?_⟩
  · show (if o + 1 = o then _ else if o + 1 = o + 1 then _ else _) = _
    rw [if_neg (by omega), if_pos rfl]; rfl
  · show (if o + 2 + i = o then _ else if o + 2 + i = o + 1 then _ else if o + 2 ≤ o + 2 + i ∧ o + 2 + i < o + 14 then pcl S o (o + 2 + i - (o + 2)) else _) = _
    rw [if_neg (by omega), if_neg (by omega), if_pos (by omega), show o + 2 + i - (o + 2) = i by omega]
theorem put_ne {M : AM} {o q : Nat} {S : Sc} (h : q < o ∨ o + 14 ≤ q) : (putS M o S).2.2 q = M.2.2 q := by
  show (if q = o then _ else if q = o + 1 then _ else if o + 2 ≤ q ∧ q < o + 14 then pcl S o (q - (o + 2)) else _) = _
  rw [if_neg (by omega), if_neg (by omega), if_neg (by omega)]
theorem put_of {M M' : AM} {o : Nat} {S' : Sc} (h : RS M' o S') (h1 : M'.1 = M.1) (h2 : M'.2.1 = M.2.1) (h3 : ∀ q, q < o ∨ o + 14 ≤ q → M'.2.2 q = M.2.2 q) : M' = putS M o S' := by
  obtain ⟨a, b, c⟩ := M'
  refine Prod.ext h1 (Prod.ext h2 (funext fun q => ?_))
  show c q = _
  by_cases e : q < o ∨ o + 14 ≤ q
  · rw [put_ne e]; exact h3 q e
  · by_cases e1 : q = o
    · subst e1; exact h.1.trans (RS_put M q S').1.symm
    · by_cases e2 : q = o + 1
      · subst e2; exact h.2.1.trans (RS_put M o S').2.1.symm
      · have e3 : q = o + 2 + (q - (o + 2)) := by omega
        rw [e3]
        exact (h.2.2 _ (by omega)).trans ((RS_put M o S').2.2 _ (by omega)).symm
theorem put_self {M : AM} {o : Nat} {S : Sc} (h : RS M o S) : putS M o S = M := (put_of h rfl rfl (fun _ _ => rfl)).symm
theorem put_put (M : AM) (o : Nat) (S S' : Sc) : putS (putS M o S) o S' = putS M o S' :=
  put_of (RS_put _ o S') rfl rfl (fun q hq => (put_ne hq).trans (put_ne hq))
theorem RS_put_ne {M : AM} {o o' : Nat} {S S' : Sc} (h : RS M o S) (ho : o + 14 ≤ o' ∨ o' + 14 ≤ o) : RS (putS M o' S') o S := by
  refine ⟨(put_ne (by omega)).trans h.1, (put_ne (by omega)).trans h.2.1, fun i hi => (put_ne (by omega)).trans (h.2.2 i hi)⟩
theorem pcl_eq {S S' : Sc} {o i : Nat} (h0 : S' 8 0 = S 8 0) (h : ∀ f, f < 8 → S' f i = S f i) : pcl S' o i = pcl S o i := by
  unfold pcl hrI frO
  rw [h0, h 0 (by omega), h 1 (by omega), h 2 (by omega), h 3 (by omega), h 4 (by omega), h 5 (by omega), h 6 (by omega), h 7 (by omega)]
theorem put1 {M : AM} {o i : Nat} {S S' : Sc} {c : AC} (h : RS M o S) (hi : i < 12) (hc : c = pcl S' o i) (h8 : ∀ j, S' 8 j = S 8 j) (hS : ∀ f j, f < 8 → ¬ j = i → S' f j = S f j) : mU M (o + 2 + i) c = putS M o S' := by
  refine put_of ⟨?_, ?_, fun j hj => ?_⟩ rfl rfl (fun q hq => mU_ne (by omega))
  · rw [mU_ne (by omega), h.1]; simp only [h8]
  · rw [mU_ne (by omega), h.2.1]
  · by_cases e : j = i
    · subst e; rw [mU_at, hc]
    · rw [mU_ne (by omega), h.2.2 j hj]; exact (pcl_eq (h8 0) (fun f hf => hS f j hf e)).symm
theorem put2 {M : AM} {o i k : Nat} {S S' : Sc} {c c' : AC} (h : RS M o S) (hi : i < 12) (hk : k < 12) (hik : ¬ i = k) (hc : c = pcl S' o i) (hc' : c' = pcl S' o k) (h8 : ∀ j, S' 8 j = S 8 j) (hS : ∀ f j, f < 8 → ¬ j = i → ¬ j = k → S' f j = S f j) : mU (mU M (o + 2 + i) c) (o + 2 + k) c' = putS M o S' := by
  refine put_of ⟨?_, ?_, fun j hj => ?_⟩ rfl rfl (fun q hq => (mU_ne (by omega)).trans (mU_ne (by omega)))
  · rw [mU_ne (by omega), mU_ne (by omega), h.1]; simp only [h8]
  · rw [mU_ne (by omega), mU_ne (by omega), h.2.1]
  · by_cases e' : j = k
    · subst e'; rw [mU_at, hc']
    · rw [mU_ne (by omega)]
      by_cases e : j = i
      · subst e; rw [mU_at, hc]
      · rw [mU_ne (by omega), h.2.2 j hj]; exact (pcl_eq (h8 0) (fun f hf => hS f j hf e e')).symm
theorem put0 {M : AM} {o : Nat} {S S' : Sc} {c : AC} (h : RS M o S) (hc : c = scl S' o) (h0 : S' 8 0 = S 8 0) (hS : ∀ f j, f < 8 → S' f j = S f j) : mU M o c = putS M o S' := by
  refine put_of ⟨?_, ?_, fun j hj => ?_⟩ rfl rfl (fun q hq => mU_ne (by omega))
  · rw [mU_at, hc]; rfl
  · rw [mU_ne (by omega), h.2.1]
  · rw [mU_ne (by omega), h.2.2 j hj]; exact (pcl_eq h0 (fun f hf => hS f j hf)).symm
theorem m_forget {d : Nat} {M : AM} {q : Nat} {n h k a s l f w x y : Value} (hc : M.2.2 q = .inl (1, [n, h, k, a, s, l, f, w, x, y])) : callD (d + 1) 14 [.ref q] M = some (none, mU M q (.inl (1, [n, h, k, a, s, l, f, .int (zI 0), .int (zI 0), .int (zI 0)]))) := by
  rw [c_14]
  simp (disch := omega) only [e_14_0, e_14_1, e_14_2, e_14_5, e_14_6, e_14_7, e_14_10, e_14_11, e_14_12, e_14_15, hc, gfA_i, pfA_i, List.getElem?_cons_zero, List.getElem?_cons_succ, oK_some, rK_some, pR_some, pR_none, kq_i, kq_r, kq_n, kq_u, kq_o, kq_l, isRf_r, isRf_n, isRf_o, okv_r, okv_n, okv_o, is2_r, is2_o, is2_n, rcv_r, isC_i, if_true, if_pos, zI_add, zI_sub, zI_mul, nc_12, nc_8, nc_6, nc_40, nc_250, nc_3, nc_s, len4_0, len4_1, len4_2, len4_3, len4_4, and_self, and_true, true_and, lenA_i, va_rf_s, va_rf_n, oN_none, oN_some, mU_at, mU_mU, List.set_cons_succ, List.set_cons_zero, okv_0, okv_1, okv_i, okv_r, okv_n, okv_o, List.length_cons, List.length_nil, Nat.reduceAdd, Nat.reduceLT]
theorem m_enter {d : Nat} {M : AM} {q : Nat} {n h k a s l f w x y : Value} {x1 x2 x3 : Int32} (hc : M.2.2 q = .inl (1, [n, h, k, a, s, l, f, w, x, y])) : callD (d + 2) 13 [.ref q, .int x1, .int x2, .int x3] M = some (none, mU M q (.inl (1, [n, .int (zI 1), .int x1, .int x2, .int x3, .int (zI 0), .null, .int (zI 0), .int (zI 0), .int (zI 0)]))) := by
  rw [c_13]
  simp (disch := omega) only [e_13_0, e_13_1, e_13_2, e_13_5, e_13_6, e_13_7, e_13_10, e_13_11, e_13_12, e_13_15, e_13_16, e_13_17, e_13_20, e_13_21, e_13_22, e_13_25, e_13_26, e_13_27, e_13_30, e_13_31, e_13_34, hc, gfA_i, pfA_i, List.getElem?_cons_zero, List.getElem?_cons_succ, oK_some, rK_some, pR_some, pR_none, kq_i, kq_r, kq_n, kq_u, kq_o, kq_l, isRf_r, isRf_n, isRf_o, okv_r, okv_n, okv_o, is2_r, is2_o, is2_n, rcv_r, isC_i, if_true, if_pos, zI_add, zI_sub, zI_mul, nc_12, nc_8, nc_6, nc_40, nc_250, nc_3, nc_s, len4_0, len4_1, len4_2, len4_3, len4_4, and_self, and_true, true_and, lenA_i, va_rf_s, va_rf_n, oN_none, oN_some, mU_at, mU_mU, List.set_cons_succ, List.set_cons_zero, okv_0, okv_1, okv_i, okv_r, okv_n, okv_o, List.length_cons, List.length_nil, Nat.reduceAdd, Nat.reduceLT, m_forget (mU_at)]
/-- a letter is written -/
def wrS (S : Sc) (i : Nat) (b : Int) : Sc := fun f k => if f = 7 then (if k = i then L6 (S 0 i) (S 1 i) (S 7 (fr S i)) (S 6 i) (S 8 3) else S 7 k) else if f = 6 then (if k = i then 0 else S 6 k) else if f = 5 then (if b = 1 then (if k = i then 0 else if k = fr S i then 1 else S 5 k) else S 5 k) else S f k
def siS (S : Sc) (i : Nat) : Sc := fun f k => if f = 6 then (if k = i then (if S 6 i < 98 then S 6 i + 1 else 99) else S 6 k) else S f k
def joS (S : Sc) (i j : Nat) : Sc := fun f k => if f = 4 then (if k = i then (j : Int) else if k = j then (i : Int) else S 4 k) else if f = 5 then (if k = i then 1 else if k = j then 0 else S 5 k) else if f = 6 then (if k = i ∨ k = j then 0 else S 6 k) else if f = 7 then (if k = i ∨ k = j then 0 else S 7 k) else S f k
def leS (S : Sc) (i : Nat) : Sc := fun f k => if f = 4 then (if k = i ∨ k = fr S i then -1 else S 4 k) else if f = 5 then (if k = i ∨ k = fr S i then 0 else S 5 k) else if f = 6 then (if k = i ∨ k = fr S i then 0 else S 6 k) else if f = 7 then (if k = i ∨ k = fr S i then 0 else S 7 k) else S f k
theorem m_keepSilent {d : Nat} {M : AM} {o i : Nat} {S : Sc} (hI : In S) (hR : RS M o S) (hi : i < 12) : callD (d + 2) 31 [.ref o, .ref (o + 2 + i)] M = some (none, putS M o (siS S i)) := by
  have h6 := (hI.f i).2.2.2.2.2.2.1
  rw [c_31 (is2_r _)]
  simp (disch := omega) only [e_31_0, e_31_1, e_31_3, e_31_4, e_31_7, e_31_8, e_31_9, e_31_12, e_31_15, hR.1, hR.2.2 i hi, pcl, gfA_i, pfA_i, List.getElem?_cons_zero, List.getElem?_cons_succ, oK_some, rK_some, pR_some, pR_none, kq_i, kq_r, kq_n, kq_u, kq_o, kq_l, isRf_r, isRf_n, isRf_o, okv_r, okv_n, okv_o, is2_r, is2_o, is2_n, rcv_r, isC_i, if_true, if_pos, zI_add, zI_sub, zI_mul, nc_12, nc_8, nc_6, nc_40, nc_250, nc_3, nc_s, len4_0, len4_1, len4_2, len4_3, len4_4, and_self, and_true, true_and, lenA_i, va_rf_s, va_rf_n, oN_none, oN_some, mU_at, mU_mU, List.set_cons_succ, List.set_cons_zero, okv_0, okv_1, okv_i, okv_r, okv_n, okv_o, List.length_cons, List.length_nil, Nat.reduceAdd, Nat.reduceLT, m_min, zI_lt, zI_ite]
  refine congrArg (fun z => some (none, z)) (put1 hR hi ?_ (fun j => rfl) (fun f j hf hj => ?_))
  · have e : (if S 6 i + 1 < 99 then S 6 i + 1 else 99) = (if S 6 i < 98 then S 6 i + 1 else 99) := by split <;> split <;> omega
    rw [e]
    simp [pcl, siS, hrI, frO]
  · by_cases e : f = 6
    · subst e; simp [siS, hj]
    · simp [siS, e]
theorem m_write {d : Nat} {M : AM} {o i : Nat} {b : Int} {S : Sc} (hI : In S) (hR : RS M o S) (h : prd S i) (hb : b = 0 ∨ b = 1) : callD (d + 3) 30 [.ref o, .ref (o + 2 + i), .int (zI b)] M = some (none, putS M o (wrS S i b)) := by
  obtain ⟨h1, h2, h3, h4, hi⟩ := prd_fr hI h
  have hne : ¬ i = fr S i := fun e => by rw [← e] at h4; omega
  rw [c_30 (is2_r _)]
  rcases hb with rfl | rfl
  · simp (disch := omega) only [e_30_0, e_30_1, e_30_2, e_30_3, e_30_4, e_30_7, e_30_10, e_30_13, e_30_14, e_30_15, e_30_18, e_30_19, e_30_22, e_30_23, e_30_26, e_30_26_n, e_30_26_r, e_30_29, e_30_30, e_30_31, e_30_34, e_30_35, e_30_38, e_30_39, e_30_42, hR.1, hR.2.2 i hi, pcl, frO_p h, m_lines hI hR hi h3, mU_ne, zI_eq, gfA_i, pfA_i, List.getElem?_cons_zero, List.getElem?_cons_succ, oK_some, rK_some, pR_some, pR_none, kq_i, kq_r, kq_n, kq_u, kq_o, kq_l, isRf_r, isRf_n, isRf_o, okv_r, okv_n, okv_o, is2_r, is2_o, is2_n, rcv_r, isC_i, if_true, if_pos, zI_add, zI_sub, zI_mul, nc_12, nc_8, nc_6, nc_40, nc_250, nc_3, nc_s, len4_0, len4_1, len4_2, len4_3, len4_4, and_self, and_true, true_and, lenA_i, va_rf_s, va_rf_n, oN_none, oN_some, mU_at, mU_mU, List.set_cons_succ, List.set_cons_zero, okv_0, okv_1, okv_i, okv_r, okv_n, okv_o, List.length_cons, List.length_nil, Nat.reduceAdd, Nat.reduceLT]
    refine congrArg (fun z => some (none, z)) (put1 hR hi ?_ (fun j => rfl) (fun f j hf hj => ?_))
    · simp [pcl, wrS, hrI, frO, prd] at h ⊢
      simp [h]
      rfl
    · unfold wrS
      by_cases e : f = 7
      · subst e; simp [hj]
      · by_cases e2 : f = 6
        · subst e2; simp [hj]
        · simp [e, e2]
          intro e3; rw [e3]
  · simp (disch := omega) only [e_30_0, e_30_1, e_30_2, e_30_3, e_30_4, e_30_7, e_30_10, e_30_13, e_30_14, e_30_15, e_30_18, e_30_19, e_30_22, e_30_23, e_30_26, e_30_26_n, e_30_26_r, e_30_29, e_30_30, e_30_31, e_30_34, e_30_35, e_30_38, e_30_39, e_30_42, hR.1, hR.2.2 i hi, hR.2.2 _ h3, pcl, frO_p h, m_lines hI hR hi h3, mU_ne, zI_eq, gfA_i, pfA_i, List.getElem?_cons_zero, List.getElem?_cons_succ, oK_some, rK_some, pR_some, pR_none, kq_i, kq_r, kq_n, kq_u, kq_o, kq_l, isRf_r, isRf_n, isRf_o, okv_r, okv_n, okv_o, is2_r, is2_o, is2_n, rcv_r, isC_i, if_true, if_pos, zI_add, zI_sub, zI_mul, nc_12, nc_8, nc_6, nc_40, nc_250, nc_3, nc_s, len4_0, len4_1, len4_2, len4_3, len4_4, and_self, and_true, true_and, lenA_i, va_rf_s, va_rf_n, oN_none, oN_some, mU_at, mU_mU, List.set_cons_succ, List.set_cons_zero, okv_0, okv_1, okv_i, okv_r, okv_n, okv_o, List.length_cons, List.length_nil, Nat.reduceAdd, Nat.reduceLT, Int.lt_irrefl, Int.reduceEq, Int.reduceNe, Int.reduceLT, Int.reduceLE, Int.reduceSub, Int.reduceAdd, Int.reduceMul, Int.reduceDiv, Int.reduceNeg, Int.reduceToNat, or_self, or_false, false_or, if_false, if_true, not_true_eq_false, not_false_eq_true, or_true, true_or, and_false, false_and]
    refine congrArg (fun z => some (none, z)) (put2 hR hi h3 hne ?_ ?_ (fun j => rfl) (fun f j hf hj hk => ?_))
    · simp [pcl, wrS, hrI, frO, prd] at h ⊢
      simp [h]
      rfl
    · have hne' : ¬ fr S i = i := fun e => hne e.symm
      simp [pcl, wrS, hrI, frO, hne']
    · unfold wrS
      by_cases e : f = 7
      · subst e; simp [hj]
      · by_cases e2 : f = 6
        · subst e2; simp [hj]
        · by_cases e3 : f = 5
          · subst e3; simp [hj, hk]
          · simp [e, e2, e3]
theorem m_join {d : Nat} {M : AM} {o i j : Nat} {S : Sc} (hR : RS M o S) (hi : (i : Int) < S 8 0) (hj : (j : Int) < S 8 0) (h12 : S 8 0 ≤ 12) (hij : ¬ i = j) : callD (d + 2) 17 [.ref (o + 2 + i), .ref (o + 2 + j)] M = some (none, putS M o (joS S i j)) := by
  have hi2 : i < 12 := by omega
  have hj2 : j < 12 := by omega
  have hij' : ¬ j = i := fun e => hij e.symm
  have hp := hR.2.2 i hi2
  have hq := hR.2.2 j hj2
  unfold pcl at hp hq
  rw [c_17 (is2_r _)]
  have hf1 := m_forget (d := d) hp
  have hf2 := fun M' (hM : M'.2.2 (o + 2 + j) = M.2.2 (o + 2 + j)) => m_forget (d := d) (M := M') (hM.trans hq)
  simp (disch := omega) only [e_17_0, e_17_1, e_17_4, e_17_5, e_17_8, e_17_9, e_17_10, e_17_13, e_17_14, e_17_15, e_17_18, e_17_19, e_17_20, e_17_23, hp, hq, hf1, hf2 _ (mU_ne (show ¬ o + 2 + j = o + 2 + i by omega)), mU_ne, mU_3, gfA_i, pfA_i, List.getElem?_cons_zero, List.getElem?_cons_succ, oK_some, rK_some, pR_some, pR_none, kq_i, kq_r, kq_n, kq_u, kq_o, kq_l, isRf_r, isRf_n, isRf_o, okv_r, okv_n, okv_o, is2_r, is2_o, is2_n, rcv_r, isC_i, if_true, if_pos, zI_add, zI_sub, zI_mul, nc_12, nc_8, nc_6, nc_40, nc_250, nc_3, nc_s, len4_0, len4_1, len4_2, len4_3, len4_4, and_self, and_true, true_and, lenA_i, va_rf_s, va_rf_n, oN_none, oN_some, mU_at, mU_mU, List.set_cons_succ, List.set_cons_zero, okv_0, okv_1, okv_i, okv_r, okv_n, okv_o, List.length_cons, List.length_nil, Nat.reduceAdd, Nat.reduceLT]
  refine congrArg (fun z => some (none, z)) (put2 hR hi2 hj2 hij ?_ ?_ (fun j => rfl) (fun f k hf hj hk => ?_))
  · simp [pcl, joS, hrI, frO, hi]
    rfl
  · simp [pcl, joS, hrI, frO, hj, hij']
    rfl
  · unfold joS
    (repeat' split) <;> first | rfl | (rename_i e; exfalso; omega) | simp_all
theorem m_leave {d : Nat} {M : AM} {o i : Nat} {S : Sc} (hI : In S) (hR : RS M o S) (h : prd S i) : callD (d + 2) 18 [.ref (o + 2 + i)] M = some (none, putS M o (leS S i)) := by
  obtain ⟨h1, h2, h3, h4, hi⟩ := prd_fr hI h
  have hne : ¬ i = fr S i := fun e => by rw [← e] at h4; omega
  have hne' : ¬ fr S i = i := fun e => hne e.symm
  have hp := hR.2.2 i hi
  have hq := hR.2.2 _ h3
  unfold pcl at hp hq
  rw [frO_p h] at hp
  rw [frO_p h1] at hq
  rw [c_18]
  have hf1 := m_forget (d := d) hq
  have hf2 := fun M' (n h k a s l f w x y : Value) (hM : M'.2.2 (o + 2 + i) = .inl (1, [n, h, k, a, s, l, f, w, x, y])) => m_forget (d := d) (M := M') hM
  simp (disch := omega) only [e_18_0, e_18_1, e_18_4, e_18_4_n, e_18_4_r, e_18_7, e_18_8, e_18_11, e_18_14, e_18_15, e_18_18, e_18_19, e_18_22, e_18_23, e_18_24, e_18_27, e_18_28, e_18_31, hp, hq, hf1, hf2 _ _ _ _ _ _ _ _ _ _ _ mU_at, mU_ne, mU_3, gfA_i, pfA_i, List.getElem?_cons_zero, List.getElem?_cons_succ, oK_some, rK_some, pR_some, pR_none, kq_i, kq_r, kq_n, kq_u, kq_o, kq_l, isRf_r, isRf_n, isRf_o, okv_r, okv_n, okv_o, is2_r, is2_o, is2_n, rcv_r, isC_i, if_true, if_pos, zI_add, zI_sub, zI_mul, nc_12, nc_8, nc_6, nc_40, nc_250, nc_3, nc_s, len4_0, len4_1, len4_2, len4_3, len4_4, and_self, and_true, true_and, lenA_i, va_rf_s, va_rf_n, oN_none, oN_some, mU_at, mU_mU, List.set_cons_succ, List.set_cons_zero, okv_0, okv_1, okv_i, okv_r, okv_n, okv_o, List.length_cons, List.length_nil, Nat.reduceAdd, Nat.reduceLT]
  refine congrArg (fun z => some (none, z)) (put2 hR h3 hi hne' ?_ ?_ (fun j => rfl) (fun f k hf hj hk => ?_))
  · simp [pcl, leS, hrI, frO]
    rfl
  · simp [pcl, leS, hrI, frO]
    rfl
  · unfold leS
    (repeat' split) <;> first | rfl | (rename_i e; exfalso; omega) | simp_all
