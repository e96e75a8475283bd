def lnF (S : Sc) (i : Nat) (a : Int) : Int := if (i : Int) < S 8 0 ∧ S 4 i < 0 then a + 1 else a
theorem lnF_w {S : Sc} {n : Nat} (hn : S 8 0 = (n : Int)) (hn2 : n ≤ 12) : fN (lnF S) 12 0 0 = woN S n := by
  rw [fN_12 (f := lnF S) hn2 (fun i a hi => if_neg (fun q => by omega))]
  unfold woN
  refine fN_ext (n := n) (fun i a hi => ?_) n 0 0 (by omega)
  unfold lnF
  by_cases h : S 4 i < 0
  · rw [if_pos ⟨by omega, h⟩, if_pos h]
  · rw [if_neg (fun q => h q.2), if_neg h]
def anF (i : Nat) (S : Sc) : Sc := if ldB S i = 1 ∧ ovB S i = 1 then leS S i else S
theorem anF_c (i : Nat) (S : Sc) : anF i S 8 0 = S 8 0 := by unfold anF; split <;> rfl
theorem anF_n : ∀ (k i : Nat) (S : Sc), S 8 0 ≤ i → fN anF k i S = S := by
  intro k
  induction k with
  | zero => intro i S _; rfl
  | succ k ih =>
    intro i S h
    have e : anF i S = S := if_neg (fun q => by have := q.1; rw [ldB_n (by omega)] at this; omega)
    show fN anF k (i + 1) (anF i S) = S
    rw [e]
    exact ih (i + 1) S (by omega)
theorem anF_cn : ∀ (k i : Nat) (S : Sc), fN anF k i S 8 0 = S 8 0 := by
  intro k
  induction k with
  | zero => intro i S; rfl
  | succ k ih => intro i S; exact (ih (i + 1) _).trans (anF_c i S)
theorem anF_12 {n : Nat} {S : Sc} (hn : S 8 0 = (n : Int)) (hn2 : n ≤ 12) : fN anF 12 0 S = fN anF n 0 S := by
  rw [show (12 : Nat) = n + (12 - n) by omega, fN_add]
  refine anF_n _ _ _ ?_
  rw [anF_cn, hn]
  omega
theorem In_anF {i : Nat} {S : Sc} (hI : In S) : In (anF i S) := by
  unfold anF
  split
  · rename_i h; exact In_le hI (ldB_prd h.1)
  · exact hI
theorem In_anN : ∀ (k i : Nat) (S : Sc), In S → In (fN anF k i S) := by
  intro k
  induction k with
  | zero => intro i S h; exact h
  | succ k ih => intro i S h; exact ih (i + 1) _ (In_anF h)
/-- those that are paired anew, row by row -/
def jnF (S1 : Sc) (x : Nat) (S : Sc) : Sc := if (ptS S1).2.2 x < 0 then S else joS S ((rws S1).2 x) ((ptS S1).2.2 x).toNat
theorem row_inj {S : Sc} {x y : Nat} (hx : x < (rws S).1) (hy : y < (rws S).1) (h : (rws S).2 x = (rws S).2 y) : x = y := by
  have h1 := (gaN_in (fre S 0) 6 12 x hx).2.2
  have h2 := (gaN_in (fre S 0) 6 12 y hy).2.2
  unfold rws at h
  rw [h, h2] at h1
  exact h1.symm
theorem pt_dis {S : Sc} : ∀ k t, k ≤ (rws S).1 → (∀ x, (rws S).1 - k ≤ x → x < (rws S).1 → (ptN S k t).2.2 x = -1 ∨ ∃ j, j < (cls S).1 ∧ (ptN S k t).2.2 x = ((cls S).2 j : Int) ∧ tb t j = 0) ∧ ∀ x y, (rws S).1 - k ≤ x → x < y → y < (rws S).1 → (ptN S k t).2.2 x = (ptN S k t).2.2 y → (ptN S k t).2.2 x = -1 := by
  intro k
  induction k with
  | zero => intro t _; exact ⟨fun x h1 h2 => by omega, fun x y h1 h2 h3 => by omega⟩
  | succ k ih =>
    intro t hk
    have hy : (rws S).1 - (k + 1) < (rws S).1 := by omega
    have ek : (rws S).1 - ((rws S).1 - (k + 1)) = k + 1 := by omega
    have ek2 : (rws S).1 - ((rws S).1 - (k + 1) + 1) = k := by omega
    rcases dvS_or (t := t) hy with hj | ⟨j, hj, hj2⟩
    · have h := ptN_n hy (by omega : (dvS S ((rws S).1 - ((rws S).1 - (k + 1))) t).2 < 0)
      rw [ek, ek2] at h
      rw [h]
      obtain ⟨i1, i2⟩ := ih t (by omega)
      dsimp only
      refine ⟨fun x h1 h2 => ?_, fun x y h1 h2 h3 h4 => ?_⟩
      · by_cases e : x = (rws S).1 - (k + 1)
        · rw [e, va_up_at]; exact Or.inl rfl
        · rw [va_up_ne _ _ e]; exact i1 x (by omega) h2
      · by_cases e : x = (rws S).1 - (k + 1)
        · rw [e, va_up_at]
        · rw [va_up_ne _ _ e] at h4 ⊢
          rw [va_up_ne _ _ (show ¬ y = (rws S).1 - (k + 1) by omega)] at h4
          exact i2 x y (by omega) h2 h3 h4
    · have h := ptN_s hy hj2
      have hcj := col_in hj
      rw [ek] at hj2
      rw [ek, ek2] at h
      have hu : tb t j = 0 := by
        have hor := dV_or (S := S) (row := (rws S).2) (col := (cls S).2) (cc := (cls S).1) (m := (rws S).1) k (fun x => tb (t : Int) x)
        unfold dvS at hj2
        rcases hor with ⟨h1, h2⟩ | ⟨j', h1, h2, h3, h4⟩
        · rw [h1] at hj2; omega
        · rw [h2] at hj2
          have : j' = j := by omega
          rw [← this]; exact h3
      rw [h]
      obtain ⟨i1, i2⟩ := ih (t ||| 2 ^ j) (by omega)
      dsimp only
      refine ⟨fun x h1 h2 => ?_, fun x y h1 h2 h3 h4 => ?_⟩
      · by_cases e : x = (rws S).1 - (k + 1)
        · rw [e, va_up_at]; exact Or.inr ⟨j, hj, rfl, hu⟩
        · rw [va_up_ne _ _ e]
          rcases i1 x (by omega) h2 with g | ⟨j', g1, g2, g3⟩
          · exact Or.inl g
          · rw [tb_set] at g3
            refine Or.inr ⟨j', g1, g2, ?_⟩
            by_cases ej : j' = j
            · rw [if_pos ej] at g3; omega
            · rwa [if_neg ej] at g3
      · by_cases e : x = (rws S).1 - (k + 1)
        · exfalso
          rw [va_up_ne _ _ (show ¬ y = (rws S).1 - (k + 1) by omega), e, va_up_at] at h4
          rcases i1 y (by omega) h3 with g | ⟨j', g1, g2, g3⟩
          · omega
          · rw [g2] at h4
            rw [tb_set] at g3
            have hcj' := col_in g1
            have e3 : (cls S).2 j = (cls S).2 j' := by omega
            have e4 : j' = j := by rw [← hcj.2.2, ← hcj'.2.2, e3]
            rw [if_pos e4] at g3
            omega
        · rw [va_up_ne _ _ e] at h4 ⊢
          rw [va_up_ne _ _ (show ¬ y = (rws S).1 - (k + 1) by omega)] at h4
          exact i2 x y (by omega) h2 h3 h4
theorem ptS_d {S : Sc} {x y : Nat} (h1 : x < y) (h2 : y < (rws S).1) (h3 : 0 ≤ (ptS S).2.2 x) : ¬ (ptS S).2.2 x = (ptS S).2.2 y := fun h => by
  have hp0 : ptN S (rws S).1 0 = ptS S := by
    unfold ptN ptS
    rw [show (fun x => tb ((0 : Nat) : Int) x) = fun _ => 0 from funext fun j => tb_zero j]
  have := (pt_dis (S := S) (rws S).1 0 (Nat.le_refl _)).2 x y (by omega) h1 h2
  rw [hp0] at this
  have := this h
  omega
/-- what stays so while they are paired -/
def jnI (S1 : Sc) (x : Nat) (S : Sc) : Prop := In S ∧ S 8 0 = S1 8 0 ∧ (∀ k, S 2 k = S1 2 k) ∧ ∀ y, x ≤ y → y < (rws S1).1 → S 4 ((rws S1).2 y) < 0 ∧ (0 ≤ (ptS S1).2.2 y → S 4 ((ptS S1).2.2 y).toNat < 0)
theorem fre_1 {S : Sc} {s : Int} {q : Nat} (h : fre S s q = 1) : (q : Int) < S 8 0 ∧ S 2 q = s ∧ S 4 q < 0 := by
  unfold fre at h
  split at h
  · rename_i x; exact x
  · omega
theorem jnI_0 {S1 : Sc} (hI : In S1) : jnI S1 0 S1 := ⟨hI, rfl, fun _ => rfl, fun y _ h => ⟨(fre_1 (row_in h).2).2.2, fun h0 => by
  rcases ptS_c h with hc | ⟨c1, c2, c3⟩
  · omega
  · exact (fre_1 c3).2.2⟩⟩
theorem jnI_s {S1 S : Sc} {x : Nat} (h : jnI S1 x S) (hx : x < (rws S1).1) : jnI S1 (x + 1) (jnF S1 x S) ∧ ((ptS S1).2.2 x < 0 ∨ ((((rws S1).2 x : Nat) : Int) < S 8 0 ∧ ((((ptS S1).2.2 x).toNat : Nat) : Int) < S 8 0 ∧ ¬ (rws S1).2 x = ((ptS S1).2.2 x).toNat)) := by
  obtain ⟨hI, h8, h2, h4⟩ := h
  have hr := fre_1 (row_in hx).2
  unfold jnF
  rcases ptS_c hx with hc | ⟨c1, c2, c3⟩
  · rw [if_pos (by omega)]
    exact ⟨⟨hI, h8, h2, fun y hy1 hy2 => h4 y (by omega) hy2⟩, Or.inl (by omega)⟩
  · have hq := fre_1 c3
    have hne : ¬ (rws S1).2 x = ((ptS S1).2.2 x).toNat := fun e => by rw [e] at hr; omega
    rw [if_neg (by omega)]
    have ha := h4 x (Nat.le_refl _) hx
    refine ⟨⟨In_jo hI (by rw [h8]; exact hr.1) (by rw [h8]; exact hq.1) ha.1 (ha.2 c1) (by rw [h2]; exact hr.2.1) (by rw [h2]; exact hq.2.1), h8, h2, fun y hy1 hy2 => ?_⟩, Or.inr ⟨by rw [h8]; exact hr.1, by rw [h8]; exact hq.1, hne⟩⟩
    have hb := h4 y (by omega) hy2
    have hry := fre_1 (row_in hy2).2
    have n1 : ¬ (rws S1).2 y = (rws S1).2 x := fun e => by have := row_inj hy2 hx e; omega
    have n2 : ¬ (rws S1).2 y = ((ptS S1).2.2 x).toNat := fun e => by rw [e] at hry; omega
    refine ⟨?_, fun h0 => ?_⟩
    · show (if (rws S1).2 y = (rws S1).2 x then _ else if (rws S1).2 y = ((ptS S1).2.2 x).toNat then _ else S 4 ((rws S1).2 y)) < 0
      rw [if_neg n1, if_neg n2]
      exact hb.1
    · rcases ptS_c hy2 with hc | ⟨d1, d2, d3⟩
      · omega
      · have hqy := fre_1 d3
        have n3 : ¬ ((ptS S1).2.2 y).toNat = (rws S1).2 x := fun e => by rw [e] at hqy; omega
        have n4 : ¬ ((ptS S1).2.2 y).toNat = ((ptS S1).2.2 x).toNat := fun e => ptS_d (S := S1) (x := x) (y := y) (by omega) hy2 c1 (by omega)
        show (if ((ptS S1).2.2 y).toNat = (rws S1).2 x then _ else if ((ptS S1).2.2 y).toNat = ((ptS S1).2.2 x).toNat then _ else S 4 ((ptS S1).2.2 y).toNat) < 0
        rw [if_neg n3, if_neg n4]
        exact hb.2 h0
section R7m
variable {M : AM} {o : Nat} {S : Sc} {U : Nat → Int} {kt : Option Nat × Option Nat} {F : Nat → Nat → Int32} {E : Nat → Nat → Int64} {mv : Nat → Int64}
theorem r_anewA {d n : Nat} (hI : In S) (hn : S 8 0 = (n : Int)) (hn2 : n ≤ 12) : den (callD (d + 4)) 235 2 [.ref o, .int (zI 0)] [] (G M o S U kt F E mv) = den (callD (d + 4)) 235 37 [.ref o, .int (zI n)] [] (G M o ((fN anF 12 0 S)) U kt F E mv) := by
  rw [anF_12 hn hn2]
  have hlo := loopI (fun i (Sx : Sc) => den (callD (d + 4)) 235 2 [.ref o, .int (zI i)] [] (G M o (Sx) U kt F E mv)) anF (fun _ Sx => In Sx ∧ Sx 8 0 = (n : Int)) n (fun i Sx hi ha => by
    obtain ⟨hIx, hnx⟩ := ha
    have hlt : (i : Int) < Sx 8 0 := by omega
    have hfi := r_first (M := M) (o := o) (U := U) (kt := kt) (F := F) (E := E) (mv := mv) (S := Sx) (d := d + 3) hIx hlt
    try dsimp only
    refine ⟨?_, In_anF hIx, (anF_c i Sx).trans hnx⟩
    conv => lhs; rw [e_235_2]
    unfold anF
    rcases ldB_01 Sx i with h | h
    · rw [h] at hfi
      rw [if_neg (fun q => by omega)]
      simp (disch := omega) only [e_235_3, e_235_4, e_235_7, e_235_10, e_235_11, e_235_12, e_235_15, e_235_18, e_235_19, e_235_20, e_235_23, e_235_26, e_235_27, e_235_28, e_235_31, e_235_34, gfA_i, pfA_i, List.getElem?_cons_zero, List.getElem?_cons_succ, oK_some, rK_some, pR_some, pR_none, kq_i, kq_r, kq_n, kq_u, kq_o, kq_l, isRf_r, isRf_n, isRf_o, okv_r, okv_n, okv_o, is2_r, is2_o, is2_n, rcv_r, isC_i, if_true, if_pos, zI_add, zI_sub, zI_mul, nc_12, nc_8, nc_6, nc_40, nc_250, nc_3, nc_s, len4_0, len4_1, len4_2, len4_3, len4_4, and_self, and_true, true_and, lenA_i, va_rf_s, va_rf_n, oN_none, oN_some, zI_lt, zI_eq, nat_tn, nc_s, Int.lt_irrefl, Int.reduceEq, Int.reduceNe, Int.reduceLT, Int.reduceLE, Int.reduceSub, Int.reduceAdd, Int.reduceMul, Int.reduceDiv, Int.reduceNeg, Int.reduceToNat, or_self, or_false, false_or, if_false, if_true, not_true_eq_false, not_false_eq_true, or_true, true_or, and_false, false_and, ldI_0, stI_0, isC_mcl, Int.add_zero, zJ_eq, Nat.reduceAdd, Nat.reduceLT, G_o, G_1, G_2, G_3, G_4, G_13, G_14, G_15, G_16, G_17, G_18, G_19, G_20, G_21, G_22, G_23, G_24, G_25, G_26, G_27, G_28, G_29, gm_0, gm_1, gm_2, gm_3, gm_4, gm_5, gm_6, gm_7, gm_8, gm_9, gm_10, gm_11, gm_12, gm_13, gm_14, gm_15, gm_16, gm_17, gm_18, gm_19, gm_20, gm_21, gm_22, gm_23, gm_24, gm_25, gm_26, gm_27, gm_28, gm_29, gm_30, gm_31, gm_32, gm_33, gm_34, gm_35, pm_7, pm_23, pm_24, pm_25, pm_26, pm_27, pm_29, pm_31, pm_34, pm_35, pm_9, pm_19, pm_20, pm_21, pm_22, mG_U, mG_8, mG_25, mG_1, mG_2, mG_3, mG_13, mG_14, mG_15, mG_16, mG_26, mG_27, mG_28, mG_29, mG_17, mG_18, mG_19, mG_20, mG_21, mG_22, mG_23, mG_24, kq_l, va_up_ne, va_up_self, hnx, hfi]
    · rw [h] at hfi
      have hp := ldB_prd h
      have hov := r_isOver (M := M) (o := o) (U := U) (kt := kt) (F := F) (E := E) (mv := mv) (S := Sx) (d := d) hIx hp
      rcases ovB_01 Sx i with h5 | h5
      · rw [h5] at hov
        rw [if_neg (fun q => by omega)]
        simp (disch := omega) only [e_235_3, e_235_4, e_235_7, e_235_10, e_235_11, e_235_12, e_235_15, e_235_18, e_235_19, e_235_20, e_235_23, e_235_26, e_235_27, e_235_28, e_235_31, e_235_34, gfA_i, pfA_i, List.getElem?_cons_zero, List.getElem?_cons_succ, oK_some, rK_some, pR_some, pR_none, kq_i, kq_r, kq_n, kq_u, kq_o, kq_l, isRf_r, isRf_n, isRf_o, okv_r, okv_n, okv_o, is2_r, is2_o, is2_n, rcv_r, isC_i, if_true, if_pos, zI_add, zI_sub, zI_mul, nc_12, nc_8, nc_6, nc_40, nc_250, nc_3, nc_s, len4_0, len4_1, len4_2, len4_3, len4_4, and_self, and_true, true_and, lenA_i, va_rf_s, va_rf_n, oN_none, oN_some, zI_lt, zI_eq, nat_tn, nc_s, Int.lt_irrefl, Int.reduceEq, Int.reduceNe, Int.reduceLT, Int.reduceLE, Int.reduceSub, Int.reduceAdd, Int.reduceMul, Int.reduceDiv, Int.reduceNeg, Int.reduceToNat, or_self, or_false, false_or, if_false, if_true, not_true_eq_false, not_false_eq_true, or_true, true_or, and_false, false_and, ldI_0, stI_0, isC_mcl, Int.add_zero, zJ_eq, Nat.reduceAdd, Nat.reduceLT, G_o, G_1, G_2, G_3, G_4, G_13, G_14, G_15, G_16, G_17, G_18, G_19, G_20, G_21, G_22, G_23, G_24, G_25, G_26, G_27, G_28, G_29, gm_0, gm_1, gm_2, gm_3, gm_4, gm_5, gm_6, gm_7, gm_8, gm_9, gm_10, gm_11, gm_12, gm_13, gm_14, gm_15, gm_16, gm_17, gm_18, gm_19, gm_20, gm_21, gm_22, gm_23, gm_24, gm_25, gm_26, gm_27, gm_28, gm_29, gm_30, gm_31, gm_32, gm_33, gm_34, gm_35, pm_7, pm_23, pm_24, pm_25, pm_26, pm_27, pm_29, pm_31, pm_34, pm_35, pm_9, pm_19, pm_20, pm_21, pm_22, mG_U, mG_8, mG_25, mG_1, mG_2, mG_3, mG_13, mG_14, mG_15, mG_16, mG_26, mG_27, mG_28, mG_29, mG_17, mG_18, mG_19, mG_20, mG_21, mG_22, mG_23, mG_24, kq_l, va_up_ne, va_up_self, hnx, hfi, hov]
      · rw [h5] at hov
        have hpa := r_parts (M := M) (o := o) (U := U) (kt := kt) (F := F) (E := E) (mv := mv) (S := Sx) (d := d + 2) hIx hp
        rw [if_pos ⟨h, h5⟩]
        simp (disch := omega) only [e_235_3, e_235_4, e_235_7, e_235_10, e_235_11, e_235_12, e_235_15, e_235_18, e_235_19, e_235_20, e_235_23, e_235_26, e_235_27, e_235_28, e_235_31, e_235_34, gfA_i, pfA_i, List.getElem?_cons_zero, List.getElem?_cons_succ, oK_some, rK_some, pR_some, pR_none, kq_i, kq_r, kq_n, kq_u, kq_o, kq_l, isRf_r, isRf_n, isRf_o, okv_r, okv_n, okv_o, is2_r, is2_o, is2_n, rcv_r, isC_i, if_true, if_pos, zI_add, zI_sub, zI_mul, nc_12, nc_8, nc_6, nc_40, nc_250, nc_3, nc_s, len4_0, len4_1, len4_2, len4_3, len4_4, and_self, and_true, true_and, lenA_i, va_rf_s, va_rf_n, oN_none, oN_some, zI_lt, zI_eq, nat_tn, nc_s, Int.lt_irrefl, Int.reduceEq, Int.reduceNe, Int.reduceLT, Int.reduceLE, Int.reduceSub, Int.reduceAdd, Int.reduceMul, Int.reduceDiv, Int.reduceNeg, Int.reduceToNat, or_self, or_false, false_or, if_false, if_true, not_true_eq_false, not_false_eq_true, or_true, true_or, and_false, false_and, ldI_0, stI_0, isC_mcl, Int.add_zero, zJ_eq, Nat.reduceAdd, Nat.reduceLT, G_o, G_1, G_2, G_3, G_4, G_13, G_14, G_15, G_16, G_17, G_18, G_19, G_20, G_21, G_22, G_23, G_24, G_25, G_26, G_27, G_28, G_29, gm_0, gm_1, gm_2, gm_3, gm_4, gm_5, gm_6, gm_7, gm_8, gm_9, gm_10, gm_11, gm_12, gm_13, gm_14, gm_15, gm_16, gm_17, gm_18, gm_19, gm_20, gm_21, gm_22, gm_23, gm_24, gm_25, gm_26, gm_27, gm_28, gm_29, gm_30, gm_31, gm_32, gm_33, gm_34, gm_35, pm_7, pm_23, pm_24, pm_25, pm_26, pm_27, pm_29, pm_31, pm_34, pm_35, pm_9, pm_19, pm_20, pm_21, pm_22, mG_U, mG_8, mG_25, mG_1, mG_2, mG_3, mG_13, mG_14, mG_15, mG_16, mG_26, mG_27, mG_28, mG_29, mG_17, mG_18, mG_19, mG_20, mG_21, mG_22, mG_23, mG_24, kq_l, va_up_ne, va_up_self, hnx, hfi, hov, hpa]) n 0 S (by omega) ⟨hI, hn⟩
  refine hlo.1.trans ?_
  have h2 := hlo.2.2
  try dsimp only
  rw [e_235_2]
  simp (disch := omega) only [e_235_3, e_235_4, e_235_7, gfA_i, pfA_i, List.getElem?_cons_zero, List.getElem?_cons_succ, oK_some, rK_some, pR_some, pR_none, kq_i, kq_r, kq_n, kq_u, kq_o, kq_l, isRf_r, isRf_n, isRf_o, okv_r, okv_n, okv_o, is2_r, is2_o, is2_n, rcv_r, isC_i, if_true, if_pos, zI_add, zI_sub, zI_mul, nc_12, nc_8, nc_6, nc_40, nc_250, nc_3, nc_s, len4_0, len4_1, len4_2, len4_3, len4_4, and_self, and_true, true_and, lenA_i, va_rf_s, va_rf_n, oN_none, oN_some, zI_lt, zI_eq, nat_tn, nc_s, Int.lt_irrefl, Int.reduceEq, Int.reduceNe, Int.reduceLT, Int.reduceLE, Int.reduceSub, Int.reduceAdd, Int.reduceMul, Int.reduceDiv, Int.reduceNeg, Int.reduceToNat, or_self, or_false, false_or, if_false, if_true, not_true_eq_false, not_false_eq_true, or_true, true_or, and_false, false_and, ldI_0, stI_0, isC_mcl, Int.add_zero, zJ_eq, Nat.reduceAdd, Nat.reduceLT, G_o, G_1, G_2, G_3, G_4, G_13, G_14, G_15, G_16, G_17, G_18, G_19, G_20, G_21, G_22, G_23, G_24, G_25, G_26, G_27, G_28, G_29, gm_0, gm_1, gm_2, gm_3, gm_4, gm_5, gm_6, gm_7, gm_8, gm_9, gm_10, gm_11, gm_12, gm_13, gm_14, gm_15, gm_16, gm_17, gm_18, gm_19, gm_20, gm_21, gm_22, gm_23, gm_24, gm_25, gm_26, gm_27, gm_28, gm_29, gm_30, gm_31, gm_32, gm_33, gm_34, gm_35, pm_7, pm_23, pm_24, pm_25, pm_26, pm_27, pm_29, pm_31, pm_34, pm_35, pm_9, pm_19, pm_20, pm_21, pm_22, mG_U, mG_8, mG_25, mG_1, mG_2, mG_3, mG_13, mG_14, mG_15, mG_16, mG_26, mG_27, mG_28, mG_29, mG_17, mG_18, mG_19, mG_20, mG_21, mG_22, mG_23, mG_24, kq_l, va_up_ne, va_up_self, h2]
theorem r_anewB {d : Nat} {S1 : Sc} (hI : In S1) (hU7 : U 7 = ((rws S1).1 : Int)) (hU9 : U 9 = (ptS S1).2.1) (hF : ∀ x, x < (rws S1).1 → F 7 x = zI ((rws S1).2 x) ∧ F 9 x = zI ((ptS S1).2.2 x)) : den (callD (d + 4)) 235 43 [.ref o, .int (zI 0)] [] (G M o (S1) U kt F E mv) = some (some (.int (zI (ptS S1).2.1)), (G M o ((fN (jnF S1) (rws S1).1 0 S1)) U kt F E mv)) := by
  have h6 := rws_le S1
  have hlo := loopI (fun x (Sx : Sc) => den (callD (d + 4)) 235 43 [.ref o, .int (zI x)] [] (G M o (Sx) U kt F E mv)) (jnF S1) (fun x Sx => jnI S1 x Sx) (rws S1).1 (fun x Sx hx ha => by
    obtain ⟨hs1, hs2⟩ := jnI_s ha hx
    obtain ⟨f7, f9⟩ := hF x hx
    try dsimp only
    refine ⟨?_, hs1⟩
    conv => lhs; rw [e_235_43]
    unfold jnF
    rcases ptS_c hx with hc | ⟨c1, c2, c3⟩
    · rw [hc] at f9
      rw [if_pos (by omega)]
      simp (disch := omega) only [e_235_44, e_235_45, e_235_48, e_235_51, e_235_52, e_235_55, e_235_56, e_235_57, e_235_58, e_235_61, e_235_62, e_235_63, e_235_66, e_235_67, e_235_68, e_235_69, e_235_72, e_235_73, e_235_74, e_235_77, e_235_80, gfA_i, pfA_i, List.getElem?_cons_zero, List.getElem?_cons_succ, oK_some, rK_some, pR_some, pR_none, kq_i, kq_r, kq_n, kq_u, kq_o, kq_l, isRf_r, isRf_n, isRf_o, okv_r, okv_n, okv_o, is2_r, is2_o, is2_n, rcv_r, isC_i, if_true, if_pos, zI_add, zI_sub, zI_mul, nc_12, nc_8, nc_6, nc_40, nc_250, nc_3, nc_s, len4_0, len4_1, len4_2, len4_3, len4_4, and_self, and_true, true_and, lenA_i, va_rf_s, va_rf_n, oN_none, oN_some, zI_lt, zI_eq, nat_tn, nc_s, Int.lt_irrefl, Int.reduceEq, Int.reduceNe, Int.reduceLT, Int.reduceLE, Int.reduceSub, Int.reduceAdd, Int.reduceMul, Int.reduceDiv, Int.reduceNeg, Int.reduceToNat, or_self, or_false, false_or, if_false, if_true, not_true_eq_false, not_false_eq_true, or_true, true_or, and_false, false_and, ldI_0, stI_0, isC_mcl, Int.add_zero, zJ_eq, Nat.reduceAdd, Nat.reduceLT, G_o, G_1, G_2, G_3, G_4, G_13, G_14, G_15, G_16, G_17, G_18, G_19, G_20, G_21, G_22, G_23, G_24, G_25, G_26, G_27, G_28, G_29, gm_0, gm_1, gm_2, gm_3, gm_4, gm_5, gm_6, gm_7, gm_8, gm_9, gm_10, gm_11, gm_12, gm_13, gm_14, gm_15, gm_16, gm_17, gm_18, gm_19, gm_20, gm_21, gm_22, gm_23, gm_24, gm_25, gm_26, gm_27, gm_28, gm_29, gm_30, gm_31, gm_32, gm_33, gm_34, gm_35, pm_7, pm_23, pm_24, pm_25, pm_26, pm_27, pm_29, pm_31, pm_34, pm_35, pm_9, pm_19, pm_20, pm_21, pm_22, mG_U, mG_8, mG_25, mG_1, mG_2, mG_3, mG_13, mG_14, mG_15, mG_16, mG_26, mG_27, mG_28, mG_29, mG_17, mG_18, mG_19, mG_20, mG_21, mG_22, mG_23, mG_24, kq_l, va_up_ne, va_up_self, hU7, f9]
    · obtain ⟨q, hq⟩ : ∃ q : Nat, (ptS S1).2.2 x = (q : Int) := ⟨((ptS S1).2.2 x).toNat, by omega⟩
      rw [hq] at f9 c2 hs2 ⊢
      rw [nat_tn] at hs2 ⊢
      rw [if_neg (by omega)]
      have e1 : ¬ (q : Int) = -1 := by omega
      rcases hs2 with h | ⟨g1, g2, g3⟩
      · omega
      · have hpa := r_pairs (M := M) (o := o) (U := U) (kt := kt) (F := F) (E := E) (mv := mv) (S := Sx) (d := d + 2) (row_in hx).1 (show q < 12 by omega) g3
        simp (disch := omega) only [e_235_44, e_235_45, e_235_48, e_235_51, e_235_52, e_235_55, e_235_56, e_235_57, e_235_58, e_235_61, e_235_62, e_235_63, e_235_66, e_235_67, e_235_68, e_235_69, e_235_72, e_235_73, e_235_74, e_235_77, e_235_80, gfA_i, pfA_i, List.getElem?_cons_zero, List.getElem?_cons_succ, oK_some, rK_some, pR_some, pR_none, kq_i, kq_r, kq_n, kq_u, kq_o, kq_l, isRf_r, isRf_n, isRf_o, okv_r, okv_n, okv_o, is2_r, is2_o, is2_n, rcv_r, isC_i, if_true, if_pos, zI_add, zI_sub, zI_mul, nc_12, nc_8, nc_6, nc_40, nc_250, nc_3, nc_s, len4_0, len4_1, len4_2, len4_3, len4_4, and_self, and_true, true_and, lenA_i, va_rf_s, va_rf_n, oN_none, oN_some, zI_lt, zI_eq, nat_tn, nc_s, Int.lt_irrefl, Int.reduceEq, Int.reduceNe, Int.reduceLT, Int.reduceLE, Int.reduceSub, Int.reduceAdd, Int.reduceMul, Int.reduceDiv, Int.reduceNeg, Int.reduceToNat, or_self, or_false, false_or, if_false, if_true, not_true_eq_false, not_false_eq_true, or_true, true_or, and_false, false_and, ldI_0, stI_0, isC_mcl, Int.add_zero, zJ_eq, Nat.reduceAdd, Nat.reduceLT, G_o, G_1, G_2, G_3, G_4, G_13, G_14, G_15, G_16, G_17, G_18, G_19, G_20, G_21, G_22, G_23, G_24, G_25, G_26, G_27, G_28, G_29, gm_0, gm_1, gm_2, gm_3, gm_4, gm_5, gm_6, gm_7, gm_8, gm_9, gm_10, gm_11, gm_12, gm_13, gm_14, gm_15, gm_16, gm_17, gm_18, gm_19, gm_20, gm_21, gm_22, gm_23, gm_24, gm_25, gm_26, gm_27, gm_28, gm_29, gm_30, gm_31, gm_32, gm_33, gm_34, gm_35, pm_7, pm_23, pm_24, pm_25, pm_26, pm_27, pm_29, pm_31, pm_34, pm_35, pm_9, pm_19, pm_20, pm_21, pm_22, mG_U, mG_8, mG_25, mG_1, mG_2, mG_3, mG_13, mG_14, mG_15, mG_16, mG_26, mG_27, mG_28, mG_29, mG_17, mG_18, mG_19, mG_20, mG_21, mG_22, mG_23, mG_24, kq_l, va_up_ne, va_up_self, hU7, f7, f9, e1, hpa]) (rws S1).1 0 S1 (by omega) (jnI_0 hI)
  refine hlo.1.trans ?_
  try dsimp only
  rw [e_235_43]
  simp (disch := omega) only [e_235_44, e_235_45, e_235_48, e_235_83, e_235_84, e_235_87, gfA_i, pfA_i, List.getElem?_cons_zero, List.getElem?_cons_succ, oK_some, rK_some, pR_some, pR_none, kq_i, kq_r, kq_n, kq_u, kq_o, kq_l, isRf_r, isRf_n, isRf_o, okv_r, okv_n, okv_o, is2_r, is2_o, is2_n, rcv_r, isC_i, if_true, if_pos, zI_add, zI_sub, zI_mul, nc_12, nc_8, nc_6, nc_40, nc_250, nc_3, nc_s, len4_0, len4_1, len4_2, len4_3, len4_4, and_self, and_true, true_and, lenA_i, va_rf_s, va_rf_n, oN_none, oN_some, zI_lt, zI_eq, nat_tn, nc_s, Int.lt_irrefl, Int.reduceEq, Int.reduceNe, Int.reduceLT, Int.reduceLE, Int.reduceSub, Int.reduceAdd, Int.reduceMul, Int.reduceDiv, Int.reduceNeg, Int.reduceToNat, or_self, or_false, false_or, if_false, if_true, not_true_eq_false, not_false_eq_true, or_true, true_or, and_false, false_and, ldI_0, stI_0, isC_mcl, Int.add_zero, zJ_eq, Nat.reduceAdd, Nat.reduceLT, G_o, G_1, G_2, G_3, G_4, G_13, G_14, G_15, G_16, G_17, G_18, G_19, G_20, G_21, G_22, G_23, G_24, G_25, G_26, G_27, G_28, G_29, gm_0, gm_1, gm_2, gm_3, gm_4, gm_5, gm_6, gm_7, gm_8, gm_9, gm_10, gm_11, gm_12, gm_13, gm_14, gm_15, gm_16, gm_17, gm_18, gm_19, gm_20, gm_21, gm_22, gm_23, gm_24, gm_25, gm_26, gm_27, gm_28, gm_29, gm_30, gm_31, gm_32, gm_33, gm_34, gm_35, pm_7, pm_23, pm_24, pm_25, pm_26, pm_27, pm_29, pm_31, pm_34, pm_35, pm_9, pm_19, pm_20, pm_21, pm_22, mG_U, mG_8, mG_25, mG_1, mG_2, mG_3, mG_13, mG_14, mG_15, mG_16, mG_26, mG_27, mG_28, mG_29, mG_17, mG_18, mG_19, mG_20, mG_21, mG_22, mG_23, mG_24, kq_l, va_up_ne, va_up_self, hU7, hU9]
end R7m
section K7m
variable {S S2 K Sg : Sc} {kp : Int} {X X' : Xm} {T : Sc} {nC : Nat → Int} {E : Nat → Nat → Int64} {z : Int} {B : Nat → Int32} {Y : Yt} {Rf : Nat → Int32} {D : AM} {y2 y3 y4 y5 : Value}
theorem k_rowAt_g {d x : Nat} (hg : gth Sg X) (hx : x < (rws Sg).1) : callD (d + 1) 2 [.ref 43, .int (zI x)] (H S S2 K kp X T nC E z B Y Rf D) = some (some (.ref (1 + 2 + (rws Sg).2 x)), (H S S2 K kp X T nC E z B Y Rf D)) := by
  have h6 := rws_le Sg
  obtain ⟨g1, g2, g3, g4⟩ := hg
  have e0 : ¬ (x : Int) < 0 := by omega
  rw [c_2]
  simp (disch := omega) only [e_2_0, e_2_1, e_2_4, e_2_5, e_2_6, e_2_9, e_2_12, e_2_13, e_2_15, e_2_18, e_2_19, e_2_22, e_2_23, e_2_24, e_2_27, e_2_28, gfA_i, pfA_i, List.getElem?_cons_zero, List.getElem?_cons_succ, oK_some, rK_some, pR_some, pR_none, kq_i, kq_r, kq_n, kq_u, kq_o, kq_l, isRf_r, isRf_n, isRf_o, okv_r, okv_n, okv_o, is2_r, is2_o, is2_n, rcv_r, isC_i, if_true, if_pos, zI_add, zI_sub, zI_mul, nc_12, nc_8, nc_6, nc_40, nc_250, nc_3, nc_s, len4_0, len4_1, len4_2, len4_3, len4_4, and_self, and_true, true_and, lenA_i, va_rf_s, va_rf_n, oN_none, oN_some, zI_lt, zI_eq, nat_tn, nc_s, Int.lt_irrefl, Int.reduceEq, Int.reduceNe, Int.reduceLT, Int.reduceLE, Int.reduceSub, Int.reduceAdd, Int.reduceMul, Int.reduceDiv, Int.reduceNeg, Int.reduceToNat, or_self, or_false, false_or, if_false, if_true, not_true_eq_false, not_false_eq_true, or_true, true_or, and_false, false_and, ldI_0, stI_0, ldQ_q, gfA_0, gfA_43, gfA_65, H_0, H_43, H_48, H_65, H_66, H_67, kq_l, isC_0, isC_43, isC_65, isC_sh, gfA_sh, H_44, g1, e0, g3 x hx]
theorem k_gotBy_g {d x : Nat} (hg : gth Sg X) (hx : x < (rws Sg).1) : callD (d + 1) 3 [.ref 43, .int (zI x)] (H S S2 K kp X T nC E z B Y Rf D) = some (some (va_rf (X.2.2.2.1 x)), (H S S2 K kp X T nC E z B Y Rf D)) := by
  have h6 := rws_le Sg
  obtain ⟨g1, g2, g3, g4⟩ := hg
  have e0 : ¬ (x : Int) < 0 := by omega
  rw [c_3]
  simp (disch := omega) only [e_3_0, e_3_1, e_3_4, e_3_5, e_3_6, e_3_9, e_3_12, e_3_13, e_3_15, e_3_18, e_3_19, e_3_22, e_3_23, e_3_24, e_3_27, e_3_28, gfA_i, pfA_i, List.getElem?_cons_zero, List.getElem?_cons_succ, oK_some, rK_some, pR_some, pR_none, kq_i, kq_r, kq_n, kq_u, kq_o, kq_l, isRf_r, isRf_n, isRf_o, okv_r, okv_n, okv_o, is2_r, is2_o, is2_n, rcv_r, isC_i, if_true, if_pos, zI_add, zI_sub, zI_mul, nc_12, nc_8, nc_6, nc_40, nc_250, nc_3, nc_s, len4_0, len4_1, len4_2, len4_3, len4_4, and_self, and_true, true_and, lenA_i, va_rf_s, va_rf_n, oN_none, oN_some, zI_lt, zI_eq, nat_tn, nc_s, Int.lt_irrefl, Int.reduceEq, Int.reduceNe, Int.reduceLT, Int.reduceLE, Int.reduceSub, Int.reduceAdd, Int.reduceMul, Int.reduceDiv, Int.reduceNeg, Int.reduceToNat, or_self, or_false, false_or, if_false, if_true, not_true_eq_false, not_false_eq_true, or_true, true_or, and_false, false_and, ldI_0, stI_0, ldQ_q, gfA_0, gfA_43, gfA_65, H_0, H_43, H_48, H_65, H_66, H_67, kq_l, isC_0, isC_43, isC_65, isC_sh, gfA_sh, H_46, g1, e0]
theorem k_leftL {d : Nat} {c : Int} (hI : In S) : ∃ y, den (callD (d + 1)) 103 27 [.ref 0, .int (zI 0), .ref (1 + 1), .int (zI 12), .int (zI 0), y5] [] (H S S2 K kp X T nC E z B Y Rf D) = den (callD (d + 1)) 103 66 [.ref 0, .int (zI (fN (lnF S) 12 0 0)), .ref (1 + 1), .int (zI 12), .int (zI 12), y] [] (H S S2 K kp X T nC E z B Y Rf D) := by
  have hR1 : RS (H S S2 K kp X T nC E z B Y Rf D) 1 S := RS_1
  obtain ⟨⟨y, hlo⟩, -⟩ := loopY (fun j (a : Int) (y : Value) => den (callD (d + 1)) 103 27 [.ref 0, .int (zI a), .ref (1 + 1), .int (zI 12), .int (zI j), y] [] (H S S2 K kp X T nC E z B Y Rf D)) (lnF S) (fun _ _ => True) 12 (fun j a y hj _ => by
    have f0 := m_free (d := d) (s := 0) hI hR1 hj (Or.inl rfl)
    have f1 := m_free (d := d) (s := 1) hI hR1 hj (Or.inr rfl)
    have h2 := (hI.f j).2.2.1
    have hiq : isC ((H S S2 K kp X T nC E z B Y Rf D).2.2 (1 + 2 + j)) 1 = true := by rw [hR1.2.2 j hj]; rfl
    try dsimp only
    refine ⟨⟨.ref (1 + 2 + j), ?_⟩, trivial⟩
    conv => lhs; rw [e_103_27]
    by_cases h : (j : Int) < S 8 0 ∧ S 4 j < 0
    · rw [show lnF S j a = a + 1 from if_pos h]
      by_cases h0 : S 2 j = 0
      · rw [if_pos ⟨h.1, h0, h.2⟩] at f0
        simp (disch := omega) only [e_103_29, e_103_30, e_103_33, e_103_34, e_103_36, e_103_37, e_103_39, e_103_41, e_103_42, e_103_45, e_103_48, e_103_50, e_103_51, e_103_54, e_103_57, e_103_60, e_103_63, gfA_i, pfA_i, List.getElem?_cons_zero, List.getElem?_cons_succ, oK_some, rK_some, pR_some, pR_none, kq_i, kq_r, kq_n, kq_u, kq_o, kq_l, isRf_r, isRf_n, isRf_o, okv_r, okv_n, okv_o, is2_r, is2_o, is2_n, rcv_r, isC_i, if_true, if_pos, zI_add, zI_sub, zI_mul, nc_12, nc_8, nc_6, nc_40, nc_250, nc_3, nc_s, len4_0, len4_1, len4_2, len4_3, len4_4, and_self, and_true, true_and, lenA_i, va_rf_s, va_rf_n, oN_none, oN_some, zI_lt, zI_eq, nat_tn, nc_s, Int.lt_irrefl, Int.reduceEq, Int.reduceNe, Int.reduceLT, Int.reduceLE, Int.reduceSub, Int.reduceAdd, Int.reduceMul, Int.reduceDiv, Int.reduceNeg, Int.reduceToNat, or_self, or_false, false_or, if_false, if_true, not_true_eq_false, not_false_eq_true, or_true, true_or, and_false, false_and, ldI_0, stI_0, ldQ_q, gfA_0, gfA_43, gfA_65, H_0, H_43, H_48, H_65, H_66, H_67, kq_l, isC_0, isC_43, isC_65, isC_sh, gfA_sh, hR1.2.1, hj, hiq, f0]
      · rw [if_neg (fun q => h0 q.2.1)] at f0
        rw [if_pos ⟨h.1, by omega, h.2⟩] at f1
        simp (disch := omega) only [e_103_29, e_103_30, e_103_33, e_103_34, e_103_36, e_103_37, e_103_39, e_103_41, e_103_42, e_103_45, e_103_48, e_103_50, e_103_51, e_103_54, e_103_57, e_103_60, e_103_63, gfA_i, pfA_i, List.getElem?_cons_zero, List.getElem?_cons_succ, oK_some, rK_some, pR_some, pR_none, kq_i, kq_r, kq_n, kq_u, kq_o, kq_l, isRf_r, isRf_n, isRf_o, okv_r, okv_n, okv_o, is2_r, is2_o, is2_n, rcv_r, isC_i, if_true, if_pos, zI_add, zI_sub, zI_mul, nc_12, nc_8, nc_6, nc_40, nc_250, nc_3, nc_s, len4_0, len4_1, len4_2, len4_3, len4_4, and_self, and_true, true_and, lenA_i, va_rf_s, va_rf_n, oN_none, oN_some, zI_lt, zI_eq, nat_tn, nc_s, Int.lt_irrefl, Int.reduceEq, Int.reduceNe, Int.reduceLT, Int.reduceLE, Int.reduceSub, Int.reduceAdd, Int.reduceMul, Int.reduceDiv, Int.reduceNeg, Int.reduceToNat, or_self, or_false, false_or, if_false, if_true, not_true_eq_false, not_false_eq_true, or_true, true_or, and_false, false_and, ldI_0, stI_0, ldQ_q, gfA_0, gfA_43, gfA_65, H_0, H_43, H_48, H_65, H_66, H_67, kq_l, isC_0, isC_43, isC_65, isC_sh, gfA_sh, hR1.2.1, hj, hiq, f0, f1]
    · rw [show lnF S j a = a from if_neg h]
      rw [if_neg (fun q => h ⟨q.1, q.2.2⟩)] at f0 f1
      simp (disch := omega) only [e_103_29, e_103_30, e_103_33, e_103_34, e_103_36, e_103_37, e_103_39, e_103_41, e_103_42, e_103_45, e_103_48, e_103_50, e_103_51, e_103_54, e_103_57, e_103_60, e_103_63, gfA_i, pfA_i, List.getElem?_cons_zero, List.getElem?_cons_succ, oK_some, rK_some, pR_some, pR_none, kq_i, kq_r, kq_n, kq_u, kq_o, kq_l, isRf_r, isRf_n, isRf_o, okv_r, okv_n, okv_o, is2_r, is2_o, is2_n, rcv_r, isC_i, if_true, if_pos, zI_add, zI_sub, zI_mul, nc_12, nc_8, nc_6, nc_40, nc_250, nc_3, nc_s, len4_0, len4_1, len4_2, len4_3, len4_4, and_self, and_true, true_and, lenA_i, va_rf_s, va_rf_n, oN_none, oN_some, zI_lt, zI_eq, nat_tn, nc_s, Int.lt_irrefl, Int.reduceEq, Int.reduceNe, Int.reduceLT, Int.reduceLE, Int.reduceSub, Int.reduceAdd, Int.reduceMul, Int.reduceDiv, Int.reduceNeg, Int.reduceToNat, or_self, or_false, false_or, if_false, if_true, not_true_eq_false, not_false_eq_true, or_true, true_or, and_false, false_and, ldI_0, stI_0, ldQ_q, gfA_0, gfA_43, gfA_65, H_0, H_43, H_48, H_65, H_66, H_67, kq_l, isC_0, isC_43, isC_65, isC_sh, gfA_sh, hR1.2.1, hj, hiq, f0, f1]) 12 0 0 y5 rfl trivial
  refine ⟨y, hlo.trans ?_⟩
  try dsimp only
  rw [e_103_27]
  simp (disch := omega) only [e_103_29, e_103_30, gfA_i, pfA_i, List.getElem?_cons_zero, List.getElem?_cons_succ, oK_some, rK_some, pR_some, pR_none, kq_i, kq_r, kq_n, kq_u, kq_o, kq_l, isRf_r, isRf_n, isRf_o, okv_r, okv_n, okv_o, is2_r, is2_o, is2_n, rcv_r, isC_i, if_true, if_pos, zI_add, zI_sub, zI_mul, nc_12, nc_8, nc_6, nc_40, nc_250, nc_3, len4_0, len4_1, len4_2, len4_3, len4_4, and_self, and_true, true_and, lenA_i, va_rf_s, va_rf_n, oN_none, oN_some, zI_lt, zI_eq, nat_tn, Int.lt_irrefl, Int.reduceEq, Int.reduceNe, Int.reduceLT, Int.reduceLE, Int.reduceSub, Int.reduceAdd, Int.reduceMul, Int.reduceDiv, Int.reduceNeg, Int.reduceToNat, or_self, or_false, false_or, if_false, if_true, not_true_eq_false, not_false_eq_true, or_true, true_or, and_false, false_and, ldI_0, stI_0, ldQ_q, gfA_0, gfA_43, gfA_65, H_0, H_43, H_48, H_65, H_66, H_67, kq_l, isC_0, isC_43, isC_65, isC_sh, gfA_sh]
theorem k_anewA {d : Nat} (hI : In S) : ∃ y, den (callD (d + 6)) 104 13 [.ref 0, .ref (1 + 1), .int (zI 12), .int (zI 0), y4] [] (H S S2 K kp X T nC E z B Y Rf D) = den (callD (d + 6)) 104 54 [.ref 0, .ref (1 + 1), .int (zI 12), .int (zI 12), y] [] (H ((fN anF 12 0 S)) S2 K kp X T nC E z B Y Rf D) := by
  have hRv : ∀ Sx, RS (H (Sx) S2 K kp X T nC E z B Y Rf D) 1 Sx := fun Sx => RS_1
  obtain ⟨⟨y, hlo⟩, -⟩ := loopY (fun j (Sx : Sc) (y : Value) => den (callD (d + 6)) 104 13 [.ref 0, .ref (1 + 1), .int (zI 12), .int (zI j), y] [] (H (Sx) S2 K kp X T nC E z B Y Rf D)) anF (fun _ Sx => In Sx) 12 (fun j Sx y hj hIx => by
    have hle := m_leads (d := d + 5) hIx (hRv Sx) hj
    have hiq : isC ((H (Sx) S2 K kp X T nC E z B Y Rf D).2.2 (1 + 2 + j)) 1 = true := by rw [(hRv Sx).2.2 j hj]; rfl
    try dsimp only
    refine ⟨⟨.ref (1 + 2 + j), ?_⟩, In_anF hIx⟩
    conv => lhs; rw [e_104_13]
    unfold anF
    rcases ldB_01 Sx j with h | h
    · rw [h] at hle
      rw [if_neg (fun q => by omega)]
      simp (disch := omega) only [e_104_14, e_104_15, e_104_18, e_104_19, e_104_20, e_104_21, e_104_23, e_104_25, e_104_28, e_104_31, e_104_32, e_104_35, e_104_37, e_104_40, e_104_43, e_104_45, e_104_48, e_104_51, gfA_i, pfA_i, List.getElem?_cons_zero, List.getElem?_cons_succ, oK_some, rK_some, pR_some, pR_none, kq_i, kq_r, kq_n, kq_u, kq_o, kq_l, isRf_r, isRf_n, isRf_o, okv_r, okv_n, okv_o, is2_r, is2_o, is2_n, rcv_r, isC_i, if_true, if_pos, zI_add, zI_sub, zI_mul, nc_12, nc_8, nc_6, nc_40, nc_250, nc_3, nc_s, len4_0, len4_1, len4_2, len4_3, len4_4, and_self, and_true, true_and, lenA_i, va_rf_s, va_rf_n, oN_none, oN_some, zI_lt, zI_eq, nat_tn, nc_s, Int.lt_irrefl, Int.reduceEq, Int.reduceNe, Int.reduceLT, Int.reduceLE, Int.reduceSub, Int.reduceAdd, Int.reduceMul, Int.reduceDiv, Int.reduceNeg, Int.reduceToNat, or_self, or_false, false_or, if_false, if_true, not_true_eq_false, not_false_eq_true, or_true, true_or, and_false, false_and, ldI_0, stI_0, ldQ_q, gfA_0, gfA_43, gfA_65, H_0, H_43, H_48, H_65, H_66, H_67, kq_l, isC_0, isC_43, isC_65, isC_sh, gfA_sh, (hRv _).2.1, hj, hiq, hle]
    · rw [h] at hle
      have hp := ldB_prd h
      have hov := m_isOver (d := d + 1) hIx (hRv Sx) hp
      rcases ovB_01 Sx j with h5 | h5
      · rw [h5] at hov
        rw [if_neg (fun q => by omega)]
        simp (disch := omega) only [e_104_14, e_104_15, e_104_18, e_104_19, e_104_20, e_104_21, e_104_23, e_104_25, e_104_28, e_104_31, e_104_32, e_104_35, e_104_37, e_104_40, e_104_43, e_104_45, e_104_48, e_104_51, gfA_i, pfA_i, List.getElem?_cons_zero, List.getElem?_cons_succ, oK_some, rK_some, pR_some, pR_none, kq_i, kq_r, kq_n, kq_u, kq_o, kq_l, isRf_r, isRf_n, isRf_o, okv_r, okv_n, okv_o, is2_r, is2_o, is2_n, rcv_r, isC_i, if_true, if_pos, zI_add, zI_sub, zI_mul, nc_12, nc_8, nc_6, nc_40, nc_250, nc_3, nc_s, len4_0, len4_1, len4_2, len4_3, len4_4, and_self, and_true, true_and, lenA_i, va_rf_s, va_rf_n, oN_none, oN_some, zI_lt, zI_eq, nat_tn, nc_s, Int.lt_irrefl, Int.reduceEq, Int.reduceNe, Int.reduceLT, Int.reduceLE, Int.reduceSub, Int.reduceAdd, Int.reduceMul, Int.reduceDiv, Int.reduceNeg, Int.reduceToNat, or_self, or_false, false_or, if_false, if_true, not_true_eq_false, not_false_eq_true, or_true, true_or, and_false, false_and, ldI_0, stI_0, ldQ_q, gfA_0, gfA_43, gfA_65, H_0, H_43, H_48, H_65, H_66, H_67, kq_l, isC_0, isC_43, isC_65, isC_sh, gfA_sh, (hRv _).1, (hRv _).2.1, hj, hiq, hle, hov]
      · rw [h5] at hov
        have hlv := m_leave (d := d + 4) hIx (hRv Sx) hp
        rw [put_1] at hlv
        rw [if_pos ⟨h, h5⟩]
        simp (disch := omega) only [e_104_14, e_104_15, e_104_18, e_104_19, e_104_20, e_104_21, e_104_23, e_104_25, e_104_28, e_104_31, e_104_32, e_104_35, e_104_37, e_104_40, e_104_43, e_104_45, e_104_48, e_104_51, gfA_i, pfA_i, List.getElem?_cons_zero, List.getElem?_cons_succ, oK_some, rK_some, pR_some, pR_none, kq_i, kq_r, kq_n, kq_u, kq_o, kq_l, isRf_r, isRf_n, isRf_o, okv_r, okv_n, okv_o, is2_r, is2_o, is2_n, rcv_r, isC_i, if_true, if_pos, zI_add, zI_sub, zI_mul, nc_12, nc_8, nc_6, nc_40, nc_250, nc_3, nc_s, len4_0, len4_1, len4_2, len4_3, len4_4, and_self, and_true, true_and, lenA_i, va_rf_s, va_rf_n, oN_none, oN_some, zI_lt, zI_eq, nat_tn, nc_s, Int.lt_irrefl, Int.reduceEq, Int.reduceNe, Int.reduceLT, Int.reduceLE, Int.reduceSub, Int.reduceAdd, Int.reduceMul, Int.reduceDiv, Int.reduceNeg, Int.reduceToNat, or_self, or_false, false_or, if_false, if_true, not_true_eq_false, not_false_eq_true, or_true, true_or, and_false, false_and, ldI_0, stI_0, ldQ_q, gfA_0, gfA_43, gfA_65, H_0, H_43, H_48, H_65, H_66, H_67, kq_l, isC_0, isC_43, isC_65, isC_sh, gfA_sh, (hRv _).1, (hRv _).2.1, hj, hiq, hle, hov, hlv]) 12 0 S y4 rfl hI
  refine ⟨y, hlo.trans ?_⟩
  try dsimp only
  rw [e_104_13]
  simp (disch := omega) only [e_104_14, e_104_15, gfA_i, pfA_i, List.getElem?_cons_zero, List.getElem?_cons_succ, oK_some, rK_some, pR_some, pR_none, kq_i, kq_r, kq_n, kq_u, kq_o, kq_l, isRf_r, isRf_n, isRf_o, okv_r, okv_n, okv_o, is2_r, is2_o, is2_n, rcv_r, isC_i, if_true, if_pos, zI_add, zI_sub, zI_mul, nc_12, nc_8, nc_6, nc_40, nc_250, nc_3, len4_0, len4_1, len4_2, len4_3, len4_4, and_self, and_true, true_and, lenA_i, va_rf_s, va_rf_n, oN_none, oN_some, zI_lt, zI_eq, nat_tn, Int.lt_irrefl, Int.reduceEq, Int.reduceNe, Int.reduceLT, Int.reduceLE, Int.reduceSub, Int.reduceAdd, Int.reduceMul, Int.reduceDiv, Int.reduceNeg, Int.reduceToNat, or_self, or_false, false_or, if_false, if_true, not_true_eq_false, not_false_eq_true, or_true, true_or, and_false, false_and, ldI_0, stI_0, ldQ_q, gfA_0, gfA_43, gfA_65, H_0, H_43, H_48, H_65, H_66, H_67, kq_l, isC_0, isC_43, isC_65, isC_sh, gfA_sh]
theorem k_anewB {d : Nat} (hI : In S) (hf : fnd S X) : den (callD (d + 6)) 104 67 [.ref 0, .int (zI 0), y2, y3, y4] [] (H S S2 K kp X T nC E z B Y Rf D) = some (some (.int (zI (ptS S).2.1)), (H ((fN (jnF S) (rws S).1 0 S)) S2 K kp X T nC E z B Y Rf D)) := by
  have h6 := rws_le S
  obtain ⟨hg, ⟨hx1, hx2⟩, hx3⟩ := hf
  have g1 := hg.1
  have hRv : ∀ Sx, RS (H (Sx) S2 K kp X T nC E z B Y Rf D) 1 Sx := fun Sx => RS_1
  obtain ⟨⟨y, hlo⟩, -⟩ := loopY (fun x (Sx : Sc) (y : Value × Value) => den (callD (d + 6)) 104 67 [.ref 0, .int (zI x), y.1, y.2, y4] [] (H (Sx) S2 K kp X T nC E z B Y Rf D)) (jnF S) (fun x Sx => jnI S x Sx) (rws S).1 (fun x Sx y hx ha => by
    obtain ⟨hs1, hs2⟩ := jnI_s ha hx
    have hra := k_rowAt_g (S := Sx) (Sg := S) (X := X) (S2 := S2) (K := K) (kp := kp) (T := T) (nC := nC) (E := E) (z := z) (B := B) (Y := Y) (Rf := Rf) (D := D) (d := d + 5) hg hx
    have hgb := k_gotBy_g (S := Sx) (Sg := S) (X := X) (S2 := S2) (K := K) (kp := kp) (T := T) (nC := nC) (E := E) (z := z) (B := B) (Y := Y) (Rf := Rf) (D := D) (d := d + 5) hg hx
    rw [hx3 x hx] at hgb
    have hr12 := (row_in hx).1
    have hiq : isC ((H (Sx) S2 K kp X T nC E z B Y Rf D).2.2 (1 + 2 + (rws S).2 x)) 1 = true := by rw [(hRv Sx).2.2 _ hr12]; rfl
    try dsimp only
    refine ⟨⟨(.ref (1 + 2 + (rws S).2 x), va_rf (optR ((ptS S).2.2 x))), ?_⟩, hs1⟩
    conv => lhs; rw [e_104_67]
    unfold jnF
    rcases ptS_c hx with hc | ⟨c1, c2, c3⟩
    · rw [hc] at hgb ⊢
      rw [if_pos (by omega)]
      have e1 : optR (-1) = none := rfl
      rw [e1] at hgb ⊢
      simp (disch := omega) only [e_104_68, e_104_69, e_104_72, e_104_75, e_104_78, e_104_79, e_104_82, e_104_83, e_104_86, e_104_87, e_104_88, e_104_91, e_104_92, e_104_95, e_104_96, e_104_97, e_104_97_n, e_104_97_r, e_104_100, e_104_101, e_104_101_n, e_104_101_r, e_104_104, e_104_105, e_104_106, e_104_109, e_104_112, gfA_i, pfA_i, List.getElem?_cons_zero, List.getElem?_cons_succ, oK_some, rK_some, pR_some, pR_none, kq_i, kq_r, kq_n, kq_u, kq_o, kq_l, isRf_r, isRf_n, isRf_o, okv_r, okv_n, okv_o, is2_r, is2_o, is2_n, rcv_r, isC_i, if_true, if_pos, zI_add, zI_sub, zI_mul, nc_12, nc_8, nc_6, nc_40, nc_250, nc_3, nc_s, len4_0, len4_1, len4_2, len4_3, len4_4, and_self, and_true, true_and, lenA_i, va_rf_s, va_rf_n, oN_none, oN_some, zI_lt, zI_eq, nat_tn, nc_s, Int.lt_irrefl, Int.reduceEq, Int.reduceNe, Int.reduceLT, Int.reduceLE, Int.reduceSub, Int.reduceAdd, Int.reduceMul, Int.reduceDiv, Int.reduceNeg, Int.reduceToNat, or_self, or_false, false_or, if_false, if_true, not_true_eq_false, not_false_eq_true, or_true, true_or, and_false, false_and, ldI_0, stI_0, ldQ_q, gfA_0, gfA_43, gfA_65, H_0, H_43, H_48, H_65, H_66, H_67, kq_l, isC_0, isC_43, isC_65, isC_sh, gfA_sh, isC_43, g1, hra, hgb]
    · obtain ⟨q, hq⟩ : ∃ q : Nat, (ptS S).2.2 x = (q : Int) := ⟨((ptS S).2.2 x).toNat, by omega⟩
      rw [hq] at hgb c2 hs2 ⊢
      rw [nat_tn] at hs2 ⊢
      rw [if_neg (by omega)]
      have e1 : optR (q : Int) = some (1 + 2 + q) := by unfold optR; rw [if_neg (by omega), nat_tn]
      rw [e1] at hgb ⊢
      rcases hs2 with h | ⟨k1, k2, k3⟩
      · omega
      · have hjn := m_join (d := d + 4) (hRv Sx) k1 k2 ha.1.1.2 k3
        rw [put_1] at hjn
        simp (disch := omega) only [e_104_68, e_104_69, e_104_72, e_104_75, e_104_78, e_104_79, e_104_82, e_104_83, e_104_86, e_104_87, e_104_88, e_104_91, e_104_92, e_104_95, e_104_96, e_104_97, e_104_97_n, e_104_97_r, e_104_100, e_104_101, e_104_101_n, e_104_101_r, e_104_104, e_104_105, e_104_106, e_104_109, e_104_112, gfA_i, pfA_i, List.getElem?_cons_zero, List.getElem?_cons_succ, oK_some, rK_some, pR_some, pR_none, kq_i, kq_r, kq_n, kq_u, kq_o, kq_l, isRf_r, isRf_n, isRf_o, okv_r, okv_n, okv_o, is2_r, is2_o, is2_n, rcv_r, isC_i, if_true, if_pos, zI_add, zI_sub, zI_mul, nc_12, nc_8, nc_6, nc_40, nc_250, nc_3, nc_s, len4_0, len4_1, len4_2, len4_3, len4_4, and_self, and_true, true_and, lenA_i, va_rf_s, va_rf_n, oN_none, oN_some, zI_lt, zI_eq, nat_tn, nc_s, Int.lt_irrefl, Int.reduceEq, Int.reduceNe, Int.reduceLT, Int.reduceLE, Int.reduceSub, Int.reduceAdd, Int.reduceMul, Int.reduceDiv, Int.reduceNeg, Int.reduceToNat, or_self, or_false, false_or, if_false, if_true, not_true_eq_false, not_false_eq_true, or_true, true_or, and_false, false_and, ldI_0, stI_0, ldQ_q, gfA_0, gfA_43, gfA_65, H_0, H_43, H_48, H_65, H_66, H_67, kq_l, isC_0, isC_43, isC_65, isC_sh, gfA_sh, isC_43, g1, hra, hgb, hiq, hjn]) (rws S).1 0 S (y2, y3) (by omega) (jnI_0 hI)
  refine hlo.trans ?_
  try dsimp only
  rw [e_104_67]
  simp (disch := omega) only [e_104_68, e_104_69, e_104_72, e_104_75, e_104_115, e_104_116, e_104_119, e_104_122, gfA_i, pfA_i, List.getElem?_cons_zero, List.getElem?_cons_succ, oK_some, rK_some, pR_some, pR_none, kq_i, kq_r, kq_n, kq_u, kq_o, kq_l, isRf_r, isRf_n, isRf_o, okv_r, okv_n, okv_o, is2_r, is2_o, is2_n, rcv_r, isC_i, if_true, if_pos, zI_add, zI_sub, zI_mul, nc_12, nc_8, nc_6, nc_40, nc_250, nc_3, nc_s, len4_0, len4_1, len4_2, len4_3, len4_4, and_self, and_true, true_and, lenA_i, va_rf_s, va_rf_n, oN_none, oN_some, zI_lt, zI_eq, nat_tn, nc_s, Int.lt_irrefl, Int.reduceEq, Int.reduceNe, Int.reduceLT, Int.reduceLE, Int.reduceSub, Int.reduceAdd, Int.reduceMul, Int.reduceDiv, Int.reduceNeg, Int.reduceToNat, or_self, or_false, false_or, if_false, if_true, not_true_eq_false, not_false_eq_true, or_true, true_or, and_false, false_and, ldI_0, stI_0, ldQ_q, gfA_0, gfA_43, gfA_65, H_0, H_43, H_48, H_65, H_66, H_67, kq_l, isC_0, isC_43, isC_65, isC_sh, gfA_sh, g1, hx2]
end K7m
theorem jnN_I {S1 : Sc} (hI : In S1) : ∀ x, x ≤ (rws S1).1 → jnI S1 x (fN (jnF S1) x 0 S1) := by
  intro x
  induction x with
  | zero => intro _; exact jnI_0 hI
  | succ x ih => intro hx; rw [fN_last]; exact (jnI_s (ih (by omega)) (by omega)).1
section Q7m
variable {a b c e f : Int}
theorem q_left : SpX 103 195 [] := by
  intro d st hR
  obtain ⟨S, S2, K, kp, X, T, nC, E, z, B, Y, Rf, U, kt, F, mv, D⟩ := st
  have hR' := hR
  obtain ⟨hI, hT, ⟨hF0, hF1, hF2⟩, hF4, hF5, hU, hz, hK⟩ := hR'
  have hc := hI.1
  have hR1 : RS (H S S2 K kp X T nC E z B Y Rf ((G (D) (68) S U kt F E mv))) 1 S := RS_1
  have hR15 : isC ((H S S2 K kp X T nC E z B Y Rf ((G (D) (68) S U kt F E mv))).2.2 15) 2 = true := by rw [RS_15.1]; rfl
  have hsh : ∀ s, s < 8 → (H S S2 K kp X T nC E z B Y Rf ((G (D) (68) S U kt F E mv))).2.2 (49 + 2 * s) = shl (49 + 2 * s) (T 0 s) (nC s) (T 1 s) (T 2 s) := fun s hs => H_sh hs
  have hce : ∀ s, s < 8 → (H S S2 K kp X T nC E z B Y Rf ((G (D) (68) S U kt F E mv))).2.2 (49 + 2 * s + 1) = cel (E s) := fun s hs => H_ce hs
  obtain ⟨n, hn, hn2⟩ := hI.c
  obtain ⟨X', hks, hg, ⟨hx1, hx2⟩, hx3⟩ := k_solve (X := X) (S := S) (S2 := S2) (K := K) (kp := kp) (T := T) (nC := nC) (E := E) (z := z) (B := B) (Y := Y) (Rf := Rf) (D := (G (D) (68) S U kt F E mv)) (d := d + 23) hI
  obtain ⟨U', F', hrf, ⟨u7, u8, u9⟩, hF, hfr⟩ := r_find (M := (H S S2 K kp (X') T nC E z B Y Rf D)) (o := 68) (S := S) (U := U) (kt := kt) (F := F) (E := E) (mv := mv) (d := d + 19) hI hn hn2
  have hRl : Rl (S, S2, K, kp, (X'), T, nC, E, z, B, Y, Rf, (U'), kt, (F'), mv, D) := Rl_X hR (hfr 0 (by omega) (by omega) (by omega)).1 (fun y hy => (hfr y (by omega) (by omega) (by omega)).2)
  obtain ⟨y, hkL⟩ := k_leftL (X := X') (S := S) (S2 := S2) (K := K) (kp := kp) (T := T) (nC := nC) (E := E) (z := z) (B := B) (Y := Y) (Rf := Rf) (D := (G (D) (68) S U kt F E mv)) (d := d + 28) (c := 0) (y5 := uu) hI
  have hRx : RS (H S S2 K kp (X') T nC E z B Y Rf ((G (D) (68) S U kt F E mv))) 1 S := RS_1
  rw [lnF_w hn hn2] at hkL
  refine mk (.int (zI (woN S n - 2 * (ptS S).2.1))) (S, S2, K, kp, (X'), T, nC, E, z, B, Y, Rf, (U'), kt, (F'), mv, D) ?_ ?_ ?_ <;> try dsimp only [HC, HP]
  · rw [c_103]
    simp (disch := omega) only [e_103_0, e_103_1, e_103_4, e_103_5, e_103_8, e_103_11, e_103_12, e_103_13, e_103_14, e_103_17, e_103_20, e_103_21, e_103_22, e_103_23, e_103_24, e_103_25, gfA_i, pfA_i, List.getElem?_cons_zero, List.getElem?_cons_succ, oK_some, rK_some, pR_some, pR_none, kq_i, kq_r, kq_n, kq_u, kq_o, kq_l, isRf_r, isRf_n, isRf_o, okv_r, okv_n, okv_o, is2_r, is2_o, is2_n, rcv_r, isC_i, if_true, if_pos, zI_add, zI_sub, zI_mul, nc_12, nc_8, nc_6, nc_40, nc_250, nc_3, len4_0, len4_1, len4_2, len4_3, len4_4, and_self, and_true, true_and, lenA_i, va_rf_s, va_rf_n, oN_none, oN_some, zI_lt, zI_eq, nat_tn, Int.lt_irrefl, Int.reduceEq, Int.reduceNe, Int.reduceLT, Int.reduceLE, Int.reduceSub, Int.reduceAdd, Int.reduceMul, Int.reduceDiv, Int.reduceNeg, Int.reduceToNat, or_self, or_false, false_or, if_false, if_true, not_true_eq_false, not_false_eq_true, or_true, true_or, and_false, false_and, ldI_0, stI_0, ldQ_q, gfA_0, gfA_43, gfA_65, H_0, H_43, H_48, H_65, H_66, H_67, kq_l, isC_0, isC_43, isC_65, isC_sh, gfA_sh, isC_43, hks, hRx.1, hRx.2.1]
    refine hkL.trans ?_
    simp (disch := omega) only [e_103_66, e_103_67, e_103_68, e_103_69, e_103_72, e_103_75, e_103_76, e_103_77, gfA_i, pfA_i, List.getElem?_cons_zero, List.getElem?_cons_succ, oK_some, rK_some, pR_some, pR_none, kq_i, kq_r, kq_n, kq_u, kq_o, kq_l, isRf_r, isRf_n, isRf_o, okv_r, okv_n, okv_o, is2_r, is2_o, is2_n, rcv_r, isC_i, if_true, if_pos, zI_add, zI_sub, zI_mul, nc_12, nc_8, nc_6, nc_40, nc_250, nc_3, len4_0, len4_1, len4_2, len4_3, len4_4, and_self, and_true, true_and, lenA_i, va_rf_s, va_rf_n, oN_none, oN_some, zI_lt, zI_eq, nat_tn, Int.lt_irrefl, Int.reduceEq, Int.reduceNe, Int.reduceLT, Int.reduceLE, Int.reduceSub, Int.reduceAdd, Int.reduceMul, Int.reduceDiv, Int.reduceNeg, Int.reduceToNat, or_self, or_false, false_or, if_false, if_true, not_true_eq_false, not_false_eq_true, or_true, true_or, and_false, false_and, ldI_0, stI_0, ldQ_q, gfA_0, gfA_43, gfA_65, H_0, H_43, H_48, H_65, H_66, H_67, kq_l, isC_0, isC_43, isC_65, isC_sh, gfA_sh, hx2]
  · rw [c_195]
    simp (disch := omega) only [e_195_0, e_195_1, e_195_4, e_195_5, e_195_8, e_195_9, e_195_10, e_195_13, e_195_14, e_195_15, gfA_i, pfA_i, List.getElem?_cons_zero, List.getElem?_cons_succ, oK_some, rK_some, pR_some, pR_none, kq_i, kq_r, kq_n, kq_u, kq_o, kq_l, isRf_r, isRf_n, isRf_o, okv_r, okv_n, okv_o, is2_r, is2_o, is2_n, rcv_r, isC_i, if_true, if_pos, zI_add, zI_sub, zI_mul, nc_12, nc_8, nc_6, nc_40, nc_250, nc_3, nc_s, len4_0, len4_1, len4_2, len4_3, len4_4, and_self, and_true, true_and, lenA_i, va_rf_s, va_rf_n, oN_none, oN_some, zI_lt, zI_eq, nat_tn, nc_s, Int.lt_irrefl, Int.reduceEq, Int.reduceNe, Int.reduceLT, Int.reduceLE, Int.reduceSub, Int.reduceAdd, Int.reduceMul, Int.reduceDiv, Int.reduceNeg, Int.reduceToNat, or_self, or_false, false_or, if_false, if_true, not_true_eq_false, not_false_eq_true, or_true, true_or, and_false, false_and, ldI_0, stI_0, isC_mcl, Int.add_zero, zJ_eq, Nat.reduceAdd, Nat.reduceLT, G_o, G_1, G_2, G_3, G_4, G_13, G_14, G_15, G_16, G_17, G_18, G_19, G_20, G_21, G_22, G_23, G_24, G_25, G_26, G_27, G_28, G_29, gm_0, gm_1, gm_2, gm_3, gm_4, gm_5, gm_6, gm_7, gm_8, gm_9, gm_10, gm_11, gm_12, gm_13, gm_14, gm_15, gm_16, gm_17, gm_18, gm_19, gm_20, gm_21, gm_22, gm_23, gm_24, gm_25, gm_26, gm_27, gm_28, gm_29, gm_30, gm_31, gm_32, gm_33, gm_34, gm_35, pm_7, pm_23, pm_24, pm_25, pm_26, pm_27, pm_29, pm_31, pm_34, pm_35, pm_9, pm_19, pm_20, pm_21, pm_22, mG_U, mG_8, mG_25, mG_1, mG_2, mG_3, mG_13, mG_14, mG_15, mG_16, mG_26, mG_27, mG_28, mG_29, mG_17, mG_18, mG_19, mG_20, mG_21, mG_22, mG_23, mG_24, kq_l, va_up_ne, va_up_self, hrf, r_without hI hn, u9]
  · exact hRl
theorem q_anew : SpX 104 235 [] := by
  intro d st hR
  obtain ⟨S, S2, K, kp, X, T, nC, E, z, B, Y, Rf, U, kt, F, mv, D⟩ := st
  have hR' := hR
  obtain ⟨hI, hT, ⟨hF0, hF1, hF2⟩, hF4, hF5, hU, hz, hK⟩ := hR'
  have hc := hI.1
  have hR1 : RS (H S S2 K kp X T nC E z B Y Rf ((G (D) (68) S U kt F E mv))) 1 S := RS_1
  have hR15 : isC ((H S S2 K kp X T nC E z B Y Rf ((G (D) (68) S U kt F E mv))).2.2 15) 2 = true := by rw [RS_15.1]; rfl
  have hsh : ∀ s, s < 8 → (H S S2 K kp X T nC E z B Y Rf ((G (D) (68) S U kt F E mv))).2.2 (49 + 2 * s) = shl (49 + 2 * s) (T 0 s) (nC s) (T 1 s) (T 2 s) := fun s hs => H_sh hs
  have hce : ∀ s, s < 8 → (H S S2 K kp X T nC E z B Y Rf ((G (D) (68) S U kt F E mv))).2.2 (49 + 2 * s + 1) = cel (E s) := fun s hs => H_ce hs
  obtain ⟨n, hn, hn2⟩ := hI.c
  have hI1 := In_anN 12 0 S hI
  have hn1 : fN anF 12 0 S 8 0 = (n : Int) := (anF_cn 12 0 S).trans hn
  obtain ⟨y, hkA⟩ := k_anewA (X := X) (S := S) (S2 := S2) (K := K) (kp := kp) (T := T) (nC := nC) (E := E) (z := z) (B := B) (Y := Y) (Rf := Rf) (D := (G (D) (68) S U kt F E mv)) (d := d + 23) (y4 := uu) hI
  obtain ⟨X', hks, hf⟩ := k_solve (S := fN anF 12 0 S) (X := X) (S2 := S2) (K := K) (kp := kp) (T := T) (nC := nC) (E := E) (z := z) (B := B) (Y := Y) (Rf := Rf) (D := (G (D) (68) S U kt F E mv)) (d := d + 23) hI1
  have hjI := jnN_I hI1 (rws (fN anF 12 0 S)).1 (Nat.le_refl _)
  have hkB := k_anewB (S := fN anF 12 0 S) (X := X') (S2 := S2) (K := K) (kp := kp) (T := T) (nC := nC) (E := E) (z := z) (B := B) (Y := Y) (Rf := Rf) (D := (G (D) (68) S U kt F E mv)) (d := d + 23) (y2 := .int (zI 12)) (y3 := .int (zI 12)) (y4 := y) hI1 hf
  obtain ⟨U', F', hrf, ⟨u7, u8, u9⟩, hF, hfr⟩ := r_find (M := (H ((fN (jnF (fN anF 12 0 S)) (rws (fN anF 12 0 S)).1 0 (fN anF 12 0 S))) S2 K kp (X') T nC E z B Y Rf D)) (o := 68) (S := fN anF 12 0 S) (U := U) (kt := kt) (F := F) (E := E) (mv := mv) (d := d + 19) hI1 hn1 hn2
  have hrA := fun M => r_anewA (M := M) (o := 68) (U := U) (kt := kt) (F := F) (E := E) (mv := mv) (d := d + 25) hI hn hn2
  have hrB := fun M => r_anewB (M := M) (o := 68) (U := U') (kt := kt) (F := F') (E := E) (mv := mv) (d := d + 25) (S1 := fN anF 12 0 S) hI1 u7 u9 hF
  have hRl : Rl (S, S2, K, kp, (X'), T, nC, E, z, B, Y, Rf, (U'), kt, (F'), mv, D) := Rl_X hR (hfr 0 (by omega) (by omega) (by omega)).1 (fun y hy => (hfr y (by omega) (by omega) (by omega)).2)
  have hRx : isC ((H ((fN anF 12 0 S)) S2 K kp X T nC E z B Y Rf ((G (D) (68) S U kt F E mv))).2.2 43) 0 = true := by rw [H_43]; rfl
  refine mk (.int (zI (ptS (fN anF 12 0 S)).2.1)) (((fN (jnF (fN anF 12 0 S)) (rws (fN anF 12 0 S)).1 0 (fN anF 12 0 S))), S2, K, kp, (X'), T, nC, E, z, B, Y, Rf, (U'), kt, (F'), mv, D) ?_ ?_ ?_ <;> try dsimp only [HC, HP]
  · rw [c_104]
    simp (disch := omega) only [e_104_0, e_104_1, e_104_4, e_104_7, e_104_8, e_104_9, e_104_10, e_104_11, e_104_12, gfA_i, pfA_i, List.getElem?_cons_zero, List.getElem?_cons_succ, oK_some, rK_some, pR_some, pR_none, kq_i, kq_r, kq_n, kq_u, kq_o, kq_l, isRf_r, isRf_n, isRf_o, okv_r, okv_n, okv_o, is2_r, is2_o, is2_n, rcv_r, isC_i, if_true, if_pos, zI_add, zI_sub, zI_mul, nc_12, nc_8, nc_6, nc_40, nc_250, nc_3, len4_0, len4_1, len4_2, len4_3, len4_4, and_self, and_true, true_and, lenA_i, va_rf_s, va_rf_n, oN_none, oN_some, zI_lt, zI_eq, nat_tn, Int.lt_irrefl, Int.reduceEq, Int.reduceNe, Int.reduceLT, Int.reduceLE, Int.reduceSub, Int.reduceAdd, Int.reduceMul, Int.reduceDiv, Int.reduceNeg, Int.reduceToNat, or_self, or_false, false_or, if_false, if_true, not_true_eq_false, not_false_eq_true, or_true, true_or, and_false, false_and, ldI_0, stI_0, ldQ_q, gfA_0, gfA_43, gfA_65, H_0, H_43, H_48, H_65, H_66, H_67, kq_l, isC_0, isC_43, isC_65, isC_sh, gfA_sh, hR1.1, hR1.2.1]
    refine hkA.trans ?_
    simp (disch := omega) only [e_104_54, e_104_55, e_104_58, e_104_59, e_104_62, e_104_65, e_104_66, gfA_i, pfA_i, List.getElem?_cons_zero, List.getElem?_cons_succ, oK_some, rK_some, pR_some, pR_none, kq_i, kq_r, kq_n, kq_u, kq_o, kq_l, isRf_r, isRf_n, isRf_o, okv_r, okv_n, okv_o, is2_r, is2_o, is2_n, rcv_r, isC_i, if_true, if_pos, zI_add, zI_sub, zI_mul, nc_12, nc_8, nc_6, nc_40, nc_250, nc_3, len4_0, len4_1, len4_2, len4_3, len4_4, and_self, and_true, true_and, lenA_i, va_rf_s, va_rf_n, oN_none, oN_some, zI_lt, zI_eq, nat_tn, Int.lt_irrefl, Int.reduceEq, Int.reduceNe, Int.reduceLT, Int.reduceLE, Int.reduceSub, Int.reduceAdd, Int.reduceMul, Int.reduceDiv, Int.reduceNeg, Int.reduceToNat, or_self, or_false, false_or, if_false, if_true, not_true_eq_false, not_false_eq_true, or_true, true_or, and_false, false_and, ldI_0, stI_0, ldQ_q, gfA_0, gfA_43, gfA_65, H_0, H_43, H_48, H_65, H_66, H_67, kq_l, isC_0, isC_43, isC_65, isC_sh, gfA_sh, isC_43, hks, is2_r, is2_i]
    exact hkB
  · rw [c_235]
    simp (disch := omega) only [e_235_0, e_235_1, gfA_i, pfA_i, List.getElem?_cons_zero, List.getElem?_cons_succ, oK_some, rK_some, pR_some, pR_none, kq_i, kq_r, kq_n, kq_u, kq_o, kq_l, isRf_r, isRf_n, isRf_o, okv_r, okv_n, okv_o, is2_r, is2_o, is2_n, rcv_r, isC_i, if_true, if_pos, zI_add, zI_sub, zI_mul, nc_12, nc_8, nc_6, nc_40, nc_250, nc_3, nc_s, len4_0, len4_1, len4_2, len4_3, len4_4, and_self, and_true, true_and, lenA_i, va_rf_s, va_rf_n, oN_none, oN_some, zI_lt, zI_eq, nat_tn, nc_s, Int.lt_irrefl, Int.reduceEq, Int.reduceNe, Int.reduceLT, Int.reduceLE, Int.reduceSub, Int.reduceAdd, Int.reduceMul, Int.reduceDiv, Int.reduceNeg, Int.reduceToNat, or_self, or_false, false_or, if_false, if_true, not_true_eq_false, not_false_eq_true, or_true, true_or, and_false, false_and, ldI_0, stI_0, isC_mcl, Int.add_zero, zJ_eq, Nat.reduceAdd, Nat.reduceLT, G_o, G_1, G_2, G_3, G_4, G_13, G_14, G_15, G_16, G_17, G_18, G_19, G_20, G_21, G_22, G_23, G_24, G_25, G_26, G_27, G_28, G_29, gm_0, gm_1, gm_2, gm_3, gm_4, gm_5, gm_6, gm_7, gm_8, gm_9, gm_10, gm_11, gm_12, gm_13, gm_14, gm_15, gm_16, gm_17, gm_18, gm_19, gm_20, gm_21, gm_22, gm_23, gm_24, gm_25, gm_26, gm_27, gm_28, gm_29, gm_30, gm_31, gm_32, gm_33, gm_34, gm_35, pm_7, pm_23, pm_24, pm_25, pm_26, pm_27, pm_29, pm_31, pm_34, pm_35, pm_9, pm_19, pm_20, pm_21, pm_22, mG_U, mG_8, mG_25, mG_1, mG_2, mG_3, mG_13, mG_14, mG_15, mG_16, mG_26, mG_27, mG_28, mG_29, mG_17, mG_18, mG_19, mG_20, mG_21, mG_22, mG_23, mG_24, kq_l, va_up_ne, va_up_self]
    refine (hrA _).trans ?_
    simp (disch := omega) only [e_235_37, e_235_38, e_235_41, e_235_42, gfA_i, pfA_i, List.getElem?_cons_zero, List.getElem?_cons_succ, oK_some, rK_some, pR_some, pR_none, kq_i, kq_r, kq_n, kq_u, kq_o, kq_l, isRf_r, isRf_n, isRf_o, okv_r, okv_n, okv_o, is2_r, is2_o, is2_n, rcv_r, isC_i, if_true, if_pos, zI_add, zI_sub, zI_mul, nc_12, nc_8, nc_6, nc_40, nc_250, nc_3, nc_s, len4_0, len4_1, len4_2, len4_3, len4_4, and_self, and_true, true_and, lenA_i, va_rf_s, va_rf_n, oN_none, oN_some, zI_lt, zI_eq, nat_tn, nc_s, Int.lt_irrefl, Int.reduceEq, Int.reduceNe, Int.reduceLT, Int.reduceLE, Int.reduceSub, Int.reduceAdd, Int.reduceMul, Int.reduceDiv, Int.reduceNeg, Int.reduceToNat, or_self, or_false, false_or, if_false, if_true, not_true_eq_false, not_false_eq_true, or_true, true_or, and_false, false_and, ldI_0, stI_0, isC_mcl, Int.add_zero, zJ_eq, Nat.reduceAdd, Nat.reduceLT, G_o, G_1, G_2, G_3, G_4, G_13, G_14, G_15, G_16, G_17, G_18, G_19, G_20, G_21, G_22, G_23, G_24, G_25, G_26, G_27, G_28, G_29, gm_0, gm_1, gm_2, gm_3, gm_4, gm_5, gm_6, gm_7, gm_8, gm_9, gm_10, gm_11, gm_12, gm_13, gm_14, gm_15, gm_16, gm_17, gm_18, gm_19, gm_20, gm_21, gm_22, gm_23, gm_24, gm_25, gm_26, gm_27, gm_28, gm_29, gm_30, gm_31, gm_32, gm_33, gm_34, gm_35, pm_7, pm_23, pm_24, pm_25, pm_26, pm_27, pm_29, pm_31, pm_34, pm_35, pm_9, pm_19, pm_20, pm_21, pm_22, mG_U, mG_8, mG_25, mG_1, mG_2, mG_3, mG_13, mG_14, mG_15, mG_16, mG_26, mG_27, mG_28, mG_29, mG_17, mG_18, mG_19, mG_20, mG_21, mG_22, mG_23, mG_24, kq_l, va_up_ne, va_up_self, hrf]
    exact hrB _
  · exact Rl_S hRl hjI.1 (by rw [hjI.2.1, hn1, hn]; exact Int.le_refl _)
end Q7m
