section IN7
theorem In_sc0 : In sc0 := by
  obtain ⟨e0, e1, e2, e3, e4, e5⟩ := sc0_8
  refine ⟨by omega, by omega, by omega, by omega, fun i => ?_, fun f i hf _ => sc0_f (by omega), fun i h => absurd h (by omega), fun i h => absurd h (by omega)⟩
  rw [sc0_f (by omega), sc0_f (by omega), sc0_f (by omega), sc0_f (by omega), sc0_f (by omega), sc0_f (by omega), sc0_f (by omega), sc0_f (by omega)]
  omega
theorem law_run {L : Nat} {A : Nat → Int} {C : Nat → AC} (hC : C 1000000 = scr L A) (hL : L ≤ 3072) (hA : ∀ j, i32 (A j)) : ∃ M', den (callD 30) 0 0 [.ref 1000000, uu, uu, uu] [] (0, 0, C) = some (some (.int (zI 1)), M') ∧ M'.1 ≤ 158 ∧ M'.2.1 ≤ 300000 := by
  obtain ⟨st0, hst⟩ : ∃ st0 : Stt, st0 = (sc0, sc0, sc0, (0 : Int), (((fun _ => 0), (fun _ => none), (fun _ => none), (fun _ => none), (fun _ => 0)) : Xm), (fun _ _ => 0), (fun _ => 0), (fun _ _ => 0), (0 : Int), (fun _ => 0), (((fun _ => 0), none) : Yt), (fun _ => 0), (fun _ => 0), (none, none), (fun _ _ => 0), (fun _ => 0), ((98, 3951, C) : AM)) := ⟨_, rfl⟩
  obtain ⟨Hh, hH⟩ : ∃ Hh : AM, Hh = H sc0 sc0 sc0 0 ((fun _ => 0), (fun _ => none), (fun _ => none), (fun _ => none), (fun _ => 0)) (fun _ _ => 0) (fun _ => 0) (fun _ _ => 0) 0 (fun _ => 0) ((fun _ => 0), none) (fun _ => 0) (98, 3951, C) := ⟨_, rfl⟩
  have r1 : RS Hh 1 sc0 := by rw [hH]; exact RS_1
  have r15 : RS Hh 15 sc0 := by rw [hH]; exact RS_15
  have r29 : RS Hh 29 sc0 := by rw [hH]; exact RS_29
  have hci := car_init (F := Hh.2.2) (C := C) (s := 8) (d := 27) r1.1 r1.2.1 r1.2.2 r15.1 r15.2.1 r15.2.2 r29.1 r29.2.1 r29.2.2
    (by rw [hH, H_43]; rfl) (by rw [hH, H_44]) (by rw [hH, H_45]) (by rw [hH, H_46]) (by rw [hH, H_47]) (by rw [hH, H_48]; rfl) (fun i hi => by rw [hH, H_sh hi]) (fun i hi => by rw [hH, H_ce hi]) (by rw [hH, H_65]; rfl) (by rw [hH, H_66]) (by rw [hH, H_67])
  obtain ⟨fsE, hfs⟩ : ∃ fsE : List Value, fsE = [.ref 1, .ref 15, .ref 29, .int (zI 0), .ref 43, .ref 48, .ref 65, .ref 67] := ⟨_, rfl⟩
  rw [← hfs] at hci
  have e1 : mN (0, 0, C) 8 (.inl (5, dflA 5)) = Kst Hh.2.2 C 1 8 (dflA 5) := K_of rfl rfl (by omega) rfl (fun q h1 h2 => absurd h1 (by omega)) (fun q h => mN_ne (by show ¬ q = 0; omega))
  have e2 : mN (Kst Hh.2.2 C 68 3137 fsE) 36 (.inl (6, dflA 6)) = Ast (Kst Hh.2.2 C 68 3137 fsE).2.2 68 0 3173 (dflA 6) := by
    refine Prod.ext rfl (Prod.ext rfl (funext fun q => ?_))
    show (if q = 68 then _ else (Kst Hh.2.2 C 68 3137 fsE).2.2 q) = (if q = 68 then (_ : AC) else if 68 < q ∧ q < 68 + 1 + 0 then _ else (Kst Hh.2.2 C 68 3137 fsE).2.2 q)
    by_cases e : q = 68
    · rw [if_pos e, if_pos e]
    · rw [if_neg e, if_neg e, if_neg (show ¬ (68 < q ∧ q < 68 + 1 + 0) by omega)]
  have hri : callD (29 + 1) 135 [.ref 68] (Ast (Kst Hh.2.2 C 68 3137 fsE).2.2 68 0 3173 (dflA 6)) = some (none, gw0 (98, 3951, (Kst Hh.2.2 C 68 3137 fsE).2.2) 68) := r_init (d := 29) (M := (Kst Hh.2.2 C 68 3137 fsE).2.2) (b := 68) (s := 3173) (by omega)
  have e3 : ((98, 3951, (Kst Hh.2.2 C 68 3137 fsE).2.2) : AM) = Hh := by
    refine Prod.ext (by rw [hH]; rfl) (Prod.ext (by rw [hH]; rfl) (funext fun q => ?_))
    show (if q = 0 then Sum.inl (5, fsE) else if q < 68 then Hh.2.2 q else C q) = Hh.2.2 q
    by_cases h0 : q = 0
    · rw [if_pos h0, h0, hH, H_0, hfs]; rfl
    · rw [if_neg h0]
      by_cases h1 : q < 68
      · rw [if_pos h1]
      · rw [if_neg h1, hH, H_hi (by omega)]
  have e4 : gw0 Hh 68 = HP st0 := by rw [hst, hH]; rfl
  rw [e3, e4] at hri
  have hsc : (HP st0).2.2 1000000 = scr L A := by
    rw [hst]
    show (G (H _ _ _ _ _ _ _ _ _ _ _ _ _) 68 _ _ _ _ _ _).2.2 1000000 = _
    rw [G_ne (by omega), H_hi (by omega)]
    exact hC
  have hRl : Rl st0 := by
    rw [hst]
    refine ⟨In_sc0, fun s _ => ⟨by show (0 : Int) ≤ 0 ∧ (0 : Int) ≤ 2; omega, by show (0 : Int) ≤ 0 ∧ (0 : Int) ≤ 4; omega, by show (0 : Int) ≤ 0 ∧ (0 : Int) ≤ 40; omega, fun h => absurd (show (0 : Int) = 2 from h) (by omega)⟩, ⟨fun _ => rfl, fun _ => rfl, fun _ => rfl⟩, rfl, rfl, rfl, ⟨by omega, fun i hi => absurd hi (by omega)⟩, ⟨by show 98 ≤ 98 ∧ 98 ≤ 98 + 30 * (0 + 0) ∧ 3951 ≤ 100000 + 100000 * (0 + 0); omega, Or.inl ⟨rfl, rfl⟩, Or.inl rfl, fun a b h _ => by cases h⟩⟩
  obtain ⟨M', g1, g2⟩ := law_loop hL hA L 0 st0 ⟨hRl, hsc⟩ (by omega) (by omega)
  refine ⟨M', ?_, g2⟩
  have x5 : isC (.inl (5, dflA 5)) 5 = true := rfl
  have x6 : isC (.inl (6, dflA 6)) 6 = true := rfl
  have a0 : (Kst Hh.2.2 C 1 8 (dflA 5)).2.2 0 = .inl (5, dflA 5) := rfl
  have a6 : (Ast (Kst Hh.2.2 C 68 3137 fsE).2.2 68 0 3173 (dflA 6)).2.2 68 = .inl (6, dflA 6) := rfl
  have n0 : ((0, 0, C) : AM).1 = 0 := rfl
  have n68 : (Kst Hh.2.2 C 68 (8 + 3129) fsE).1 = 68 := rfl
  rw [show ((0 : Nat) : Int) = 0 from rfl] at g1
  simp (disch := omega) only [e_0_0, e_0_3, e_0_3_i, e_0_4, e_0_7, e_0_8, e_0_11, e_0_11_i, e_0_12, e_0_15, e_0_16, e_0_17, gfA_i, pfA_i, List.getElem?_cons_zero, List.getElem?_cons_succ, oK_some, rK_some, pR_some, pR_none, kq_i, kq_r, kq_n, kq_u, kq_o, kq_l, isRf_r, isRf_n, isRf_o, okv_r, okv_n, okv_o, is2_r, is2_o, is2_n, rcv_r, isC_i, if_true, if_pos, zI_add, zI_sub, zI_mul, nc_12, nc_8, nc_6, nc_40, nc_250, nc_3, len4_0, len4_1, len4_2, len4_3, len4_4, and_self, and_true, true_and, lenA_i, va_rf_s, va_rf_n, oN_none, oN_some, zI_lt, zI_eq, nat_tn, Int.lt_irrefl, Int.reduceEq, Int.reduceNe, Int.reduceLT, Int.reduceLE, Int.reduceSub, Int.reduceAdd, Int.reduceMul, Int.reduceDiv, Int.reduceNeg, Int.reduceToNat, or_self, or_false, false_or, if_false, if_true, not_true_eq_false, not_false_eq_true, or_true, true_or, and_false, false_and, zI_toInt, zI_tn, rcv_c, List.length_cons, List.length_nil, Nat.reduceAdd, Nat.zero_le, Nat.reduceLeDiff, oK_some, okv_r, okv_i, mN_1, mU_1, mN_a, mU_at, mU_ne, mN_ne, n0, e1, a0, x5, hci, K_1, e2, a6, x6, hri, g1]
end IN7
