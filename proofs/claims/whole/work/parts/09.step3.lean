section STQ
variable {p : Program} {l : Launch} {e : Env} {R : Room} {s : State} {m : MethodId} {args : Array Value} {below : List Frame} {meth : Method} {c : Code} {Q : State → Prop} {y : Nat} {D : va_G} {dA : Nat → ClassId} {b0 : Nat} {xa : Nat → Nat} {sL : Nat} {sX : Nat → Int32} {n0 s0 : Nat} {pc pc' : Nat} {L L' st st' : List Value} {M M1 : AM} {H : Heap} {locs : List Loc} {k0 t0 : Nat} {ls : Array Slot}
theorem Rp.okt (h : Rp D dA b0 xa sL sX M H) {a : Nat} (ha : a < M.1) : okT (M.2.2 a) := (h.2.1 a ha).2
theorem s_iald (C : Cx p s m args meth c y D dA b0 xa sL sX) (hLn : L.length = mdL y) (hl : hasL b0 xa ls L) (hR : Rp D dA b0 xa sL sX M H) (hS : va_S (fun q => b0 ≤ q) s.heap H locs) (hk : M.1 = n0 + k0) (ht : M.2.1 = s0 + t0)
    (hd : decode (mdB y) pc = .ok (.iaload, 1)) (hn : nx_al ldI (pc + 1) L st M = some (.inl (pc', L', st', M1))) (kk : KK p l e R s m args below meth c Q y D dA b0 xa sL sX n0 s0 pc' L' st' M1) : W p l e R s m args below meth c H locs k0 t0 Q (F0 m pc ls (st.map (cv b0 xa))) := by
  obtain ⟨hx, hb, hml, hown, hts, hK, hSF, -, hb0⟩ := C
  obtain ⟨i, q, r, v, rfl, hg, rfl, rfl, rfl, rfl⟩ := nx_al_inv hn
  obtain ⟨t, n, f, hM, htt, h0, h1, rfl⟩ := ldI_inv hg
  by_cases hq : q < M1.1
  · have hat := hR.at hq
    have hok := hR.okt hq
    rw [hM] at hat hok
    have hok : t = 0 := hok
    subst hok
    exact va_iald hx hb hK.1 (one_P hat) 0 0 rfl (tysA_at dA (t := 0) (by decide)) (in_vp h0 h1) hd (kk H locs ls k0 t0 hl hLn hR hS hk ht)
  · have hxm := hR.2.2.1 q (Nat.le_of_not_lt hq)
    rw [hM] at hxm
    rcases xm_cases sL sX q with ⟨rfl, e⟩ | e
    · rw [e] at hxm
      cases hxm
      have ha : am b0 xa 1000000 = xa 0 := rfl
      have hbl : xa 0 < s.heap.size := Nat.lt_of_lt_of_le hSF.2.1 hb0
      exact va_sld hx hb hSF.1 hbl (Nat.not_le.mpr hSF.2.1) hS (in_vp h0 h1) hd (kk H locs ls k0 t0 hl hLn hR hS hk ht)
    · rw [e] at hxm
      cases hxm
      omega
theorem s_lald (C : Cx p s m args meth c y D dA b0 xa sL sX) (hLn : L.length = mdL y) (hl : hasL b0 xa ls L) (hR : Rp D dA b0 xa sL sX M H) (hS : va_S (fun q => b0 ≤ q) s.heap H locs) (hk : M.1 = n0 + k0) (ht : M.2.1 = s0 + t0)
    (hd : decode (mdB y) pc = .ok (.laload, 1)) (hn : nx_al ldJ (pc + 1) L st M = some (.inl (pc', L', st', M1))) (kk : KK p l e R s m args below meth c Q y D dA b0 xa sL sX n0 s0 pc' L' st' M1) : W p l e R s m args below meth c H locs k0 t0 Q (F0 m pc ls (st.map (cv b0 xa))) := by
  obtain ⟨hx, hb, hml, hown, hts, hK, hSF, -, hb0⟩ := C
  obtain ⟨i, q, r, v, rfl, hg, rfl, rfl, rfl, rfl⟩ := nx_al_inv hn
  obtain ⟨n, f, hM, h0, h1, rfl⟩ := ldJ_inv hg
  have hat := hR.at (hR.arlt hM (by decide))
  rw [hM] at hat
  exact va_lald hx hb hK.1 (one_P hat) 0 1 rfl (tysA_at dA (t := 1) (by decide)) (in_vp h0 h1) hd (kk H locs ls k0 t0 hl hLn hR hS hk ht)
theorem s_aald (C : Cx p s m args meth c y D dA b0 xa sL sX) (hLn : L.length = mdL y) (hl : hasL b0 xa ls L) (hR : Rp D dA b0 xa sL sX M H) (hS : va_S (fun q => b0 ≤ q) s.heap H locs) (hk : M.1 = n0 + k0) (ht : M.2.1 = s0 + t0)
    (hd : decode (mdB y) pc = .ok (.aaload, 1)) (hn : nx_al ldQ (pc + 1) L st M = some (.inl (pc', L', st', M1))) (kk : KK p l e R s m args below meth c Q y D dA b0 xa sL sX n0 s0 pc' L' st' M1) : W p l e R s m args below meth c H locs k0 t0 Q (F0 m pc ls (st.map (cv b0 xa))) := by
  obtain ⟨hx, hb, hml, hown, hts, hK, hSF, -, hb0⟩ := C
  obtain ⟨i, q, r, v, rfl, hg, rfl, rfl, rfl, rfl⟩ := nx_al_inv hn
  obtain ⟨t, n, f, hM, htt, h0, h1, rfl⟩ := ldQ_inv hg
  have hat := hR.at (hR.arlt hM (by omega))
  rw [hM] at hat
  have kk2 := kk H locs ls k0 t0 hl hLn hR hS hk ht
  rw [List.map_cons, cv_rf] at kk2
  have hlt : i.toNatClampNeg < n := Nat.not_le.mp fun z => (in_vp h0 h1) (Or.inr z)
  have ht5 : t < 5 := by omega
  have hty : (aty t).isReference = true := by rcases htt with rfl | rfl | rfl <;> rfl
  exact W.aald (v := va_rf ((f i.toNatClampNeg).map (am b0 xa))) (ty := aty t) hx hb (show H[am b0 xa q]? = some (vp_cell (dA t) (n, .inr (.inr (.inr (.inr (fun j => (f j).map (am b0 xa))))))) from hat) ((hK.1.2 t _ (tysA_at dA ht5)).1 n (fun j => va_rf ((f j).map (am b0 xa)))) hty (fun z => by cases z) (by show ¬ (i < 0 ∨ (arrV _ _ _).slots.size ≤ _); rw [arrV_size]; exact in_vp h0 h1) (by show (arrV _ _ _).slots[_]? = _; rw [arrV_read _ _ hlt]) rfl rfl hd kk2
theorem s_alen (C : Cx p s m args meth c y D dA b0 xa sL sX) (hLn : L.length = mdL y) (hl : hasL b0 xa ls L) (hR : Rp D dA b0 xa sL sX M H) (hS : va_S (fun q => b0 ≤ q) s.heap H locs) (hk : M.1 = n0 + k0) (ht : M.2.1 = s0 + t0)
    (hd : decode (mdB y) pc = .ok (.arraylength, 1)) (hn : nx_len (pc + 1) L st M = some (.inl (pc', L', st', M1))) (kk : KK p l e R s m args below meth c Q y D dA b0 xa sL sX n0 s0 pc' L' st' M1) : W p l e R s m args below meth c H locs k0 t0 Q (F0 m pc ls (st.map (cv b0 xa))) := by
  obtain ⟨hx, hb, hml, hown, hts, hK, hSF, -, hb0⟩ := C
  obtain ⟨q, r, t, n, f, rfl, hM, ht8, rfl, rfl, rfl, rfl⟩ := nx_len_inv hn
  have kk2 := kk H locs ls k0 t0 hl hLn hR hS hk ht
  by_cases hq : q < M1.1
  · have hat := hR.at hq
    have hok := hR.okt hq
    rw [hM] at hat hok
    rcases f with f | f | f
    · have hok : t = 0 := hok
      subst hok
      exact va_alen hx hb hK.1 (one_P hat) 0 0 rfl (tysA_at dA (t := 0) (by decide)) rfl hd kk2
    · have hok : t = 1 := hok
      subst hok
      exact va_alen hx hb hK.1 (one_P hat) 0 1 rfl (tysA_at dA (t := 1) (by decide)) rfl hd kk2
    · have hok : t = 2 ∨ t = 3 ∨ t = 4 := hok
      exact va_alen hx hb hK.1 (one_P hat) 0 t rfl (tysA_at dA (t := t) (by omega)) rfl hd kk2
  · have hxm := hR.2.2.1 q (Nat.le_of_not_lt hq)
    rw [hM] at hxm
    rcases xm_cases sL sX q with ⟨rfl, e⟩ | e
    · rw [e] at hxm
      cases hxm
      have hbl : xa 0 < s.heap.size := Nat.lt_of_lt_of_le hSF.2.1 hb0
      exact va_slen hx hb hSF.1 hbl (Nat.not_le.mpr hSF.2.1) hS hd kk2
    · rw [e] at hxm
      cases hxm
      omega
theorem s_iast (C : Cx p s m args meth c y D dA b0 xa sL sX) (hLn : L.length = mdL y) (hl : hasL b0 xa ls L) (hR : Rp D dA b0 xa sL sX M H) (hS : va_S (fun q => b0 ≤ q) s.heap H locs) (hk : M.1 = n0 + k0) (ht : M.2.1 = s0 + t0)
    (hd : decode (mdB y) pc = .ok (.iastore, 1)) (hn : nx_is (pc + 1) L st M = some (.inl (pc', L', st', M1))) (kk : KK p l e R s m args below meth c Q y D dA b0 xa sL sX n0 s0 pc' L' st' M1) : W p l e R s m args below meth c H locs k0 t0 Q (F0 m pc ls (st.map (cv b0 xa))) := by
  obtain ⟨hx, hb, hml, hown, hts, hK, hSF, -, hb0⟩ := C
  obtain ⟨x, i, q, r, n, f, rfl, hM, h0, h1, rfl, rfl, rfl, rfl⟩ := nx_is_inv hn
  have ha := hR.arlt hM (by decide)
  have hat := hR.at ha
  rw [hM] at hat
  have hAq : b0 ≤ am b0 xa q := by rw [am_lt (by have := hR.2.2.2; omega)]; omega
  refine W.iast hx hb (show H[am b0 xa q]? = some (vp_cell (dA 0) (n, .inl f)) from hat) ((hK.1.2 0 _ (tysA_at dA (t := 0) (by decide))).1 n (fun j => .int (f j))) (fun z => by cases z) (by show ¬ (i < 0 ∨ (arrV _ _ _).slots.size ≤ _); rw [arrV_size]; exact in_vp h0 h1) rfl rfl hd fun H1 e1 z oq => ?_
  refine kk H1 _ ls k0 t0 hl hLn (hR.put ha rfl ?_ z oq) (hS.put z oq hAq) hk ht
  show H1[am b0 xa q]? = some (vp_cell (dA 0) (n, .inl (upd f i.toNatClampNeg x)))
  rw [e1, vp_cell_i, vp_cell_i, arrV_store]
  congr 2
  funext j
  by_cases hj : j = i.toNatClampNeg
  · subst hj; simp [updV, upd]
  · simp [updV, upd, hj]
theorem s_last (C : Cx p s m args meth c y D dA b0 xa sL sX) (hLn : L.length = mdL y) (hl : hasL b0 xa ls L) (hR : Rp D dA b0 xa sL sX M H) (hS : va_S (fun q => b0 ≤ q) s.heap H locs) (hk : M.1 = n0 + k0) (ht : M.2.1 = s0 + t0)
    (hd : decode (mdB y) pc = .ok (.lastore, 1)) (hn : nx_js (pc + 1) L st M = some (.inl (pc', L', st', M1))) (kk : KK p l e R s m args below meth c Q y D dA b0 xa sL sX n0 s0 pc' L' st' M1) : W p l e R s m args below meth c H locs k0 t0 Q (F0 m pc ls (st.map (cv b0 xa))) := by
  obtain ⟨hx, hb, hml, hown, hts, hK, hSF, -, hb0⟩ := C
  obtain ⟨x, i, q, r, n, f, rfl, hM, h0, h1, rfl, rfl, rfl, rfl⟩ := nx_js_inv hn
  have ha := hR.arlt hM (by decide)
  have hat := hR.at ha
  rw [hM] at hat
  have hAq : b0 ≤ am b0 xa q := by rw [am_lt (by have := hR.2.2.2; omega)]; omega
  refine W.last hx hb (show H[am b0 xa q]? = some (vp_cell (dA 1) (n, .inr (.inl f))) from hat) ((hK.1.2 1 _ (tysA_at dA (t := 1) (by decide))).1 n (fun j => .long (f j))) (fun z => by cases z) (by show ¬ (i < 0 ∨ (arrV _ _ _).slots.size ≤ _); rw [arrV_size]; exact in_vp h0 h1) rfl rfl hd fun H1 e1 z oq => ?_
  refine kk H1 _ ls k0 t0 hl hLn (hR.put ha rfl ?_ z oq) (hS.put z oq hAq) hk ht
  show H1[am b0 xa q]? = some (vp_cell (dA 1) (n, .inr (.inl (vp_updL f i.toNatClampNeg x))))
  rw [e1, vp_cell_l, vp_cell_l, arrV_store]
  congr 2
  funext j
  by_cases hj : j = i.toNatClampNeg
  · subst hj; simp [updV, vp_updL]
  · simp [updV, vp_updL, hj]
theorem s_aast (C : Cx p s m args meth c y D dA b0 xa sL sX) (hLn : L.length = mdL y) (hl : hasL b0 xa ls L) (hR : Rp D dA b0 xa sL sX M H) (hS : va_S (fun q => b0 ≤ q) s.heap H locs) (hk : M.1 = n0 + k0) (ht : M.2.1 = s0 + t0)
    (hd : decode (mdB y) pc = .ok (.aastore, 1)) (hn : nx_qs (pc + 1) L st M = some (.inl (pc', L', st', M1))) (kk : KK p l e R s m args below meth c Q y D dA b0 xa sL sX n0 s0 pc' L' st' M1) : W p l e R s m args below meth c H locs k0 t0 Q (F0 m pc ls (st.map (cv b0 xa))) := by
  obtain ⟨hx, hb, hml, hown, hts, hK, hSF, -, hb0⟩ := C
  obtain ⟨v, i, q, r, t, n, f, w, rfl, hM, htt, h0, h1, rfl, hw, rfl, rfl, rfl, rfl⟩ := nx_qs_inv hn
  have ha := hR.arlt hM (by omega)
  have hat := hR.at ha
  rw [hM] at hat
  have hat : H[am b0 xa q]? = some (vp_cell (dA t) (n, .inr (.inr (.inr (.inr (fun j => (f j).map (am b0 xa))))))) := hat
  have hAq : b0 ≤ am b0 xa q := by rw [am_lt (by have := hR.2.2.2; omega)]; omega
  have hlt : i.toNatClampNeg < n := Nat.not_le.mp fun z => (in_vp h0 h1) (Or.inr z)
  have hi0 : ¬ i < 0 := fun z => (in_vp h0 h1) (Or.inl z)
  have ht5 : t < 5 := by omega
  have fin : ∀ H1 : Heap, H1[am b0 xa q]? = some ((vp_cell (dA t) (n, .inr (.inr (.inr (.inr (fun j => (f j).map (am b0 xa))))))).setSlot i.toNatClampNeg (va_rf (w.map (am b0 xa)))) → H1.size = H.size → (∀ z, z ≠ am b0 xa q → H1[z]? = H[z]?) → W p l e R s m args below meth c H1 (locs ++ [⟨am b0 xa q, i.toNatClampNeg⟩]) k0 t0 Q (F0 m (pc + 1) ls (st'.map (cv b0 xa))) := by
    intro H1 e1 z oq
    refine kk H1 _ ls k0 t0 hl hLn (hR.put ha (by rcases htt with rfl | rfl <;> simp [okT]) ?_ z oq) (hS.put z oq hAq) hk ht
    show H1[am b0 xa q]? = some (vp_cell (dA t) (n, .inr (.inr (.inr (.inr (fun j => (va_up f i.toNatClampNeg w j).map (am b0 xa)))))))
    rw [e1, vp_cell_q, vp_cell_q, arrV_store]
    congr 2
    funext j
    by_cases hj : j = i.toNatClampNeg
    · subst hj; simp [updV, va_up]
    · simp [updV, va_up, hj]
  obtain ⟨C, hC⟩ : ∃ C, aty t = .object C := by rcases htt with rfl | rfl <;> exact ⟨_, rfl⟩
  have hKt := hK.1.2 t _ (tysA_at dA ht5)
  rw [hC] at hKt
  cases w with
  | none => exact va_WaastN (C := C) hx hb hat (hKt.1 n (fun j => va_rf ((f j).map (am b0 xa)))) (fun h => by cases h) (by show ¬ (i < 0 ∨ (arrV _ _ _).slots.size ≤ _); rw [arrV_size]; exact in_vp h0 h1) rfl rfl hd fin
  | some z =>
    obtain ⟨fs, hz⟩ := hw z rfl
    have hatz := hR.at (hR.inlt hz)
    rw [hz] at hatz
    obtain ⟨r', hr', cellV, g1, g2, g3, -⟩ := hatz
    have hel : elc t < 7 := by unfold elc; split <;> omega
    obtain ⟨T, hT, -⟩ := clA_at hel
    have hcls := (hK.1.1 (elc t) _ hT).2
    obtain ⟨kA, comp, k1, k2, k3, -⟩ := hKt.2
    have hCn : C = cNm (elc t) := by rcases htt with rfl | rfl <;> cases hC <;> rfl
    have hcomp : comp = D.1 (elc t) := by rw [hCn] at k3; exact Option.some.inj (k3.symm.trans hcls.1)
    subst hcomp
    obtain ⟨kC, hkC, -⟩ := hcls.2
    exact W.aast hx hb hat (fun z h => by cases h) (fun h => by cases h) k1 k2 rfl hkC ⟨hi0, by show _ < (arrV _ _ _).slots.size; rw [arrV_size]; exact hlt⟩ g1 (fun z h => by rw [g3] at h; cases h) (by rw [g2]; exact hkC) (by rw [g2]; exact va_assign hcls) rfl rfl hd fin
theorem s_newa (C : Cx p s m args meth c y D dA b0 xa sL sX) (hLn : L.length = mdL y) (hl : hasL b0 xa ls L) (hR : Rp D dA b0 xa sL sX M H) (hS : va_S (fun q => b0 ≤ q) s.heap H locs) (hk : M.1 = n0 + k0) (ht : M.2.1 = s0 + t0) (bk : M1.1 ≤ n0 + R.cells) (bt : M1.2.1 ≤ s0 + R.slots) {pp t : Nat} {at0 : ArrayType}
    (hd : decode (mdB y) pc = .ok (.newarray at0, 2)) (hat0 : (at0 = .int ∧ t = 0) ∨ (at0 = .long ∧ t = 1)) (w1 : eqW pp (.arrayClass (newarray.typeOf at0)) = true)
    (hn : nx_na t (pc + 2) L st M = some (.inl (pc', L', st', M1))) (kk : KK p l e R s m args below meth c Q y D dA b0 xa sL sX n0 s0 pc' L' st' M1) : W p l e R s m args below meth c H locs k0 t0 Q (F0 m pc ls (st.map (cv b0 xa))) := by
  obtain ⟨hx, hb, hml, hown, hts, hK, hSF, -, hb0⟩ := C
  obtain ⟨n, r, rfl, hlt, h0, h1, rfl, rfl, rfl, rfl⟩ := nx_na_inv hn
  have bk' : M.1 + 1 ≤ n0 + R.cells := bk
  have bt' : M.2.1 + n.toNatClampNeg ≤ s0 + R.slots := bt
  have hnn : ¬ n < 0 := by rw [Int32.lt_iff_toInt_lt]; simp; omega
  have hnb : n.toNatClampNeg < 100000 := by show n.toInt.toNat < _; omega
  have ht5 : t < 5 := by omega
  have hty : newarray.typeOf at0 = aty t := by rcases hat0 with ⟨rfl, rfl⟩ | ⟨rfl, rfl⟩ <;> rfl
  refine va_newaK hx hb (hts _ (eqW_in w1)) rfl hd rfl hnn rfl (by rcases hat0 with ⟨rfl, rfl⟩ | ⟨rfl, rfl⟩ <;> simp [newarray.typeOf, componentBytes] <;> omega) (by omega) (by omega) rfl fun H1 cA e1 z1 o1 hAr hNm => ?_
  have hcA : cA = dA t := by
    have h2 := (hK.1.2 t _ (tysA_at dA ht5)).2
    rw [hty] at hNm
    rcases hat0 with ⟨rfl, rfl⟩ | ⟨rfl, rfl⟩ <;> exact Option.some.inj (hNm.symm.trans h2)
  subst hcA
  have hs := hR.1
  have e0 : (.ref H.size : Value) = cv b0 xa (.ref M.1) := by
    show _ = Value.ref (am b0 xa M.1)
    rw [am_lt (by omega), hs]
  have kk2 := kk H1 locs ls (k0 + 1) (t0 + n.toNatClampNeg) hl hLn (hR.new hlt (c := nwA t n.toNatClampNeg) (n := n.toNatClampNeg) (by rcases hat0 with ⟨rfl, rfl⟩ | ⟨rfl, rfl⟩ <;> simp [nwA, okT]) ?_ z1 o1) ⟨Nat.le_trans hS.1 (by omega), fun x h1 h2 => (o1 x (Nat.lt_of_lt_of_le h1 hS.1)).trans (hS.2.1 x h1 h2), hS.2.2⟩ (by show M.1 + 1 = _; omega) (by show M.2.1 + n.toNatClampNeg = _; omega)
  · rw [List.map_cons, ← e0] at kk2
    exact kk2
  · rcases hat0 with ⟨rfl, rfl⟩ | ⟨rfl, rfl⟩ <;> exact e1
theorem s_newq (C : Cx p s m args meth c y D dA b0 xa sL sX) (hLn : L.length = mdL y) (hl : hasL b0 xa ls L) (hR : Rp D dA b0 xa sL sX M H) (hS : va_S (fun q => b0 ≤ q) s.heap H locs) (hk : M.1 = n0 + k0) (ht : M.2.1 = s0 + t0) (bk : M1.1 ≤ n0 + R.cells) (bt : M1.2.1 ≤ s0 + R.slots) {ix pp t : Nat}
    (hd : decode (mdB y) pc = .ok (.anewarray ix, 3)) (htt : t = 2 ∨ t = 3) (w1 : eqW pp (.classLink (mdO y) ix (cNm (elc t))) = true)
    (hn : nx_na t (pc + 3) L st M = some (.inl (pc', L', st', M1))) (kk : KK p l e R s m args below meth c Q y D dA b0 xa sL sX n0 s0 pc' L' st' M1) : W p l e R s m args below meth c H locs k0 t0 Q (F0 m pc ls (st.map (cv b0 xa))) := by
  obtain ⟨hx, hb, hml, hown, hts, hK, hSF, -, hb0⟩ := C
  obtain ⟨n, r, rfl, hlt, h0, h1, rfl, rfl, rfl, rfl⟩ := nx_na_inv hn
  have bk' : M.1 + 1 ≤ n0 + R.cells := bk
  have bt' : M.2.1 + n.toNatClampNeg ≤ s0 + R.slots := bt
  have hnn : ¬ n < 0 := by rw [Int32.lt_iff_toInt_lt]; simp; omega
  have hnb : n.toNatClampNeg < 100000 := by show n.toInt.toNat < _; omega
  have ht5 : t < 5 := by omega
  have hov : va_AO (cNm (elc t)) s := by rcases htt with rfl | rfl; exact hK.2.1; exact hK.2.2.1
  have hty : aty t = .object (cNm (elc t)) := by rcases htt with rfl | rfl <;> rfl
  refine W.anew hx hb hown (hts _ (eqW_in w1)) (va_AO.use hov) rfl hd rfl hnn (by omega) (by omega) (by omega) fun cA kA comp f1 f2 f3 f4 => ?_
  have hcA : cA = dA t := by
    have h2 := (hK.1.2 t _ (tysA_at dA ht5)).2
    rw [hty] at h2
    obtain ⟨-, -, -, -, -, h4⟩ := h2
    exact Option.some.inj (f1.symm.trans h4)
  subst hcA
  have hs := hR.1
  have e0 : (.ref H.size : Value) = cv b0 xa (.ref M.1) := by
    show _ = Value.ref (am b0 xa M.1)
    rw [am_lt (by omega), hs]
  generalize hH1 : H.push ({ cls := dA t, slots := Array.replicate n.toNatClampNeg .null, vm := .none } : Cell) = H1
  have z1 : H1.size = H.size + 1 := by rw [← hH1, Array.size_push]
  have e1 : H1[H.size]? = some (arrV (dA t) n.toNatClampNeg (fun _ => .null)) := by rw [← hH1, Array.getElem?_push_size, ← arrV_new]
  have o1 : ∀ q : Nat, q < H.size → H1[q]? = H[q]? := fun q hq => by rw [← hH1, Array.getElem?_push, if_neg (Nat.ne_of_lt hq)]
  have kk2 := kk H1 locs ls (k0 + 1) (t0 + n.toNatClampNeg) hl hLn (hR.new hlt (c := nwA t n.toNatClampNeg) (n := n.toNatClampNeg) (by rcases htt with rfl | rfl <;> simp [nwA, okT]) ?_ z1 o1) ⟨Nat.le_trans hS.1 (by omega), fun x h1 h2 => (o1 x (Nat.lt_of_lt_of_le h1 hS.1)).trans (hS.2.1 x h1 h2), hS.2.2⟩ (by show M.1 + 1 = _; omega) (by show M.2.1 + n.toNatClampNeg = _; omega)
  · rw [List.map_cons, ← e0] at kk2
    exact kk2
  · rcases htt with rfl | rfl <;> exact e1
end STQ
