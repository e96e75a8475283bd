theorem mna_outer (c : ClassId) (N h0 : Nat) : ∀ i : Nat, Jvm.Free.Multi.outerC c N h0 i = arrV c N (fun j => va_rf (if j < i then some (h0 + 1 + j) else none))
  | 0 => by
    show ({ cls := c, slots := Array.replicate N .null, vm := .none } : Cell) = _
    rw [arrV_new]
    refine congrArg (arrV c N) (funext fun j => ?_)
    simp [va_rf]
  | i + 1 => by
    show (Jvm.Free.Multi.outerC c N h0 i).setSlot i (.ref (h0 + 1 + i)) = _
    rw [mna_outer c N h0 i, arrV_store]
    refine congrArg (arrV c N) (funext fun j => ?_)
    by_cases e : j = i
    · subst e
      simp [updV, va_rf]
    · by_cases h : j < i
      · simp [updV, e, h, Nat.lt_succ_of_lt h]
      · simp [updV, e, h, show ¬ j < i + 1 by omega]
section STU
variable {p : Program} {l : Launch} {e : Env} {R : Room} {s : State} {m : MethodId} {args : Array Value} {below : List Frame} {meth : Method} {c : Code} {Q : State → Prop} {y : Nat} {D : va_G} {dA : Nat → ClassId} {b0 : Nat} {xa : Nat → Nat} {sL : Nat} {sX : Nat → Int32} {n0 s0 : Nat} {pc pc' : Nat} {L L' st st' : List Value} {M M1 : AM} {H : Heap} {locs : List Loc} {k0 t0 : Nat} {ls : Array Slot}
theorem s_cpy (C : Cx p s m args meth c y D dA b0 xa sL sX) (hLn : L.length = mdL y) (hl : hasL b0 xa ls L) (hR : Rp D dA b0 xa sL sX M H) (hS : va_S (fun q => b0 ≤ q) s.heap H locs) (hk : M.1 = n0 + k0) (ht : M.2.1 = s0 + t0) (hf1 : 1 ≤ R.frames) (hf2 : 100 ≤ R.locals) {ix p1 p2 p3 p4 : Nat}
    (hd : decode (mdB y) pc = .ok (.invokestatic ix, 3)) (w1 : eqW p1 (.methodLink (mdO y) ix arraycopyName) = true) (w2 : eqW p2 (.native arraycopyName) = true) (w3 : eqW p3 (.static arraycopyName) = true) (w4 : eqW p4 (.initialized "java/lang/System") = true)
    (hn : nx_cpy (pc + 3) L st M = some (.inl (pc', L', st', M1))) (kk : KK p l e R s m args below meth c Q y D dA b0 xa sL sX n0 s0 pc' L' st' M1) : W p l e R s m args below meth c H locs k0 t0 Q (F0 m pc ls (st.map (cv b0 xa))) := by
  obtain ⟨hx, hb, hml, hown, hts, hK, hSF, -, hb0⟩ := C
  obtain ⟨n, dp, q, sp, q0, r, m0, m1, f, g, rfl, hM0, hM1, h1, h2, h3, h4, h5, hr4, rfl, rfl, rfl, rfl⟩ := nx_cpy_inv hn
  have ha0 := hR.arlt hM0 (by decide)
  have ha1 := hR.arlt hM1 (by decide)
  have hat0 := hR.at ha0
  have hat1 := hR.at ha1
  rw [hM0] at hat0
  rw [hM1] at hat1
  have hc0 : H[am b0 xa q0]? = some (vp_cell (dA 1) (m0, .inr (.inl f))) := hat0
  have hc1 : H[am b0 xa q]? = some (vp_cell (dA 1) (m1, .inr (.inl g))) := hat1
  have hAq : b0 ≤ am b0 xa q := by rw [am_lt (by have := hR.2.2.2; omega)]; omega
  have neg : ∀ z : Int32, 0 ≤ z.toInt → ¬ z < 0 := fun z hz => by rw [Int32.lt_iff_toInt_lt]; simp; omega
  have nn : ∀ z : Int32, 0 ≤ z.toInt → z.toInt = (z.toNatClampNeg : Int) := fun z hz => by show z.toInt = ((z.toInt.toNat : Nat) : Int); omega
  have e1n := nn sp h1
  have e2n := nn dp h2
  have e3n := nn n h3
  have hKt := hK.1.2 1 _ (tysA_at dA (t := 1) (by decide))
  intro T hT X
  obtain ⟨-, k0', hk0, cm0, hkk0⟩ := hKt.1 m0 (fun j => .long (f j))
  obtain ⟨-, k1', hk1, cm1, hkk1⟩ := hKt.1 m1 (fun j => .long (g j))
  have hsum := cat_sum (st'.map (cv b0 xa))
  rw [List.length_map] at hsum
  obtain ⟨vm', X', step⟩ := X.arraycopy hx hown (hts _ (eqW_in w1)) (hts _ (eqW_in w2)) (hts _ (eqW_in w3)) (hts _ (eqW_in w4)) (src := am b0 xa q0) (dst := am b0 xa q) (cs := vp_cell (dA 1) (m0, .inr (.inl f))) (cd := vp_cell (dA 1) (m1, .inr (.inl g))) (srcPos := sp) (destPos := dp) (n := n) (by rw [hT]; exact hc0) (by rw [hT]; exact hc1)
    (fun _ h => by cases h) (fun _ h => by cases h) (fun h => by cases h) (fun h => by cases h) hk0 hk1 hkk0 hkk1 (by simp [aty, refKind]) (neg sp h1) (neg dp h2) (neg n h3)
    (by show ¬ _ > ((arrV (dA 1) m0 (fun j => .long (f j))).slots.size : Int); rw [arrV_size]; omega)
    (by show ¬ _ > ((arrV (dA 1) m1 (fun j => .long (g j))).slots.size : Int); rw [arrV_size]; omega)
    (fun vm₁ _ i hi => by
      have e : (vp_cell (dA 1) (m0, .inr (.inl f))).slots.getD (sp.toNatClampNeg + i) .null = .long (f (sp.toNatClampNeg + i)) := by
        show (arrV (dA 1) m0 (fun j => .long (f j))).slots.getD _ _ = _
        rw [Array.getD_eq_getD_getElem?, arrV_read _ _ (by omega)]
        rfl
      refine ⟨?_, ?_⟩
      · rw [e]
        rfl
      · rw [e]
        exact trivial)
    (g := F0 m pc ls (.int n :: .int dp :: .ref (am b0 xa q) :: .int sp :: .ref (am b0 xa q0) :: st'.map (cv b0 xa))) rfl (by rw [hml, ← hLn, ← hl.1]) (rest := st'.map (cv b0 xa)) rfl (by rw [hb]; exact hd) hf1 (by
      have h90 : nativeFrameWords "java/lang/System" "arraycopy" 5 + 11 ≤ 90 := by decide +kernel
      show 2 * 0 + _ + _ ≤ _
      omega)
  have e1 : copied (vp_cell (dA 1) (m0, .inr (.inl f))) (vp_cell (dA 1) (m1, .inr (.inl g))) sp dp n = vp_cell (dA 1) (m1, .inr (.inl (va_cpy f g sp.toNatClampNeg dp.toNatClampNeg n.toNatClampNeg))) := va_copied (fun z => .long z) (dA 1) (dA 1) f g (by omega)
  rw [e1] at X' step
  have hl' : am b0 xa q < H.size := (Array.getElem?_eq_some_iff.mp hc1).1
  have hheap : ((T.setVm vm').setCell (am b0 xa q) (vp_cell (dA 1) (m1, .inr (.inl (va_cpy f g sp.toNatClampNeg dp.toNatClampNeg n.toNatClampNeg))))).heap = H.setIfInBounds (am b0 xa q) (vp_cell (dA 1) (m1, .inr (.inl (va_cpy f g sp.toNatClampNeg dp.toNatClampNeg n.toNatClampNeg)))) := by rw [← hT]; rfl
  have oq : ∀ z : Nat, z ≠ am b0 xa q → (H.setIfInBounds (am b0 xa q) (vp_cell (dA 1) (m1, .inr (.inl (va_cpy f g sp.toNatClampNeg dp.toNatClampNeg n.toNatClampNeg)))))[z]? = H[z]? := fun z hz => by simp [Array.getElem?_setIfInBounds, Ne.symm hz]
  obtain ⟨t, a1, b1⟩ := kk _ _ ls k0 t0 hl hLn (hR.put ha1 (c := .inr (1, m1, .inr (.inl (va_cpy f g sp.toNatClampNeg dp.toNatClampNeg n.toNatClampNeg)))) rfl (show (H.setIfInBounds (am b0 xa q) _)[am b0 xa q]? = some _ by simp [Array.getElem?_setIfInBounds, hl']) (by simp) oq) ⟨by simp; exact hS.1, fun z g1 g2 => by
      rw [oq z (fun e => g2 (by rw [e]; exact hAq))]
      exact hS.2.1 z g1 g2, fun z hz => by
      rcases List.mem_append.mp hz with h | h
      · exact hS.2.2 z h
      · obtain ⟨w, -, hw⟩ := List.mem_map.mp h
        rw [← hw]
        exact hAq⟩ hk ht _ hheap X'
  exact ⟨t, step t a1, b1⟩
theorem s_mna (C : Cx p s m args meth c y D dA b0 xa sL sX) (hLn : L.length = mdL y) (hl : hasL b0 xa ls L) (hR : Rp D dA b0 xa sL sX M H) (hS : va_S (fun q => b0 ≤ q) s.heap H locs) (hk : M.1 = n0 + k0) (ht : M.2.1 = s0 + t0) (bk : M1.1 ≤ n0 + R.cells) (bt : M1.2.1 ≤ s0 + R.slots) {ix p1 p2 : Nat}
    (hd : decode (mdB y) pc = .ok (.multianewarray ix 2, 4)) (w1 : eqW p1 (.classLink (mdO y) ix ("[" ++ (FieldType.array .long).toString)) = true) (w2 : eqW p2 (.arrayClass .long) = true)
    (hn : nx_mna (pc + 4) L st M = some (.inl (pc', L', st', M1))) (kk : KK p l e R s m args below meth c Q y D dA b0 xa sL sX n0 s0 pc' L' st' M1) : W p l e R s m args below meth c H locs k0 t0 Q (F0 m pc ls (st.map (cv b0 xa))) := by
  obtain ⟨hx, hb, hml, hown, hts, hK, hSF, -, hb0⟩ := C
  obtain ⟨n, k, r, rfl, hlt, h1, h2, h3, h4, rfl, rfl, rfl, rfl⟩ := nx_mna_inv hn
  have neg : ∀ z : Int32, 0 ≤ z.toInt → ¬ z < 0 := fun z hz => by rw [Int32.lt_iff_toInt_lt]; simp; omega
  have hN : n.toNatClampNeg < 1000 := by show n.toInt.toNat < _; omega
  have hKk : k.toNatClampNeg < 1000 := by show k.toInt.toNat < _; omega
  have bk' : M.1 + 1 + n.toNatClampNeg ≤ n0 + R.cells := bk
  have bt' : M.2.1 + n.toNatClampNeg + n.toNatClampNeg * k.toNatClampNeg ≤ s0 + R.slots := bt
  have hs := hR.1
  intro T hT X
  obtain ⟨vm₁, cA, comp, -, fA, fC, hO, -, X', step⟩ := Jvm.Stand.multianewarray2F X hx hown (hts _ (eqW_in w1)) (ty := .long) (show (Cond.arrayOver (.array .long)).before args s = true from hK.2.2.2) (hts _ (eqW_in w2)) (g := F0 m pc ls (.int k :: .int n :: r.map (cv b0 xa))) rfl (by rw [hb]; exact hd) rfl (neg n h1) (neg k h3) (by omega) (by show k.toNatClampNeg * 8 ≤ _; omega) (by omega) rfl rfl (by omega) (by omega)
  generalize hF : Jvm.Free.Multi.fill (T.setVm vm₁) cA comp n.toNatClampNeg k.toNatClampNeg (defaultValue .long) n.toNatClampNeg = F at X' step
  have hTh : (T.setVm vm₁).heap = H := hT
  obtain ⟨f1, f2, -, -⟩ := Jvm.Free.Multi.fill_facts (T.setVm vm₁) cA comp n.toNatClampNeg k.toNatClampNeg (defaultValue .long) n.toNatClampNeg
  rw [hF, hTh] at f1 f2
  have hold : ∀ x : Nat, x < H.size → F.heap[x]? = H[x]? := fun x hx => by
    have := Jvm.Free.Multi.fill_old (T.setVm vm₁) cA comp n.toNatClampNeg k.toNatClampNeg (defaultValue .long) (a := x) (by rw [hTh]; exact hx) n.toNatClampNeg
    rw [hF, hTh] at this
    exact this
  have hz : Jvm.Free.Multi.innerC comp k.toNatClampNeg (defaultValue .long) = vp_cell comp (k.toNatClampNeg, .inr (.inl fun _ => 0)) := by
    rw [vp_cell_l]
    exact arrV_new comp k.toNatClampNeg (.long 0)
  have hrow : ∀ j : Nat, j < n.toNatClampNeg → F.heap[H.size + 1 + j]? = some (vp_cell comp (k.toNatClampNeg, .inr (.inl fun _ => 0))) := fun j hj => by
    have := Jvm.Free.Multi.fill_inner (T.setVm vm₁) cA comp n.toNatClampNeg k.toNatClampNeg (defaultValue .long) n.toNatClampNeg j hj
    rw [hF, hTh, hz] at this
    exact this
  have hout : Jvm.Free.Multi.outerC cA n.toNatClampNeg H.size n.toNatClampNeg = arrV cA n.toNatClampNeg (fun j => va_rf (if j < n.toNatClampNeg then some (H.size + 1 + j) else none)) := mna_outer cA n.toNatClampNeg H.size n.toNatClampNeg
  rw [hout] at f2
  have hA4 : cA = dA 4 := by
    have h2 : s.vm.findClass ("[" ++ (FieldType.array .long).toString) = some (dA 4) := (hK.1.2 4 _ (tysA_at dA (t := 4) (by decide))).2
    exact Option.some.inj (fA.symm.trans h2)
  have hA1 : comp = dA 1 := by
    have h2 : s.vm.findClass ("[" ++ FieldType.long.toString) = some (dA 1) := (hK.1.2 1 _ (tysA_at dA (t := 1) (by decide))).2
    exact Option.some.inj (fC.symm.trans h2)
  subst hA4
  subst hA1
  have e0 : (.ref H.size : Value) = cv b0 xa (.ref M.1) := by
    show _ = Value.ref (am b0 xa M.1)
    rw [am_lt (by omega), hs]
  have hRn : Rp D dA b0 xa sL sX (mMul M n.toNatClampNeg k.toNatClampNeg) F.heap := by
    refine ⟨?_, fun q hq => ?_, fun q hq => ?_, ?_⟩
    · show F.heap.size = b0 + (M.1 + 1 + n.toNatClampNeg)
      rw [f1, hs]
      omega
    · have hq : q < M.1 + 1 + n.toNatClampNeg := hq
      by_cases q1 : q = M.1
      · subst q1
        have ec : (mMul M n.toNatClampNeg k.toNatClampNeg).2.2 M.1 = .inr (4, n.toNatClampNeg, .inr (.inr fun i => if i < n.toNatClampNeg then some (M.1 + 1 + i) else none)) := if_pos rfl
        rw [ec]
        refine ⟨?_, Or.inr (Or.inr rfl)⟩
        show F.heap[b0 + M.1]? = some (vp_cell (dA 4) (n.toNatClampNeg, .inr (.inr (.inr (.inr (fun j => (if j < n.toNatClampNeg then some (M.1 + 1 + j) else none).map (am b0 xa)))))))
        rw [← hs, f2, vp_cell_q]
        congr 2
        funext j
        by_cases hj : j < n.toNatClampNeg
        · rw [if_pos hj, if_pos hj]
          show va_rf (some _) = va_rf (some (am b0 xa (M.1 + 1 + j)))
          rw [am_lt (by omega), hs]
          congr 2
          omega
        · rw [if_neg hj, if_neg hj]
          rfl
      · by_cases q2 : M.1 < q
        · have ec : (mMul M n.toNatClampNeg k.toNatClampNeg).2.2 q = .inr (1, k.toNatClampNeg, .inr (.inl fun _ => 0)) := by
            show (if q = M.1 then _ else if M.1 < q ∧ q ≤ M.1 + n.toNatClampNeg then _ else _) = _
            rw [if_neg q1, if_pos ⟨q2, by omega⟩]
          rw [ec]
          refine ⟨?_, rfl⟩
          show F.heap[b0 + q]? = some (vp_cell (dA 1) (k.toNatClampNeg, .inr (.inl fun _ => 0)))
          rw [← hrow (q - M.1 - 1) (by omega)]
          congr 1
          omega
        · have ec : (mMul M n.toNatClampNeg k.toNatClampNeg).2.2 q = M.2.2 q := by
            show (if q = M.1 then _ else if M.1 < q ∧ q ≤ M.1 + n.toNatClampNeg then _ else _) = _
            rw [if_neg q1, if_neg (fun h => q2 h.1)]
          rw [ec]
          have := hR.2.1 q (by omega)
          exact ⟨this.1.kept (hold (b0 + q) (by omega)), this.2⟩
    · have hq : M.1 + 1 + n.toNatClampNeg ≤ q := hq
      show (if q = M.1 then _ else if M.1 < q ∧ q ≤ M.1 + n.toNatClampNeg then _ else _) = _
      rw [if_neg (by omega), if_neg (by omega)]
      exact hR.2.2.1 q (by omega)
    · show M.1 + 1 + n.toNatClampNeg < 700000
      omega
  obtain ⟨t, a1, b1⟩ := kk F.heap locs ls (k0 + 1 + n.toNatClampNeg) (t0 + n.toNatClampNeg + n.toNatClampNeg * k.toNatClampNeg) hl hLn hRn ⟨by rw [f1]; have := hS.1; omega, fun x h1 h2 => (hold x (Nat.lt_of_lt_of_le h1 hS.1)).trans (hS.2.1 x h1 h2), hS.2.2⟩ (by show M.1 + 1 + _ = _; omega) (by show M.2.1 + _ + _ = _; omega) F rfl X'
  rw [List.map_cons, ← e0] at a1
  refine ⟨t, step t ?_, b1⟩
  have e : T.heap.size = H.size := by rw [hT]
  rw [e]
  exact a1
end STU
