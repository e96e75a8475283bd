def wsM (y : Nat) : List Cond := .code (spN y) (spB y) (spL y) (spR y) :: wsL_law
def PcC (D : va_G) (dA : Nat → ClassId) (b0 : Nat) (xa : Nat → Nat) (sL : Nat) (sX : Nat → Int32) (as : List Value) (M : AM) : Array Value → State → Prop := va_Pc (as.map (cv b0 xa)) (fun U => b0 ≤ U.heap.size ∧ Rp D dA b0 xa sL sX M U.heap ∧ KW D dA U ∧ SF b0 xa sL sX U U.heap)
def QcC (D : va_G) (dA : Nat → ClassId) (b0 : Nat) (xa : Nat → Nat) (sL : Nat) (sX : Nat → Int32) (r : Option Value) (M : AM) : Array Value → State → Outcome → State → Prop := fun _ st oc t => oc = .returned (r.map (cv b0 xa)) ∧ Rp D dA b0 xa sL sX M t.heap ∧ va_F (fun q => b0 ≤ q) st t
def vy (y : Nat) : Prop := (0 < y ∧ y < 245) ∨ y = 300 ∨ y = 301
/-- the calls of depth d are kept by the machine's methods -/
def OKc (l : Launch) (D : va_G) (dA : Nat → ClassId) (b0 : Nat) (xa : Nat → Nat) (sL : Nat) (sX : Nat → Int32) (d : Nat) (cf : Nat → List Value → AM → Option AR) : Prop :=
  ∀ (y : Nat) (as : List Value) (M : AM) (r : Option Value) (M' : AM), cf y as M = some (r, M') → M.1 ≤ M'.1 ∧ M.2.1 ≤ M'.2.1 ∧ (y = 300 ∨ y = 301 → ∃ (a : Nat) (vs : List Value), as = .ref a :: vs ∧ 1000001 ≤ a ∧ a < 1000008) ∧
    (vy y → Met l (spN y) (wsM y) ({ frames := d + 2, cells := M'.1 - M.1, slots := M'.2.1 - M.2.1, locals := 64 * d + 100 }) (PcC D dA b0 xa sL sX as M) (QcC D dA b0 xa sL sX r M') (M'.1 - M.1) (M'.2.1 - M.2.1) (fun q => b0 ≤ q))
theorem good_in {X : List Cond} (h : ∀ w ∈ X, w ∈ wsL_law) : GoodIn wsL_law X := fun w hw => ⟨h w hw, good_of_word (List.all_eq_true.mp wsL_good w (h w hw))⟩
theorem chM_all {y : Nat} (h : vy y) : Cond.code (spN y) (spB y) (spL y) (spR y) ∈ wsL_law ∧ plainFor (spN y) = true ∧ (spN y).cls ≠ "java/lang/invoke/MethodHandle" ∧ (spN y).cls ≠ "java/lang/invoke/VarHandle" ∧ spL y ≤ 40 := by
  have hc : chF y = true := by
    rcases h with h | rfl | rfl
    · exact cm_all y h.1 h.2
    · exact cm_300
    · exact cm_301
  unfold chF at hc
  simp only [Bool.and_eq_true, decide_eq_true_eq] at hc
  exact ⟨eqW_in hc.1.1.1.1.1, hc.1.1.1.1.2, hc.1.1.1.2, hc.1.1.2, hc.1.2⟩
theorem cat_sum (r : List Value) : (r.map fun v => v.category).sum ≤ 2 * r.length := by
  induction r with
  | nil => simp
  | cons v r ih =>
    have : v.category ≤ 2 := by cases v <;> simp [Value.category]
    simp only [List.map_cons, List.sum_cons, List.length_cons]
    omega
theorem frameBlind (D : va_G) (dA : Nat → ClassId) (b0 : Nat) (xa : Nat → Nat) (sL : Nat) (sX : Nat → Int32) (as : List Value) (M : AM) : FrameBlind (PcC D dA b0 xa sL sX as M) := by
  intro a U g mk h
  obtain ⟨h1, h0, h2, h3, h4⟩ := h
  exact ⟨h1, h0, h2, h3.moved (u := U) (U := U.calling g mk a) (Vm.Alike.refl U.vm), h4.same (u := U) (U := U.calling g mk a) rfl⟩
section STR
variable {p : Program} {l : Launch} {e : Env} {R : Room} {s : State} {m : MethodId} {args : Array Value} {below : List Frame} {meth : Method} {c : Code} {Q : State → Prop} {y : Nat} {D : va_G} {dA : Nat → ClassId} {b0 : Nat} {xa : Nat → Nat} {sL : Nat} {sX : Nat → Int32} {n0 s0 : Nat} {pc pc' : Nat} {L L' st st' : List Value} {M M1 : AM} {H : Heap} {locs : List Loc} {k0 t0 : Nat} {ls : Array Slot}
theorem run_W {mc ms : Nat} {st0 rest : List Value} {a : Array Value} {r : Option Value} (hb0 : b0 ≤ s.heap.size) (hr : va_Run p l e R s m args below meth c H locs k0 t0 mc ms (F0 m pc ls st0) rest (QcC D dA b0 xa sL sX r M1 a) (fun q => b0 ≤ q)) (hS : va_S (fun q => b0 ≤ q) s.heap H locs)
    (kk : ∀ (H1 : Heap) (locs1 : List Loc), Rp D dA b0 xa sL sX M1 H1 → va_S (fun q => b0 ≤ q) s.heap H1 locs1 → W p l e R s m args below meth c H1 locs1 (k0 + mc) (t0 + ms) Q (F0 m (pc + 3) ls ((r.map (cv b0 xa)).toList ++ rest))) : W p l e R s m args below meth c H locs k0 t0 Q (F0 m pc ls st0) := by
  intro T hT X
  obtain ⟨v, st₀, t, T', L, h0, X', hL, e1, e2, ⟨hv, hR', hF⟩, st⟩ := hr T hT X
  cases hv
  obtain ⟨hz, hk⟩ := hF
  rw [h0] at hz hk
  obtain ⟨t2, a1, b1⟩ := kk T'.heap (locs ++ L) (by rw [e1]; exact hR') ⟨Nat.le_trans hS.1 (by rw [e1]; exact hz), fun q h1 h2 => by rw [e1, hk q (Nat.lt_of_lt_of_le h1 hS.1) h2]; exact hS.2.1 q h1 h2, fun q hq => by
      rcases List.mem_append.mp hq with h | h
      · exact hS.2.2 q h
      · exact hL q h⟩ T' rfl X'
  exact ⟨t2, st t2 a1, b1⟩
theorem pre_U (C : Cx p s m args meth c y D dA b0 xa sL sX) (hR : Rp D dA b0 xa sL sX M H) (hS : va_S (fun q => b0 ≤ q) s.heap H locs) (as : List Value) (U : State) (hU : U.heap = H) (hW : s.WarmedH U.vm) : PcC D dA b0 xa sL sX as M (as.map (cv b0 xa)).toArray U := by
  obtain ⟨hx, hb, hml, hown, hts, hK, hSF, hini, hb0⟩ := C
  refine ⟨rfl, ?_, ?_, hK.moved hW.alike, ?_⟩
  · rw [hU, hR.1]; omega
  · rw [hU]; exact hR
  · rw [hU]
    exact (hSF.kept hb0 (fun q hq => hS.2.1 q (Nat.lt_of_lt_of_le hq hb0) (Nat.not_le.mpr hq))).warm hW
theorem s_inv (C : Cx p s m args meth c y D dA b0 xa sL sX) (hLn : L.length = mdL y) (hl : hasL b0 xa ls L) (hR : Rp D dA b0 xa sL sX M H) (hS : va_S (fun q => b0 ≤ q) s.heap H locs) (hk : M.1 = n0 + k0) (ht : M.2.1 = s0 + t0) (bk : M1.1 ≤ n0 + R.cells) (bt : M1.2.1 ≤ s0 + R.slots) {cf : Nat → List Value → AM → Option AR} {d : Nat} (hcf : OKc l D dA b0 xa sL sX d cf) (hf1 : d + 3 ≤ R.frames) (hf2 : 64 * (d + 1) + 100 ≤ R.locals) {ix ci z n : Nat} {vr : Bool} {i : Instr} (hz : vy z)
    (hd : decode (mdB y) pc = .ok (i, 3)) (hl1 : Cond.methodLink (mdO y) ix (spN z) ∈ wsL_law) (hini : Cond.initialized (spN z).cls ∈ wsL_law)
    (hi : (vr = true ∧ i = .invokevirtual ix ∧ Cond.instanceMethod (spN z) ∈ wsL_law ∧ Cond.selects (spN z).cls (spN z) (spN z) ∈ wsL_law ∧ ((spN z).cls = if ci = 90 then "java/lang/String" else cNm ci) ∧ (ci < 7 ∨ ci = 90) ∧ (ci = 90 ↔ 300 ≤ z) ∧ (parseMethodDescriptor (spN z).desc).map (fun d => d.parameters.length + 1) = some n) ∨
      (vr = true ∧ i = .invokespecial ix ∧ Cond.instanceMethod (spN z) ∈ wsL_law ∧ (spN z).name = "<init>" ∧ spR z = none ∧ (parseMethodDescriptor (spN z).desc).map (fun d => d.parameters.length + 1) = some n) ∨
      (vr = false ∧ i = .invokestatic ix ∧ Cond.static (spN z) ∈ wsL_law ∧ (parseMethodDescriptor (spN z).desc).map (fun d => d.parameters.length) = some n))
    (hn : nx_inv cf vr ci z n (pc + 3) L st M = some (.inl (pc', L', st', M1))) (kk : KK p l e R s m args below meth c Q y D dA b0 xa sL sX n0 s0 pc' L' st' M1) : W p l e R s m args below meth c H locs k0 t0 Q (F0 m pc ls (st.map (cv b0 xa))) := by
  have C0 := C
  obtain ⟨hx, hb, hml, hown, hts, hK, hSF, -, hb0⟩ := C
  obtain ⟨o, hrc, hnl, hr4, hcall, rfl, rfl, rfl⟩ := nx_inv_inv hn
  obtain ⟨hm1, hm2, hstr, hmet⟩ := hcf z _ M o M1 hcall
  have hM := hmet hz
  obtain ⟨hcode, hplain, hnh1, hnh2, hL40⟩ := chM_all hz
  have hsum : ((st.drop n).map (cv b0 xa)).length ≤ 4 := by rw [List.length_map]; exact hr4
  have hW8 : 2 * (F0 m pc ls (st.map (cv b0 xa))).monitorRoom + ((((st.drop n).map (cv b0 xa))).map fun v => v.category).sum ≤ 8 := by
    have := cat_sum ((st.drop n).map (cv b0 xa))
    show 2 * 0 + _ ≤ 8
    omega
  have hsz : (F0 m pc ls (st.map (cv b0 xa))).locals.size = mdL y := by show ls.size = _; rw [hl.1, hLn]
  have hroom : d + 2 + 1 ≤ R.frames ∧ 8 + (spL z + 11) + (64 * d + 100) ≤ R.locals := ⟨hf1, by omega⟩
  have hfit : k0 + (M1.1 - M.1) ≤ R.cells ∧ t0 + (M1.2.1 - M.2.1) ≤ R.slots := ⟨by omega, by omega⟩
  have hwin : ∀ w ∈ wsM z, w ∈ wsL_law := fun w hw => by
    rcases List.mem_cons.mp hw with rfl | h
    · exact hcode
    · exact h
  have hend : ∀ (H1 : Heap) (locs1 : List Loc), Rp D dA b0 xa sL sX M1 H1 → va_S (fun q => b0 ≤ q) s.heap H1 locs1 → W p l e R s m args below meth c H1 locs1 (k0 + (M1.1 - M.1)) (t0 + (M1.2.1 - M.2.1)) Q (F0 m (pc + 3) ls ((o.map (cv b0 xa)).toList ++ (st.drop n).map (cv b0 xa))) := by
    intro H1 locs1 hR1 hS1
    have k2 := kk H1 locs1 ls (k0 + (M1.1 - M.1)) (t0 + (M1.2.1 - M.2.1)) hl hLn hR1 hS1 (by omega) (by omega)
    rw [List.map_append] at k2
    have e1 : (o.map (cv b0 xa)).toList = o.toList.map (cv b0 xa) := by cases o <;> rfl
    rw [e1]
    exact k2
  have hsplit : st.map (cv b0 xa) = (((st.take n).reverse).map (cv b0 xa)).reverse ++ (st.drop n).map (cv b0 xa) := by
    rw [← List.map_reverse, List.reverse_reverse, ← List.map_append, List.take_append_drop]
  have hlen : ((st.take n).reverse).length = n := by rw [List.length_reverse, List.length_take]; omega
  generalize hA : (st.take n).reverse = As at *
  rcases hi with ⟨rfl, rfl, hin, hsel, hcls, hci, hci9, hpd⟩ | ⟨rfl, rfl, hin, hnm, hrn, hpd⟩ | ⟨rfl, rfl, hst, hpd⟩
  · have hrv := hrc rfl
    unfold rcv at hrv
    split at hrv
    · rename_i a vs
      have hvl : vs.length + 1 = n := by simpa using hlen
      have hpd2 : (parseMethodDescriptor (spN z).desc).map (fun d => d.parameters.length) = some vs.length := by
        cases hpp : parseMethodDescriptor (spN z).desc with
        | none => rw [hpp] at hpd; cases hpd
        | some dd => rw [hpp] at hpd; have e9 : dd.parameters.length + 1 = n := Option.some.inj hpd; show some dd.parameters.length = some vs.length; rw [show dd.parameters.length = vs.length by omega]
      have hrecv : ∃ cellB : Cell, H[am b0 xa a]? = some cellB ∧ cellB.vm.isStatics = false ∧ s.vm.findClass (spN z).cls = some cellB.cls := by
        rcases hci with hci | rfl
        · rw [if_neg (by omega)] at hrv hcls
          obtain ⟨fs, hfs⟩ := isC_c hrv
          obtain ⟨T, hT, -⟩ := clA_at hci
          have hat := hR.at (hR.inlt hfs)
          rw [hfs] at hat
          rw [hcls]
          exact va_recv hK.1 (one_P hat) (q0 := 0) hT rfl
        · rw [if_pos rfl] at hcls
          have h3 : 300 ≤ z := hci9.mp rfl
          have hz' : z = 300 ∨ z = 301 := by rcases hz with h | h; omega; exact h
          obtain ⟨a', vs', e', h1, h2⟩ := hstr hz'
          cases e'
          rw [hcls]
          have h1 : (1000001 : Nat) ≤ (a : Nat) := h1
          have h2 : (a : Nat) < (1000008 : Nat) := h2
          have this := vk_recv (i := a - 1000001) hSF.2.2.2.1 (Nat.sub_lt_left_of_lt_add h1 h2) hS
          have ea : am b0 xa a = xa (1 + (a - 1000001)) := by
            obtain ⟨j, hj⟩ : ∃ j : Nat, (a : Nat) = 1000001 + j := ⟨a - 1000001, by rw [Nat.add_sub_cancel' h1]⟩
            rw [hj]
            unfold am
            rw [if_neg (Nat.not_lt.mpr (Nat.le_trans (Nat.le_of_ble_eq_true rfl : 1000000 ≤ 1000001) (Nat.le_add_right _ _))), Nat.add_sub_cancel_left, show 1000001 + j = 1000000 + (1 + j) by rw [← Nat.add_assoc], Nat.add_sub_cancel_left]
          rw [ea]
          exact this
      refine run_W hb0 (va_runV (As := vs.map (cv b0 xa)) (b := am b0 xa a) (rest := (st.drop n).map (cv b0 xa)) ⟨hx, hb, hml, hown, hts⟩ hM (cwV vs.length hts (good_in (fun w hw => ?_)) rfl rfl rfl ⟨rfl, hnh1, hnh2, hpd2⟩ hroom) ⟨frameBlind D dA b0 xa sL sX _ M, hrecv, fun U hU hW => pre_U C0 hR hS _ U hU hW⟩ rfl (by simp) hsz ?_ hW8 hd hfit) hS hend
      · rcases List.mem_append.mp hw with h | h
        · simp only [List.mem_cons, List.not_mem_nil, or_false] at h
          rcases h with rfl | rfl | rfl | rfl
          · exact hl1
          · exact hin
          · exact hsel
          · exact hini
        · exact hwin w h
      · show st.map (cv b0 xa) = _
        rw [hsplit]
        simp [cv]
    · cases hrv
  · have hrv := hrc rfl
    unfold rcv at hrv
    split at hrv
    · rename_i a vs
      have hvl : vs.length + 1 = n := by simpa using hlen
      have hpd2 : (parseMethodDescriptor (spN z).desc).map (fun d => d.parameters.length) = some vs.length := by
        cases hpp : parseMethodDescriptor (spN z).desc with
        | none => rw [hpp] at hpd; cases hpd
        | some dd => rw [hpp] at hpd; have e9 : dd.parameters.length + 1 = n := Option.some.inj hpd; show some dd.parameters.length = some vs.length; rw [show dd.parameters.length = vs.length by omega]
      have hG : GoodIn wsL_law (wsM z) := good_in hwin
      have hws : wsM z = Cond.code (spN z) (spB z) (spL z) none :: wsL_law := by unfold wsM; rw [hrn]
      refine run_W hb0 (va_runI (As := vs.map (cv b0 xa)) (b := am b0 xa a) (rest := (st.drop n).map (cv b0 xa)) ⟨hx, hb, hml, hown, hts⟩ hM (cwI vs.length hts hG hws rfl rfl (hts _ hini) (hts _ hl1) (hts _ hin) hnm ⟨hnh1, hnh2, hpd2⟩ hroom) ⟨frameBlind D dA b0 xa sL sX _ M, fun U hU hW => pre_U C0 hR hS _ U hU hW⟩ rfl (by simp) hsz ?_ hW8 hd hfit) hS hend
      show st.map (cv b0 xa) = _
      rw [hsplit]
      simp [cv]
    · cases hrv
  · refine run_W hb0 (va_runS (As := As.map (cv b0 xa)) (rest := (st.drop n).map (cv b0 xa)) ⟨hx, hb, hml, hown, hts⟩ hM (va_cwS n hts (good_in (fun w hw => ?_)) rfl rfl rfl ⟨hnh1, hnh2, hpd⟩ hroom) ⟨frameBlind D dA b0 xa sL sX _ M, fun U hU hW => pre_U C0 hR hS _ U hU hW⟩ rfl (by rw [List.length_map]; exact hlen) hsz hsplit hW8 hd hfit) hS hend
    rcases List.mem_append.mp hw with h | h
    · simp only [List.mem_cons, List.not_mem_nil, or_false] at h
      rcases h with rfl | rfl | rfl
      · exact hl1
      · exact hst
      · exact hini
    · exact hwin w h
end STR
