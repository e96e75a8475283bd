/-! one step of the abstract machine is a walk of the real one -/
def Cx (p : Program) (s : State) (m : MethodId) (args : Array Value) (meth : Method) (c : Code) (y : Nat) (D : va_G) (dA : Nat → ClassId) (b0 : Nat) (xa : Nat → Nat) (sL : Nat) (sX : Nat → Int32) : Prop :=
  p.tables.exec = Jvm.exec ∧ c.code = mdB y ∧ c.maxLocals = mdL y ∧ s.vm.findClass (mdO y) = some m.cls ∧ (∀ w ∈ wsL_law, w.before args s = true) ∧ KW D dA s ∧ SF b0 xa sL sX s s.heap ∧ ((mdN y).name = "<init>" → meth.name = "<init>") ∧ b0 ≤ s.heap.size
def KK (p : Program) (l : Launch) (e : Env) (R : Room) (s : State) (m : MethodId) (args : Array Value) (below : List Frame) (meth : Method) (c : Code) (Q : State → Prop) (y : Nat) (D : va_G) (dA : Nat → ClassId) (b0 : Nat) (xa : Nat → Nat) (sL : Nat) (sX : Nat → Int32) (n0 s0 pc : Nat) (L st : List Value) (M : AM) : Prop :=
  ∀ (H1 : Heap) (locs1 : List Loc) (ls1 : Array Slot) (k1 t1 : Nat), hasL b0 xa ls1 L → L.length = mdL y → Rp D dA b0 xa sL sX M H1 → va_S (fun q => b0 ≤ q) s.heap H1 locs1 → M.1 = n0 + k1 → M.2.1 = s0 + t1 → W p l e R s m args below meth c H1 locs1 k1 t1 Q (F0 m pc ls1 (st.map (cv b0 xa)))
theorem eqW_in {p : Nat} {w : Cond} (h : eqW p w = true) : w ∈ wsL_law := List.mem_of_getElem? (of_decide_eq_true h)
theorem st1_len (L : List Value) (i : Nat) (v : Value) : (st1 L i v).length = L.length := by unfold st1; rw [List.length_set, kl_len]
theorem st2_len (L : List Value) (i : Nat) (v : Value) : (st2 L i v).length = L.length := by unfold st2; rw [List.length_set, List.length_set, kl_len]
theorem in_vp {i : Int32} {n : Nat} (h0 : 0 ≤ i.toInt) (h1 : i.toInt < n) : vp_in i n := vp_in_iff.mpr ⟨h0, h1⟩
theorem clA_at {ci : Nat} (h : ci < 7) : ∃ T, clA[ci]? = some (cNm ci, T, cN ci) ∧ (∀ k, cT ci k = T k) := by
  match ci, h with
  | 0, _ => exact ⟨_, rfl, fun _ => rfl⟩
  | 1, _ => exact ⟨_, rfl, fun _ => rfl⟩
  | 2, _ => exact ⟨_, rfl, fun _ => rfl⟩
  | 3, _ => exact ⟨_, rfl, fun _ => rfl⟩
  | 4, _ => exact ⟨_, rfl, fun _ => rfl⟩
  | 5, _ => exact ⟨_, rfl, fun _ => rfl⟩
  | 6, _ => exact ⟨_, rfl, fun _ => rfl⟩
theorem clA_in {ci : Nat} (h : ci < 7) {T : u_T} (hT : clA[ci]? = some (cNm ci, T, cN ci)) : (∀ w ∈ u_ws (cNm ci) T (cN ci), w ∈ wsL_law) := by
  match ci, h with
  | 0, _ => cases hT; exact inlX0
  | 1, _ => cases hT; exact inlX1
  | 2, _ => cases hT; exact inlX2
  | 3, _ => cases hT; exact inlX3
  | 4, _ => cases hT; exact inlX4
  | 5, _ => cases hT; exact inlX5
  | 6, _ => cases hT; exact inlX6
def tyC (t : FieldType) : Nat := match t with
  | .int => 0
  | .boolean => 1
  | .object _ => 2
  | .array _ => 2
  | _ => 9
theorem clA_ty {ci : Nat} (h : ci < 7) {T : u_T} (hT : clA[ci]? = some (cNm ci, T, cN ci)) : ∃ ty : Nat → FieldType, (∀ k, k < cN ci → parseFieldDescriptor (T k).2.2.1 = some (ty k)) ∧ (∀ a, a < cN ci → ∀ b, b < cN ci → a ≠ b → (T a).2.1 ≠ (T b).2.1) ∧ (∀ k, k < cN ci → tcO (T k).2.2.1 = tyC (ty k)) ∧ (∀ k, k < cN ci → defaultValue (ty k) = vp_V (dflA ci) k) ∧ (dflA ci).length = cN ci := by
  match ci, h with
  | 0, _ => cases hT; exact ⟨tyX0, tyX0_ok, nmX0, by decide +kernel, by decide +kernel, rfl⟩
  | 1, _ => cases hT; exact ⟨tyX1, tyX1_ok, nmX1, by decide +kernel, by decide +kernel, rfl⟩
  | 2, _ => cases hT; exact ⟨tyX2, tyX2_ok, nmX2, by decide +kernel, by decide +kernel, rfl⟩
  | 3, _ => cases hT; exact ⟨tyX3, tyX3_ok, nmX3, by decide +kernel, by decide +kernel, rfl⟩
  | 4, _ => cases hT; exact ⟨tyX4, tyX4_ok, nmX4, by decide +kernel, by decide +kernel, rfl⟩
  | 5, _ => cases hT; exact ⟨tyX5, tyX5_ok, nmX5, by decide +kernel, by decide +kernel, rfl⟩
  | 6, _ => cases hT; exact ⟨tyX6, tyX6_ok, nmX6, by decide +kernel, by decide +kernel, rfl⟩
theorem tyC_fit {ty : FieldType} {tc : Nat} {v : Value} (ht : tc = tyC ty) (hv : okv tc v = true) (b0 : Nat) (xa : Nat → Nat) : narrow ty (cv b0 xa v) = cv b0 xa v ∧ fits ty (cv b0 xa v) = true := by
  rcases okv_c hv with ⟨e, x, rfl⟩ | ⟨e, rfl | rfl⟩ | ⟨e, rfl | ⟨q, rfl⟩⟩ <;> subst e <;> cases ty <;> first | (simp [tyC] at ht; done) | exact ⟨rfl, rfl⟩ | exact ⟨by decide, by decide⟩
section STP
variable {p : Program} {l : Launch} {e : Env} {R : Room} {s : State} {m : MethodId} {args : Array Value} {below : List Frame} {meth : Method} {c : Code} {Q : State → Prop} {y : Nat} {D : va_G} {dA : Nat → ClassId} {b0 : Nat} {xa : Nat → Nat} {sL : Nat} {sX : Nat → Int32} {n0 s0 : Nat} {pc pc' : Nat} {L L' st st' : List Value} {M M1 : AM} {H : Heap} {locs : List Loc} {k0 t0 : Nat} {ls : Array Slot}
theorem s_getf (C : Cx p s m args meth c y D dA b0 xa sL sX) (hLn : L.length = mdL y) (hl : hasL b0 xa ls L) (hR : Rp D dA b0 xa sL sX M H) (hS : va_S (fun q => b0 ≤ q) s.heap H locs) (hk : M.1 = n0 + k0) (ht : M.2.1 = s0 + t0) {ix ci f pp : Nat}
    (hd : decode (mdB y) pc = .ok (.getfield ix, 3)) (hci : ci < 7) (hf : f < cN ci) (hcls : (cT ci f).1 = cNm ci) (hw : eqW pp (.fieldLink (mdO y) ix (cT ci f).1 (cT ci f).2.1 (cT ci f).2.2.1) = true)
    (hn : nx_gf ci f (pc + 3) L st M = some (.inl (pc', L', st', M1))) (kk : KK p l e R s m args below meth c Q y D dA b0 xa sL sX n0 s0 pc' L' st' M1) : W p l e R s m args below meth c H locs k0 t0 Q (F0 m pc ls (st.map (cv b0 xa))) := by
  obtain ⟨hx, hb, hml, hown, hts, hK, hSF, -, -⟩ := C
  obtain ⟨q, r, fs, v, rfl, hM, hv, rfl, rfl, rfl, rfl⟩ := nx_gf_inv hn
  obtain ⟨T, hT, hTe⟩ := clA_at hci
  have hat := hR.at (hR.inlt hM)
  rw [hM] at hat
  have hlt : f < fs.length := (List.getElem?_eq_some_iff.mp hv).1
  rw [hTe] at hw
  exact va_get hx hb hts (clA_in hci hT) hown hK.1 (one_P hat) 0 (fs := fs.map (cv b0 xa)) rfl hT f hf (hts _ (eqW_in hw)) (fun x h => h) (v := cv b0 xa v) (by rw [List.getElem?_map, hv]; rfl) hd (kk H locs ls k0 t0 hl hLn hR hS hk ht)
theorem s_putf (C : Cx p s m args meth c y D dA b0 xa sL sX) (hLn : L.length = mdL y) (hl : hasL b0 xa ls L) (hR : Rp D dA b0 xa sL sX M H) (hS : va_S (fun q => b0 ≤ q) s.heap H locs) (hk : M.1 = n0 + k0) (ht : M.2.1 = s0 + t0) {ix ci f tc fin pp : Nat}
    (hd : decode (mdB y) pc = .ok (.putfield ix, 3)) (hci : ci < 7) (hf : f < cN ci) (hcls : (cT ci f).1 = cNm ci) (hw : eqW pp (.fieldLink (mdO y) ix (cT ci f).1 (cT ci f).2.1 (cT ci f).2.2.1) = true) (htc : tc = tcO (cT ci f).2.2.1)
    (hfin : if (cT ci f).2.2.2 = true then (mdN y).name = "<init>" ∧ (cT ci f).1 = mdO y else True)
    (hn : nx_pf ci f tc (pc + 3) L st M = some (.inl (pc', L', st', M1))) (kk : KK p l e R s m args below meth c Q y D dA b0 xa sL sX n0 s0 pc' L' st' M1) : W p l e R s m args below meth c H locs k0 t0 Q (F0 m pc ls (st.map (cv b0 xa))) := by
  obtain ⟨hx, hb, hml, hown, hts, hK, hSF, hini, -⟩ := C
  obtain ⟨q, r, fs, v, rfl, hok, hM, hlen, rfl, rfl, rfl, rfl⟩ := nx_pf_inv hn
  obtain ⟨T, hT, hTe⟩ := clA_at hci
  obtain ⟨ty, hty, hnm, htyC, -, -⟩ := clA_ty hci hT
  have ha := hR.inlt hM
  have hat := hR.at ha
  rw [hM] at hat
  rw [hTe] at hw htc hfin hcls
  have hin := clA_in hci hT
  obtain ⟨hnar, hfit⟩ := tyC_fit (htc.trans (htyC f hf)) hok b0 xa
  have hap := va_apart (own := mdO y) hts hin ty hty hnm hK.1 hT
  obtain ⟨r0, h1, cell, q1, q2, q3, q4⟩ := hat
  have hr : r0 = (cNm ci, T, cN ci) := Option.some.inj (h1.symm.trans hT)
  subst hr
  obtain ⟨hSl, hfc, kC, hkC, hkind⟩ := hK.1.1 ci _ hT
  obtain ⟨cf, kf, fi, fd, hi, hsl⟩ := hSl f hf
  have hst := (u_facts hfc hkC (u_lays hts hin hf) hi).1
  have hlay := hts _ (hin _ (u_in_lay hf))
  unfold u_lay at hlay
  have hAq : b0 ≤ am b0 xa q := by rw [am_lt (by have := hR.2.2.2; omega)]; omega
  have fin : ∀ (H' : Heap), H'[am b0 xa q]? = some (cell.setSlot fd.slot (cv b0 xa v)) → H'.size = H.size → (∀ z, z ≠ am b0 xa q → H'[z]? = H[z]?) → W p l e R s m args below meth c H' (locs ++ [⟨am b0 xa q, fd.slot⟩]) k0 t0 Q (F0 m (pc + 3) ls (st'.map (cv b0 xa))) := by
    intro H' e1 e2 e3
    rw [hsl] at e1
    refine kk H' _ ls k0 t0 hl hLn (hR.put ha trivial ?_ e2 e3) (hS.put e2 e3 hAq) hk ht
    refine ⟨_, hT, t_OB.to (V := updV (vp_V (fs.map (cv b0 xa))) f (cv b0 xa v)) ⟨_, e1, q2, q3, t_set q4 hap hf (cv b0 xa v)⟩ (fun j _ => ?_)⟩
    show updV _ _ _ j = vp_V ((fs.set f v).map (cv b0 xa)) j
    rw [List.map_set]
    exact vp_updV_set (by rw [List.length_map]; exact hlen) _ j
  by_cases hF : (T f).2.2.2 = true
  · rw [if_pos hF] at hlay hfin
    have hcf : m.cls = cf := by
      obtain ⟨_, _, c', _, _, _, -, -, hf', -, -, -, hown2, -⟩ := Cond.laysFinal_spec hlay
      have e1 : c' = cf := by have := hi.symm.trans hf'; simp at this; exact this.1.symm
      rw [hfin.2] at hown2
      rw [← e1]; exact Option.some.inj (hown.symm.trans hown2)
    have h6 := u_fits hfc hkC hkind (Or.inr hlay) hi (hty f hf) hnar hfit
    exact W.putFinK hx hb hown (hts _ (eqW_in hw)) hi hst hcf (hini hfin.1) (by rw [q2]; exact h6) q1 q3 (by rw [hsl]; exact k2_hasslot (q4 f hf)) rfl rfl hd fin
  · rw [if_neg hF] at hlay
    have h6 := u_store hfc hkC hkind hlay hi (hty f hf) hnar hfit
    exact W.putK hx hb (f := fd) ⟨hown, hts _ (eqW_in hw), ⟨_, _, _, hi⟩, hst⟩ (by rw [q2]; exact h6) q1 q3 (by rw [hsl]; exact k2_hasslot (q4 f hf)) rfl rfl hd fin
theorem s_new (C : Cx p s m args meth c y D dA b0 xa sL sX) (hLn : L.length = mdL y) (hl : hasL b0 xa ls L) (hR : Rp D dA b0 xa sL sX M H) (hS : va_S (fun q => b0 ≤ q) s.heap H locs) (hk : M.1 = n0 + k0) (ht : M.2.1 = s0 + t0) (bk : M1.1 ≤ n0 + R.cells) (bt : M1.2.1 ≤ s0 + R.slots) {ix ci p1 p2 p3 : Nat}
    (hd : decode (mdB y) pc = .ok (.new ix, 3)) (hci : ci < 7) (w1 : eqW p1 (.classLink (mdO y) ix (cNm ci)) = true) (w2 : eqW p2 (.instantiable (cNm ci) (cN ci)) = true) (w3 : eqW p3 (.initialized (cNm ci)) = true)
    (hn : nx_new ci (dflA ci) (pc + 3) L st M = some (.inl (pc', L', st', M1))) (kk : KK p l e R s m args below meth c Q y D dA b0 xa sL sX n0 s0 pc' L' st' M1) : W p l e R s m args below meth c H locs k0 t0 Q (F0 m pc ls (st.map (cv b0 xa))) := by
  obtain ⟨hx, hb, hml, hown, hts, hK, hSF, hini, hb0⟩ := C
  obtain ⟨hlt, rfl, rfl, rfl, rfl⟩ := nx_new_inv hn
  obtain ⟨T, hT, hTe⟩ := clA_at hci
  obtain ⟨ty, hty, hnm, htyC, hdf, hdl⟩ := clA_ty hci hT
  have hin := clA_in hci hT
  have hKn := hK.1.1 ci _ hT
  have bk' : M.1 + 1 ≤ n0 + R.cells := bk
  have bt' : M.2.1 + (dflA ci).length ≤ s0 + R.slots := bt
  rw [hdl] at bt'
  refine W.newcK hx hb hown (hts _ (eqW_in w1)) (hts _ (eqW_in w2)) (hts _ (eqW_in w3)) rfl hd (by omega) (by omega) hKn.2.1 rfl fun H1 kC hkC e1 z1 o1 => ?_
  have hs := hR.1
  have e0 : (.ref H.size : Value) = cv b0 xa (.ref M.1) := by
    show _ = Value.ref (am b0 xa M.1)
    rw [am_lt (by omega), hs]
  have kk2 := kk H1 locs ls (k0 + 1) (t0 + cN ci) hl hLn (hR.new hlt (c := .inl (ci, dflA ci)) (n := (dflA ci).length) trivial ?_ z1 o1) ⟨Nat.le_trans hS.1 (by omega), fun x h1 h2 => (o1 x (Nat.lt_of_lt_of_le h1 hS.1)).trans (hS.2.1 x h1 h2), hS.2.2⟩ (by show M.1 + 1 = _; omega) (by show M.2.1 + (dflA ci).length = _; omega)
  · rw [List.map_cons, ← e0] at kk2
    exact kk2
  · refine ⟨_, hT, (u_born ty hts hin hKn hkC e1 hty).to (fun j hj => ?_)⟩
    rw [hdf j hj]
    show vp_V _ _ = vp_V ((dflA ci).map (cv b0 xa)) j
    unfold vp_V
    rw [List.getD_eq_getElem?_getD, List.getD_eq_getElem?_getD, List.getElem?_map]
    have hj' : j < (dflA ci).length := by rw [hdl]; exact hj
    rw [List.getElem?_eq_getElem hj']
    have hall : ∀ v ∈ dflA ci, cv b0 xa v = v := by
      have : ∀ v ∈ dflA ci, v = .int 0 ∨ v = .null := by
        match ci, hci with
        | 0, _ => decide +kernel
        | 1, _ => decide +kernel
        | 2, _ => decide +kernel
        | 3, _ => decide +kernel
        | 4, _ => decide +kernel
        | 5, _ => decide +kernel
        | 6, _ => decide +kernel
      intro v hv
      rcases this v hv with rfl | rfl <;> rfl
    exact (hall _ (List.getElem_mem hj')).symm
end STP
