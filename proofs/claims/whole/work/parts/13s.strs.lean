/-! the strings' own methods -/
theorem dS_c0 : decode cJ0_coder_7d493 0 = .ok (.getstatic 38, 3) := by decide +kernel
theorem dS_c3 : decode cJ0_coder_7d493 3 = .ok (.ifCond .eq 10, 3) := by decide +kernel
theorem dS_c6 : decode cJ0_coder_7d493 6 = .ok (.aload_n 0, 1) := by decide +kernel
theorem dS_c7 : decode cJ0_coder_7d493 7 = .ok (.getfield 15, 3) := by decide +kernel
theorem dS_c10 : decode cJ0_coder_7d493 10 = .ok (.goto 4, 3) := by decide +kernel
theorem dS_c14 : decode cJ0_coder_7d493 14 = .ok (.ireturn, 1) := by decide +kernel
theorem dS_l0 : decode cJ0_length_8abf5 0 = .ok (.aload_n 0, 1) := by decide +kernel
theorem dS_l1 : decode cJ0_length_8abf5 1 = .ok (.getfield 9, 3) := by decide +kernel
theorem dS_l4 : decode cJ0_length_8abf5 4 = .ok (.arraylength, 1) := by decide +kernel
theorem dS_l5 : decode cJ0_length_8abf5 5 = .ok (.aload_n 0, 1) := by decide +kernel
theorem dS_l6 : decode cJ0_length_8abf5 6 = .ok (.invokevirtual 335, 3) := by decide +kernel
theorem dS_l9 : decode cJ0_length_8abf5 9 = .ok (.ishr, 1) := by decide +kernel
theorem dS_l10 : decode cJ0_length_8abf5 10 = .ok (.ireturn, 1) := by decide +kernel
theorem dS_i0 : decode cJ0_isLatin1_aae02 0 = .ok (.getstatic 38, 3) := by decide +kernel
theorem dS_i3 : decode cJ0_isLatin1_aae02 3 = .ok (.ifCond .eq 14, 3) := by decide +kernel
theorem dS_i6 : decode cJ0_isLatin1_aae02 6 = .ok (.aload_n 0, 1) := by decide +kernel
theorem dS_i7 : decode cJ0_isLatin1_aae02 7 = .ok (.getfield 15, 3) := by decide +kernel
theorem dS_i10 : decode cJ0_isLatin1_aae02 10 = .ok (.ifCond .ne 7, 3) := by decide +kernel
theorem dS_i13 : decode cJ0_isLatin1_aae02 13 = .ok (.iconst 1, 1) := by decide +kernel
theorem dS_i14 : decode cJ0_isLatin1_aae02 14 = .ok (.goto 4, 3) := by decide +kernel
theorem dS_i18 : decode cJ0_isLatin1_aae02 18 = .ok (.ireturn, 1) := by decide +kernel
theorem dS_p0 : decode cJ3_checkIndex_8e157 0 = .ok (.iload_n 0, 1) := by decide +kernel
theorem dS_p1 : decode cJ3_checkIndex_8e157 1 = .ok (.ifCond .lt 8, 3) := by decide +kernel
theorem dS_p4 : decode cJ3_checkIndex_8e157 4 = .ok (.iload_n 0, 1) := by decide +kernel
theorem dS_p5 : decode cJ3_checkIndex_8e157 5 = .ok (.iload_n 1, 1) := by decide +kernel
theorem dS_p6 : decode cJ3_checkIndex_8e157 6 = .ok (.if_icmp .lt 10, 3) := by decide +kernel
theorem dS_p16 : decode cJ3_checkIndex_8e157 16 = .ok (.iload_n 0, 1) := by decide +kernel
theorem dS_p17 : decode cJ3_checkIndex_8e157 17 = .ok (.ireturn, 1) := by decide +kernel
theorem dS_k0 : decode cJ0_checkIndex_df160 0 = .ok (.iload_n 0, 1) := by decide +kernel
theorem dS_k1 : decode cJ0_checkIndex_df160 1 = .ok (.iload_n 1, 1) := by decide +kernel
theorem dS_k2 : decode cJ0_checkIndex_df160 2 = .ok (.getstatic 1053, 3) := by decide +kernel
theorem dS_k5 : decode cJ0_checkIndex_df160 5 = .ok (.invokestatic 1059, 3) := by decide +kernel
theorem dS_k8 : decode cJ0_checkIndex_df160 8 = .ok (.pop, 1) := by decide +kernel
theorem dS_k9 : decode cJ0_checkIndex_df160 9 = .ok (.return_, 1) := by decide +kernel
theorem dS_y0 : decode cJ1_charAt_3b067 0 = .ok (.iload_n 1, 1) := by decide +kernel
theorem dS_y1 : decode cJ1_charAt_3b067 1 = .ok (.aload_n 0, 1) := by decide +kernel
theorem dS_y2 : decode cJ1_charAt_3b067 2 = .ok (.arraylength, 1) := by decide +kernel
theorem dS_y3 : decode cJ1_charAt_3b067 3 = .ok (.invokestatic 9, 3) := by decide +kernel
theorem dS_y6 : decode cJ1_charAt_3b067 6 = .ok (.aload_n 0, 1) := by decide +kernel
theorem dS_y7 : decode cJ1_charAt_3b067 7 = .ok (.iload_n 1, 1) := by decide +kernel
theorem dS_y8 : decode cJ1_charAt_3b067 8 = .ok (.baload, 1) := by decide +kernel
theorem dS_y9 : decode cJ1_charAt_3b067 9 = .ok (.sipush 255, 3) := by decide +kernel
theorem dS_y12 : decode cJ1_charAt_3b067 12 = .ok (.iand, 1) := by decide +kernel
theorem dS_y13 : decode cJ1_charAt_3b067 13 = .ok (.i2c, 1) := by decide +kernel
theorem dS_y14 : decode cJ1_charAt_3b067 14 = .ok (.ireturn, 1) := by decide +kernel
theorem dS_a0 : decode cJ0_charAt_5068e 0 = .ok (.aload_n 0, 1) := by decide +kernel
theorem dS_a1 : decode cJ0_charAt_5068e 1 = .ok (.invokevirtual 492, 3) := by decide +kernel
theorem dS_a4 : decode cJ0_charAt_5068e 4 = .ok (.ifCond .eq 12, 3) := by decide +kernel
theorem dS_a7 : decode cJ0_charAt_5068e 7 = .ok (.aload_n 0, 1) := by decide +kernel
theorem dS_a8 : decode cJ0_charAt_5068e 8 = .ok (.getfield 9, 3) := by decide +kernel
theorem dS_a11 : decode cJ0_charAt_5068e 11 = .ok (.iload_n 1, 1) := by decide +kernel
theorem dS_a12 : decode cJ0_charAt_5068e 12 = .ok (.invokestatic 495, 3) := by decide +kernel
theorem dS_a15 : decode cJ0_charAt_5068e 15 = .ok (.ireturn, 1) := by decide +kernel
def PJ (D : va_G) (dA : Nat → ClassId) (b0 : Nat) (xa : Nat → Nat) (sL : Nat) (sX : Nat → Int32) (av : List Value) (M : AM) : Array Value → State → Prop := va_Pc av (fun U => b0 ≤ U.heap.size ∧ Rp D dA b0 xa sL sX M U.heap ∧ KW D dA U ∧ SF b0 xa sL sX U U.heap)
theorem PJ_blind (D : va_G) (dA : Nat → ClassId) (b0 : Nat) (xa : Nat → Nat) (sL : Nat) (sX : Nat → Int32) (av : List Value) (M : AM) : FrameBlind (PJ D dA b0 xa sL sX av M) := by
  intro a U g mk h
  obtain ⟨h1, h0, h2, h3, h4⟩ := h
  exact ⟨h1, h0, h2, h3.moved (u := U) (U := U.calling g mk a) (Vm.Alike.refl U.vm), h4.same (u := U) (U := U.calling g mk a) rfl⟩
section STRS
variable {D : va_G} {dA : Nat → ClassId} {b0 : Nat} {xa : Nat → Nat} {sL : Nat} {sX : Nat → Int32} {M : AM}
theorem PJ_pre {s U : State} {H : Heap} {locs : List Loc} (hb0 : b0 ≤ s.heap.size) (hK : KW D dA s) (hSF : SF b0 xa sL sX s s.heap) (hR : Rp D dA b0 xa sL sX M H) (hS : va_S (fun q => b0 ≤ q) s.heap H locs) (hU : U.heap = H) (hW : s.WarmedH U.vm) (av : List Value) : PJ D dA b0 xa sL sX av M av.toArray U := by
  refine ⟨rfl, ?_, ?_, hK.moved hW.alike, ?_⟩
  · rw [hU, hR.1]; omega
  · rw [hU]; exact hR
  · rw [hU]
    exact (hSF.kept hb0 (fun q hq => hS.2.1 q (Nat.lt_of_lt_of_le hq hb0) (Nat.not_le.mpr hq))).warm hW
theorem j_coder (l : Launch) {j : Nat} (hj : j < 7) : Met l yJ0_coder_7d493 (.code yJ0_coder_7d493 cJ0_coder_7d493 1 (some .byte) :: wsL_law) ({ frames := 0, cells := 0, slots := 0, locals := 0 }) (PJ D dA b0 xa sL sX [.ref (xa (1 + j))] M) (QcC D dA b0 xa sL sX (some (.int 0)) M) 0 0 (fun q => b0 ≤ q) := by
  refine Met.ofW (cc := cJ0_coder_7d493) (maxL := 1) (ret := some .byte) (by decide) rfl ?_
  intro p e s m args below meth c s₁ B hml hpc
  obtain ⟨rfl, hb0, hR, hKW, hSF⟩ := hpc
  have hx := B.exec
  have hb := B.bytes
  have hr := B.returns
  have hlk := B.notSynchronized
  have hts0 := atoms_spec (ws := .code yJ0_coder_7d493 cJ0_coder_7d493 1 (some .byte) :: wsL_law) B.pre
  have hts : ∀ w ∈ wsL_law, w.before #[.ref (xa (1 + j))] s = true := fun w hw => hts0 w (List.mem_cons_of_mem _ hw)
  have hown : s.vm.findClass RJ0 = some m.cls := findClass_of_methodNamed B.named
  have hS : va_S (fun q => b0 ≤ q) s.heap s.heap [] := va_S.rf
  have hl := lv_entry ([.ref (xa (1 + j))]) (n := 1) (Nat.le_of_ble_eq_true rfl)
  rw [lg_entry_eq]
  generalize (lg_sl ([.ref (xa (1 + j))]) ++ List.replicate (1 - (lg_sl ([.ref (xa (1 + j))])).length) Slot.unset).toArray = ls at hl ⊢
  have hl : lv_has ls 1 [(0, .ref (xa (1 + j)))] := hl
  refine va_gets hx hb hSF.2.2.2.2.1 hS hown (hts (.fieldLink RJ0 38 "java/lang/String" "COMPACT_STRINGS" "Z") (by decide +kernel)) (fun _ h => h) dS_c0 ?_
  refine lv_if_eq (tgt := 13) hx hb dS_c3 rfl (fun h => absurd h (by decide)) (fun _ => ?_)
  refine lv_aload_n hx hb dS_c6 rfl (lv_at hl 0 rfl) ?_
  refine vk_getf hx hb (hSF.2.2.2.1.1 j hj).2.1 hS hown (hts (.fieldLink RJ0 15 "java/lang/String" "coder" "B") (by decide +kernel)) (fun _ h => h) dS_c7 ?_
  refine lv_goto (tgt := 14) hx hb dS_c10 rfl ?_
  exact W.zret (v := 0) hx hb hr (by decide) (fun t ht hW => ⟨rfl, by rw [ht]; exact hR, hS.F ht⟩) hS.2.2 dS_c14
theorem j_len (l : Launch) {j d : Nat} (hj : j < 7) : Met l yJ0_length_8abf5 (.code yJ0_length_8abf5 cJ0_length_8abf5 1 (some .int) :: wsL_law) ({ frames := d + 3, cells := 0, slots := 0, locals := 64 * (d + 1) + 100 }) (PJ D dA b0 xa sL sX [.ref (xa (1 + j))] M) (QcC D dA b0 xa sL sX (some (.int (Int32.ofNat (sLn.getD j 0)))) M) 0 0 (fun q => b0 ≤ q) := by
  refine Met.ofW (cc := cJ0_length_8abf5) (maxL := 1) (ret := some .int) (by decide) rfl ?_
  intro p e s m args below meth c s₁ B hml hpc
  obtain ⟨rfl, hb0, hR, hKW, hSF⟩ := hpc
  have hx := B.exec
  have hb := B.bytes
  have hr := B.returns
  have hlk := B.notSynchronized
  have hts0 := atoms_spec (ws := .code yJ0_length_8abf5 cJ0_length_8abf5 1 (some .int) :: wsL_law) B.pre
  have hts : ∀ w ∈ wsL_law, w.before #[.ref (xa (1 + j))] s = true := fun w hw => hts0 w (List.mem_cons_of_mem _ hw)
  have hown : s.vm.findClass RJ0 = some m.cls := findClass_of_methodNamed B.named
  have hS : va_S (fun q => b0 ≤ q) s.heap s.heap [] := va_S.rf
  have hl := lv_entry ([.ref (xa (1 + j))]) (n := 1) (Nat.le_of_ble_eq_true rfl)
  rw [lg_entry_eq]
  generalize (lg_sl ([.ref (xa (1 + j))]) ++ List.replicate (1 - (lg_sl ([.ref (xa (1 + j))])).length) Slot.unset).toArray = ls at hl ⊢
  have hl : lv_has ls 1 [(0, .ref (xa (1 + j)))] := hl
  have hv := hSF.2.2.2.1.1 j hj
  refine lv_aload_n hx hb dS_l0 rfl (lv_at hl 0 rfl) ?_
  refine vk_getf hx hb hv.2.2.1 hS hown (hts (.fieldLink RJ0 9 "java/lang/String" "value" "[B") (by decide +kernel)) (fun _ h => h) dS_l1 ?_
  refine va_tlen hx hb hv.2.2.2 hS rfl dS_l4 ?_
  refine lv_aload_n hx hb dS_l5 rfl (lv_at hl 0 rfl) ?_
  refine run_W hb0 (va_runV (As := []) (b := xa (1 + j)) (rest := [.int (Int32.ofNat (sLn.getD j 0))]) ⟨hx, hb, hml, hown, hts⟩ (j_coder l hj) (cwV 0 hts (good_in (fun w hw => ?_)) rfl rfl rfl ⟨rfl, by decide, by decide, rfl⟩ ⟨by show 1 ≤ d + 3; omega, by show 8 + (1 + 11) + 0 ≤ 64 * (d + 1) + 100; omega⟩) ⟨PJ_blind D dA b0 xa sL sX _ M, vk_recv (i := j) hSF.2.2.2.1 hj hS, fun U hU hW => PJ_pre hb0 hKW hSF hR hS hU hW _⟩ rfl rfl hl.1 rfl (by show 2 * 0 + 1 ≤ 8; omega) dS_l6 ⟨Nat.le_refl _, Nat.le_refl _⟩) hS (fun H1 locs1 hR1 hS1 => ?_)
  · have key : ∀ w ∈ ([.methodLink RJ0 335 yJ0_coder_7d493, .instanceMethod yJ0_coder_7d493, .selects RJ0 yJ0_coder_7d493 yJ0_coder_7d493, .initialized RJ0, .code yJ0_coder_7d493 cJ0_coder_7d493 1 (some .byte)] : List Cond), w ∈ wsL_law := by decide +kernel
    rcases List.mem_append.mp hw with h | h
    · have h' : w ∈ ([.methodLink RJ0 335 yJ0_coder_7d493, .instanceMethod yJ0_coder_7d493, .selects RJ0 yJ0_coder_7d493 yJ0_coder_7d493, .initialized RJ0] : List Cond) := h
      exact key w (List.mem_append_left [Cond.code yJ0_coder_7d493 cJ0_coder_7d493 1 (some .byte)] h')
    · rcases List.mem_cons.mp h with h | h
      · rw [h]; exact key _ (by simp)
      · exact h
  · refine lv_ishr hx hb dS_l9 ?_
    have e0 : Int32.ofNat (sLn.getD j 0) >>> ((0 : Int32) &&& 31) = Int32.ofNat (sLn.getD j 0) := by
      match j, hj with
      | 0, _ => decide +kernel
      | 1, _ => decide +kernel
      | 2, _ => decide +kernel
      | 3, _ => decide +kernel
      | 4, _ => decide +kernel
      | 5, _ => decide +kernel
      | 6, _ => decide +kernel
      | j + 7, h => exact absurd h (by omega)
    rw [e0]
    exact W.iret hx hb hr (fun t ht hW => ⟨rfl, by rw [ht]; exact hR1, hS1.F ht⟩) hS1.2.2 dS_l10
theorem j_lat (l : Launch) {j : Nat} (hj : j < 7) : Met l yJ0_isLatin1_aae02 (.code yJ0_isLatin1_aae02 cJ0_isLatin1_aae02 1 (some .boolean) :: wsL_law) ({ frames := 0, cells := 0, slots := 0, locals := 0 }) (PJ D dA b0 xa sL sX [.ref (xa (1 + j))] M) (QcC D dA b0 xa sL sX (some (.int 1)) M) 0 0 (fun q => b0 ≤ q) := by
  refine Met.ofW (cc := cJ0_isLatin1_aae02) (maxL := 1) (ret := some .boolean) (by decide) rfl ?_
  intro p e s m args below meth c s₁ B hml hpc
  obtain ⟨rfl, hb0, hR, hKW, hSF⟩ := hpc
  have hx := B.exec
  have hb := B.bytes
  have hr := B.returns
  have hlk := B.notSynchronized
  have hts0 := atoms_spec (ws := .code yJ0_isLatin1_aae02 cJ0_isLatin1_aae02 1 (some .boolean) :: wsL_law) B.pre
  have hts : ∀ w ∈ wsL_law, w.before ([.ref (xa (1 + j))] : List Value).toArray s = true := fun w hw => hts0 w (List.mem_cons_of_mem _ hw)
  have hown : s.vm.findClass RJ0 = some m.cls := findClass_of_methodNamed B.named
  have hS : va_S (fun q => b0 ≤ q) s.heap s.heap [] := va_S.rf
  have hl := lv_entry ([.ref (xa (1 + j))]) (n := 1) (Nat.le_of_ble_eq_true rfl)
  rw [lg_entry_eq]
  generalize (lg_sl ([.ref (xa (1 + j))]) ++ List.replicate (1 - (lg_sl ([.ref (xa (1 + j))])).length) Slot.unset).toArray = ls at hl ⊢
  have hl : lv_has ls 1 [(0, .ref (xa (1 + j)))] := hl
  refine va_gets hx hb hSF.2.2.2.2.1 hS hown (hts (.fieldLink RJ0 38 "java/lang/String" "COMPACT_STRINGS" "Z") (by decide +kernel)) (fun _ h => h) dS_i0 ?_
  refine lv_if_eq (tgt := 17) hx hb dS_i3 rfl (fun h => absurd h (by decide)) (fun _ => ?_)
  refine lv_aload_n hx hb dS_i6 rfl (lv_at hl 0 rfl) ?_
  refine vk_getf hx hb (hSF.2.2.2.1.1 j hj).2.1 hS hown (hts (.fieldLink RJ0 15 "java/lang/String" "coder" "B") (by decide +kernel)) (fun _ h => h) dS_i7 ?_
  refine lv_if_ne (tgt := 17) hx hb dS_i10 rfl (fun h => absurd rfl h) (fun _ => ?_)
  refine lv_iconst (v := 1) hx hb dS_i13 (by decide) ?_
  refine lv_goto (tgt := 18) hx hb dS_i14 rfl ?_
  exact W.zret (v := 1) hx hb hr (by decide) (fun t ht hW => ⟨rfl, by rw [ht]; exact hR, hS.F ht⟩) hS.2.2 dS_i18
theorem j_prec_r (l : Launch) {i n : Int32} {w9 : Addr} (h0 : ¬ i < 0) (h1 : i < n) : Met l yJ3_checkIndex_8e157 (.code yJ3_checkIndex_8e157 cJ3_checkIndex_8e157 3 (some .int) :: wsL_law) ({ frames := 0, cells := 0, slots := 0, locals := 0 }) (PJ D dA b0 xa sL sX [.int i, .int n, .ref w9] M) (QcC D dA b0 xa sL sX (some (.int i)) M) 0 0 (fun q => b0 ≤ q) := by
  refine Met.ofW (cc := cJ3_checkIndex_8e157) (maxL := 3) (ret := some .int) (by decide) rfl ?_
  intro p e s m args below meth c s₁ B hml hpc
  obtain ⟨rfl, hb0, hR, hKW, hSF⟩ := hpc
  have hx := B.exec
  have hb := B.bytes
  have hr := B.returns
  have hlk := B.notSynchronized
  have hts0 := atoms_spec (ws := .code yJ3_checkIndex_8e157 cJ3_checkIndex_8e157 3 (some .int) :: wsL_law) B.pre
  have hts : ∀ w ∈ wsL_law, w.before ([.int i, .int n, .ref w9] : List Value).toArray s = true := fun w hw => hts0 w (List.mem_cons_of_mem _ hw)
  have hown : s.vm.findClass RJ3 = some m.cls := findClass_of_methodNamed B.named
  have hS : va_S (fun q => b0 ≤ q) s.heap s.heap [] := va_S.rf
  have hl := lv_entry ([.int i, .int n, .ref w9]) (n := 3) (Nat.le_of_ble_eq_true rfl)
  rw [lg_entry_eq]
  generalize (lg_sl ([.int i, .int n, .ref w9]) ++ List.replicate (3 - (lg_sl ([.int i, .int n, .ref w9])).length) Slot.unset).toArray = ls at hl ⊢
  have hl : lv_has ls 3 [(0, .int i), (1, .int n), (2, .ref w9)] := hl
  refine lv_iload_n hx hb dS_p0 rfl (lv_at hl 0 rfl) ?_
  refine lv_if_lt (tgt := 9) hx hb dS_p1 rfl (fun h => absurd h h0) (fun _ => ?_)
  refine lv_iload_n hx hb dS_p4 rfl (lv_at hl 0 rfl) ?_
  refine lv_iload_n hx hb dS_p5 rfl (lv_at hl 1 rfl) ?_
  refine lv_icmp_lt (tgt := 16) hx hb dS_p6 rfl (fun _ => ?_) (fun h => absurd h1 h)
  refine lv_iload_n hx hb dS_p16 rfl (lv_at hl 0 rfl) ?_
  exact W.iret hx hb hr (fun t ht hW => ⟨rfl, by rw [ht]; exact hR, hS.F ht⟩) hS.2.2 dS_p17
theorem j_prec_n (l : Launch) {i n : Int32} (h0 : ¬ i < 0) (h1 : i < n) : Met l yJ3_checkIndex_8e157 (.code yJ3_checkIndex_8e157 cJ3_checkIndex_8e157 3 (some .int) :: wsL_law) ({ frames := 0, cells := 0, slots := 0, locals := 0 }) (PJ D dA b0 xa sL sX [.int i, .int n, .null] M) (QcC D dA b0 xa sL sX (some (.int i)) M) 0 0 (fun q => b0 ≤ q) := by
  refine Met.ofW (cc := cJ3_checkIndex_8e157) (maxL := 3) (ret := some .int) (by decide) rfl ?_
  intro p e s m args below meth c s₁ B hml hpc
  obtain ⟨rfl, hb0, hR, hKW, hSF⟩ := hpc
  have hx := B.exec
  have hb := B.bytes
  have hr := B.returns
  have hlk := B.notSynchronized
  have hts0 := atoms_spec (ws := .code yJ3_checkIndex_8e157 cJ3_checkIndex_8e157 3 (some .int) :: wsL_law) B.pre
  have hts : ∀ w ∈ wsL_law, w.before ([.int i, .int n, .null] : List Value).toArray s = true := fun w hw => hts0 w (List.mem_cons_of_mem _ hw)
  have hown : s.vm.findClass RJ3 = some m.cls := findClass_of_methodNamed B.named
  have hS : va_S (fun q => b0 ≤ q) s.heap s.heap [] := va_S.rf
  have hl := lv_entry ([.int i, .int n, .null]) (n := 3) (Nat.le_of_ble_eq_true rfl)
  rw [lg_entry_eq]
  generalize (lg_sl ([.int i, .int n, .null]) ++ List.replicate (3 - (lg_sl ([.int i, .int n, .null])).length) Slot.unset).toArray = ls at hl ⊢
  have hl : lv_has ls 3 [(0, .int i), (1, .int n), (2, .null)] := hl
  refine lv_iload_n hx hb dS_p0 rfl (lv_at hl 0 rfl) ?_
  refine lv_if_lt (tgt := 9) hx hb dS_p1 rfl (fun h => absurd h h0) (fun _ => ?_)
  refine lv_iload_n hx hb dS_p4 rfl (lv_at hl 0 rfl) ?_
  refine lv_iload_n hx hb dS_p5 rfl (lv_at hl 1 rfl) ?_
  refine lv_icmp_lt (tgt := 16) hx hb dS_p6 rfl (fun _ => ?_) (fun h => absurd h1 h)
  refine lv_iload_n hx hb dS_p16 rfl (lv_at hl 0 rfl) ?_
  exact W.iret hx hb hr (fun t ht hW => ⟨rfl, by rw [ht]; exact hR, hS.F ht⟩) hS.2.2 dS_p17
theorem j_chk (l : Launch) {i n : Int32} (h0 : ¬ i < 0) (h1 : i < n) : Met l yJ0_checkIndex_df160 (.code yJ0_checkIndex_df160 cJ0_checkIndex_df160 2 none :: wsL_law) ({ frames := 1, cells := 0, slots := 0, locals := 22 }) (PJ D dA b0 xa sL sX [.int i, .int n] M) (QcC D dA b0 xa sL sX none M) 0 0 (fun q => b0 ≤ q) := by
  refine Met.ofW (cc := cJ0_checkIndex_df160) (maxL := 2) (ret := none) (by decide) rfl ?_
  intro p e s m args below meth c s₁ B hml hpc
  obtain ⟨rfl, hb0, hR, hKW, hSF⟩ := hpc
  have hx := B.exec
  have hb := B.bytes
  have hr := B.returns
  have hlk := B.notSynchronized
  have hts0 := atoms_spec (ws := .code yJ0_checkIndex_df160 cJ0_checkIndex_df160 2 (none) :: wsL_law) B.pre
  have hts : ∀ w ∈ wsL_law, w.before ([.int i, .int n] : List Value).toArray s = true := fun w hw => hts0 w (List.mem_cons_of_mem _ hw)
  have hown : s.vm.findClass RJ0 = some m.cls := findClass_of_methodNamed B.named
  have hS : va_S (fun q => b0 ≤ q) s.heap s.heap [] := va_S.rf
  have hl := lv_entry ([.int i, .int n]) (n := 2) (Nat.le_of_ble_eq_true rfl)
  rw [lg_entry_eq]
  generalize (lg_sl ([.int i, .int n]) ++ List.replicate (2 - (lg_sl ([.int i, .int n])).length) Slot.unset).toArray = ls at hl ⊢
  have hl : lv_has ls 2 [(0, .int i), (1, .int n)] := hl
  refine lv_iload_n hx hb dS_k0 rfl (lv_at hl 0 rfl) ?_
  refine lv_iload_n hx hb dS_k1 rfl (lv_at hl 1 rfl) ?_
  have hlink := hts (.fieldLink RJ0 1053 "jdk/internal/util/Preconditions" "SIOOBE_FORMATTER" "Ljava/util/function/BiFunction;") (by decide +kernel)
  have hin : ∀ w ∈ ([.methodLink RJ0 1059 yJ3_checkIndex_8e157, .static yJ3_checkIndex_8e157, .initialized RJ3, .code yJ3_checkIndex_8e157 cJ3_checkIndex_8e157 3 (some .int)] : List Cond), w ∈ wsL_law := by decide +kernel
  rcases hSF.2.2.2.2.2 with hZ | ⟨w0, hZ⟩
  · refine va_gets hx hb hZ hS hown hlink (fun _ h => h) dS_k2 ?_
    refine run_W hb0 (va_runS (As := [.int i, .int n, .null]) (rest := []) ⟨hx, hb, hml, hown, hts⟩ (j_prec_n l h0 h1) (va_cwS 3 hts (good_in (fun w hw => ?_)) rfl rfl rfl ⟨by decide, by decide, rfl⟩ ⟨Nat.le_refl _, Nat.le_refl _⟩) ⟨PJ_blind D dA b0 xa sL sX _ M, fun U hU hW => PJ_pre hb0 hKW hSF hR hS hU hW _⟩ rfl rfl hl.1 rfl (by show 2 * 0 + 0 ≤ 8; omega) dS_k5 ⟨Nat.le_refl _, Nat.le_refl _⟩) hS (fun H1 locs1 hR1 hS1 => ?_)
    · rcases List.mem_append.mp hw with h | h
      · have h' : w ∈ ([.methodLink RJ0 1059 yJ3_checkIndex_8e157, .static yJ3_checkIndex_8e157, .initialized RJ3] : List Cond) := h
        exact hin w (List.mem_append_left [Cond.code yJ3_checkIndex_8e157 cJ3_checkIndex_8e157 3 (some .int)] h')
      · rcases List.mem_cons.mp h with h | h
        · rw [h]; exact hin _ (by simp)
        · exact h
    · refine lv_pop hx hb dS_k8 rfl ?_
      exact W.vret hx hb hr (fun t ht hW => ⟨rfl, by rw [ht]; exact hR1, hS1.F ht⟩) hS1.2.2 dS_k9
  · refine va_gets hx hb hZ hS hown hlink (fun _ h => h) dS_k2 ?_
    refine run_W hb0 (va_runS (As := [.int i, .int n, .ref w0]) (rest := []) ⟨hx, hb, hml, hown, hts⟩ (j_prec_r l h0 h1) (va_cwS 3 hts (good_in (fun w hw => ?_)) rfl rfl rfl ⟨by decide, by decide, rfl⟩ ⟨Nat.le_refl _, Nat.le_refl _⟩) ⟨PJ_blind D dA b0 xa sL sX _ M, fun U hU hW => PJ_pre hb0 hKW hSF hR hS hU hW _⟩ rfl rfl hl.1 rfl (by show 2 * 0 + 0 ≤ 8; omega) dS_k5 ⟨Nat.le_refl _, Nat.le_refl _⟩) hS (fun H1 locs1 hR1 hS1 => ?_)
    · rcases List.mem_append.mp hw with h | h
      · have h' : w ∈ ([.methodLink RJ0 1059 yJ3_checkIndex_8e157, .static yJ3_checkIndex_8e157, .initialized RJ3] : List Cond) := h
        exact hin w (List.mem_append_left [Cond.code yJ3_checkIndex_8e157 cJ3_checkIndex_8e157 3 (some .int)] h')
      · rcases List.mem_cons.mp h with h | h
        · rw [h]; exact hin _ (by simp)
        · exact h
    · refine lv_pop hx hb dS_k8 rfl ?_
      exact W.vret hx hb hr (fun t ht hW => ⟨rfl, by rw [ht]; exact hR1, hS1.F ht⟩) hS1.2.2 dS_k9
theorem j_lca (l : Launch) {j : Nat} {i x c9 : Int32} (hj : j < 7) (h0 : 0 ≤ i.toInt) (h1 : i.toInt < sLn.getD j 0) (hn0 : ¬ i < 0) (hn1 : i < Int32.ofNat (sLn.getD j 0)) (hxx : (sBy.getD j []).getD i.toNatClampNeg 0 = x) (hcc : ((x &&& 255).toUInt32 % 65536).toInt32 = c9) (hnr : narrow .char (.int c9) = .int c9) : Met l yJ1_charAt_3b067 (.code yJ1_charAt_3b067 cJ1_charAt_3b067 2 (some .char) :: wsL_law) ({ frames := 2, cells := 0, slots := 0, locals := 43 }) (PJ D dA b0 xa sL sX [.ref (xa (20 + j)), .int i] M) (QcC D dA b0 xa sL sX (some (.int c9)) M) 0 0 (fun q => b0 ≤ q) := by
  refine Met.ofW (cc := cJ1_charAt_3b067) (maxL := 2) (ret := some .char) (by decide) rfl ?_
  intro p e s m args below meth c s₁ B hml hpc
  obtain ⟨rfl, hb0, hR, hKW, hSF⟩ := hpc
  have hx := B.exec
  have hb := B.bytes
  have hr := B.returns
  have hlk := B.notSynchronized
  have hts0 := atoms_spec (ws := .code yJ1_charAt_3b067 cJ1_charAt_3b067 2 (some .char) :: wsL_law) B.pre
  have hts : ∀ w ∈ wsL_law, w.before ([.ref (xa (20 + j)), .int i] : List Value).toArray s = true := fun w hw => hts0 w (List.mem_cons_of_mem _ hw)
  have hown : s.vm.findClass RJ1 = some m.cls := findClass_of_methodNamed B.named
  have hS : va_S (fun q => b0 ≤ q) s.heap s.heap [] := va_S.rf
  have hl := lv_entry ([.ref (xa (20 + j)), .int i]) (n := 2) (Nat.le_of_ble_eq_true rfl)
  rw [lg_entry_eq]
  generalize (lg_sl ([.ref (xa (20 + j)), .int i]) ++ List.replicate (2 - (lg_sl ([.ref (xa (20 + j)), .int i])).length) Slot.unset).toArray = ls at hl ⊢
  have hl : lv_has ls 2 [(0, .ref (xa (20 + j))), (1, .int i)] := hl
  have hv := hSF.2.2.2.1.1 j hj
  refine lv_iload_n hx hb dS_y0 rfl (lv_at hl 1 rfl) ?_
  refine lv_aload_n hx hb dS_y1 rfl (lv_at hl 0 rfl) ?_
  refine va_tlen hx hb hv.2.2.2 hS rfl dS_y2 ?_
  refine run_W hb0 (va_runS (As := [.int i, .int (Int32.ofNat (sLn.getD j 0))]) (rest := []) ⟨hx, hb, hml, hown, hts⟩ (j_chk l hn0 hn1) (va_cwS 2 hts (good_in (fun w hw => ?_)) rfl rfl rfl ⟨by decide, by decide, rfl⟩ ⟨Nat.le_refl _, Nat.le_refl _⟩) ⟨PJ_blind D dA b0 xa sL sX _ M, fun U hU hW => PJ_pre hb0 hKW hSF hR hS hU hW _⟩ rfl rfl hl.1 rfl (by show 2 * 0 + 0 ≤ 8; omega) dS_y3 ⟨Nat.le_refl _, Nat.le_refl _⟩) hS (fun H1 locs1 hR1 hS1 => ?_)
  · have hin : ∀ w ∈ ([.methodLink RJ1 9 yJ0_checkIndex_df160, .static yJ0_checkIndex_df160, .initialized RJ0, .code yJ0_checkIndex_df160 cJ0_checkIndex_df160 2 none] : List Cond), w ∈ wsL_law := by decide +kernel
    rcases List.mem_append.mp hw with h | h
    · have h' : w ∈ ([.methodLink RJ1 9 yJ0_checkIndex_df160, .static yJ0_checkIndex_df160, .initialized RJ0] : List Cond) := h
      exact hin w (List.mem_append_left [Cond.code yJ0_checkIndex_df160 cJ0_checkIndex_df160 2 none] h')
    · rcases List.mem_cons.mp h with h | h
      · rw [h]; exact hin _ (by simp)
      · exact h
  · refine lv_aload_n hx hb dS_y6 rfl (lv_at hl 0 rfl) ?_
    refine lv_iload_n hx hb dS_y7 rfl (lv_at hl 1 rfl) ?_
    refine va_tb (v := .int x) hx hb hv.2.2.2 hS1 (in_vp h0 h1) (by rw [hxx]) dS_y8 ?_
    refine lv_sipush (v := 255) hx hb dS_y9 (by decide) ?_
    refine lv_iand hx hb dS_y12 ?_
    refine lv_i2c hx hb dS_y13 hcc ?_
    exact W.zret hx hb hr hnr (fun t ht hW => ⟨rfl, by rw [ht]; exact hR1, hS1.F ht⟩) hS1.2.2 dS_y14
theorem j_cha (l : Launch) {j d : Nat} {i x c9 : Int32} (hj : j < 7) (h0 : 0 ≤ i.toInt) (h1 : i.toInt < sLn.getD j 0) (hn0 : ¬ i < 0) (hn1 : i < Int32.ofNat (sLn.getD j 0)) (hxx : (sBy.getD j []).getD i.toNatClampNeg 0 = x) (hcc : ((x &&& 255).toUInt32 % 65536).toInt32 = c9) (hnr : narrow .char (.int c9) = .int c9) : Met l yJ0_charAt_5068e (.code yJ0_charAt_5068e cJ0_charAt_5068e 2 (some .char) :: wsL_law) ({ frames := d + 3, cells := 0, slots := 0, locals := 64 * (d + 1) + 100 }) (PJ D dA b0 xa sL sX [.ref (xa (1 + j)), .int i] M) (QcC D dA b0 xa sL sX (some (.int c9)) M) 0 0 (fun q => b0 ≤ q) := by
  refine Met.ofW (cc := cJ0_charAt_5068e) (maxL := 2) (ret := some .char) (by decide) rfl ?_
  intro p e s m args below meth c s₁ B hml hpc
  obtain ⟨rfl, hb0, hR, hKW, hSF⟩ := hpc
  have hx := B.exec
  have hb := B.bytes
  have hr := B.returns
  have hlk := B.notSynchronized
  have hts0 := atoms_spec (ws := .code yJ0_charAt_5068e cJ0_charAt_5068e 2 (some .char) :: wsL_law) B.pre
  have hts : ∀ w ∈ wsL_law, w.before ([.ref (xa (1 + j)), .int i] : List Value).toArray s = true := fun w hw => hts0 w (List.mem_cons_of_mem _ hw)
  have hown : s.vm.findClass RJ0 = some m.cls := findClass_of_methodNamed B.named
  have hS : va_S (fun q => b0 ≤ q) s.heap s.heap [] := va_S.rf
  have hl := lv_entry ([.ref (xa (1 + j)), .int i]) (n := 2) (Nat.le_of_ble_eq_true rfl)
  rw [lg_entry_eq]
  generalize (lg_sl ([.ref (xa (1 + j)), .int i]) ++ List.replicate (2 - (lg_sl ([.ref (xa (1 + j)), .int i])).length) Slot.unset).toArray = ls at hl ⊢
  have hl : lv_has ls 2 [(0, .ref (xa (1 + j))), (1, .int i)] := hl
  have hv := hSF.2.2.2.1.1 j hj
  refine lv_aload_n hx hb dS_a0 rfl (lv_at hl 0 rfl) ?_
  refine run_W hb0 (va_runV (As := []) (b := xa (1 + j)) (rest := []) ⟨hx, hb, hml, hown, hts⟩ (j_lat l hj) (cwV 0 hts (good_in (fun w hw => ?_)) rfl rfl rfl ⟨rfl, by decide, by decide, rfl⟩ ⟨by show 1 ≤ d + 3; omega, by show 8 + (1 + 11) + 0 ≤ 64 * (d + 1) + 100; omega⟩) ⟨PJ_blind D dA b0 xa sL sX _ M, vk_recv (i := j) hSF.2.2.2.1 hj hS, fun U hU hW => PJ_pre hb0 hKW hSF hR hS hU hW _⟩ rfl rfl hl.1 rfl (by show 2 * 0 + 0 ≤ 8; omega) dS_a1 ⟨Nat.le_refl _, Nat.le_refl _⟩) hS (fun H1 locs1 hR1 hS1 => ?_)
  · have hin : ∀ w ∈ ([.methodLink RJ0 492 yJ0_isLatin1_aae02, .instanceMethod yJ0_isLatin1_aae02, .selects RJ0 yJ0_isLatin1_aae02 yJ0_isLatin1_aae02, .initialized RJ0, .code yJ0_isLatin1_aae02 cJ0_isLatin1_aae02 1 (some .boolean)] : List Cond), w ∈ wsL_law := by decide +kernel
    rcases List.mem_append.mp hw with h | h
    · have h' : w ∈ ([.methodLink RJ0 492 yJ0_isLatin1_aae02, .instanceMethod yJ0_isLatin1_aae02, .selects RJ0 yJ0_isLatin1_aae02 yJ0_isLatin1_aae02, .initialized RJ0] : List Cond) := h
      exact hin w (List.mem_append_left [Cond.code yJ0_isLatin1_aae02 cJ0_isLatin1_aae02 1 (some .boolean)] h')
    · rcases List.mem_cons.mp h with h | h
      · rw [h]; exact hin _ (by simp)
      · exact h
  · refine lv_if_eq (tgt := 16) hx hb dS_a4 rfl (fun h => absurd h (by decide)) (fun _ => ?_)
    refine lv_aload_n hx hb dS_a7 rfl (lv_at hl 0 rfl) ?_
    refine vk_getf hx hb hv.2.2.1 hS1 hown (hts (.fieldLink RJ0 9 "java/lang/String" "value" "[B") (by decide +kernel)) (fun _ h => h) dS_a8 ?_
    refine lv_iload_n hx hb dS_a11 rfl (lv_at hl 1 rfl) ?_
    refine run_W hb0 (va_runS (As := [.ref (xa (20 + j)), .int i]) (rest := []) ⟨hx, hb, hml, hown, hts⟩ (j_lca l hj h0 h1 hn0 hn1 hxx hcc hnr) (va_cwS 2 hts (good_in (fun w hw => ?_)) rfl rfl rfl ⟨by decide, by decide, rfl⟩ ⟨by show 2 + 1 ≤ d + 3; omega, by show 8 + (2 + 11) + 43 ≤ 64 * (d + 1) + 100; omega⟩) ⟨PJ_blind D dA b0 xa sL sX _ M, fun U hU hW => PJ_pre hb0 hKW hSF hR1 hS1 hU hW _⟩ rfl rfl hl.1 rfl (by show 2 * 0 + 0 ≤ 8; omega) dS_a12 ⟨Nat.le_refl _, Nat.le_refl _⟩) hS1 (fun H2 locs2 hR2 hS2 => ?_)
    · have hin : ∀ w ∈ ([.methodLink RJ0 495 yJ1_charAt_3b067, .static yJ1_charAt_3b067, .initialized RJ1, .code yJ1_charAt_3b067 cJ1_charAt_3b067 2 (some .char)] : List Cond), w ∈ wsL_law := by decide +kernel
      rcases List.mem_append.mp hw with h | h
      · have h' : w ∈ ([.methodLink RJ0 495 yJ1_charAt_3b067, .static yJ1_charAt_3b067, .initialized RJ1] : List Cond) := h
        exact hin w (List.mem_append_left [Cond.code yJ1_charAt_3b067 cJ1_charAt_3b067 2 (some .char)] h')
      · rcases List.mem_cons.mp h with h | h
        · rw [h]; exact hin _ (by simp)
        · exact h
    · exact W.zret hx hb hr hnr (fun t ht hW => ⟨rfl, by rw [ht]; exact hR2, hS2.F ht⟩) hS2.2.2 dS_a15
end STRS
theorem am_str (b0 : Nat) (xa : Nat → Nat) (j : Nat) : am b0 xa (1000001 + j) = xa (1 + j) := by
  unfold am
  rw [if_neg (by omega), show 1000001 + j - 1000000 = 1 + j by omega]
theorem strT_j {a : Nat} {t : List Nat} (ht : strT a = some t) : ∃ j, j < 7 ∧ a = 1000001 + j ∧ ∃ x, strX[j]? = some x ∧ t = chs x := by
  obtain ⟨h1, h2, x, h3, h4⟩ := strF_lt strX 1000001 a t ht
  have hs : strX.length = 7 := rfl
  exact ⟨a - 1000001, by omega, by omega, x, h3, h4⟩
theorem str_len_met (l : Launch) (D : va_G) (dA : Nat → ClassId) (b0 : Nat) (xa : Nat → Nat) (sL : Nat) (sX : Nat → Int32) (d a : Nat) (M : AM) (t : List Nat) (ha : 1000001 ≤ a) (ht : strT a = some t) : Met l (spN 300) (wsM 300) ({ frames := d + 3, cells := M.1 - M.1, slots := M.2.1 - M.2.1, locals := 64 * (d + 1) + 100 }) (PcC D dA b0 xa sL sX [.ref a] M) (QcC D dA b0 xa sL sX (some (.int (Int32.ofNat t.length))) M) (M.1 - M.1) (M.2.1 - M.2.1) (fun q => b0 ≤ q) := by
  obtain ⟨j, hj, rfl, x, h3, rfl⟩ := strT_j ht
  have e1 : (chs x).length = sLn.getD j 0 := by
    match j, hj, h3 with
    | 0, _, h3 => cases h3; decide +kernel
    | 1, _, h3 => cases h3; decide +kernel
    | 2, _, h3 => cases h3; decide +kernel
    | 3, _, h3 => cases h3; decide +kernel
    | 4, _, h3 => cases h3; decide +kernel
    | 5, _, h3 => cases h3; decide +kernel
    | 6, _, h3 => cases h3; decide +kernel
    | j + 7, h, _ => exact absurd h (by omega)
  rw [Nat.sub_self, Nat.sub_self, e1]
  have e2 : PcC D dA b0 xa sL sX [.ref (1000001 + j)] M = PJ D dA b0 xa sL sX [.ref (xa (1 + j))] M := by
    show PJ D dA b0 xa sL sX [.ref (am b0 xa (1000001 + j))] M = _
    rw [am_str]
  rw [e2]
  exact j_len l hj
theorem str_at_met (l : Launch) (D : va_G) (dA : Nat → ClassId) (b0 : Nat) (xa : Nat → Nat) (sL : Nat) (sX : Nat → Int32) (d a : Nat) (M : AM) (t : List Nat) (ha : 1000001 ≤ a) (ht : strT a = some t) (i : Int32) (x : Nat) (hi : 0 ≤ i.toInt) (hx : t[i.toNatClampNeg]? = some x) : Met l (spN 301) (wsM 301) ({ frames := d + 3, cells := M.1 - M.1, slots := M.2.1 - M.2.1, locals := 64 * (d + 1) + 100 }) (PcC D dA b0 xa sL sX [.ref a, .int i] M) (QcC D dA b0 xa sL sX (some (.int (Int32.ofNat x))) M) (M.1 - M.1) (M.2.1 - M.2.1) (fun q => b0 ≤ q) := by
  obtain ⟨j, hj, rfl, y, h3, rfl⟩ := strT_j ht
  have ei : i.toNatClampNeg = i.toInt.toNat := rfl
  have key : ∀ j, j < 7 → ∀ k, k < 6 → ∀ y, strX[j]? = some y → ∀ x, (chs y)[k]? = some x → k < sLn.getD j 0 ∧ sLn.getD j 0 ≤ 6 ∧ ((((sBy.getD j []).getD k 0 &&& 255).toUInt32 % 65536).toInt32 = Int32.ofNat x ∧ narrow .char (.int (Int32.ofNat x)) = .int (Int32.ofNat x)) := by
    intro j hj k hk y hy x hx
    have hall : ∀ j, j < 7 → ∀ k, k < 6 → ((chs (strX.getD j ""))[k]?).all (fun x => decide (k < sLn.getD j 0) && decide (sLn.getD j 0 ≤ 6) && decide ((((sBy.getD j []).getD k 0 &&& 255).toUInt32 % 65536).toInt32 = Int32.ofNat x) && decide (narrow .char (.int (Int32.ofNat x)) = .int (Int32.ofNat x))) = true := by decide +kernel
    have h := hall j hj k hk
    have ey : strX.getD j "" = y := by rw [List.getD_eq_getElem?_getD, hy]; rfl
    rw [ey, hx] at h
    have h : (decide (k < sLn.getD j 0) && decide (sLn.getD j 0 ≤ 6) && decide ((((sBy.getD j []).getD k 0 &&& 255).toUInt32 % 65536).toInt32 = Int32.ofNat x) && decide (narrow .char (.int (Int32.ofNat x)) = .int (Int32.ofNat x))) = true := h
    simp only [Bool.and_eq_true, decide_eq_true_eq] at h
    exact ⟨h.1.1.1, h.1.1.2, h.1.2, h.2⟩
  have hlen : ∀ j, j < 7 → ∀ y, strX[j]? = some y → (chs y).length ≤ 6 := by
    intro j hj y hy
    have hall : ∀ j, j < 7 → (chs (strX.getD j "")).length ≤ 6 := by decide +kernel
    have h := hall j hj
    rw [List.getD_eq_getElem?_getD, hy] at h
    exact h
  have hk := (List.getElem?_eq_some_iff.mp hx).1
  have hl6 := hlen j hj y h3
  obtain ⟨k1, k2, k3, k4⟩ := key j hj i.toNatClampNeg (by omega) y h3 x hx
  have hof : (Int32.ofNat (sLn.getD j 0)).toInt = (sLn.getD j 0 : Int) := Int32.toInt_ofNat_of_lt (by omega)
  rw [Nat.sub_self, Nat.sub_self]
  have e2 : PcC D dA b0 xa sL sX [.ref (1000001 + j), .int i] M = PJ D dA b0 xa sL sX [.ref (xa (1 + j)), .int i] M := by
    show PJ D dA b0 xa sL sX [.ref (am b0 xa (1000001 + j)), .int i] M = _
    rw [am_str]
  rw [e2]
  exact j_cha l hj hi (by omega) (fun h => by have := Int32.lt_iff_toInt_lt.mp h; have h0 : (0 : Int32).toInt = 0 := rfl; omega) (Int32.lt_iff_toInt_lt.mpr (by rw [hof]; omega)) rfl k3 k4
