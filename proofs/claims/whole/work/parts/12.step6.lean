theorem look_mem : ∀ (t : List (Nat × En)) (pc : Nat) (e : En), look t pc = some e → (pc, e) ∈ t := by
  intro t
  induction t with
  | nil => intro pc e h; cases h
  | cons q r ih =>
    intro pc e h
    obtain ⟨q1, q2⟩ := q
    unfold look at h
    by_cases hq : q1 = pc
    · rw [if_pos hq] at h
      cases h
      rw [hq]
      exact List.mem_cons_self
    · rw [if_neg hq] at h
      exact List.mem_cons_of_mem _ (ih pc e h)
theorem uu_i (x : Int32) : Value.int x ≠ uu := by unfold uu; intro h; cases h
theorem uu_l (x : Int64) : Value.long x ≠ uu := by unfold uu; intro h; cases h
theorem uu_r (x : Addr) : Value.ref x ≠ uu := by unfold uu; intro h; cases h
theorem uu_n : Value.null ≠ uu := by unfold uu; intro h; cases h
theorem not2 {v : Value} (h : ¬ is2 v = true) : v.category = 1 := by cases v <;> simp [is2] at h <;> rfl
theorem lsw_spec : ∀ (ps : List (Int × Int)) (ts : List Nat) (pc : Nat) (d x : Int) (t : Nat), ts.map (fun t : Nat => (t : Int)) = ps.map (fun q => (pc : Int) + q.2) ++ [(pc : Int) + d] → nx_lsw ps ts x = some t → (pc : Int) + Op.lookupswitch.offset ps d x = (t : Int) := by
  intro ps
  induction ps with
  | nil =>
    intro ts pc d x t h1 h2
    match ts, h1, h2 with
    | [a], h1, h2 =>
      unfold nx_lsw at h2
      cases h2
      have := (List.cons.inj h1).1
      rw [Op.lookupswitch.offset_nil]
      exact this.symm
    | [], h1, h2 => cases h2
    | a :: b :: r, h1, h2 => unfold nx_lsw at h2; cases h2
  | cons p ps ih =>
    intro ts pc d x t h1 h2
    match ts, h1, h2 with
    | [], h1, h2 => cases h2
    | a :: ts, h1, h2 =>
      unfold nx_lsw at h2
      obtain ⟨h3, h4⟩ := List.cons.inj h1
      obtain ⟨p1, p2⟩ := p
      rw [Op.lookupswitch.offset_cons]
      by_cases hx : p1 = x
      · rw [if_pos hx] at h2
        cases h2
        rw [if_pos hx]
        exact h3.symm
      · rw [if_neg hx] at h2
        rw [if_neg hx]
        exact ih ts pc d x t h4 h2
section STV
variable {p : Program} {l : Launch} {e : Env} {R : Room} {s : State} {m : MethodId} {args : Array Value} {below : List Frame} {meth : Method} {c : Code} {Q : State → Prop} {y : Nat} {D : va_G} {dA : Nat → ClassId} {b0 : Nat} {xa : Nat → Nat} {sL : Nat} {sX : Nat → Int32} {n0 s0 : Nat} {pc pc' : Nat} {L L' st st' : List Value} {M M1 : AM} {H : Heap} {locs : List Loc} {k0 t0 : Nat} {ls : Array Slot}
theorem step_look {cf : Nat → List Value → AM → Option AR} (hy : y < 245) {x : (Nat × List Value × List Value × AM) ⊕ AR} (hn : nxt cf y pc L st M = some x) : ∃ i len ax cst, decode (mdB y) pc = .ok (i, len) ∧ lkE (mdO y) (mdR y) (decide ((mdN y).name = "<init>")) pc (i, len, ax, cst) = true ∧ nx cf i len ax cst pc L st M = some x := by
  unfold nxt at hn
  split at hn
  · rename_i i len ax cst hlook
    have hchk := List.all_eq_true.mp (ck_all y hy) _ (look_mem _ _ _ hlook)
    unfold chE at hchk
    simp only [Bool.and_eq_true, decide_eq_true_eq] at hchk
    exact ⟨i, len, ax, cst, hchk.1, hchk.2, hn⟩
  · cases hn
set_option maxHeartbeats 4000000 in
set_option maxRecDepth 4000 in
theorem step_sound (C : Cx p s m args meth c y D dA b0 xa sL sX) (hy : y < 245) (hLn : L.length = mdL y) (hl : hasL b0 xa ls L) (hR : Rp D dA b0 xa sL sX M H) (hS : va_S (fun q => b0 ≤ q) s.heap H locs) (hk : M.1 = n0 + k0) (ht : M.2.1 = s0 + t0) (bk : M1.1 ≤ n0 + R.cells) (bt : M1.2.1 ≤ s0 + R.slots) {cf : Nat → List Value → AM → Option AR} {d : Nat} (hcf : OKc l D dA b0 xa sL sX d cf) (hf1 : d + 3 ≤ R.frames) (hf2 : 64 * (d + 1) + 100 ≤ R.locals)
    (hn : nxt cf y pc L st M = some (.inl (pc', L', st', M1))) (kk : KK p l e R s m args below meth c Q y D dA b0 xa sL sX n0 s0 pc' L' st' M1) : W p l e R s m args below meth c H locs k0 t0 Q (F0 m pc ls (st.map (cv b0 xa))) := by
  have C0 := C
  obtain ⟨hx, hb, hml, hown, hts, hK, hSF, hini, hb0⟩ := C
  obtain ⟨i, len, ax, cst, hd, hlk, hn⟩ := step_look hy hn
  cases i with
  | iconst n =>
    simp only [lkE, Bool.and_eq_true, decide_eq_true_eq] at hlk
    obtain ⟨rfl, rfl⟩ := hlk
    cases hn
    exact lv_iconst hx hb hd rfl (kk H locs ls k0 t0 hl hLn hR hS hk ht)
  | bipush n =>
    simp only [lkE, Bool.and_eq_true, decide_eq_true_eq] at hlk
    obtain ⟨rfl, rfl⟩ := hlk
    cases hn
    exact lv_bipush hx hb hd rfl (kk H locs ls k0 t0 hl hLn hR hS hk ht)
  | sipush n =>
    simp only [lkE, Bool.and_eq_true, decide_eq_true_eq] at hlk
    obtain ⟨rfl, rfl⟩ := hlk
    cases hn
    exact lv_sipush hx hb hd rfl (kk H locs ls k0 t0 hl hLn hR hS hk ht)
  | lconst n =>
    simp only [lkE, Bool.and_eq_true, decide_eq_true_eq] at hlk
    obtain ⟨rfl, rfl⟩ := hlk
    cases hn
    exact lv_lconst hx hb hd rfl (kk H locs ls k0 t0 hl hLn hR hS hk ht)
  | aconst_null =>
    simp only [lkE, decide_eq_true_eq] at hlk
    subst hlk
    cases hn
    exact lv_null hx hb hd (kk H locs ls k0 t0 hl hLn hR hS hk ht)
  | ldc ix =>
    rcases ax with _ | ⟨a0, ax⟩
    · cases cst <;> simp [lkE] at hlk
    · cases cst with
      | int v =>
        simp only [lkE, Bool.and_eq_true, decide_eq_true_eq] at hlk
        obtain ⟨rfl, hw⟩ := hlk
        cases hn
        exact lv_ldc hx hb hown (hts _ (eqW_in hw)) hd (kk H locs ls k0 t0 hl hLn hR hS hk ht)
      | ref v =>
        simp only [lkE, Bool.and_eq_true, decide_eq_true_eq] at hlk
        obtain ⟨rfl, hw⟩ := hlk
        split at hw
        · rename_i o j t hj
          simp only [Bool.and_eq_true, decide_eq_true_eq] at hw
          obtain ⟨⟨⟨rfl, rfl⟩, rfl⟩, ht7⟩ := hw
          cases hn
          have ea : (Value.ref (xa (1 + t)) : Value) = cv b0 xa (.ref (1000001 + t)) := by
            show _ = Value.ref (am b0 xa (1000001 + t))
            unfold am
            rw [if_neg (by omega), show 1000001 + t - 1000000 = 1 + t by omega]
          have k2 := kk H locs ls k0 t0 hl hLn hR hS hk ht
          rw [List.map_cons, ← ea] at k2
          exact va_ldcS hx hb hown (hSF.2.2.1 _ _ _ _ hj) hd k2
        · cases hw
      | _ => simp [lkE] at hlk
  | ldc_w ix =>
    rcases ax with _ | ⟨a0, ax⟩
    · cases cst <;> simp [lkE] at hlk
    · cases cst with
      | int v =>
        simp only [lkE, Bool.and_eq_true, decide_eq_true_eq] at hlk
        obtain ⟨rfl, hw⟩ := hlk
        cases hn
        exact lv_ldcw hx hb hown (hts _ (eqW_in hw)) hd (kk H locs ls k0 t0 hl hLn hR hS hk ht)
      | _ => simp [lkE] at hlk
  | ldc2_w ix =>
    rcases ax with _ | ⟨a0, ax⟩
    · cases cst <;> simp [lkE] at hlk
    · cases cst with
      | long v =>
        simp only [lkE, Bool.and_eq_true, decide_eq_true_eq] at hlk
        obtain ⟨rfl, hw⟩ := hlk
        cases hn
        exact lv_ldc2 hx hb hown (hts _ (eqW_in hw)) hd (kk H locs ls k0 t0 hl hLn hR hS hk ht)
      | _ => simp [lkE] at hlk
  | iload_n k =>
    simp only [lkE, decide_eq_true_eq] at hlk
    subst hlk
    obtain ⟨x, hL, rfl, rfl, rfl, rfl⟩ := nx_ld0_inv hn
    exact lv_iload_n hx hb hd rfl (hl.2.2 _ _ hL (uu_i x)) (kk H locs ls k0 t0 hl hLn hR hS hk ht)
  | iload k =>
    simp only [lkE, decide_eq_true_eq] at hlk
    subst hlk
    obtain ⟨x, hL, rfl, rfl, rfl, rfl⟩ := nx_ld0_inv hn
    exact lv_iload hx hb hd (hl.2.2 _ _ hL (uu_i x)) (kk H locs ls k0 t0 hl hLn hR hS hk ht)
  | lload_n k =>
    simp only [lkE, decide_eq_true_eq] at hlk
    subst hlk
    obtain ⟨x, hL, rfl, rfl, rfl, rfl⟩ := nx_ld1_inv hn
    exact lv_lload_n hx hb hd rfl (hl.2.2 _ _ hL (uu_l x)) (kk H locs ls k0 t0 hl hLn hR hS hk ht)
  | lload k =>
    simp only [lkE, decide_eq_true_eq] at hlk
    subst hlk
    obtain ⟨x, hL, rfl, rfl, rfl, rfl⟩ := nx_ld1_inv hn
    exact lv_lload hx hb hd (hl.2.2 _ _ hL (uu_l x)) (kk H locs ls k0 t0 hl hLn hR hS hk ht)
  | aload_n k =>
    simp only [lkE, decide_eq_true_eq] at hlk
    subst hlk
    obtain ⟨x, hL, hv, rfl, rfl, rfl, rfl⟩ := nx_ld2_inv hn
    rcases hv with rfl | ⟨q, rfl⟩
    · exact lv_aload_nN hx hb hd rfl (hl.2.2 _ _ hL uu_n) (kk H locs ls k0 t0 hl hLn hR hS hk ht)
    · exact lv_aload_n hx hb hd rfl (hl.2.2 _ _ hL (uu_r q)) (kk H locs ls k0 t0 hl hLn hR hS hk ht)
  | aload k =>
    simp only [lkE, decide_eq_true_eq] at hlk
    subst hlk
    obtain ⟨x, hL, hv, rfl, rfl, rfl, rfl⟩ := nx_ld2_inv hn
    rcases hv with rfl | ⟨q, rfl⟩
    · exact lv_aloadN hx hb hd (hl.2.2 _ _ hL uu_n) (kk H locs ls k0 t0 hl hLn hR hS hk ht)
    · exact lv_aload hx hb hd (hl.2.2 _ _ hL (uu_r q)) (kk H locs ls k0 t0 hl hLn hR hS hk ht)
  | istore_n k =>
    simp only [lkE, decide_eq_true_eq] at hlk
    subst hlk
    obtain ⟨x, r, rfl, hi, rfl, rfl, rfl, rfl⟩ := nx_st0_inv hn
    exact lv_istore_n hx hb hd rfl hl.asc hi rfl (fun ls' h' => kk H locs ls' k0 t0 (hasL.st1 (v := .int x) hi h') ((st1_len _ _ _).trans hLn) hR hS hk ht)
  | istore k =>
    simp only [lkE, decide_eq_true_eq] at hlk
    subst hlk
    obtain ⟨x, r, rfl, hi, rfl, rfl, rfl, rfl⟩ := nx_st0_inv hn
    exact lv_istore hx hb hd hl.asc hi rfl (fun ls' h' => kk H locs ls' k0 t0 (hasL.st1 (v := .int x) hi h') ((st1_len _ _ _).trans hLn) hR hS hk ht)
  | lstore_n k =>
    simp only [lkE, decide_eq_true_eq] at hlk
    subst hlk
    obtain ⟨x, r, rfl, hi, rfl, rfl, rfl, rfl⟩ := nx_st1_inv hn
    exact lv_lstore_n hx hb hd rfl hl.asc hi rfl (fun ls' h' => kk H locs ls' k0 t0 (hasL.st2 (v := .long x) hi h') ((st2_len _ _ _).trans hLn) hR hS hk ht)
  | lstore k =>
    simp only [lkE, decide_eq_true_eq] at hlk
    subst hlk
    obtain ⟨x, r, rfl, hi, rfl, rfl, rfl, rfl⟩ := nx_st1_inv hn
    exact lv_lstore hx hb hd hl.asc hi rfl (fun ls' h' => kk H locs ls' k0 t0 (hasL.st2 (v := .long x) hi h') ((st2_len _ _ _).trans hLn) hR hS hk ht)
  | astore_n k =>
    simp only [lkE, decide_eq_true_eq] at hlk
    subst hlk
    obtain ⟨x, r, rfl, hv, hi, rfl, rfl, rfl, rfl⟩ := nx_st2_inv hn
    rcases hv with rfl | ⟨q, rfl⟩
    · exact lv_astore_nN hx hb hd rfl hl.asc hi rfl (fun ls' h' => kk H locs ls' k0 t0 (hasL.st1 (v := .null) hi h') ((st1_len _ _ _).trans hLn) hR hS hk ht)
    · exact lv_astore_n hx hb hd rfl hl.asc hi rfl (fun ls' h' => kk H locs ls' k0 t0 (hasL.st1 (v := .ref q) hi h') ((st1_len _ _ _).trans hLn) hR hS hk ht)
  | astore k =>
    simp only [lkE, decide_eq_true_eq] at hlk
    subst hlk
    obtain ⟨x, r, rfl, hv, hi, rfl, rfl, rfl, rfl⟩ := nx_st2_inv hn
    rcases hv with rfl | ⟨q, rfl⟩
    · exact lv_astoreN hx hb hd hl.asc hi rfl (fun ls' h' => kk H locs ls' k0 t0 (hasL.st1 (v := .null) hi h') ((st1_len _ _ _).trans hLn) hR hS hk ht)
    · exact lv_astore hx hb hd hl.asc hi rfl (fun ls' h' => kk H locs ls' k0 t0 (hasL.st1 (v := .ref q) hi h') ((st1_len _ _ _).trans hLn) hR hS hk ht)
  | iinc k n =>
    simp only [lkE, Bool.and_eq_true, decide_eq_true_eq] at hlk
    obtain ⟨rfl, rfl⟩ := hlk
    unfold nx at hn
    dsimp only at hn
    split at hn
    · rename_i x z hL hz
      split at hn
      · rename_i hi
        cases hz
        cases hn
        obtain ⟨j, hj⟩ := List.getElem?_of_mem (ascL_mem (b0 := b0) (xa := xa) hL (uu_i x))
        exact lv_iinc hx hb hd hl.asc hj rfl hi rfl (fun ls' h' => kk H locs ls' k0 t0 (hasL.st1 (v := .int (x + Int32.ofInt n)) hi h') ((st1_len _ _ _).trans hLn) hR hS hk ht)
      · cases hn
    · cases hn
  | iadd =>
    simp only [lkE, decide_eq_true_eq] at hlk
    subst hlk
    obtain ⟨x, z, r, rfl, rfl, rfl, rfl, rfl⟩ := nx_2_inv hn
    exact lv_iadd hx hb hd (kk H locs ls k0 t0 hl hLn hR hS hk ht)
  | isub =>
    simp only [lkE, decide_eq_true_eq] at hlk
    subst hlk
    obtain ⟨x, z, r, rfl, rfl, rfl, rfl, rfl⟩ := nx_2_inv hn
    exact lv_isub hx hb hd (kk H locs ls k0 t0 hl hLn hR hS hk ht)
  | imul =>
    simp only [lkE, decide_eq_true_eq] at hlk
    subst hlk
    obtain ⟨x, z, r, rfl, rfl, rfl, rfl, rfl⟩ := nx_2_inv hn
    exact lv_imul hx hb hd (kk H locs ls k0 t0 hl hLn hR hS hk ht)
  | iand =>
    simp only [lkE, decide_eq_true_eq] at hlk
    subst hlk
    obtain ⟨x, z, r, rfl, rfl, rfl, rfl, rfl⟩ := nx_2_inv hn
    exact lv_iand hx hb hd (kk H locs ls k0 t0 hl hLn hR hS hk ht)
  | ior =>
    simp only [lkE, decide_eq_true_eq] at hlk
    subst hlk
    obtain ⟨x, z, r, rfl, rfl, rfl, rfl, rfl⟩ := nx_2_inv hn
    exact lv_ior hx hb hd (kk H locs ls k0 t0 hl hLn hR hS hk ht)
  | ixor =>
    simp only [lkE, decide_eq_true_eq] at hlk
    subst hlk
    obtain ⟨x, z, r, rfl, rfl, rfl, rfl, rfl⟩ := nx_2_inv hn
    exact lv_ixor hx hb hd (kk H locs ls k0 t0 hl hLn hR hS hk ht)
  | ishl =>
    simp only [lkE, decide_eq_true_eq] at hlk
    subst hlk
    obtain ⟨x, z, r, rfl, rfl, rfl, rfl, rfl⟩ := nx_2_inv hn
    exact lv_ishl hx hb hd (kk H locs ls k0 t0 hl hLn hR hS hk ht)
  | ishr =>
    simp only [lkE, decide_eq_true_eq] at hlk
    subst hlk
    obtain ⟨x, z, r, rfl, rfl, rfl, rfl, rfl⟩ := nx_2_inv hn
    exact lv_ishr hx hb hd (kk H locs ls k0 t0 hl hLn hR hS hk ht)
  | ladd =>
    simp only [lkE, decide_eq_true_eq] at hlk
    subst hlk
    obtain ⟨x, z, r, rfl, rfl, rfl, rfl, rfl⟩ := nx_l2_inv hn
    exact lv_ladd hx hb hd (kk H locs ls k0 t0 hl hLn hR hS hk ht)
  | lsub =>
    simp only [lkE, decide_eq_true_eq] at hlk
    subst hlk
    obtain ⟨x, z, r, rfl, rfl, rfl, rfl, rfl⟩ := nx_l2_inv hn
    exact lv_lsub hx hb hd (kk H locs ls k0 t0 hl hLn hR hS hk ht)
  | lmul =>
    simp only [lkE, decide_eq_true_eq] at hlk
    subst hlk
    obtain ⟨x, z, r, rfl, rfl, rfl, rfl, rfl⟩ := nx_l2_inv hn
    exact lv_lmul hx hb hd (kk H locs ls k0 t0 hl hLn hR hS hk ht)
  | land =>
    simp only [lkE, decide_eq_true_eq] at hlk
    subst hlk
    obtain ⟨x, z, r, rfl, rfl, rfl, rfl, rfl⟩ := nx_l2_inv hn
    exact lv_land hx hb hd (kk H locs ls k0 t0 hl hLn hR hS hk ht)
  | lor =>
    simp only [lkE, decide_eq_true_eq] at hlk
    subst hlk
    obtain ⟨x, z, r, rfl, rfl, rfl, rfl, rfl⟩ := nx_l2_inv hn
    exact lv_lor hx hb hd (kk H locs ls k0 t0 hl hLn hR hS hk ht)
  | idiv =>
    simp only [lkE, decide_eq_true_eq] at hlk
    subst hlk
    obtain ⟨x, z, r, rfl, hz, rfl, rfl, rfl, rfl⟩ := nx_2d_inv hn
    exact lv_idiv hx hb hd hz (kk H locs ls k0 t0 hl hLn hR hS hk ht)
  | irem =>
    simp only [lkE, decide_eq_true_eq] at hlk
    subst hlk
    obtain ⟨x, z, r, rfl, hz, rfl, rfl, rfl, rfl⟩ := nx_2d_inv hn
    exact lv_irem hx hb hd hz (kk H locs ls k0 t0 hl hLn hR hS hk ht)
  | ldiv =>
    simp only [lkE, decide_eq_true_eq] at hlk
    subst hlk
    obtain ⟨x, z, r, rfl, hz, rfl, rfl, rfl, rfl⟩ := nx_l2d_inv hn
    exact lv_ldiv hx hb hd hz (kk H locs ls k0 t0 hl hLn hR hS hk ht)
  | lrem =>
    simp only [lkE, decide_eq_true_eq] at hlk
    subst hlk
    obtain ⟨x, z, r, rfl, hz, rfl, rfl, rfl, rfl⟩ := nx_l2d_inv hn
    exact lv_lrem hx hb hd hz (kk H locs ls k0 t0 hl hLn hR hS hk ht)
  | iushr =>
    simp only [lkE, decide_eq_true_eq] at hlk
    subst hlk
    obtain ⟨x, z, r, rfl, rfl, rfl, rfl, rfl⟩ := nx_2_inv hn
    exact lv_iushr hx hb hd rfl (kk H locs ls k0 t0 hl hLn hR hS hk ht)
  | ineg =>
    simp only [lkE, decide_eq_true_eq] at hlk
    subst hlk
    obtain ⟨x, r, rfl, rfl, rfl, rfl, rfl⟩ := nx_1_inv hn
    exact lv_ineg hx hb hd (kk H locs ls k0 t0 hl hLn hR hS hk ht)
  | i2l =>
    simp only [lkE, decide_eq_true_eq] at hlk
    subst hlk
    obtain ⟨x, r, rfl, rfl, rfl, rfl, rfl⟩ := nx_1_inv hn
    exact lv_i2l hx hb hd rfl (kk H locs ls k0 t0 hl hLn hR hS hk ht)
  | i2b =>
    simp only [lkE, decide_eq_true_eq] at hlk
    subst hlk
    obtain ⟨x, r, rfl, rfl, rfl, rfl, rfl⟩ := nx_1_inv hn
    exact lv_i2b hx hb hd rfl (kk H locs ls k0 t0 hl hLn hR hS hk ht)
  | i2s =>
    simp only [lkE, decide_eq_true_eq] at hlk
    subst hlk
    obtain ⟨x, r, rfl, rfl, rfl, rfl, rfl⟩ := nx_1_inv hn
    exact lv_i2s hx hb hd rfl (kk H locs ls k0 t0 hl hLn hR hS hk ht)
  | l2i =>
    simp only [lkE, decide_eq_true_eq] at hlk
    subst hlk
    unfold nx at hn
    dsimp only at hn
    split at hn
    · cases hn
      exact lv_l2i hx hb hd rfl (kk H locs ls k0 t0 hl hLn hR hS hk ht)
    · cases hn
  | lshl =>
    simp only [lkE, decide_eq_true_eq] at hlk
    subst hlk
    unfold nx at hn
    dsimp only at hn
    split at hn
    · cases hn
      exact lv_lshl hx hb hd rfl (kk H locs ls k0 t0 hl hLn hR hS hk ht)
    · cases hn
  | lcmp =>
    simp only [lkE, decide_eq_true_eq] at hlk
    subst hlk
    unfold nx at hn
    dsimp only at hn
    split at hn
    · cases hn
      exact W.lcmp hx hb hd (kk H locs ls k0 t0 hl hLn hR hS hk ht)
    · cases hn
  | pop =>
    simp only [lkE, decide_eq_true_eq] at hlk
    subst hlk
    unfold nx at hn
    dsimp only at hn
    split at hn
    · split at hn
      · cases hn
      · rename_i h2
        cases hn
        exact lv_pop hx hb hd ((cv_cat _ _ _).trans (not2 h2)) (kk H locs ls k0 t0 hl hLn hR hS hk ht)
    · cases hn
  | dup =>
    simp only [lkE, decide_eq_true_eq] at hlk
    subst hlk
    unfold nx at hn
    dsimp only at hn
    split at hn
    · split at hn
      · cases hn
      · rename_i h2
        cases hn
        exact lv_dup hx hb hd ((cv_cat _ _ _).trans (not2 h2)) (kk H locs ls k0 t0 hl hLn hR hS hk ht)
    · cases hn
  | dup_x1 =>
    simp only [lkE, decide_eq_true_eq] at hlk
    subst hlk
    unfold nx at hn
    dsimp only at hn
    split at hn
    · split at hn
      · cases hn
      · rename_i h2
        cases hn
        exact lv_dup_x1 hx hb hd ((cv_cat _ _ _).trans (not2 (fun q => h2 (Or.inl q)))) ((cv_cat _ _ _).trans (not2 (fun q => h2 (Or.inr q)))) (kk H locs ls k0 t0 hl hLn hR hS hk ht)
    · cases hn
  | dup2 =>
    simp only [lkE, decide_eq_true_eq] at hlk
    subst hlk
    unfold nx at hn
    dsimp only at hn
    split at hn
    · split at hn
      · cases hn
      · rename_i h2
        cases hn
        exact lv_dup2_11 hx hb hd ((cv_cat _ _ _).trans (not2 (fun q => h2 (Or.inl q)))) ((cv_cat _ _ _).trans (not2 (fun q => h2 (Or.inr q)))) (kk H locs ls k0 t0 hl hLn hR hS hk ht)
    · cases hn
  | ifCond k off =>
    simp only [lkE, Bool.and_eq_true, decide_eq_true_eq] at hlk
    obtain ⟨rfl, hto⟩ := hlk
    obtain ⟨x, r, rfl, rfl, rfl, rfl, rfl⟩ := nx_if_inv hn
    have k2 := kk H locs ls k0 t0 hl hLn hR hS hk ht
    cases k with
    | eq => exact lv_if_eq hx hb hd hto (fun h => by have h9 : cH .eq x 0 := h; rw [@if_pos _ (cD .eq x 0) h9] at k2; exact k2) (fun h => by have h9 : ¬ cH .eq x 0 := h; rw [@if_neg _ (cD .eq x 0) h9] at k2; exact k2)
    | ne => exact lv_if_ne hx hb hd hto (fun h => by have h9 : cH .ne x 0 := h; rw [@if_pos _ (cD .ne x 0) h9] at k2; exact k2) (fun h => by have h9 : ¬ cH .ne x 0 := (fun q => q h); rw [@if_neg _ (cD .ne x 0) h9] at k2; exact k2)
    | lt => exact lv_if_lt hx hb hd hto (fun h => by have h9 : cH .lt x 0 := h; rw [@if_pos _ (cD .lt x 0) h9] at k2; exact k2) (fun h => by have h9 : ¬ cH .lt x 0 := h; rw [@if_neg _ (cD .lt x 0) h9] at k2; exact k2)
    | ge => exact lv_if_ge hx hb hd hto (fun h => by have h9 : cH .ge x 0 := h; rw [@if_pos _ (cD .ge x 0) h9] at k2; exact k2) (fun h => by have h9 : ¬ cH .ge x 0 := h; rw [@if_neg _ (cD .ge x 0) h9] at k2; exact k2)
    | gt => exact lv_if_gt hx hb hd hto (fun h => by have h9 : cH .gt x 0 := h; rw [@if_pos _ (cD .gt x 0) h9] at k2; exact k2) (fun h => by have h9 : ¬ cH .gt x 0 := h; rw [@if_neg _ (cD .gt x 0) h9] at k2; exact k2)
    | le => exact lv_if_le hx hb hd hto (fun h => by have h9 : cH .le x 0 := h; rw [@if_pos _ (cD .le x 0) h9] at k2; exact k2) (fun h => by have h9 : ¬ cH .le x 0 := h; rw [@if_neg _ (cD .le x 0) h9] at k2; exact k2)
  | if_icmp k off =>
    simp only [lkE, Bool.and_eq_true, decide_eq_true_eq] at hlk
    obtain ⟨rfl, hto⟩ := hlk
    obtain ⟨x, z, r, rfl, rfl, rfl, rfl, rfl⟩ := nx_ic_inv hn
    have k2 := kk H locs ls k0 t0 hl hLn hR hS hk ht
    cases k with
    | eq => exact lv_icmp_eq hx hb hd hto (fun h => by have h9 : cH .eq x z := h; rw [@if_pos _ (cD .eq x z) h9] at k2; exact k2) (fun h => by have h9 : ¬ cH .eq x z := h; rw [@if_neg _ (cD .eq x z) h9] at k2; exact k2)
    | ne => exact lv_icmp_ne hx hb hd hto (fun h => by have h9 : cH .ne x z := h; rw [@if_pos _ (cD .ne x z) h9] at k2; exact k2) (fun h => by have h9 : ¬ cH .ne x z := (fun q => q h); rw [@if_neg _ (cD .ne x z) h9] at k2; exact k2)
    | lt => exact lv_icmp_lt hx hb hd hto (fun h => by have h9 : cH .lt x z := h; rw [@if_pos _ (cD .lt x z) h9] at k2; exact k2) (fun h => by have h9 : ¬ cH .lt x z := h; rw [@if_neg _ (cD .lt x z) h9] at k2; exact k2)
    | ge => exact lv_icmp_ge hx hb hd hto (fun h => by have h9 : cH .ge x z := h; rw [@if_pos _ (cD .ge x z) h9] at k2; exact k2) (fun h => by have h9 : ¬ cH .ge x z := h; rw [@if_neg _ (cD .ge x z) h9] at k2; exact k2)
    | gt => exact lv_icmp_gt hx hb hd hto (fun h => by have h9 : cH .gt x z := h; rw [@if_pos _ (cD .gt x z) h9] at k2; exact k2) (fun h => by have h9 : ¬ cH .gt x z := h; rw [@if_neg _ (cD .gt x z) h9] at k2; exact k2)
    | le => exact lv_icmp_le hx hb hd hto (fun h => by have h9 : cH .le x z := h; rw [@if_pos _ (cD .le x z) h9] at k2; exact k2) (fun h => by have h9 : ¬ cH .le x z := h; rw [@if_neg _ (cD .le x z) h9] at k2; exact k2)
  | ifnull off =>
    simp only [lkE, Bool.and_eq_true, decide_eq_true_eq] at hlk
    obtain ⟨rfl, hto⟩ := hlk
    rcases nx_nul_inv hn with ⟨r, rfl, rfl, rfl, rfl, rfl⟩ | ⟨q, r, rfl, rfl, rfl, rfl, rfl⟩
    · exact lv_ifnullN hx hb hd hto (kk H locs ls k0 t0 hl hLn hR hS hk ht)
    · exact lv_ifnull hx hb hd (kk H locs ls k0 t0 hl hLn hR hS hk ht)
  | ifnonnull off =>
    simp only [lkE, Bool.and_eq_true, decide_eq_true_eq] at hlk
    obtain ⟨rfl, hto⟩ := hlk
    rcases nx_nul_inv hn with ⟨r, rfl, rfl, rfl, rfl, rfl⟩ | ⟨q, r, rfl, rfl, rfl, rfl, rfl⟩
    · exact lv_ifnonnullN hx hb hd (kk H locs ls k0 t0 hl hLn hR hS hk ht)
    · exact lv_ifnonnull hx hb hd hto (kk H locs ls k0 t0 hl hLn hR hS hk ht)
  | goto off =>
    simp only [lkE, Bool.and_eq_true, decide_eq_true_eq] at hlk
    obtain ⟨rfl, hto⟩ := hlk
    cases hn
    exact lv_goto hx hb hd hto (kk H locs ls k0 t0 hl hLn hR hS hk ht)
  | tableswitch dflt lo hi offs =>
    simp only [lkE, decide_eq_true_eq] at hlk
    obtain ⟨x, r, rfl, rfl, rfl, rfl, hc⟩ := nx_tsw_inv hn
    have k2 := kk H locs ls k0 t0 hl hLn hR hS hk ht
    have at' : ∀ (j t : Nat), ax[j]? = some t → ∃ o, (dflt :: offs.toList)[j]? = some o ∧ (pc : Int) + o = (t : Int) := by
      intro j t hj
      have h1 := congrArg (fun z => z[j]?) hlk
      simp only [List.getElem?_map, hj, Option.map_some] at h1
      cases hq : (dflt :: offs.toList)[j]? with
      | none => rw [hq] at h1; cases h1
      | some o => rw [hq] at h1; exact ⟨o, rfl, (Option.some.inj h1).symm⟩
    rcases hc with ⟨h1, h2⟩ | ⟨h1, h2, h3⟩
    · obtain ⟨o, ho, hto⟩ := at' 0 _ h2
      cases ho
      exact lv_tableOut hx hb hd h1 hto k2
    · obtain ⟨o, ho, hto⟩ := at' _ _ h3
      have ho' : offs[(x.toInt - lo).toNat]? = some o := by
        rw [List.getElem?_cons_succ] at ho
        rw [← Array.getElem?_toList]
        exact ho
      exact lv_tableIn hx hb hd h1 h2 ho' hto k2
  | lookupswitch dflt ps =>
    simp only [lkE, Bool.and_eq_true, decide_eq_true_eq] at hlk
    unfold nx at hn
    dsimp only at hn
    split at hn
    · split at hn
      · rename_i t hts'
        cases hn
        exact lv_lookup hx hb hd hlk.2 rfl (lsw_spec _ _ _ _ _ _ hlk.1 hts') (kk H locs ls k0 t0 hl hLn hR hS hk ht)
      · cases hn
    · cases hn
  | getfield ix =>
    rcases ax with _ | ⟨ci, _ | ⟨f, _ | ⟨pp, ax⟩⟩⟩
    · cases hn
    · cases hn
    · simp [lkE] at hlk
    · simp only [lkE, Bool.and_eq_true, decide_eq_true_eq] at hlk
      obtain ⟨⟨⟨⟨rfl, h1⟩, h2⟩, h3⟩, h4⟩ := hlk
      exact s_getf C0 hLn hl hR hS hk ht hd h2 h1 h3 h4 hn kk
  | putfield ix =>
    rcases ax with _ | ⟨ci, _ | ⟨f, _ | ⟨tc, _ | ⟨pp, _ | ⟨fin, ax⟩⟩⟩⟩⟩
    · cases hn
    · cases hn
    · cases hn
    · simp [lkE] at hlk
    · simp [lkE] at hlk
    · simp only [lkE, Bool.and_eq_true, decide_eq_true_eq] at hlk
      obtain ⟨⟨⟨⟨⟨⟨rfl, h1⟩, h2⟩, h3⟩, h4⟩, h5⟩, h6⟩ := hlk
      refine s_putf (fin := fin) C0 hLn hl hR hS hk ht hd h2 h1 h3 h4 h5 ?_ hn kk
      by_cases hF : (cT ci f).2.2.2 = true
      · rw [if_pos hF]
        rw [if_pos hF] at h6
        simp only [Bool.and_eq_true, decide_eq_true_eq] at h6
        exact ⟨h6.1.1, h6.1.2⟩
      · rw [if_neg hF]
        trivial
  | new ix =>
    rcases ax with _ | ⟨ci, _ | ⟨p1, _ | ⟨p2, _ | ⟨p3, ax⟩⟩⟩⟩
    · cases hn
    · simp [lkE] at hlk
    · simp [lkE] at hlk
    · simp [lkE] at hlk
    · simp only [lkE, Bool.and_eq_true, decide_eq_true_eq] at hlk
      obtain ⟨⟨⟨⟨rfl, h1⟩, h2⟩, h3⟩, h4⟩ := hlk
      exact s_new C0 hLn hl hR hS hk ht bk bt hd h1 h2 h3 h4 hn kk
  | iaload =>
    simp only [lkE, decide_eq_true_eq] at hlk
    subst hlk
    exact s_iald C0 hLn hl hR hS hk ht hd hn kk
  | laload =>
    simp only [lkE, decide_eq_true_eq] at hlk
    subst hlk
    exact s_lald C0 hLn hl hR hS hk ht hd hn kk
  | aaload =>
    simp only [lkE, decide_eq_true_eq] at hlk
    subst hlk
    exact s_aald C0 hLn hl hR hS hk ht hd hn kk
  | iastore =>
    simp only [lkE, decide_eq_true_eq] at hlk
    subst hlk
    exact s_iast C0 hLn hl hR hS hk ht hd hn kk
  | lastore =>
    simp only [lkE, decide_eq_true_eq] at hlk
    subst hlk
    exact s_last C0 hLn hl hR hS hk ht hd hn kk
  | aastore =>
    simp only [lkE, decide_eq_true_eq] at hlk
    subst hlk
    exact s_aast C0 hLn hl hR hS hk ht hd hn kk
  | arraylength =>
    simp only [lkE, decide_eq_true_eq] at hlk
    subst hlk
    exact s_alen C0 hLn hl hR hS hk ht hd hn kk
  | newarray t =>
    rcases ax with _ | ⟨pp, ax⟩
    · cases t <;> first | (simp [lkE] at hlk; done) | (cases hn; done)
    · cases t with
      | int =>
        simp only [lkE, Bool.and_eq_true, decide_eq_true_eq] at hlk
        obtain ⟨rfl, hw⟩ := hlk
        exact s_newa C0 hLn hl hR hS hk ht bk bt hd (Or.inl ⟨rfl, rfl⟩) hw hn kk
      | long =>
        simp only [lkE, Bool.and_eq_true, decide_eq_true_eq] at hlk
        obtain ⟨rfl, hw⟩ := hlk
        exact s_newa C0 hLn hl hR hS hk ht bk bt hd (Or.inr ⟨rfl, rfl⟩) hw hn kk
      | _ => cases hn
  | anewarray ix =>
    rcases ax with _ | ⟨t, _ | ⟨pp, ax⟩⟩
    · cases hn
    · simp [lkE] at hlk
    · simp only [lkE, Bool.and_eq_true, Bool.or_eq_true, decide_eq_true_eq] at hlk
      obtain ⟨⟨rfl, h1⟩, h2⟩ := hlk
      exact s_newq C0 hLn hl hR hS hk ht bk bt hd h1 h2 hn kk
  | multianewarray ix dm =>
    rcases ax with _ | ⟨p1, _ | ⟨p2, ax⟩⟩
    · simp [lkE] at hlk
    · simp [lkE] at hlk
    · simp only [lkE, Bool.and_eq_true, decide_eq_true_eq] at hlk
      obtain ⟨⟨⟨rfl, rfl⟩, h1⟩, h2⟩ := hlk
      exact s_mna C0 hLn hl hR hS hk ht bk bt hd h1 h2 hn kk
  | invokespecial ix =>
    rcases ax with _ | ⟨a0, ax⟩
    · cases hn
    · match a0, ax, hlk, hn with
      | 0, p1 :: p2 :: p3 :: ax, hlk, hn =>
        simp only [lkE, Bool.and_eq_true, decide_eq_true_eq] at hlk
        obtain ⟨⟨⟨rfl, h1⟩, h2⟩, h3⟩ := hlk
        have hn : nx_oi (pc + 3) L st M = some (.inl (pc', L', st', M1)) := hn
        obtain ⟨a, r, rfl, hr4, rfl, rfl, rfl, rfl⟩ := nx_oi_inv hn
        have hsum := cat_sum (st'.map (cv b0 xa))
        rw [List.length_map] at hsum
        exact W.objInit hx hb hown (hts _ (eqW_in h1)) (hts _ (eqW_in h2)) (hts _ (eqW_in h3)) rfl (by show ls.size = _; rw [hl.1, hLn, hml]) rfl hd (by omega) (by show 2 * 0 + _ + 12 ≤ _; omega) (kk H locs ls k0 t0 hl hLn hR hS hk ht)
      | 1, ci :: z :: n :: p1 :: p2 :: p3 :: ax, hlk, hn =>
        simp only [lkE, Bool.and_eq_true, decide_eq_true_eq] at hlk
        obtain ⟨⟨⟨⟨⟨⟨⟨⟨⟨⟨rfl, h0⟩, h1⟩, w1⟩, w2⟩, w3⟩, hc⟩, h7⟩, hnm⟩, hrn⟩, hpd⟩ := hlk
        have e1 : spN z = mdN z := by unfold spN; rw [if_neg (by omega), if_neg (by omega)]
        have e2 : spR z = mdR z := by unfold spR; rw [if_neg (by omega), if_neg (by omega)]
        exact s_inv C0 hLn hl hR hS hk ht bk bt hcf hf1 (by omega) (Or.inl ⟨h0, h1⟩) hd (by rw [e1]; exact eqW_in w1) (by rw [e1]; exact eqW_in w3) (Or.inr (Or.inl ⟨rfl, rfl, by rw [e1]; exact eqW_in w2, by rw [e1]; exact hnm, by rw [e2]; exact hrn, by rw [e1]; exact hpd⟩)) hn kk
      | 0, [], hlk, _ => simp [lkE] at hlk
      | 0, [_], hlk, _ => simp [lkE] at hlk
      | 0, [_, _], hlk, _ => simp [lkE] at hlk
      | 1, [], _, hn => cases hn
      | 1, [_], _, hn => cases hn
      | 1, [_, _], _, hn => cases hn
      | 1, [_, _, _], hlk, _ => simp [lkE] at hlk
      | 1, [_, _, _, _], hlk, _ => simp [lkE] at hlk
      | 1, [_, _, _, _, _], hlk, _ => simp [lkE] at hlk
      | k + 2, _, _, hn => cases hn
  | invokevirtual ix =>
    rcases ax with _ | ⟨ci, _ | ⟨z, _ | ⟨n, _ | ⟨p1, _ | ⟨p2, _ | ⟨p3, _ | ⟨p4, ax⟩⟩⟩⟩⟩⟩⟩
    · cases hn
    · cases hn
    · cases hn
    · simp [lkE] at hlk
    · simp [lkE] at hlk
    · simp [lkE] at hlk
    · simp [lkE] at hlk
    · simp only [lkE, Bool.and_eq_true, decide_eq_true_eq] at hlk
      obtain ⟨⟨⟨⟨⟨⟨⟨⟨⟨⟨rfl, h0⟩, h1⟩, w1⟩, w2⟩, w3⟩, w4⟩, hc⟩, h7⟩, h9⟩, hpd⟩ := hlk
      have hz : vy z := by
        rcases h1 with h1 | h1 | h1
        · exact Or.inl ⟨h0, h1⟩
        · exact Or.inr (Or.inl h1)
        · exact Or.inr (Or.inr h1)
      exact s_inv C0 hLn hl hR hS hk ht bk bt hcf hf1 (by omega) hz hd (eqW_in w1) (eqW_in w4) (Or.inl ⟨rfl, rfl, eqW_in w2, eqW_in w3, hc, h7, h9, hpd⟩) hn kk
  | invokestatic ix =>
    rcases ax with _ | ⟨a0, ax⟩
    · cases hn
    · match a0, ax, hlk, hn with
      | 0, p1 :: p2 :: p3 :: p4 :: ax, hlk, hn =>
        simp only [lkE, Bool.and_eq_true, decide_eq_true_eq] at hlk
        obtain ⟨⟨⟨⟨rfl, h1⟩, h2⟩, h3⟩, h4⟩ := hlk
        exact s_cpy C0 hLn hl hR hS hk ht (by omega) (by omega) hd h1 h2 h3 h4 hn kk
      | 1, z :: n :: p1 :: p2 :: p3 :: ax, hlk, hn =>
        simp only [lkE, Bool.and_eq_true, decide_eq_true_eq] at hlk
        obtain ⟨⟨⟨⟨⟨⟨rfl, h0⟩, h1⟩, w1⟩, w2⟩, w3⟩, hpd⟩ := hlk
        have e1 : spN z = mdN z := by unfold spN; rw [if_neg (by omega), if_neg (by omega)]
        exact s_inv C0 hLn hl hR hS hk ht bk bt hcf hf1 (by omega) (Or.inl ⟨h0, h1⟩) hd (by rw [e1]; exact eqW_in w1) (by rw [e1]; exact eqW_in w3) (Or.inr (Or.inr ⟨rfl, rfl, by rw [e1]; exact eqW_in w2, by rw [e1]; exact hpd⟩)) hn kk
      | 0, [], hlk, _ => simp [lkE] at hlk
      | 0, [_], hlk, _ => simp [lkE] at hlk
      | 0, [_, _], hlk, _ => simp [lkE] at hlk
      | 0, [_, _, _], hlk, _ => simp [lkE] at hlk
      | 1, [], _, hn => cases hn
      | 1, [_], _, hn => cases hn
      | 1, [_, _], hlk, _ => simp [lkE] at hlk
      | 1, [_, _, _], hlk, _ => simp [lkE] at hlk
      | 1, [_, _, _, _], hlk, _ => simp [lkE] at hlk
      | k + 2, _, _, hn => cases hn
  | ireturn =>
    rcases ax with _ | ⟨t, ax⟩
    · cases hn
    · unfold nx at hn
      dsimp only at hn
      split at hn
      · unfold nx_end at hn
        split at hn <;> first | (cases hn; done) | (split at hn <;> cases hn)
      · cases hn
  | lreturn =>
    have hn : nx_end 2 st M = _ := hn
    unfold nx_end at hn
    split at hn <;> first | (cases hn; done) | (split at hn <;> cases hn)
  | areturn =>
    have hn : nx_end 3 st M = _ := hn
    unfold nx_end at hn
    split at hn <;> first | (cases hn; done) | (split at hn <;> cases hn)
  | return_ =>
    have hn : nx_end 4 st M = _ := hn
    unfold nx_end at hn
    split at hn <;> first | (cases hn; done) | (split at hn <;> cases hn)
  | _ => cases hn
end STV
