def KP (M d : AM) : Prop := M.1 ≤ d.1 ∧ (∀ L X, M.2.2 1000000 = .inr (7, L, .inl X) → d.2.2 1000000 = .inr (7, L, .inl X)) ∧ ∀ q ci, q < M.1 → isC (M.2.2 q) ci = true → isC (d.2.2 q) ci = true
theorem KP_refl (M : AM) : KP M M := ⟨Nat.le_refl _, fun _ _ h => h, fun _ _ _ h => h⟩
theorem KP_trans {M d e : AM} (h1 : KP M d) (h2 : KP d e) : KP M e := ⟨Nat.le_trans h1.1 h2.1, fun L X h => h2.2.1 L X (h1.2.1 L X h), fun q ci hq h => h2.2.2 q ci (Nat.lt_of_lt_of_le hq h1.1) (h1.2.2 q ci hq h)⟩
theorem KP_f {M : AM} {q ci k : Nat} {fs : List Value} {v : Value} (hq : M.2.2 q = .inl (ci, fs)) : KP M (mU M q (.inl (ci, fs.set k v))) := by
  refine ⟨Nat.le_refl _, fun L X h => ?_, fun q' ci' _ h => ?_⟩
  · show (if 1000000 = q then _ else M.2.2 1000000) = _
    by_cases e : 1000000 = q
    · rw [← e, h] at hq; cases hq
    · rw [if_neg e]; exact h
  · show isC (if q' = q then _ else M.2.2 q') ci' = true
    by_cases e : q' = q
    · rw [if_pos e]; rw [e, hq] at h; exact h
    · rw [if_neg e]; exact h
theorem KP_a {M : AM} {q : Nat} {x : Nat × Nat × _} {c : AC} (hq : M.2.2 q = .inr x) (hn : ∀ L X, ¬ (.inr x : AC) = .inr (7, L, .inl X)) : KP M (mU M q c) := by
  refine ⟨Nat.le_refl _, fun L X h => ?_, fun q' ci' _ h => ?_⟩
  · show (if 1000000 = q then _ else M.2.2 1000000) = _
    by_cases e : 1000000 = q
    · rw [← e, h] at hq; exact absurd hq.symm (hn L X)
    · rw [if_neg e]; exact h
  · show isC (if q' = q then _ else M.2.2 q') ci' = true
    by_cases e : q' = q
    · rw [e, hq] at h; cases h
    · rw [if_neg e]; exact h
theorem KP_n {M : AM} {k : Nat} {c : AC} (hm : M.1 < 600000) : KP M (mN M k c) := by
  refine ⟨Nat.le_succ _, fun L X h => ?_, fun q' ci' hq h => ?_⟩
  · show (if 1000000 = M.1 then _ else M.2.2 1000000) = _
    rw [if_neg (by omega)]; exact h
  · show isC (if q' = M.1 then _ else M.2.2 q') ci' = true
    rw [if_neg (by omega)]; exact h
theorem KP_m {M : AM} {n k : Nat} (hm : M.1 < 600000) (hn : n < 1000) : KP M (mMul M n k) := by
  refine ⟨by show M.1 ≤ M.1 + 1 + n; omega, fun L X h => ?_, fun q' ci' hq h => ?_⟩
  · show (if 1000000 = M.1 then _ else if M.1 < 1000000 ∧ 1000000 ≤ M.1 + n then _ else M.2.2 1000000) = _
    rw [if_neg (by omega), if_neg (by omega)]; exact h
  · show isC (if q' = M.1 then _ else if M.1 < q' ∧ q' ≤ M.1 + n then _ else M.2.2 q') ci' = true
    rw [if_neg (by omega), if_neg (by omega)]; exact h
/-- a step keeps the script and the kinds of the objects -/
theorem nx_keep {cf : Nat → List Value → AM → Option AR} (hcf : ∀ (y : Nat) (as : List Value) (M : AM) (r : Option Value) (M' : AM), cf y as M = some (r, M') → KP M M') {y pc a : Nat} {L st b c : List Value} {M d : AM} (h : nxt cf y pc L st M = some (.inl (a, b, c, d))) : KP M d := by
  unfold nxt at h
  split at h
  · rename_i i len ax cst _
    cases i with
    | iconst => cases h; exact KP_refl _
    | bipush => cases h; exact KP_refl _
    | sipush => cases h; exact KP_refl _
    | lconst => cases h; exact KP_refl _
    | ldc => cases h; exact KP_refl _
    | ldc_w => cases h; exact KP_refl _
    | ldc2_w => cases h; exact KP_refl _
    | aconst_null => cases h; exact KP_refl _
    | iload_n =>
      obtain ⟨_, _, _, _, _, e⟩ := nx_ld0_inv h
      rw [e]; exact KP_refl _
    | iload =>
      obtain ⟨_, _, _, _, _, e⟩ := nx_ld0_inv h
      rw [e]; exact KP_refl _
    | lload_n =>
      obtain ⟨_, _, _, _, _, e⟩ := nx_ld1_inv h
      rw [e]; exact KP_refl _
    | lload =>
      obtain ⟨_, _, _, _, _, e⟩ := nx_ld1_inv h
      rw [e]; exact KP_refl _
    | aload_n =>
      obtain ⟨_, _, _, _, _, _, e⟩ := nx_ld2_inv h
      rw [e]; exact KP_refl _
    | aload =>
      obtain ⟨_, _, _, _, _, _, e⟩ := nx_ld2_inv h
      rw [e]; exact KP_refl _
    | istore_n =>
      obtain ⟨_, _, _, _, _, _, _, e⟩ := nx_st0_inv h
      rw [e]; exact KP_refl _
    | istore =>
      obtain ⟨_, _, _, _, _, _, _, e⟩ := nx_st0_inv h
      rw [e]; exact KP_refl _
    | lstore_n =>
      obtain ⟨_, _, _, _, _, _, _, e⟩ := nx_st1_inv h
      rw [e]; exact KP_refl _
    | lstore =>
      obtain ⟨_, _, _, _, _, _, _, e⟩ := nx_st1_inv h
      rw [e]; exact KP_refl _
    | astore_n =>
      obtain ⟨_, _, _, _, _, _, _, _, e⟩ := nx_st2_inv h
      rw [e]; exact KP_refl _
    | astore =>
      obtain ⟨_, _, _, _, _, _, _, _, e⟩ := nx_st2_inv h
      rw [e]; exact KP_refl _
    | iinc =>
      unfold nx at h
      dsimp only at h
      repeat' split at h
      all_goals (first | (cases h; exact KP_refl _) | (cases h; done))
    | iadd =>
      obtain ⟨_, _, _, _, _, _, _, e⟩ := nx_2_inv h
      rw [e]; exact KP_refl _
    | isub =>
      obtain ⟨_, _, _, _, _, _, _, e⟩ := nx_2_inv h
      rw [e]; exact KP_refl _
    | imul =>
      obtain ⟨_, _, _, _, _, _, _, e⟩ := nx_2_inv h
      rw [e]; exact KP_refl _
    | iand =>
      obtain ⟨_, _, _, _, _, _, _, e⟩ := nx_2_inv h
      rw [e]; exact KP_refl _
    | ior =>
      obtain ⟨_, _, _, _, _, _, _, e⟩ := nx_2_inv h
      rw [e]; exact KP_refl _
    | ixor =>
      obtain ⟨_, _, _, _, _, _, _, e⟩ := nx_2_inv h
      rw [e]; exact KP_refl _
    | ishl =>
      obtain ⟨_, _, _, _, _, _, _, e⟩ := nx_2_inv h
      rw [e]; exact KP_refl _
    | ishr =>
      obtain ⟨_, _, _, _, _, _, _, e⟩ := nx_2_inv h
      rw [e]; exact KP_refl _
    | iushr =>
      obtain ⟨_, _, _, _, _, _, _, e⟩ := nx_2_inv h
      rw [e]; exact KP_refl _
    | idiv =>
      obtain ⟨_, _, _, _, _, _, _, _, e⟩ := nx_2d_inv h
      rw [e]; exact KP_refl _
    | irem =>
      obtain ⟨_, _, _, _, _, _, _, _, e⟩ := nx_2d_inv h
      rw [e]; exact KP_refl _
    | ladd =>
      obtain ⟨_, _, _, _, _, _, _, e⟩ := nx_l2_inv h
      rw [e]; exact KP_refl _
    | lsub =>
      obtain ⟨_, _, _, _, _, _, _, e⟩ := nx_l2_inv h
      rw [e]; exact KP_refl _
    | lmul =>
      obtain ⟨_, _, _, _, _, _, _, e⟩ := nx_l2_inv h
      rw [e]; exact KP_refl _
    | land =>
      obtain ⟨_, _, _, _, _, _, _, e⟩ := nx_l2_inv h
      rw [e]; exact KP_refl _
    | lor =>
      obtain ⟨_, _, _, _, _, _, _, e⟩ := nx_l2_inv h
      rw [e]; exact KP_refl _
    | ldiv =>
      obtain ⟨_, _, _, _, _, _, _, _, e⟩ := nx_l2d_inv h
      rw [e]; exact KP_refl _
    | lrem =>
      obtain ⟨_, _, _, _, _, _, _, _, e⟩ := nx_l2d_inv h
      rw [e]; exact KP_refl _
    | lshl =>
      unfold nx at h
      dsimp only at h
      repeat' split at h
      all_goals (first | (cases h; exact KP_refl _) | (cases h; done))
    | lcmp =>
      unfold nx at h
      dsimp only at h
      repeat' split at h
      all_goals (first | (cases h; exact KP_refl _) | (cases h; done))
    | ineg =>
      obtain ⟨_, _, _, _, _, _, e⟩ := nx_1_inv h
      rw [e]; exact KP_refl _
    | i2l =>
      obtain ⟨_, _, _, _, _, _, e⟩ := nx_1_inv h
      rw [e]; exact KP_refl _
    | i2b =>
      obtain ⟨_, _, _, _, _, _, e⟩ := nx_1_inv h
      rw [e]; exact KP_refl _
    | i2s =>
      obtain ⟨_, _, _, _, _, _, e⟩ := nx_1_inv h
      rw [e]; exact KP_refl _
    | l2i =>
      unfold nx at h
      dsimp only at h
      repeat' split at h
      all_goals (first | (cases h; exact KP_refl _) | (cases h; done))
    | pop =>
      unfold nx at h
      dsimp only at h
      repeat' split at h
      all_goals (first | (cases h; exact KP_refl _) | (cases h; done))
    | dup =>
      unfold nx at h
      dsimp only at h
      repeat' split at h
      all_goals (first | (cases h; exact KP_refl _) | (cases h; done))
    | dup_x1 =>
      unfold nx at h
      dsimp only at h
      repeat' split at h
      all_goals (first | (cases h; exact KP_refl _) | (cases h; done))
    | dup2 =>
      unfold nx at h
      dsimp only at h
      repeat' split at h
      all_goals (first | (cases h; exact KP_refl _) | (cases h; done))
    | ifCond =>
      obtain ⟨_, _, _, _, _, _, e⟩ := nx_if_inv h
      rw [e]; exact KP_refl _
    | if_icmp =>
      obtain ⟨_, _, _, _, _, _, _, e⟩ := nx_ic_inv h
      rw [e]; exact KP_refl _
    | ifnull =>
      rcases nx_nul_inv h with ⟨_, _, _, _, _, e⟩ | ⟨_, _, _, _, _, _, e⟩ <;> (rw [e]; exact KP_refl _)
    | ifnonnull =>
      rcases nx_nul_inv h with ⟨_, _, _, _, _, e⟩ | ⟨_, _, _, _, _, _, e⟩ <;> (rw [e]; exact KP_refl _)
    | goto => cases h; exact KP_refl _
    | tableswitch =>
      obtain ⟨_, _, _, _, _, e, _⟩ := nx_tsw_inv h
      rw [e]; exact KP_refl _
    | lookupswitch =>
      unfold nx at h
      dsimp only at h
      repeat' split at h
      all_goals (first | (cases h; exact KP_refl _) | (cases h; done))
    | getfield ix =>
      rcases ax with _ | ⟨a', _ | ⟨b', ax⟩⟩
      · cases h
      · cases h
      · obtain ⟨_, _, _, _, _, _, _, _, _, _, e⟩ := nx_gf_inv h
        rw [e]; exact KP_refl _
    | putfield ix =>
      rcases ax with _ | ⟨a', _ | ⟨b', _ | ⟨c', ax⟩⟩⟩
      · cases h
      · cases h
      · cases h
      · obtain ⟨_, _, _, _, _, _, hq, _, _, _, _, e⟩ := nx_pf_inv h
        rw [e]; exact KP_f hq
    | iaload =>
      obtain ⟨_, _, _, _, _, _, _, _, _, e⟩ := nx_al_inv h
      rw [e]; exact KP_refl _
    | laload =>
      obtain ⟨_, _, _, _, _, _, _, _, _, e⟩ := nx_al_inv h
      rw [e]; exact KP_refl _
    | aaload =>
      obtain ⟨_, _, _, _, _, _, _, _, _, e⟩ := nx_al_inv h
      rw [e]; exact KP_refl _
    | iastore =>
      obtain ⟨_, _, _, _, _, _, _, hq, _, _, _, _, _, e⟩ := nx_is_inv h
      rw [e]; exact KP_a hq (by intro L X z; cases z)
    | lastore =>
      obtain ⟨_, _, _, _, _, _, _, hq, _, _, _, _, _, e⟩ := nx_js_inv h
      rw [e]; exact KP_a hq (by intro L X z; cases z)
    | aastore =>
      obtain ⟨_, _, _, _, _, _, _, _, _, hq, _, _, _, _, _, _, _, _, e⟩ := nx_qs_inv h
      rw [e]; exact KP_a hq (by intro L X z; cases z)
    | arraylength =>
      obtain ⟨_, _, _, _, _, _, _, _, _, _, _, e⟩ := nx_len_inv h
      rw [e]; exact KP_refl _
    | newarray t =>
      cases t with
      | int =>
        obtain ⟨_, _, _, hm, _, _, _, _, _, e⟩ := nx_na_inv h
        rw [e]
        exact KP_n hm
      | long =>
        obtain ⟨_, _, _, hm, _, _, _, _, _, e⟩ := nx_na_inv h
        rw [e]
        exact KP_n hm
      | _ => cases h
    | anewarray ix =>
      rcases ax with _ | ⟨a', ax⟩
      · cases h
      · obtain ⟨_, _, _, hm, _, _, _, _, _, e⟩ := nx_na_inv h
        rw [e]
        exact KP_n hm
    | multianewarray =>
      obtain ⟨n, k, r, _, hm, h0, h1, _, _, _, _, _, e⟩ := nx_mna_inv h
      rw [e]
      exact KP_m hm (by have : n.toNatClampNeg = n.toInt.toNat := rfl; omega)
    | new ix =>
      rcases ax with _ | ⟨a', ax⟩
      · cases h
      · obtain ⟨hm, _, _, _, e⟩ := nx_new_inv h
        rw [e]
        exact KP_n hm
    | invokespecial ix =>
      unfold nx at h
      dsimp only at h
      split at h
      · obtain ⟨_, _, _, _, _, _, _, e⟩ := nx_oi_inv h
        rw [e]; exact KP_refl _
      · obtain ⟨_, _, _, _, e, _⟩ := nx_inv_inv h
        exact hcf _ _ _ _ _ e
      · cases h
    | invokevirtual ix =>
      unfold nx at h
      dsimp only at h
      split at h
      · obtain ⟨_, _, _, _, e, _⟩ := nx_inv_inv h
        exact hcf _ _ _ _ _ e
      · cases h
    | invokestatic ix =>
      unfold nx at h
      dsimp only at h
      split at h
      · obtain ⟨_, _, _, _, _, _, _, _, _, _, _, _, hq, _, _, _, _, _, _, _, _, _, e⟩ := nx_cpy_inv h
        rw [e]; exact KP_a hq (by intro L X z; cases z)
      · obtain ⟨_, _, _, _, e, _⟩ := nx_inv_inv h
        exact hcf _ _ _ _ _ e
      · cases h
    | ireturn =>
      rcases ax with _ | ⟨t, ax⟩
      · cases h
      · unfold nx at h
        dsimp only at h
        split at h
        · unfold nx_end at h
          repeat' split at h
          all_goals (first | (cases h; done) | skip)
        · cases h
    | lreturn =>
      have h : nx_end 2 st M = _ := h
      unfold nx_end at h
      repeat' split at h
      all_goals (first | (cases h; done) | skip)
    | areturn =>
      have h : nx_end 3 st M = _ := h
      unfold nx_end at h
      repeat' split at h
      all_goals (first | (cases h; done) | skip)
    | return_ =>
      have h : nx_end 4 st M = _ := h
      unfold nx_end at h
      repeat' split at h
      all_goals (first | (cases h; done) | skip)
    | _ => cases h
  · cases h
theorem nxt_end {cf : Nat → List Value → AM → Option AR} {y pc : Nat} {L st : List Value} {M : AM} {x : AR} (hn : nxt cf y pc L st M = some (.inr x)) : x.2 = M := by
  unfold nxt at hn
  split at hn
  · rcases nx_ends hn with ⟨-, t, r', -, -, h⟩ | ⟨-, h⟩ | ⟨-, h⟩ | ⟨-, h⟩ <;> exact (nx_end_inv h).1
  · cases hn
theorem run_keep {cf : Nat → List Value → AM → Option AR} (hcf : ∀ (y : Nat) (as : List Value) (M : AM) (r : Option Value) (M' : AM), cf y as M = some (r, M') → KP M M') {y : Nat} : ∀ (n pc : Nat) (L st : List Value) (M : AM) (r : Option Value) (M' : AM), runN cf y n pc L st M = some (r, M') → KP M M' := by
  intro n
  induction n with
  | zero => intro pc L st M r M' h; cases h
  | succ n ih =>
    intro pc L st M r M' h
    unfold runN at h
    cases hn : nxt cf y pc L st M with
    | none => rw [hn] at h; cases h
    | some x =>
      rw [hn] at h
      cases x with
      | inl q =>
        obtain ⟨a, b, c, d⟩ := q
        exact KP_trans (nx_keep hcf hn) (ih a b c d r M' h)
      | inr q =>
        cases h
        have e : M' = M := nxt_end hn
        rw [e]
        exact KP_refl _
theorem callD_keep : ∀ (d y : Nat) (as : List Value) (M : AM) (r : Option Value) (M' : AM), callD d y as M = some (r, M') → KP M M' := by
  intro d
  induction d with
  | zero => intro y as M r M' h; cases h
  | succ d ih =>
    intro y as M r M' h
    have h : (if y = 300 then sLen as M else if y = 301 then sAt as M else if (enL (mdL y) as).length = mdL y then den (callD d) y 0 (enL (mdL y) as) [] M else none) = some (r, M') := h
    by_cases h0 : y = 300
    · rw [if_pos h0] at h
      obtain ⟨_, _, _, _, _, _, e⟩ := sLen_inv h
      rw [e]; exact KP_refl _
    · rw [if_neg h0] at h
      by_cases h1 : y = 301
      · rw [if_pos h1] at h
        obtain ⟨_, _, _, _, _, _, _, _, _, _, e⟩ := sAt_inv h
        rw [e]; exact KP_refl _
      · rw [if_neg h1] at h
        split at h
        · obtain ⟨n, hn⟩ := den_run h
          exact run_keep ih n _ _ _ _ _ _ hn
        · cases h
/-- what kind of value a method answers -/
def nrI (i : Jvm.ClassFile.Instr) : Bool := match i with
  | .lreturn => false
  | .areturn => false
  | .return_ => false
  | _ => true
def nrJ (i : Jvm.ClassFile.Instr) : Bool := match i with
  | .ireturn => false
  | .areturn => false
  | .return_ => false
  | _ => true
theorem look_me2 : ∀ {t : List (Nat × En)} {pc : Nat} {e : En}, look t pc = some e → (pc, e) ∈ t := by
  intro t
  induction t with
  | nil => intro pc e h; cases h
  | cons q r ih =>
    intro pc e h
    obtain ⟨q, e'⟩ := q
    unfold look at h
    by_cases hq : q = pc
    · rw [if_pos hq] at h; cases h; rw [hq]; exact List.mem_cons_self
    · rw [if_neg hq] at h; exact List.mem_cons_of_mem _ (ih h)
theorem run_int {cf : Nat → List Value → AM → Option AR} {y : Nat} (hy : (tab y).all (fun q => nrI q.2.1) = true) : ∀ (n pc : Nat) (L st : List Value) (M : AM) (r : Option Value) (M' : AM), runN cf y n pc L st M = some (r, M') → ∃ x, r = some (.int x) := by
  intro n
  induction n with
  | zero => intro pc L st M r M' h; cases h
  | succ n ih =>
    intro pc L st M r M' h
    unfold runN at h
    cases hn : nxt cf y pc L st M with
    | none => rw [hn] at h; cases h
    | some x =>
      rw [hn] at h
      cases x with
      | inl q =>
        obtain ⟨a, b, c, d⟩ := q
        exact ih a b c d r M' h
      | inr q =>
        cases h
        unfold nxt at hn
        split at hn
        · rename_i i len ax cst hl
          have hi := List.all_eq_true.mp hy _ (look_me2 hl)
          rcases nx_ends hn with ⟨rfl, t, r', -, ht, h⟩ | ⟨rfl, h⟩ | ⟨rfl, h⟩ | ⟨rfl, h⟩
          · rcases (nx_end_inv h).2 with ⟨-, v, -, e⟩ | ⟨-, v, -, e, -⟩ | ⟨e, -⟩ | ⟨e, -⟩ | ⟨e, -⟩
            · exact ⟨v, e⟩
            · exact ⟨v, e⟩
            · omega
            · omega
            · omega
          · cases hi
          · cases hi
          · cases hi
        · cases hn
theorem run_long {cf : Nat → List Value → AM → Option AR} {y : Nat} (hy : (tab y).all (fun q => nrJ q.2.1) = true) : ∀ (n pc : Nat) (L st : List Value) (M : AM) (r : Option Value) (M' : AM), runN cf y n pc L st M = some (r, M') → ∃ x, r = some (.long x) := by
  intro n
  induction n with
  | zero => intro pc L st M r M' h; cases h
  | succ n ih =>
    intro pc L st M r M' h
    unfold runN at h
    cases hn : nxt cf y pc L st M with
    | none => rw [hn] at h; cases h
    | some x =>
      rw [hn] at h
      cases x with
      | inl q =>
        obtain ⟨a, b, c, d⟩ := q
        exact ih a b c d r M' h
      | inr q =>
        cases h
        unfold nxt at hn
        split at hn
        · rename_i i len ax cst hl
          have hi := List.all_eq_true.mp hy _ (look_me2 hl)
          rcases nx_ends hn with ⟨rfl, t, r', -, ht, h⟩ | ⟨rfl, h⟩ | ⟨rfl, h⟩ | ⟨rfl, h⟩
          · cases hi
          · rcases (nx_end_inv h).2 with ⟨e, -⟩ | ⟨e, -⟩ | ⟨-, v, -, e⟩ | ⟨e, -⟩ | ⟨e, -⟩
            · omega
            · omega
            · exact ⟨v, e⟩
            · omega
            · omega
          · cases hi
          · cases hi
        · cases hn
theorem callD_int {d y : Nat} {as : List Value} {M : AM} {r : Option Value} {M' : AM} (hy : y < 245) (ht : (tab y).all (fun q => nrI q.2.1) = true) (h : callD (d + 1) y as M = some (r, M')) : ∃ x, r = some (.int x) := by
  rw [callD_eq (by omega)] at h
  split at h
  · obtain ⟨n, hn⟩ := den_run h
    exact run_int ht n _ _ _ _ _ _ hn
  · cases h
theorem callD_long {d y : Nat} {as : List Value} {M : AM} {r : Option Value} {M' : AM} (hy : y < 245) (ht : (tab y).all (fun q => nrJ q.2.1) = true) (h : callD (d + 1) y as M = some (r, M')) : ∃ x, r = some (.long x) := by
  rw [callD_eq (by omega)] at h
  split at h
  · obtain ⟨n, hn⟩ := den_run h
    exact run_long ht n _ _ _ _ _ _ hn
  · cases h
