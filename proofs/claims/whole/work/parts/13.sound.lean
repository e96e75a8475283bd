section SNN
variable {p : Program} {l : Launch} {e : Env} {R : Room} {s : State} {m : MethodId} {args : Array Value} {below : List Frame} {meth : Method} {c : Code} {y : Nat} {D : va_G} {dA : Nat → ClassId} {b0 : Nat} {xa : Nat → Nat} {sL : Nat} {sX : Nat → Int32} {n0 s0 : Nat}
theorem nx_end_inv {t : Nat} {st : List Value} {M : AM} {x : AR} (h : nx_end t st M = some (.inr x)) : x.2 = M ∧ ((t = 0 ∧ ∃ v, st = [.int v] ∧ x.1 = some (.int v)) ∨ (t = 1 ∧ ∃ v, st = [.int v] ∧ x.1 = some (.int v) ∧ (v = 0 ∨ v = 1)) ∨ (t = 2 ∧ ∃ v, st = [.long v] ∧ x.1 = some (.long v)) ∨ (t = 3 ∧ ∃ v, st = [v] ∧ x.1 = some v ∧ (v = .null ∨ ∃ q, v = .ref q)) ∨ (t = 4 ∧ st = [] ∧ x.1 = none)) := by
  unfold nx_end at h
  split at h
  · cases h; exact ⟨rfl, Or.inl ⟨rfl, _, rfl, rfl⟩⟩
  · split at h
    · rename_i hv; cases h; exact ⟨rfl, Or.inr (Or.inl ⟨rfl, _, rfl, rfl, hv⟩)⟩
    · cases h
  · cases h; exact ⟨rfl, Or.inr (Or.inr (Or.inl ⟨rfl, _, rfl, rfl⟩))⟩
  · split at h
    · rename_i hv; cases h; exact ⟨rfl, Or.inr (Or.inr (Or.inr (Or.inl ⟨rfl, _, rfl, rfl, isRf_c hv⟩)))⟩
    · cases h
  · cases h; exact ⟨rfl, Or.inr (Or.inr (Or.inr (Or.inr ⟨rfl, rfl, rfl⟩)))⟩
  · cases h
theorem nx_2_ne {f : Int32 → Int32 → Int32} {pc : Nat} {L st : List Value} {M : AM} {x : AR} (h : nx_2 f pc L st M = some (.inr x)) : False := by
  unfold nx_2 at h
  repeat' split at h
  all_goals (first | (cases h; done) | skip)
theorem nx_2d_ne {f : Int32 → Int32 → Int32} {pc : Nat} {L st : List Value} {M : AM} {x : AR} (h : nx_2d f pc L st M = some (.inr x)) : False := by
  unfold nx_2d at h
  repeat' split at h
  all_goals (first | (cases h; done) | skip)
theorem nx_l2_ne {f : Int64 → Int64 → Int64} {pc : Nat} {L st : List Value} {M : AM} {x : AR} (h : nx_l2 f pc L st M = some (.inr x)) : False := by
  unfold nx_l2 at h
  repeat' split at h
  all_goals (first | (cases h; done) | skip)
theorem nx_l2d_ne {f : Int64 → Int64 → Int64} {pc : Nat} {L st : List Value} {M : AM} {x : AR} (h : nx_l2d f pc L st M = some (.inr x)) : False := by
  unfold nx_l2d at h
  repeat' split at h
  all_goals (first | (cases h; done) | skip)
theorem nx_1_ne {f : Int32 → Value} {pc : Nat} {L st : List Value} {M : AM} {x : AR} (h : nx_1 f pc L st M = some (.inr x)) : False := by
  unfold nx_1 at h
  repeat' split at h
  all_goals (first | (cases h; done) | skip)
theorem nx_ld_ne {t i pc : Nat} {L st : List Value} {M : AM} {x : AR} (h : nx_ld t i pc L st M = some (.inr x)) : False := by
  unfold nx_ld at h
  repeat' split at h
  all_goals (first | (cases h; done) | skip)
theorem nx_st_ne {t i pc : Nat} {L st : List Value} {M : AM} {x : AR} (h : nx_st t i pc L st M = some (.inr x)) : False := by
  unfold nx_st at h
  repeat' split at h
  all_goals (first | (cases h; done) | skip)
theorem nx_if_ne {k : Jvm.ClassFile.Cond} {t pc : Nat} {L st : List Value} {M : AM} {x : AR} (h : nx_if k t pc L st M = some (.inr x)) : False := by
  unfold nx_if at h
  repeat' split at h
  all_goals (first | (cases h; done) | skip)
theorem nx_ic_ne {k : Jvm.ClassFile.Cond} {t pc : Nat} {L st : List Value} {M : AM} {x : AR} (h : nx_ic k t pc L st M = some (.inr x)) : False := by
  unfold nx_ic at h
  repeat' split at h
  all_goals (first | (cases h; done) | skip)
theorem nx_nul_ne {k : Bool} {t pc : Nat} {L st : List Value} {M : AM} {x : AR} (h : nx_nul k t pc L st M = some (.inr x)) : False := by
  unfold nx_nul at h
  repeat' split at h
  all_goals (first | (cases h; done) | skip)
theorem nx_tsw_ne {lo hi : Int} {ts : List Nat} {L st : List Value} {M : AM} {x : AR} (h : nx_tsw lo hi ts L st M = some (.inr x)) : False := by
  unfold nx_tsw at h
  repeat' split at h
  all_goals (first | (cases h; done) | skip)
theorem nx_gf_ne {ci k pc : Nat} {L st : List Value} {M : AM} {x : AR} (h : nx_gf ci k pc L st M = some (.inr x)) : False := by
  unfold nx_gf at h
  repeat' split at h
  all_goals (first | (cases h; done) | skip)
theorem nx_pf_ne {ci k tc pc : Nat} {L st : List Value} {M : AM} {x : AR} (h : nx_pf ci k tc pc L st M = some (.inr x)) : False := by
  unfold nx_pf at h
  repeat' split at h
  all_goals (first | (cases h; done) | skip)
theorem nx_al_ne {g : AC → Int32 → Option Value} {pc : Nat} {L st : List Value} {M : AM} {x : AR} (h : nx_al g pc L st M = some (.inr x)) : False := by
  unfold nx_al at h
  repeat' split at h
  all_goals (first | (cases h; done) | skip)
theorem nx_is_ne {pc : Nat} {L st : List Value} {M : AM} {x : AR} (h : nx_is pc L st M = some (.inr x)) : False := by
  unfold nx_is at h
  repeat' split at h
  all_goals (first | (cases h; done) | skip)
theorem nx_js_ne {pc : Nat} {L st : List Value} {M : AM} {x : AR} (h : nx_js pc L st M = some (.inr x)) : False := by
  unfold nx_js at h
  repeat' split at h
  all_goals (first | (cases h; done) | skip)
theorem nx_qs_ne {pc : Nat} {L st : List Value} {M : AM} {x : AR} (h : nx_qs pc L st M = some (.inr x)) : False := by
  unfold nx_qs at h
  repeat' split at h
  all_goals (first | (cases h; done) | skip)
theorem nx_len_ne {pc : Nat} {L st : List Value} {M : AM} {x : AR} (h : nx_len pc L st M = some (.inr x)) : False := by
  unfold nx_len at h
  repeat' split at h
  all_goals (first | (cases h; done) | skip)
theorem nx_new_ne {ci : Nat} {fs : List Value} {pc : Nat} {L st : List Value} {M : AM} {x : AR} (h : nx_new ci fs pc L st M = some (.inr x)) : False := by
  unfold nx_new at h
  repeat' split at h
  all_goals (first | (cases h; done) | skip)
theorem nx_na_ne {t pc : Nat} {L st : List Value} {M : AM} {x : AR} (h : nx_na t pc L st M = some (.inr x)) : False := by
  unfold nx_na at h
  repeat' split at h
  all_goals (first | (cases h; done) | skip)
theorem nx_mna_ne {pc : Nat} {L st : List Value} {M : AM} {x : AR} (h : nx_mna pc L st M = some (.inr x)) : False := by
  unfold nx_mna at h
  repeat' split at h
  all_goals (first | (cases h; done) | skip)
theorem nx_cpy_ne {pc : Nat} {L st : List Value} {M : AM} {x : AR} (h : nx_cpy pc L st M = some (.inr x)) : False := by
  unfold nx_cpy at h
  repeat' split at h
  all_goals (first | (cases h; done) | skip)
theorem nx_oi_ne {pc : Nat} {L st : List Value} {M : AM} {x : AR} (h : nx_oi pc L st M = some (.inr x)) : False := by
  unfold nx_oi at h
  repeat' split at h
  all_goals (first | (cases h; done) | skip)
theorem nx_inv_ne {cf : Nat → List Value → AM → Option AR} {vr : Bool} {ci y n pc : Nat} {L st : List Value} {M : AM} {x : AR} (h : nx_inv cf vr ci y n pc L st M = some (.inr x)) : False := by
  unfold nx_inv nx_ret at h
  repeat' split at h
  all_goals (first | (cases h; done) | skip)
/-- which steps end a method -/
theorem nx_ends {cf : Nat → List Value → AM → Option AR} {i : Instr} {len : Nat} {ax : List Nat} {cst : Value} {pc : Nat} {L st : List Value} {M : AM} {x : AR} (h : nx cf i len ax cst pc L st M = some (.inr x)) :
    (i = .ireturn ∧ ∃ t r, ax = t :: r ∧ t < 2 ∧ nx_end t st M = some (.inr x)) ∨ (i = .lreturn ∧ nx_end 2 st M = some (.inr x)) ∨ (i = .areturn ∧ nx_end 3 st M = some (.inr x)) ∨ (i = .return_ ∧ nx_end 4 st M = some (.inr x)) := by
  cases i with
  | iconst => cases h
  | bipush => cases h
  | sipush => cases h
  | lconst => cases h
  | ldc => cases h
  | ldc_w => cases h
  | ldc2_w => cases h
  | aconst_null => cases h
  | iload_n => exact absurd h (fun h => nx_ld_ne h)
  | iload => exact absurd h (fun h => nx_ld_ne h)
  | lload_n => exact absurd h (fun h => nx_ld_ne h)
  | lload => exact absurd h (fun h => nx_ld_ne h)
  | aload_n => exact absurd h (fun h => nx_ld_ne h)
  | aload => exact absurd h (fun h => nx_ld_ne h)
  | istore_n => exact absurd h (fun h => nx_st_ne h)
  | istore => exact absurd h (fun h => nx_st_ne h)
  | lstore_n => exact absurd h (fun h => nx_st_ne h)
  | lstore => exact absurd h (fun h => nx_st_ne h)
  | astore_n => exact absurd h (fun h => nx_st_ne h)
  | astore => exact absurd h (fun h => nx_st_ne h)
  | iinc =>
    unfold nx at h
    dsimp only at h
    repeat' split at h
    all_goals (first | (cases h; done) | skip)
  | iadd => exact absurd h (fun h => nx_2_ne h)
  | isub => exact absurd h (fun h => nx_2_ne h)
  | imul => exact absurd h (fun h => nx_2_ne h)
  | iand => exact absurd h (fun h => nx_2_ne h)
  | ior => exact absurd h (fun h => nx_2_ne h)
  | ixor => exact absurd h (fun h => nx_2_ne h)
  | ishl => exact absurd h (fun h => nx_2_ne h)
  | ishr => exact absurd h (fun h => nx_2_ne h)
  | iushr => exact absurd h (fun h => nx_2_ne h)
  | idiv => exact absurd h (fun h => nx_2d_ne h)
  | irem => exact absurd h (fun h => nx_2d_ne h)
  | ladd => exact absurd h (fun h => nx_l2_ne h)
  | lsub => exact absurd h (fun h => nx_l2_ne h)
  | lmul => exact absurd h (fun h => nx_l2_ne h)
  | land => exact absurd h (fun h => nx_l2_ne h)
  | lor => exact absurd h (fun h => nx_l2_ne h)
  | ldiv => exact absurd h (fun h => nx_l2d_ne h)
  | lrem => exact absurd h (fun h => nx_l2d_ne h)
  | lshl =>
    unfold nx at h
    dsimp only at h
    repeat' split at h
    all_goals (first | (cases h; done) | skip)
  | lcmp =>
    unfold nx at h
    dsimp only at h
    repeat' split at h
    all_goals (first | (cases h; done) | skip)
  | ineg => exact absurd h (fun h => nx_1_ne h)
  | i2l => exact absurd h (fun h => nx_1_ne h)
  | i2b => exact absurd h (fun h => nx_1_ne h)
  | i2s => exact absurd h (fun h => nx_1_ne h)
  | l2i =>
    unfold nx at h
    dsimp only at h
    repeat' split at h
    all_goals (first | (cases h; done) | skip)
  | pop =>
    unfold nx at h
    dsimp only at h
    repeat' split at h
    all_goals (first | (cases h; done) | skip)
  | dup =>
    unfold nx at h
    dsimp only at h
    repeat' split at h
    all_goals (first | (cases h; done) | skip)
  | dup_x1 =>
    unfold nx at h
    dsimp only at h
    repeat' split at h
    all_goals (first | (cases h; done) | skip)
  | dup2 =>
    unfold nx at h
    dsimp only at h
    repeat' split at h
    all_goals (first | (cases h; done) | skip)
  | ifCond => exact absurd h (fun h => nx_if_ne h)
  | if_icmp => exact absurd h (fun h => nx_ic_ne h)
  | ifnull => exact absurd h (fun h => nx_nul_ne h)
  | ifnonnull => exact absurd h (fun h => nx_nul_ne h)
  | goto => cases h
  | tableswitch => exact absurd h (fun h => nx_tsw_ne h)
  | lookupswitch =>
    unfold nx at h
    dsimp only at h
    repeat' split at h
    all_goals (first | (cases h; done) | skip)
  | getfield ix =>
    rcases ax with _ | ⟨a, _ | ⟨b, ax⟩⟩
    · cases h
    · cases h
    · exact absurd h (fun h => nx_gf_ne h)
  | putfield ix =>
    rcases ax with _ | ⟨a, _ | ⟨b, _ | ⟨c, ax⟩⟩⟩
    · cases h
    · cases h
    · cases h
    · exact absurd h (fun h => nx_pf_ne h)
  | iaload => exact absurd h (fun h => nx_al_ne h)
  | laload => exact absurd h (fun h => nx_al_ne h)
  | aaload => exact absurd h (fun h => nx_al_ne h)
  | iastore => exact absurd h (fun h => nx_is_ne h)
  | lastore => exact absurd h (fun h => nx_js_ne h)
  | aastore => exact absurd h (fun h => nx_qs_ne h)
  | arraylength => exact absurd h (fun h => nx_len_ne h)
  | newarray t => cases t <;> first | (cases h; done) | exact absurd h (fun h => nx_na_ne h)
  | anewarray ix =>
    rcases ax with _ | ⟨a, ax⟩
    · cases h
    · exact absurd h (fun h => nx_na_ne h)
  | multianewarray => exact absurd h (fun h => nx_mna_ne h)
  | new ix =>
    rcases ax with _ | ⟨a, ax⟩
    · cases h
    · exact absurd h (fun h => nx_new_ne h)
  | invokespecial ix =>
    unfold nx at h
    dsimp only at h
    split at h
    · exact absurd h (fun h => nx_oi_ne h)
    · exact absurd h (fun h => nx_inv_ne h)
    · cases h
  | invokevirtual ix =>
    unfold nx at h
    dsimp only at h
    split at h
    · exact absurd h (fun h => nx_inv_ne h)
    · cases h
  | invokestatic ix =>
    unfold nx at h
    dsimp only at h
    split at h
    · exact absurd h (fun h => nx_cpy_ne h)
    · exact absurd h (fun h => nx_inv_ne h)
    · cases h
  | ireturn =>
    rcases ax with _ | ⟨t, ax⟩
    · cases h
    · unfold nx at h
      dsimp only at h
      split at h
      · rename_i ht
        exact Or.inl ⟨rfl, t, ax, rfl, ht, h⟩
      · cases h
  | lreturn => exact Or.inr (Or.inl ⟨rfl, h⟩)
  | areturn => exact Or.inr (Or.inr (Or.inl ⟨rfl, h⟩))
  | return_ => exact Or.inr (Or.inr (Or.inr ⟨rfl, h⟩))
  | _ => cases h
/-- a step never loses cells -/
theorem nx_grow {cf : Nat → List Value → AM → Option AR} (hcf : ∀ (y : Nat) (as : List Value) (M : AM) (r : Option Value) (M' : AM), cf y as M = some (r, M') → M.1 ≤ M'.1 ∧ M.2.1 ≤ M'.2.1) {y pc a : Nat} {L st b c : List Value} {M d : AM} (h : nxt cf y pc L st M = some (.inl (a, b, c, d))) : M.1 ≤ d.1 ∧ M.2.1 ≤ d.2.1 := by
  unfold nxt at h
  split at h
  · rename_i i len ax cst _
    cases i with
    | iconst => cases h; exact ⟨Nat.le_refl _, Nat.le_refl _⟩
    | bipush => cases h; exact ⟨Nat.le_refl _, Nat.le_refl _⟩
    | sipush => cases h; exact ⟨Nat.le_refl _, Nat.le_refl _⟩
    | lconst => cases h; exact ⟨Nat.le_refl _, Nat.le_refl _⟩
    | ldc => cases h; exact ⟨Nat.le_refl _, Nat.le_refl _⟩
    | ldc_w => cases h; exact ⟨Nat.le_refl _, Nat.le_refl _⟩
    | ldc2_w => cases h; exact ⟨Nat.le_refl _, Nat.le_refl _⟩
    | aconst_null => cases h; exact ⟨Nat.le_refl _, Nat.le_refl _⟩
    | iload_n =>
      obtain ⟨_, _, _, _, _, e⟩ := nx_ld0_inv h
      rw [e]; exact ⟨Nat.le_refl _, Nat.le_refl _⟩
    | iload =>
      obtain ⟨_, _, _, _, _, e⟩ := nx_ld0_inv h
      rw [e]; exact ⟨Nat.le_refl _, Nat.le_refl _⟩
    | lload_n =>
      obtain ⟨_, _, _, _, _, e⟩ := nx_ld1_inv h
      rw [e]; exact ⟨Nat.le_refl _, Nat.le_refl _⟩
    | lload =>
      obtain ⟨_, _, _, _, _, e⟩ := nx_ld1_inv h
      rw [e]; exact ⟨Nat.le_refl _, Nat.le_refl _⟩
    | aload_n =>
      obtain ⟨_, _, _, _, _, _, e⟩ := nx_ld2_inv h
      rw [e]; exact ⟨Nat.le_refl _, Nat.le_refl _⟩
    | aload =>
      obtain ⟨_, _, _, _, _, _, e⟩ := nx_ld2_inv h
      rw [e]; exact ⟨Nat.le_refl _, Nat.le_refl _⟩
    | istore_n =>
      obtain ⟨_, _, _, _, _, _, _, e⟩ := nx_st0_inv h
      rw [e]; exact ⟨Nat.le_refl _, Nat.le_refl _⟩
    | istore =>
      obtain ⟨_, _, _, _, _, _, _, e⟩ := nx_st0_inv h
      rw [e]; exact ⟨Nat.le_refl _, Nat.le_refl _⟩
    | lstore_n =>
      obtain ⟨_, _, _, _, _, _, _, e⟩ := nx_st1_inv h
      rw [e]; exact ⟨Nat.le_refl _, Nat.le_refl _⟩
    | lstore =>
      obtain ⟨_, _, _, _, _, _, _, e⟩ := nx_st1_inv h
      rw [e]; exact ⟨Nat.le_refl _, Nat.le_refl _⟩
    | astore_n =>
      obtain ⟨_, _, _, _, _, _, _, _, e⟩ := nx_st2_inv h
      rw [e]; exact ⟨Nat.le_refl _, Nat.le_refl _⟩
    | astore =>
      obtain ⟨_, _, _, _, _, _, _, _, e⟩ := nx_st2_inv h
      rw [e]; exact ⟨Nat.le_refl _, Nat.le_refl _⟩
    | iinc =>
      unfold nx at h
      dsimp only at h
      repeat' split at h
      all_goals (first | (cases h; exact ⟨Nat.le_refl _, Nat.le_refl _⟩) | (cases h; done))
    | iadd =>
      obtain ⟨_, _, _, _, _, _, _, e⟩ := nx_2_inv h
      rw [e]; exact ⟨Nat.le_refl _, Nat.le_refl _⟩
    | isub =>
      obtain ⟨_, _, _, _, _, _, _, e⟩ := nx_2_inv h
      rw [e]; exact ⟨Nat.le_refl _, Nat.le_refl _⟩
    | imul =>
      obtain ⟨_, _, _, _, _, _, _, e⟩ := nx_2_inv h
      rw [e]; exact ⟨Nat.le_refl _, Nat.le_refl _⟩
    | iand =>
      obtain ⟨_, _, _, _, _, _, _, e⟩ := nx_2_inv h
      rw [e]; exact ⟨Nat.le_refl _, Nat.le_refl _⟩
    | ior =>
      obtain ⟨_, _, _, _, _, _, _, e⟩ := nx_2_inv h
      rw [e]; exact ⟨Nat.le_refl _, Nat.le_refl _⟩
    | ixor =>
      obtain ⟨_, _, _, _, _, _, _, e⟩ := nx_2_inv h
      rw [e]; exact ⟨Nat.le_refl _, Nat.le_refl _⟩
    | ishl =>
      obtain ⟨_, _, _, _, _, _, _, e⟩ := nx_2_inv h
      rw [e]; exact ⟨Nat.le_refl _, Nat.le_refl _⟩
    | ishr =>
      obtain ⟨_, _, _, _, _, _, _, e⟩ := nx_2_inv h
      rw [e]; exact ⟨Nat.le_refl _, Nat.le_refl _⟩
    | iushr =>
      obtain ⟨_, _, _, _, _, _, _, e⟩ := nx_2_inv h
      rw [e]; exact ⟨Nat.le_refl _, Nat.le_refl _⟩
    | idiv =>
      obtain ⟨_, _, _, _, _, _, _, _, e⟩ := nx_2d_inv h
      rw [e]; exact ⟨Nat.le_refl _, Nat.le_refl _⟩
    | irem =>
      obtain ⟨_, _, _, _, _, _, _, _, e⟩ := nx_2d_inv h
      rw [e]; exact ⟨Nat.le_refl _, Nat.le_refl _⟩
    | ladd =>
      obtain ⟨_, _, _, _, _, _, _, e⟩ := nx_l2_inv h
      rw [e]; exact ⟨Nat.le_refl _, Nat.le_refl _⟩
    | lsub =>
      obtain ⟨_, _, _, _, _, _, _, e⟩ := nx_l2_inv h
      rw [e]; exact ⟨Nat.le_refl _, Nat.le_refl _⟩
    | lmul =>
      obtain ⟨_, _, _, _, _, _, _, e⟩ := nx_l2_inv h
      rw [e]; exact ⟨Nat.le_refl _, Nat.le_refl _⟩
    | land =>
      obtain ⟨_, _, _, _, _, _, _, e⟩ := nx_l2_inv h
      rw [e]; exact ⟨Nat.le_refl _, Nat.le_refl _⟩
    | lor =>
      obtain ⟨_, _, _, _, _, _, _, e⟩ := nx_l2_inv h
      rw [e]; exact ⟨Nat.le_refl _, Nat.le_refl _⟩
    | ldiv =>
      obtain ⟨_, _, _, _, _, _, _, _, e⟩ := nx_l2d_inv h
      rw [e]; exact ⟨Nat.le_refl _, Nat.le_refl _⟩
    | lrem =>
      obtain ⟨_, _, _, _, _, _, _, _, e⟩ := nx_l2d_inv h
      rw [e]; exact ⟨Nat.le_refl _, Nat.le_refl _⟩
    | lshl =>
      unfold nx at h
      dsimp only at h
      repeat' split at h
      all_goals (first | (cases h; exact ⟨Nat.le_refl _, Nat.le_refl _⟩) | (cases h; done))
    | lcmp =>
      unfold nx at h
      dsimp only at h
      repeat' split at h
      all_goals (first | (cases h; exact ⟨Nat.le_refl _, Nat.le_refl _⟩) | (cases h; done))
    | ineg =>
      obtain ⟨_, _, _, _, _, _, e⟩ := nx_1_inv h
      rw [e]; exact ⟨Nat.le_refl _, Nat.le_refl _⟩
    | i2l =>
      obtain ⟨_, _, _, _, _, _, e⟩ := nx_1_inv h
      rw [e]; exact ⟨Nat.le_refl _, Nat.le_refl _⟩
    | i2b =>
      obtain ⟨_, _, _, _, _, _, e⟩ := nx_1_inv h
      rw [e]; exact ⟨Nat.le_refl _, Nat.le_refl _⟩
    | i2s =>
      obtain ⟨_, _, _, _, _, _, e⟩ := nx_1_inv h
      rw [e]; exact ⟨Nat.le_refl _, Nat.le_refl _⟩
    | l2i =>
      unfold nx at h
      dsimp only at h
      repeat' split at h
      all_goals (first | (cases h; exact ⟨Nat.le_refl _, Nat.le_refl _⟩) | (cases h; done))
    | pop =>
      unfold nx at h
      dsimp only at h
      repeat' split at h
      all_goals (first | (cases h; exact ⟨Nat.le_refl _, Nat.le_refl _⟩) | (cases h; done))
    | dup =>
      unfold nx at h
      dsimp only at h
      repeat' split at h
      all_goals (first | (cases h; exact ⟨Nat.le_refl _, Nat.le_refl _⟩) | (cases h; done))
    | dup_x1 =>
      unfold nx at h
      dsimp only at h
      repeat' split at h
      all_goals (first | (cases h; exact ⟨Nat.le_refl _, Nat.le_refl _⟩) | (cases h; done))
    | dup2 =>
      unfold nx at h
      dsimp only at h
      repeat' split at h
      all_goals (first | (cases h; exact ⟨Nat.le_refl _, Nat.le_refl _⟩) | (cases h; done))
    | ifCond =>
      obtain ⟨_, _, _, _, _, _, e⟩ := nx_if_inv h
      rw [e]; exact ⟨Nat.le_refl _, Nat.le_refl _⟩
    | if_icmp =>
      obtain ⟨_, _, _, _, _, _, _, e⟩ := nx_ic_inv h
      rw [e]; exact ⟨Nat.le_refl _, Nat.le_refl _⟩
    | ifnull =>
      rcases nx_nul_inv h with ⟨_, _, _, _, _, e⟩ | ⟨_, _, _, _, _, _, e⟩ <;> (rw [e]; exact ⟨Nat.le_refl _, Nat.le_refl _⟩)
    | ifnonnull =>
      rcases nx_nul_inv h with ⟨_, _, _, _, _, e⟩ | ⟨_, _, _, _, _, _, e⟩ <;> (rw [e]; exact ⟨Nat.le_refl _, Nat.le_refl _⟩)
    | goto => cases h; exact ⟨Nat.le_refl _, Nat.le_refl _⟩
    | tableswitch =>
      obtain ⟨_, _, _, _, _, e, _⟩ := nx_tsw_inv h
      rw [e]; exact ⟨Nat.le_refl _, Nat.le_refl _⟩
    | lookupswitch =>
      unfold nx at h
      dsimp only at h
      repeat' split at h
      all_goals (first | (cases h; exact ⟨Nat.le_refl _, Nat.le_refl _⟩) | (cases h; done))
    | getfield ix =>
      rcases ax with _ | ⟨a', _ | ⟨b', ax⟩⟩
      · cases h
      · cases h
      · obtain ⟨_, _, _, _, _, _, _, _, _, _, e⟩ := nx_gf_inv h
        rw [e]; exact ⟨Nat.le_refl _, Nat.le_refl _⟩
    | putfield ix =>
      rcases ax with _ | ⟨a', _ | ⟨b', _ | ⟨c', ax⟩⟩⟩
      · cases h
      · cases h
      · cases h
      · obtain ⟨_, _, _, _, _, _, _, _, _, _, _, e⟩ := nx_pf_inv h
        rw [e]; exact ⟨Nat.le_refl _, Nat.le_refl _⟩
    | iaload =>
      obtain ⟨_, _, _, _, _, _, _, _, _, e⟩ := nx_al_inv h
      rw [e]; exact ⟨Nat.le_refl _, Nat.le_refl _⟩
    | laload =>
      obtain ⟨_, _, _, _, _, _, _, _, _, e⟩ := nx_al_inv h
      rw [e]; exact ⟨Nat.le_refl _, Nat.le_refl _⟩
    | aaload =>
      obtain ⟨_, _, _, _, _, _, _, _, _, e⟩ := nx_al_inv h
      rw [e]; exact ⟨Nat.le_refl _, Nat.le_refl _⟩
    | iastore =>
      obtain ⟨_, _, _, _, _, _, _, _, _, _, _, _, _, e⟩ := nx_is_inv h
      rw [e]; exact ⟨Nat.le_refl _, Nat.le_refl _⟩
    | lastore =>
      obtain ⟨_, _, _, _, _, _, _, _, _, _, _, _, _, e⟩ := nx_js_inv h
      rw [e]; exact ⟨Nat.le_refl _, Nat.le_refl _⟩
    | aastore =>
      obtain ⟨_, _, _, _, _, _, _, _, _, _, _, _, _, _, _, _, _, _, e⟩ := nx_qs_inv h
      rw [e]; exact ⟨Nat.le_refl _, Nat.le_refl _⟩
    | arraylength =>
      obtain ⟨_, _, _, _, _, _, _, _, _, _, _, e⟩ := nx_len_inv h
      rw [e]; exact ⟨Nat.le_refl _, Nat.le_refl _⟩
    | newarray t =>
      cases t with
      | int =>
        obtain ⟨_, _, _, _, _, _, _, _, _, e⟩ := nx_na_inv h
        rw [e]
        exact ⟨Nat.le_succ _, Nat.le_add_right _ _⟩
      | long =>
        obtain ⟨_, _, _, _, _, _, _, _, _, e⟩ := nx_na_inv h
        rw [e]
        exact ⟨Nat.le_succ _, Nat.le_add_right _ _⟩
      | _ => cases h
    | anewarray ix =>
      rcases ax with _ | ⟨a', ax⟩
      · cases h
      · obtain ⟨_, _, _, _, _, _, _, _, _, e⟩ := nx_na_inv h
        rw [e]
        exact ⟨Nat.le_succ _, Nat.le_add_right _ _⟩
    | multianewarray =>
      obtain ⟨n, k, r, _, _, _, _, _, _, _, _, _, e⟩ := nx_mna_inv h
      rw [e]
      exact ⟨by show M.1 ≤ M.1 + 1 + _; omega, by show M.2.1 ≤ M.2.1 + _ + _; omega⟩
    | new ix =>
      rcases ax with _ | ⟨a', ax⟩
      · cases h
      · obtain ⟨_, _, _, _, e⟩ := nx_new_inv h
        rw [e]
        exact ⟨Nat.le_succ _, Nat.le_add_right _ _⟩
    | invokespecial ix =>
      unfold nx at h
      dsimp only at h
      split at h
      · obtain ⟨_, _, _, _, _, _, _, e⟩ := nx_oi_inv h
        rw [e]; exact ⟨Nat.le_refl _, Nat.le_refl _⟩
      · obtain ⟨_, _, _, _, e, _⟩ := nx_inv_inv h
        exact hcf _ _ _ _ _ e
      · cases h
    | invokevirtual ix =>
      unfold nx at h
      dsimp only at h
      split at h
      · obtain ⟨_, _, _, _, e, _⟩ := nx_inv_inv h
        exact hcf _ _ _ _ _ e
      · cases h
    | invokestatic ix =>
      unfold nx at h
      dsimp only at h
      split at h
      · obtain ⟨_, _, _, _, _, _, _, _, _, _, _, _, _, _, _, _, _, _, _, _, _, _, e⟩ := nx_cpy_inv h
        rw [e]; exact ⟨Nat.le_refl _, Nat.le_refl _⟩
      · obtain ⟨_, _, _, _, e, _⟩ := nx_inv_inv h
        exact hcf _ _ _ _ _ e
      · cases h
    | ireturn =>
      rcases ax with _ | ⟨t, ax⟩
      · cases h
      · unfold nx at h
        dsimp only at h
        split at h
        · unfold nx_end at h
          repeat' split at h
          all_goals (first | (cases h; done) | skip)
        · cases h
    | lreturn =>
      have h : nx_end 2 st M = _ := h
      unfold nx_end at h
      repeat' split at h
      all_goals (first | (cases h; done) | skip)
    | areturn =>
      have h : nx_end 3 st M = _ := h
      unfold nx_end at h
      repeat' split at h
      all_goals (first | (cases h; done) | skip)
    | return_ =>
      have h : nx_end 4 st M = _ := h
      unfold nx_end at h
      repeat' split at h
      all_goals (first | (cases h; done) | skip)
    | _ => cases h
  · cases h
theorem run_grow {cf : Nat → List Value → AM → Option AR} (hcf : ∀ (y : Nat) (as : List Value) (M : AM) (r : Option Value) (M' : AM), cf y as M = some (r, M') → M.1 ≤ M'.1 ∧ M.2.1 ≤ M'.2.1) {y : Nat} : ∀ (n pc : Nat) (L st : List Value) (M : AM) (r : Option Value) (M' : AM), runN cf y n pc L st M = some (r, M') → M.1 ≤ M'.1 ∧ M.2.1 ≤ M'.2.1 := by
  intro n
  induction n with
  | zero => intro pc L st M r M' h; cases h
  | succ n ih =>
    intro pc L st M r M' h
    unfold runN at h
    cases hn : nxt cf y pc L st M with
    | none => rw [hn] at h; cases h
    | some x =>
      rw [hn] at h
      cases x with
      | inl q =>
        obtain ⟨a, b, c, d⟩ := q
        have h1 := nx_grow hcf hn
        have h2 := ih a b c d r M' h
        exact ⟨Nat.le_trans h1.1 h2.1, Nat.le_trans h1.2 h2.2⟩
      | inr q =>
        cases h
        have : M' = M := by
          unfold nxt at hn
          split at hn
          · rcases nx_ends hn with ⟨-, t, r', -, -, h⟩ | ⟨-, h⟩ | ⟨-, h⟩ | ⟨-, h⟩ <;> exact (nx_end_inv h).1
          · cases hn
        rw [this]
        exact ⟨Nat.le_refl _, Nat.le_refl _⟩
/-- a run of the abstract machine is a walk of the method's body to its end -/
theorem run_sound {cf : Nat → List Value → AM → Option AR} {d : Nat} (hcf : OKc l D dA b0 xa sL sX d cf) (C : Cx p s m args meth c y D dA b0 xa sL sX) (hy : y < 245) (hrt : meth.sig.returnType = mdR y) (hlocks : meth.locks = false) (hf1 : d + 3 ≤ R.frames) (hf2 : 64 * (d + 1) + 100 ≤ R.locals) {mc ms : Nat} (hRc : R.cells = mc) (hRs : R.slots = ms) {r : Option Value} {M' : AM} (hmc : M'.1 = n0 + mc) (hms : M'.2.1 = s0 + ms) :
    ∀ (n pc : Nat) (L st : List Value) (M : AM), runN cf y n pc L st M = some (r, M') → KK p l e R s m args below meth c (MQ below (QcC D dA b0 xa sL sX r M') args s mc ms (fun q => b0 ≤ q)) y D dA b0 xa sL sX n0 s0 pc L st M := by
  have hgr : ∀ (y : Nat) (as : List Value) (M : AM) (r : Option Value) (M' : AM), cf y as M = some (r, M') → M.1 ≤ M'.1 ∧ M.2.1 ≤ M'.2.1 := fun y as M r M' h => ⟨(hcf y as M r M' h).1, (hcf y as M r M' h).2.1⟩
  intro n
  induction n with
  | zero => intro pc L st M h; cases h
  | succ n ih =>
    intro pc L st M h H locs ls k0 t0 hl hLn hR hS hk ht
    unfold runN at h
    cases hn : nxt cf y pc L st M with
    | none => rw [hn] at h; cases h
    | some x =>
      rw [hn] at h
      cases x with
      | inl q =>
        obtain ⟨a, b, c', d'⟩ := q
        have hg := run_grow hgr n a b c' d' r M' h
        exact step_sound C hy hLn hl hR hS hk ht (by omega) (by omega) hcf hf1 hf2 hn (ih a b c' d' h)
      | inr q =>
        cases h
        obtain ⟨i, len, ax, cst, hd, hlk, hn⟩ := step_look hy hn
        obtain ⟨hx, hb, hml, hown, hts, hK, hSF, hini, hb0⟩ := C
        have hloc : ∀ q ∈ locs, b0 ≤ q.base := hS.2.2
        have fin : ∀ (t : State), t.heap = H → M' = M → QcC D dA b0 xa sL sX r M' args s (.returned (r.map (cv b0 xa))) t := by
          intro t ht' hM
          exact ⟨rfl, by rw [ht', hM]; exact hR, hS.F ht'⟩
        rcases nx_ends hn with ⟨rfl, t, r', rfl, ht2, he⟩ | ⟨rfl, he⟩ | ⟨rfl, he⟩ | ⟨rfl, he⟩
        · obtain ⟨hM, he⟩ := nx_end_inv he
          have hM : M' = M := hM
          have e1 : mc = k0 := by rw [hM] at hmc; omega
          have e2 : ms = t0 := by rw [hM] at hms; omega
          subst e1
          subst e2
          simp only [lkE, Bool.and_eq_true, decide_eq_true_eq] at hlk
          obtain ⟨rfl, hlk⟩ := hlk
          rcases he with ⟨rfl, v, rfl, hv⟩ | ⟨rfl, v, rfl, hv, h01⟩ | ⟨rfl, -⟩ | ⟨rfl, -⟩ | ⟨rfl, -⟩
          · have hv : r = some (.int v) := hv
            subst hv
            rw [if_pos rfl] at hlk
            exact W.iret hx hb (hrt.trans (of_decide_eq_true hlk)) (fun t ht' _ => fin t ht' hM) hloc hd hlocks
          · have hv : r = some (.int v) := hv
            subst hv
            rw [if_neg (by decide)] at hlk
            exact W.zret hx hb (hrt.trans (of_decide_eq_true hlk)) (by rcases h01 with rfl | rfl <;> decide) (fun t ht' _ => fin t ht' hM) hloc hd hlocks
          · omega
          · omega
          · omega
        · obtain ⟨hM, he⟩ := nx_end_inv he
          have hM : M' = M := hM
          have e1 : mc = k0 := by rw [hM] at hmc; omega
          have e2 : ms = t0 := by rw [hM] at hms; omega
          subst e1
          subst e2
          simp only [lkE, Bool.and_eq_true, decide_eq_true_eq] at hlk
          obtain ⟨rfl, hlk⟩ := hlk
          rcases he with ⟨h, -⟩ | ⟨h, -⟩ | ⟨-, v, rfl, hv⟩ | ⟨h, -⟩ | ⟨h, -⟩
          · omega
          · omega
          · have hv : r = some (.long v) := hv
            subst hv
            exact W.lret hx hb (hrt.trans hlk) (fun t ht' _ => fin t ht' hM) hloc hd hlocks
          · omega
          · omega
        · obtain ⟨hM, he⟩ := nx_end_inv he
          have hM : M' = M := hM
          have e1 : mc = k0 := by rw [hM] at hmc; omega
          have e2 : ms = t0 := by rw [hM] at hms; omega
          subst e1
          subst e2
          simp only [lkE, Bool.and_eq_true, decide_eq_true_eq] at hlk
          obtain ⟨rfl, hlk⟩ := hlk
          rcases he with ⟨h, -⟩ | ⟨h, -⟩ | ⟨h, -⟩ | ⟨-, v, rfl, hv, hrf⟩ | ⟨h, -⟩
          · omega
          · omega
          · omega
          · have hv : r = some v := hv
            subst hv
            split at hlk
            · rename_i C hC
              exact W.aret hx hb (hrt.trans hC) (Or.inl ⟨_, rfl⟩) (by rcases hrf with rfl | ⟨q, rfl⟩; exact Or.inl rfl; exact Or.inr ⟨_, rfl⟩) (fun t ht' _ => fin t ht' hM) hloc hd hlocks
            · cases hlk
          · omega
        · obtain ⟨hM, he⟩ := nx_end_inv he
          have hM : M' = M := hM
          have e1 : mc = k0 := by rw [hM] at hmc; omega
          have e2 : ms = t0 := by rw [hM] at hms; omega
          subst e1
          subst e2
          simp only [lkE, Bool.and_eq_true, decide_eq_true_eq] at hlk
          obtain ⟨rfl, hlk⟩ := hlk
          rcases he with ⟨h, -⟩ | ⟨h, -⟩ | ⟨h, -⟩ | ⟨h, -⟩ | ⟨-, rfl, hv⟩
          · omega
          · omega
          · omega
          · omega
          · have hv : r = none := hv
            subst hv
            exact W.vret hx hb (hrt.trans hlk) (fun t ht' _ => fin t ht' hM) hloc hd hlocks
end SNN
