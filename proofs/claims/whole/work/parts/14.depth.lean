theorem sLen_inv {as : List Value} {M : AM} {r : Option Value} {M' : AM} (h : sLen as M = some (r, M')) : ∃ (a : Nat) (t : List Nat), as = [.ref a] ∧ 1000000 < a ∧ strT a = some t ∧ r = some (.int (Int32.ofNat t.length)) ∧ M' = M := by
  unfold sLen at h
  split at h
  · split at h
    · rename_i ha
      split at h
      · rename_i t ht
        cases h
        exact ⟨_, t, rfl, ha, ht, rfl, rfl⟩
      · cases h
    · cases h
  · cases h
theorem sAt_inv {as : List Value} {M : AM} {r : Option Value} {M' : AM} (h : sAt as M = some (r, M')) : ∃ (a : Nat) (i : Int32) (t : List Nat) (x : Nat), as = [.ref a, .int i] ∧ 1000000 < a ∧ 0 ≤ i.toInt ∧ strT a = some t ∧ t[i.toNatClampNeg]? = some x ∧ r = some (.int (Int32.ofNat x)) ∧ M' = M := by
  unfold sAt at h
  split at h
  · split at h
    · rename_i ha
      split at h
      · rename_i t ht
        split at h
        · rename_i x hx
          cases h
          exact ⟨_, _, t, x, rfl, ha.1, ha.2, ht, hx, rfl, rfl⟩
        · cases h
      · cases h
    · cases h
  · cases h
theorem sp_md {y : Nat} (h : y < 245) : spN y = mdN y ∧ spB y = mdB y ∧ spL y = mdL y ∧ spR y = mdR y := by
  refine ⟨?_, ?_, ?_, ?_⟩
  · unfold spN; rw [if_neg (by omega), if_neg (by omega)]
  · unfold spB; rw [if_neg (by omega), if_neg (by omega)]
  · unfold spL; rw [if_neg (by omega), if_neg (by omega)]
  · unfold spR; rw [if_neg (by omega), if_neg (by omega)]
set_option maxHeartbeats 4000000 in
theorem ok_callD (l : Launch) (D : va_G) (dA : Nat → ClassId) (b0 : Nat) (xa : Nat → Nat) (sL : Nat) (sX : Nat → Int32) : ∀ d, OKc l D dA b0 xa sL sX d (callD d) := by
  intro d
  induction d with
  | zero => intro y as M r M' h; cases h
  | succ d ih =>
    intro y as M r M' h
    have hgr : ∀ (y : Nat) (as : List Value) (M : AM) (r : Option Value) (M' : AM), callD d y as M = some (r, M') → M.1 ≤ M'.1 ∧ M.2.1 ≤ M'.2.1 := fun y as M r M' h => ⟨(ih y as M r M' h).1, (ih y as M r M' h).2.1⟩
    have h : (if y = 300 then sLen as M else if y = 301 then sAt as M else if (enL (mdL y) as).length = mdL y then den (callD d) y 0 (enL (mdL y) as) [] M else none) = some (r, M') := h
    by_cases h0 : y = 300
    · subst h0
      rw [if_pos rfl] at h
      obtain ⟨a, t, rfl, ha, ht, rfl, rfl⟩ := sLen_inv h
      have hr := strT_lt ht
      exact ⟨Nat.le_refl _, Nat.le_refl _, fun _ => ⟨a, [], rfl, hr⟩, fun _ => str_len_met l D dA b0 xa sL sX d a M' t hr.1 ht⟩
    · rw [if_neg h0] at h
      by_cases h1 : y = 301
      · subst h1
        rw [if_pos rfl] at h
        obtain ⟨a, i, t, x, rfl, ha, hi, ht, hx, rfl, rfl⟩ := sAt_inv h
        have hr := strT_lt ht
        exact ⟨Nat.le_refl _, Nat.le_refl _, fun _ => ⟨a, [.int i], rfl, hr⟩, fun _ => str_at_met l D dA b0 xa sL sX d a M' t hr.1 ht i x hi hx⟩
      · rw [if_neg h1] at h
        split at h
        · rename_i hlen
          obtain ⟨n, hn⟩ := den_run h
          have hg := run_grow hgr n 0 _ _ _ _ _ hn
          refine ⟨hg.1, hg.2, fun h => absurd h (by rintro (h | h); exact h0 h; exact h1 h), fun hv => ?_⟩
          have hy : 0 < y ∧ y < 245 := by
            rcases hv with hv | hv | hv
            · exact hv
            · exact absurd hv h0
            · exact absurd hv h1
          obtain ⟨e1, e2, e3, e4⟩ := sp_md hy.2
          obtain ⟨hcode, hplain, hn1, hn2, hL40⟩ := chM_all hv
          have hown0 : mdO y = (mdN y).cls := by
            have hc := cm_all y hy.1 hy.2
            unfold chF at hc
            simp only [Bool.and_eq_true, decide_eq_true_eq] at hc
            exact hc.2
          refine va_MetF (cc := spB y) (maxL := spL y) (ret := spR y) hplain rfl ?_
          intro p e s m args below meth c s₁ B hml hpc
          obtain ⟨rfl, hb0, hR, hKW, hSF⟩ := hpc
          have hts0 := atoms_spec (ws := wsM y) B.pre
          have hC : Cx p s m (as.map (cv b0 xa)).toArray meth c y D dA b0 xa sL sX := ⟨B.exec, by rw [← e2]; exact B.bytes, by rw [← e3]; exact hml, by rw [hown0, ← e1]; exact findClass_of_methodNamed B.named, fun w hw => hts0 w (List.mem_cons_of_mem _ hw), hKW, hSF, fun h => by rw [← e1] at h; exact (name_of_methodNamed B.named B.method).1.trans h, hb0⟩
          rw [lg_entry_eq]
          have hl := hasL.entry (b0 := b0) (xa := xa) hlen
          rw [← e3] at hl
          rw [← e3] at hn hlen
          exact run_sound (R := ({ frames := d + 3, cells := M'.1 - M.1, slots := M'.2.1 - M.2.1, locals := 64 * (d + 1) + 100 })) (n0 := M.1) (s0 := M.2.1) ih hC hy.2 (by rw [← e4]; exact B.returns) B.notSynchronized (Nat.le_refl _) (Nat.le_refl _) rfl rfl (Nat.add_sub_cancel' hg.1).symm (Nat.add_sub_cancel' hg.2).symm n 0 _ _ M hn s.heap [] _ 0 0 hl (by rw [hlen, e3]) hR va_S.rf (by omega) (by omega)
        · cases h
