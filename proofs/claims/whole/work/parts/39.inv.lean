/-! what is always so of the schools stays so -/
theorem In.a {S : Sc} (h : In S) {f i : Nat} (hf : f < 8) (hi : S 8 0 ≤ i) : S f i = 0 := h.2.2.2.2.2.1 f i hf hi
theorem In.p {S : Sc} (h : In S) {i : Nat} (hi : (i : Int) < S 8 0) (h4 : 0 ≤ S 4 i) : S 4 i < S 8 0 ∧ S 4 (S 4 i).toNat = i ∧ S 2 (S 4 i).toNat = 1 - S 2 i ∧ S 5 (S 4 i).toNat = 1 - S 5 i := h.2.2.2.2.2.2.1 i hi h4
theorem In.n {S : Sc} (h : In S) {i : Nat} (hi : (i : Int) < S 8 0) (h4 : S 4 i < 0) : S 5 i = 0 := h.2.2.2.2.2.2.2 i hi h4
theorem In_keep {S S' : Sc} (hI : In S) (h0 : S' 8 0 = S 8 0) (h1 : 0 ≤ S' 8 1 ∧ S' 8 1 ≤ 12) (h2 : 0 ≤ S' 8 2 ∧ S' 8 2 ≤ 9) (h3 : 0 ≤ S' 8 3 ∧ S' 8 3 ≤ 1) (hf : ∀ i : Nat, (0 ≤ S' 0 i ∧ S' 0 i ≤ 5) ∧ (0 ≤ S' 1 i ∧ S' 1 i ≤ 9) ∧ (0 ≤ S' 3 i ∧ S' 3 i ≤ 255) ∧ (0 ≤ S' 6 i ∧ S' 6 i ≤ 99) ∧ (0 ≤ S' 7 i ∧ S' 7 i ≤ 99)) (h : ∀ i, S' 2 i = S 2 i ∧ S' 4 i = S 4 i ∧ S' 5 i = S 5 i) (ha : ∀ f i : Nat, f < 8 → S 8 0 ≤ i → S' f i = 0) : In S' := by
  refine ⟨h0 ▸ hI.1, h1, h2, h3, fun i => ?_, fun f i hf hi => ?_, fun i hi h4 => ?_, fun i hi h4 => ?_⟩
  · obtain ⟨f0, f1, f3, f6, f7⟩ := hf i
    obtain ⟨-, -, g2, -, g4, g5, -, -⟩ := hI.f i
    obtain ⟨e2, e4, e5⟩ := h i
    rw [e2, e4, e5]
    exact ⟨f0, f1, g2, f3, g4, g5, f6, f7⟩
  · rw [h0] at hi; exact ha f i hf hi
  · rw [h0] at hi ⊢
    obtain ⟨e2, e4, e5⟩ := h i
    rw [e4] at h4 ⊢
    rw [e2, e5, (h _).1, (h _).2.1, (h _).2.2]
    exact hI.p hi h4
  · rw [h0] at hi
    rw [(h i).2.1] at h4
    rw [(h i).2.2]
    exact hI.n hi h4
theorem L6_b (k a fl sil fri : Int) : 1 ≤ L6 k a fl sil fri ∧ L6 k a fl sil fri ≤ 99 := by
  unfold L6
  dsimp only
  generalize (if k = 1 then _ else _ : Int) = v
  by_cases e : fri = 1
  · rw [if_pos e]; (repeat' split) <;> omega
  · rw [if_neg e]; (repeat' split) <;> omega
theorem prd_lt {S : Sc} {i : Nat} (h : prd S i) : (i : Int) < S 8 0 := h.1
theorem In_wr0 {S : Sc} {i : Nat} (hI : In S) (hi : (i : Int) < S 8 0) : In (wrS S i 0) := by
  refine In_keep hI rfl hI.2.1 hI.2.2.1 hI.2.2.2.1 (fun k => ?_) (fun k => ?_) (fun f k hf hk => ?_)
  · obtain ⟨f0, f1, -, f3, -, -, f6, f7⟩ := hI.f k
    have hl := L6_b (S 0 i) (S 1 i) (S 7 (fr S i)) (S 6 i) (S 8 3)
    refine ⟨f0, f1, f3, ?_, ?_⟩
    · show 0 ≤ (if k = i then 0 else S 6 k) ∧ (if k = i then 0 else S 6 k) ≤ 99
      split <;> omega
    · show 0 ≤ (if k = i then _ else S 7 k) ∧ (if k = i then _ else S 7 k) ≤ 99
      split <;> omega
  · exact ⟨rfl, rfl, rfl⟩
  · have hki : ¬ k = i := by omega
    have := hI.a hf hk
    unfold wrS
    by_cases e7 : f = 7
    · subst e7; simpa [hki] using this
    · by_cases e6 : f = 6
      · subst e6; simpa [hki] using this
      · simp [e6, e7]; split
        · rename_i e; subst e; exact this
        · exact this
theorem In_wr1 {S : Sc} {i : Nat} (hI : In S) (h : prd S i) (h5 : S 5 i = 1) : In (wrS S i 1) := by
  obtain ⟨p1, p2, p3, p4, p5⟩ := prd_fr hI h
  have hlt := h.1
  have hlf := p1.1
  have hne : ¬ i = fr S i := fun e => by rw [← e] at p4; omega
  refine ⟨hI.1, hI.2.1, hI.2.2.1, hI.2.2.2.1, fun k => ?_, fun f k hf hk => ?_, fun k hk h4 => ?_, fun k hk h4 => ?_⟩
  · obtain ⟨f0, f1, f2, f3, f4, f5, f6, f7⟩ := hI.f k
    have hl := L6_b (S 0 i) (S 1 i) (S 7 (fr S i)) (S 6 i) (S 8 3)
    refine ⟨f0, f1, f2, f3, f4, ?_, ?_, ?_⟩
    · show 0 ≤ (if k = i then 0 else if k = fr S i then 1 else S 5 k) ∧ (if k = i then 0 else if k = fr S i then 1 else S 5 k) ≤ 1
      (repeat' split) <;> omega
    · show 0 ≤ (if k = i then 0 else S 6 k) ∧ (if k = i then 0 else S 6 k) ≤ 99
      split <;> omega
    · show 0 ≤ (if k = i then _ else S 7 k) ∧ (if k = i then _ else S 7 k) ≤ 99
      split <;> omega
  · have hk : S 8 0 ≤ k := hk
    have hki : ¬ k = i := by omega
    have hkf : ¬ k = fr S i := by omega
    have := hI.a hf hk
    unfold wrS
    by_cases e7 : f = 7
    · subst e7; simpa [hki] using this
    · by_cases e6 : f = 6
      · subst e6; simpa [hki] using this
      · by_cases e5 : f = 5
        · subst e5; simpa [hki, hkf] using this
        · simp [e5, e6, e7]; exact this
  · have hk : (k : Int) < S 8 0 := hk
    have h4 : 0 ≤ S 4 k := h4
    obtain ⟨q1, q2, q3, q4⟩ := hI.p hk h4
    refine ⟨q1, q2, q3, ?_⟩
    show (if (S 4 k).toNat = i then 0 else if (S 4 k).toNat = fr S i then 1 else S 5 (S 4 k).toNat) = 1 - (if k = i then 0 else if k = fr S i then 1 else S 5 k)
    by_cases e1 : k = i
    · subst e1
      have e2 : ¬ (S 4 k).toNat = k := fun e => hne e.symm
      rw [if_neg e2, if_pos rfl]
      show (if (S 4 k).toNat = (S 4 k).toNat then (1 : Int) else _) = 1 - 0
      rw [if_pos rfl]; rfl
    · by_cases e2 : k = fr S i
      · have e3 : (S 4 k).toNat = i := by rw [e2]; exact p2
        rw [if_pos e3, if_neg e1, if_pos e2]
        rfl
      · have e3 : ¬ (S 4 k).toNat = i := fun e => e2 (by
          have : fr S k = i := e
          have h2 := (prd_fr hI ⟨hk, h4⟩).2.1
          rw [this] at h2; exact h2.symm)
        have e4 : ¬ (S 4 k).toNat = fr S i := fun e => e1 (by
          have e' : fr S k = fr S i := e
          have h2 := (prd_fr hI ⟨hk, h4⟩).2.1
          rw [e', p2] at h2; exact h2.symm)
        rw [if_neg e3, if_neg e4, if_neg e1, if_neg e2]
        exact q4
  · have hk : (k : Int) < S 8 0 := hk
    have h4 : S 4 k < 0 := h4
    have e1 : ¬ k = i := fun e => by subst e; have := h.2; omega
    have e2 : ¬ k = fr S i := fun e => by rw [e] at h4; have := p1.2; omega
    show (if k = i then 0 else if k = fr S i then 1 else S 5 k) = 0
    rw [if_neg e1, if_neg e2]
    exact hI.n hk h4
theorem In_si {S : Sc} {i : Nat} (hI : In S) (hi : (i : Int) < S 8 0) : In (siS S i) := by
  refine In_keep hI rfl hI.2.1 hI.2.2.1 hI.2.2.2.1 (fun k => ?_) (fun k => ⟨rfl, rfl, rfl⟩) (fun f k hf hk => ?_)
  · obtain ⟨f0, f1, -, f3, -, -, f6, f7⟩ := hI.f k
    have f6' := (hI.f i).2.2.2.2.2.2.1
    refine ⟨f0, f1, f3, ?_, f7⟩
    show 0 ≤ (if k = i then (if S 6 i < 98 then S 6 i + 1 else 99) else S 6 k) ∧ (if k = i then (if S 6 i < 98 then S 6 i + 1 else 99) else S 6 k) ≤ 99
    (repeat' split) <;> omega
  · have hki : ¬ k = i := by omega
    have := hI.a hf hk
    unfold siS
    by_cases e6 : f = 6
    · subst e6; simpa [hki] using this
    · simp [e6]; exact this
theorem In_jo {S : Sc} {i j : Nat} (hI : In S) (hi : (i : Int) < S 8 0) (hj : (j : Int) < S 8 0) (h4i : S 4 i < 0) (h4j : S 4 j < 0) (h2i : S 2 i = 0) (h2j : S 2 j = 1) : In (joS S i j) := by
  have hne : ¬ i = j := fun e => by rw [e] at h2i; omega
  have hne' : ¬ j = i := fun e => hne e.symm
  have hc := hI.1
  refine ⟨hI.1, hI.2.1, hI.2.2.1, hI.2.2.2.1, fun k => ?_, fun f k hf hk => ?_, fun k hk h4 => ?_, fun k hk h4 => ?_⟩
  · obtain ⟨f0, f1, f2, f3, f4, f5, f6, f7⟩ := hI.f k
    refine ⟨f0, f1, f2, f3, ?_, ?_, ?_, ?_⟩
    · show -1 ≤ (if k = i then (j : Int) else if k = j then (i : Int) else S 4 k) ∧ (if k = i then (j : Int) else if k = j then (i : Int) else S 4 k) ≤ 11
      (repeat' split) <;> omega
    · show 0 ≤ (if k = i then 1 else if k = j then 0 else S 5 k) ∧ (if k = i then 1 else if k = j then 0 else S 5 k) ≤ 1
      (repeat' split) <;> omega
    · show 0 ≤ (if k = i ∨ k = j then 0 else S 6 k) ∧ (if k = i ∨ k = j then 0 else S 6 k) ≤ 99
      split <;> omega
    · show 0 ≤ (if k = i ∨ k = j then 0 else S 7 k) ∧ (if k = i ∨ k = j then 0 else S 7 k) ≤ 99
      split <;> omega
  · have hk : S 8 0 ≤ k := hk
    have hki : ¬ k = i := by omega
    have hkf : ¬ k = j := by omega
    have := hI.a hf hk
    unfold joS
    by_cases e4 : f = 4
    · subst e4; simpa [hki, hkf] using this
    · by_cases e5 : f = 5
      · subst e5; simpa [hki, hkf] using this
      · by_cases e6 : f = 6
        · subst e6; simpa [hki, hkf] using this
        · by_cases e7 : f = 7
          · subst e7; simpa [hki, hkf] using this
          · simp [e4, e5, e6, e7]; exact this
  · have hk : (k : Int) < S 8 0 := hk
    have h4 : 0 ≤ (if k = i then (j : Int) else if k = j then (i : Int) else S 4 k) := h4
    show (if k = i then (j : Int) else if k = j then (i : Int) else S 4 k) < S 8 0 ∧ joS S i j 4 (if k = i then (j : Int) else if k = j then (i : Int) else S 4 k).toNat = k ∧ S 2 (if k = i then (j : Int) else if k = j then (i : Int) else S 4 k).toNat = 1 - S 2 k ∧ joS S i j 5 (if k = i then (j : Int) else if k = j then (i : Int) else S 4 k).toNat = 1 - (if k = i then 1 else if k = j then 0 else S 5 k)
    by_cases e1 : k = i
    · subst e1
      rw [if_pos rfl, if_pos rfl, nat_tn]
      refine ⟨hj, ?_, by omega, ?_⟩
      · show (if j = k then _ else if j = j then (k : Int) else _) = _
        rw [if_neg hne', if_pos rfl]
      · show (if j = k then _ else if j = j then 0 else _) = _
        rw [if_neg hne', if_pos rfl]; rfl
    · by_cases e2 : k = j
      · subst e2
        rw [if_neg e1, if_pos rfl, if_neg e1, if_pos rfl, nat_tn]
        refine ⟨hi, ?_, by omega, ?_⟩
        · show (if i = i then (k : Int) else _) = _
          rw [if_pos rfl]
        · show (if i = i then (1 : Int) else _) = _
          rw [if_pos rfl]; rfl
      · rw [if_neg e1, if_neg e2] at h4 ⊢
        rw [if_neg e1, if_neg e2]
        obtain ⟨q1, q2, q3, q4⟩ := hI.p hk h4
        have e3 : ¬ (S 4 k).toNat = i := fun e => by rw [e] at q2; omega
        have e4 : ¬ (S 4 k).toNat = j := fun e => by rw [e] at q2; omega
        refine ⟨q1, ?_, q3, ?_⟩
        · show (if (S 4 k).toNat = i then _ else if (S 4 k).toNat = j then _ else _) = _
          rw [if_neg e3, if_neg e4]; exact q2
        · show (if (S 4 k).toNat = i then _ else if (S 4 k).toNat = j then _ else _) = _
          rw [if_neg e3, if_neg e4]; exact q4
  · have hk : (k : Int) < S 8 0 := hk
    have h4 : (if k = i then (j : Int) else if k = j then (i : Int) else S 4 k) < 0 := h4
    show (if k = i then 1 else if k = j then 0 else S 5 k) = 0
    by_cases e1 : k = i
    · rw [if_pos e1] at h4; omega
    · rw [if_neg e1] at h4 ⊢
      by_cases e2 : k = j
      · rw [if_pos e2]
      · rw [if_neg e2] at h4 ⊢; exact hI.n hk h4
theorem In_le {S : Sc} {i : Nat} (hI : In S) (h : prd S i) : In (leS S i) := by
  obtain ⟨p1, p2, p3, p4, p5⟩ := prd_fr hI h
  have hlt := h.1
  have hlf := p1.1
  have hc := hI.1
  refine ⟨hI.1, hI.2.1, hI.2.2.1, hI.2.2.2.1, fun k => ?_, fun f k hf hk => ?_, fun k hk h4 => ?_, fun k hk h4 => ?_⟩
  · obtain ⟨f0, f1, f2, f3, f4, f5, f6, f7⟩ := hI.f k
    refine ⟨f0, f1, f2, f3, ?_, ?_, ?_, ?_⟩
    · show -1 ≤ (if k = i ∨ k = fr S i then -1 else S 4 k) ∧ (if k = i ∨ k = fr S i then -1 else S 4 k) ≤ 11
      split <;> omega
    · show 0 ≤ (if k = i ∨ k = fr S i then 0 else S 5 k) ∧ (if k = i ∨ k = fr S i then 0 else S 5 k) ≤ 1
      split <;> omega
    · show 0 ≤ (if k = i ∨ k = fr S i then 0 else S 6 k) ∧ (if k = i ∨ k = fr S i then 0 else S 6 k) ≤ 99
      split <;> omega
    · show 0 ≤ (if k = i ∨ k = fr S i then 0 else S 7 k) ∧ (if k = i ∨ k = fr S i then 0 else S 7 k) ≤ 99
      split <;> omega
  · have hk : S 8 0 ≤ k := hk
    have hki : ¬ k = i := by omega
    have hkf : ¬ k = fr S i := by omega
    have := hI.a hf hk
    unfold leS
    by_cases e4 : f = 4
    · subst e4; simpa [hki, hkf] using this
    · by_cases e5 : f = 5
      · subst e5; simpa [hki, hkf] using this
      · by_cases e6 : f = 6
        · subst e6; simpa [hki, hkf] using this
        · by_cases e7 : f = 7
          · subst e7; simpa [hki, hkf] using this
          · simp [e4, e5, e6, e7]; exact this
  · have hk : (k : Int) < S 8 0 := hk
    have h4 : 0 ≤ (if k = i ∨ k = fr S i then -1 else S 4 k) := h4
    by_cases e1 : k = i ∨ k = fr S i
    · rw [if_pos e1] at h4; omega
    · rw [if_neg e1] at h4
      show (if k = i ∨ k = fr S i then -1 else S 4 k) < S 8 0 ∧ leS S i 4 (if k = i ∨ k = fr S i then -1 else S 4 k).toNat = k ∧ S 2 (if k = i ∨ k = fr S i then -1 else S 4 k).toNat = 1 - S 2 k ∧ leS S i 5 (if k = i ∨ k = fr S i then -1 else S 4 k).toNat = 1 - (if k = i ∨ k = fr S i then 0 else S 5 k)
      rw [if_neg e1, if_neg e1]
      obtain ⟨q1, q2, q3, q4⟩ := hI.p hk h4
      have hf2 := (prd_fr hI ⟨hk, h4⟩).2.1
      have e3 : ¬ ((S 4 k).toNat = i ∨ (S 4 k).toNat = fr S i) := fun e => e1 (by
        rcases e with e | e
        · have e' : fr S k = i := e
          rw [e'] at hf2; exact Or.inr hf2.symm
        · have e' : fr S k = fr S i := e
          rw [e', p2] at hf2; exact Or.inl hf2.symm)
      refine ⟨q1, ?_, q3, ?_⟩
      · show (if (S 4 k).toNat = i ∨ (S 4 k).toNat = fr S i then _ else _) = _
        rw [if_neg e3]; exact q2
      · show (if (S 4 k).toNat = i ∨ (S 4 k).toNat = fr S i then _ else _) = _
        rw [if_neg e3]; exact q4
  · have hk : (k : Int) < S 8 0 := hk
    have h4 : (if k = i ∨ k = fr S i then -1 else S 4 k) < 0 := h4
    show (if k = i ∨ k = fr S i then 0 else S 5 k) = 0
    by_cases e1 : k = i ∨ k = fr S i
    · rw [if_pos e1]
    · rw [if_neg e1] at h4 ⊢; exact hI.n hk h4
theorem In_ad {S : Sc} {k a s : Int} (hI : In S) (h : S 8 0 < 12) (hk : 0 ≤ k ∧ k ≤ 5) (ha : 0 ≤ a ∧ a ≤ 9) (hs : 0 ≤ s ∧ s ≤ 1) : In (adS S k a s) := by
  have hc := hI.1
  have hnew : ∀ f j : Nat, f < 8 → ¬ (j : Int) = S 8 0 → adS S k a s f j = S f j := fun f j hf hj => by
    unfold adS
    rw [if_neg (by omega), if_neg (fun q => hj q.1)]
  have hat : ∀ f j : Nat, f < 8 → (j : Int) = S 8 0 → adS S k a s f j = (if f = 0 then k else if f = 1 then a else if f = 2 then s else if f = 4 then -1 else 0) := fun f j hf hj => by
    unfold adS
    rw [if_neg (by omega), if_pos ⟨hj, hf⟩]
  have h80 : adS S k a s 8 0 = S 8 0 + 1 := rfl
  refine ⟨by rw [h80]; omega, hI.2.1, hI.2.2.1, hI.2.2.2.1, fun j => ?_, fun f j hf hj => ?_, fun j hj h4 => ?_, fun j hj h4 => ?_⟩
  · by_cases e : (j : Int) = S 8 0
    · rw [hat 0 j (by omega) e, hat 1 j (by omega) e, hat 2 j (by omega) e, hat 3 j (by omega) e, hat 4 j (by omega) e, hat 5 j (by omega) e, hat 6 j (by omega) e, hat 7 j (by omega) e]
      simp
      omega
    · rw [hnew 0 j (by omega) e, hnew 1 j (by omega) e, hnew 2 j (by omega) e, hnew 3 j (by omega) e, hnew 4 j (by omega) e, hnew 5 j (by omega) e, hnew 6 j (by omega) e, hnew 7 j (by omega) e]
      exact hI.f j
  · rw [h80] at hj
    rw [hnew f j hf (by omega)]
    exact hI.a hf (by omega)
  · rw [h80] at hj ⊢
    by_cases e : (j : Int) = S 8 0
    · rw [hat 4 j (by omega) e] at h4; simp at h4
    · rw [hnew 4 j (by omega) e] at h4 ⊢
      obtain ⟨q1, q2, q3, q4⟩ := hI.p (by omega) h4
      rw [hnew 2 j (by omega) e, hnew 5 j (by omega) e, hnew 4 _ (by omega) (by omega), hnew 2 _ (by omega) (by omega), hnew 5 _ (by omega) (by omega)]
      exact ⟨by omega, q2, q3, q4⟩
  · rw [h80] at hj
    by_cases e : (j : Int) = S 8 0
    · rw [hat 5 j (by omega) e]; simp
    · rw [hnew 4 j (by omega) e] at h4
      rw [hnew 5 j (by omega) e]
      exact hI.n (by omega) h4
/-- one field of one pupil, or one number of all, set anew -/
theorem In_sU {S : Sc} {f i : Nat} {v : Int} (hI : In S) (hf : (f = 0 ∧ 0 ≤ v ∧ v ≤ 5 ∧ (i : Int) < S 8 0) ∨ (f = 3 ∧ 0 ≤ v ∧ v ≤ 255 ∧ (i : Int) < S 8 0) ∨ (f = 6 ∧ 0 ≤ v ∧ v ≤ 99 ∧ (i : Int) < S 8 0) ∨ (f = 8 ∧ i = 1 ∧ 0 ≤ v ∧ v ≤ 12) ∨ (f = 8 ∧ i = 2 ∧ 0 ≤ v ∧ v ≤ 9) ∨ (f = 8 ∧ i = 3 ∧ 0 ≤ v ∧ v ≤ 1) ∨ (f = 8 ∧ 4 ≤ i)) : In (sU S f i v) := by
  have h81 := hI.2.1
  have h82 := hI.2.2.1
  have h83 := hI.2.2.2.1
  refine In_keep hI ?_ ?_ ?_ ?_ (fun k => ?_) (fun k => ?_) (fun g k hg hk => ?_)
  · exact if_neg (by omega)
  · unfold sU; split <;> omega
  · unfold sU; split <;> omega
  · unfold sU; split <;> omega
  · obtain ⟨f0, f1, -, f3, -, -, f6, f7⟩ := hI.f k
    unfold sU
    refine ⟨?_, ?_, ?_, ?_, ?_⟩ <;> split <;> omega
  · unfold sU
    refine ⟨if_neg (by omega), if_neg (by omega), if_neg (by omega)⟩
  · have := hI.a hg hk
    unfold sU
    rw [if_neg (by omega)]
    exact this
