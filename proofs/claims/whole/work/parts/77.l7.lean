theorem nK_r {α : Type} {B : Nat → Int32} {z q : Nat} {m : Int} {k : Int → Nat → Nat ⊕ α} {r : α} (h : nK (nm B z q m) k = .inr r) : (tkn B z (tst B z q) = 2 ∧ nvl B z (tst B z q) ≤ m) ∧ k (nvl B z (tst B z q)) (ten B z (tst B z q)) = .inr r := by
  by_cases h1 : tkn B z (tst B z q) = 2 ∧ nvl B z (tst B z q) ≤ m
  · rw [nK_s h1] at h; exact ⟨h1, h⟩
  · rw [nK_n h1] at h; cases h
def stO (S : Sc) (z q : Nat) (S' : Sc) (p' : Nat) : Prop := In S' ∧ q < p' ∧ p' ≤ z ∧ S 8 0 ≤ S' 8 0
section OK7
variable {B : Nat → Int32} {z q s : Nat} {S S' : Sc} {p' : Nat}
theorem num_b {m : Int} (hq : q ≤ z) (h : tkn B z (tst B z q) = 2 ∧ nvl B z (tst B z q) ≤ m) : 0 ≤ nvl B z (tst B z q) ∧ q < ten B z (tst B z q) ∧ ten B z (tst B z q) ≤ z := by
  have hs := tst_b (B := B) hq
  have he := ten_b (B := B) hs.2
  have hn := nvl_b h.1 hs.2
  have := he.2.2 (Or.inr (Or.inl h.1))
  exact ⟨hn.1, by omega, he.2.1⟩
theorem psPu_o (hI : In S) (hq : q ≤ z) (h : psPu B z S s q = .inr (S', p')) : stO S z q S' p' := by
  unfold psPu at h
  by_cases h0 : S 8 0 < 12
  · rw [if_pos h0] at h
    obtain ⟨n1, h⟩ := nK_r h
    have b1 := num_b hq n1
    obtain ⟨n2, h⟩ := nK_r h
    have b2 := num_b b1.2.2 n2
    obtain ⟨n3, h⟩ := nK_r h
    have b3 := num_b b2.2.2 n3
    cases h
    refine ⟨In_ad hI h0 ⟨b1.1, n1.2⟩ ⟨b2.1, n2.2⟩ ⟨b3.1, n3.2⟩, by omega, b3.2.2, ?_⟩
    show S 8 0 ≤ S 8 0 + 1
    omega
  · rw [if_neg h0] at h; cases h
theorem psLi_o (hI : In S) (hq : q ≤ z) (h : psLi B z S q = .inr (S', p')) : stO S z q S' p' := by
  unfold psLi at h
  obtain ⟨n1, h⟩ := nK_r h
  have b1 := num_b hq n1
  obtain ⟨n2, h⟩ := nK_r h
  have b2 := num_b b1.2.2 n2
  cases h
  have hf := (hI.f (nvl B z (tst B z q)).toNat).2.2.2.1
  have ho := orb_b (b := (nvl B z (tst B z (ten B z (tst B z q)))).toNat) hf.1 hf.2 (by omega)
  exact ⟨In_sU hI (by omega), by omega, b2.2.2, Int.le_refl _⟩
theorem psPr_o (hI : In S) (hq : q ≤ z) (h : psPr B z S q = .inr (S', p')) : stO S z q S' p' := by
  unfold psPr at h
  obtain ⟨n1, h⟩ := nK_r h
  have b1 := num_b hq n1
  by_cases h1 : S 2 (nvl B z (tst B z q)).toNat = 0 ∧ S 4 (nvl B z (tst B z q)).toNat < 0
  · rw [if_pos h1] at h
    obtain ⟨n2, h⟩ := nK_r h
    have b2 := num_b b1.2.2 n2
    by_cases h2 : S 2 (nvl B z (tst B z (ten B z (tst B z q)))).toNat = 1 ∧ S 4 (nvl B z (tst B z (ten B z (tst B z q)))).toNat < 0
    · rw [if_pos h2] at h
      cases h
      exact ⟨In_jo hI (by omega) (by omega) h1.2 h2.2 h1.1 h2.1, by omega, b2.2.2, Int.le_refl _⟩
    · rw [if_neg h2] at h; cases h
  · rw [if_neg h1] at h; cases h
theorem psPt_o (hI : In S) (hq : q ≤ z) (h : psPt B z S q = .inr (S', p')) : stO S z q S' p' := by
  unfold psPt at h
  obtain ⟨n1, h⟩ := nK_r h
  have b1 := num_b hq n1
  by_cases h1 : 0 ≤ S 4 (nvl B z (tst B z q)).toNat
  · rw [if_pos h1] at h
    cases h
    exact ⟨In_le hI ⟨by omega, h1⟩, by omega, b1.2.2, Int.le_refl _⟩
  · rw [if_neg h1] at h; cases h
theorem psAs_o {i : Nat} {m : Int} (hI : In S) (hq : q ≤ z) (hi : (i = 1 ∧ m = 12) ∨ (i = 2 ∧ m = 9) ∨ (i = 3 ∧ m = 1)) (h : psAs B z S q i m = .inr (S', p')) : stO S z q S' p' := by
  unfold psAs at h
  obtain ⟨n1, h⟩ := nK_r h
  have b1 := num_b hq n1
  cases h
  refine ⟨In_sU hI (by omega), by omega, b1.2.2, ?_⟩
  show S 8 0 ≤ (if 8 = 8 ∧ 0 = i then _ else S 8 0)
  rw [if_neg (by omega)]
  exact Int.le_refl _
theorem stmP_o {p : Nat} (hI : In S) (hp : p ≤ z) (h : stmP B z S p = .inr (S', p')) : stO S z p S' p' := by
  have hs := tst_b (B := B) hp
  have he := ten_b (B := B) hs.2
  have key : stO S z (ten B z (tst B z p)) S' p' := by
    unfold stmP at h
    by_cases h1 : isW B z (tst B z p) wPu = 1
    · rw [if_pos h1] at h; exact psPu_o hI he.2.1 h
    · rw [if_neg h1] at h
      by_cases h2 : isW B z (tst B z p) wLi = 1
      · rw [if_pos h2] at h; exact psLi_o hI he.2.1 h
      · rw [if_neg h2] at h
        by_cases h3 : isW B z (tst B z p) wPr = 1
        · rw [if_pos h3] at h; exact psPr_o hI he.2.1 h
        · rw [if_neg h3] at h
          by_cases h4 : isW B z (tst B z p) wPt = 1
          · rw [if_pos h4] at h; exact psPt_o hI he.2.1 h
          · rw [if_neg h4] at h
            by_cases h5 : isW B z (tst B z p) wLo = 1
            · rw [if_pos h5] at h; exact psAs_o hI he.2.1 (by omega) h
            · rw [if_neg h5] at h
              by_cases h6 : isW B z (tst B z p) wTo = 1
              · rw [if_pos h6] at h; exact psAs_o hI he.2.1 (by omega) h
              · rw [if_neg h6] at h
                by_cases h7 : isW B z (tst B z p) wFr = 1
                · rw [if_pos h7] at h; exact psAs_o hI he.2.1 (by omega) h
                · rw [if_neg h7] at h; cases h
  obtain ⟨k1, k2, k3, k4⟩ := key
  exact ⟨k1, by omega, k3, k4⟩
end OK7
noncomputable def pall (B : Nat → Int32) (z : Nat) : Nat → Sc → Nat → Nat → Nat ⊕ (Sc × Nat)
  | 0, _, _, _ => .inl 0
  | k + 1, S, p, n => match stmP B z S p with
    | .inl s => .inl s
    | .inr (S', p') => if tkn B z (tst B z p') = 0 then .inr (S', n) else if tkn B z (tst B z p') = 3 then pall B z k S' (ten B z (tst B z p')) (n + 1) else .inl (tst B z p')
noncomputable def rst (B : Nat → Int32) (z k : Nat) (S : Sc) (p n : Nat) : Nat ⊕ (Sc × Nat) := if tkn B z (tst B z p) = 0 then .inr (S, n) else if tkn B z (tst B z p) = 3 then pall B z k S (ten B z (tst B z p)) (n + 1) else .inl (tst B z p)
theorem pall_f {B : Nat → Int32} {z k p n s : Nat} {S : Sc} (h : stmP B z S p = .inl s) : pall B z (k + 1) S p n = .inl s := by
  show (match stmP B z S p with
    | .inl s => .inl s
    | .inr (S', p') => if tkn B z (tst B z p') = 0 then .inr (S', n) else if tkn B z (tst B z p') = 3 then pall B z k S' (ten B z (tst B z p')) (n + 1) else .inl (tst B z p') : Nat ⊕ (Sc × Nat)) = _
  rw [h]
theorem pall_s {B : Nat → Int32} {z k p n p' : Nat} {S S' : Sc} (h : stmP B z S p = .inr (S', p')) : pall B z (k + 1) S p n = rst B z k S' p' n := by
  show (match stmP B z S p with
    | .inl s => .inl s
    | .inr (S', p') => if tkn B z (tst B z p') = 0 then .inr (S', n) else if tkn B z (tst B z p') = 3 then pall B z k S' (ten B z (tst B z p')) (n + 1) else .inl (tst B z p') : Nat ⊕ (Sc × Nat)) = _
  rw [h]
  rfl
def okN (r : Nat ⊕ (Sc × Nat)) : Int := match r with
  | .inl _ => -1
  | .inr (_, n) => (n : Int)
/-- what is so at the end of the reading -/
def alO (S : Sc) (r : Nat ⊕ (Sc × Nat)) : Prop := (∀ s, r = .inl s → s ≤ 250) ∧ ∀ S' n, r = .inr (S', n) → In S' ∧ S 8 0 ≤ S' 8 0 ∧ 1 ≤ n ∧ n ≤ 200
