def tmK (t : Nat) : Nat := [83, 54, 69, 59, 64, 45, 79].getD t 0
def tmS (t : Nat) : Term := Term.string "DearPenFriend$Tape" (tmK t)
theorem sLn_v : sLn.getD 0 0 = 6 ∧ sLn.getD 1 0 = 5 ∧ sLn.getD 2 0 = 4 ∧ sLn.getD 3 0 = 4 ∧ sLn.getD 4 0 = 4 ∧ sLn.getD 5 0 = 5 ∧ sLn.getD 6 0 = 4 := by decide +kernel
theorem str_start {s : State} {b : Nat} (hts : ∀ w ∈ lw_tbl, w.before #[Value.ref b] s = true) (hgv : (Jvm.Cond.and given_1 narrow_1).before #[Value.ref b] s = true) : ∃ adK adV : Nat → Nat, vk_S 7 sLn sBy adK adV (fun q => s.heap.size ≤ q) s s.heap ∧ ∀ (j : Nat) (o : String) (i t : Nat), strW[j]? = some (o, i, t) → t < 7 ∧ vk_R o i (strX.getD t "") (adK t) s := by
  have hs := flat_of_before _ hgv
  obtain ⟨l0, l1, l2, l3, l4, l5, l6⟩ := sLn_v
  have hN : ∀ i : Nat, i < 7 → sLn.getD i 0 < 2 ^ 31 := fun i hi => by
    match i, hi with
    | 0, _ => rw [l0]; omega
    | 1, _ => rw [l1]; omega
    | 2, _ => rw [l2]; omega
    | 3, _ => rw [l3]; omega
    | 4, _ => rw [l4]; omega
    | 5, _ => rw [l5]; omega
    | 6, _ => rw [l6]; omega
    | i + 7, h => exact absurd h (by omega)
  have hex : ∀ i : Nat, i < 7 → (Cond.exactly (tmS i) "java/lang/String").before #[Value.ref b] s = true := fun i hi => by
    match i, hi with
    | 0, _ => exact hs _ (by decide +kernel)
    | 1, _ => exact hs _ (by decide +kernel)
    | 2, _ => exact hs _ (by decide +kernel)
    | 3, _ => exact hs _ (by decide +kernel)
    | 4, _ => exact hs _ (by decide +kernel)
    | 5, _ => exact hs _ (by decide +kernel)
    | 6, _ => exact hs _ (by decide +kernel)
    | i + 7, h => exact absurd h (by omega)
  have hco : ∀ i : Nat, i < 7 → (Cond.eq (.field (tmS i) "java/lang/String" "coder" "B") (.int 0)).before #[Value.ref b] s = true := fun i hi => by
    match i, hi with
    | 0, _ => exact hs _ (by decide +kernel)
    | 1, _ => exact hs _ (by decide +kernel)
    | 2, _ => exact hs _ (by decide +kernel)
    | 3, _ => exact hs _ (by decide +kernel)
    | 4, _ => exact hs _ (by decide +kernel)
    | 5, _ => exact hs _ (by decide +kernel)
    | 6, _ => exact hs _ (by decide +kernel)
    | i + 7, h => exact absurd h (by omega)
  have har : ∀ i : Nat, i < 7 → (Cond.arrayOf (.field (tmS i) "java/lang/String" "value" "[B") .byte).before #[Value.ref b] s = true := fun i hi => by
    match i, hi with
    | 0, _ => exact hs _ (by decide +kernel)
    | 1, _ => exact hs _ (by decide +kernel)
    | 2, _ => exact hs _ (by decide +kernel)
    | 3, _ => exact hs _ (by decide +kernel)
    | 4, _ => exact hs _ (by decide +kernel)
    | 5, _ => exact hs _ (by decide +kernel)
    | 6, _ => exact hs _ (by decide +kernel)
    | i + 7, h => exact absurd h (by omega)
  have hle : ∀ i : Nat, i < 7 → (Cond.eq (.length (.field (tmS i) "java/lang/String" "value" "[B")) (.int (Int32.ofNat (sLn.getD i 0)))).before #[Value.ref b] s = true := fun i hi => by
    match i, hi with
    | 0, _ => exact hs _ (by decide +kernel)
    | 1, _ => exact hs _ (by decide +kernel)
    | 2, _ => exact hs _ (by decide +kernel)
    | 3, _ => exact hs _ (by decide +kernel)
    | 4, _ => exact hs _ (by decide +kernel)
    | 5, _ => exact hs _ (by decide +kernel)
    | 6, _ => exact hs _ (by decide +kernel)
    | i + 7, h => exact absurd h (by omega)
  have hel : ∀ i : Nat, i < 7 → ∀ j : Nat, j < sLn.getD i 0 → (Cond.eq (.elem (.field (tmS i) "java/lang/String" "value" "[B") (.int (Int32.ofNat j))) (.int ((sBy.getD i []).getD j 0))).before #[Value.ref b] s = true := fun i hi => by
    match i, hi with
    | 0, _ =>
      rw [l0]
      intro j hj
      match j, hj with
      | 0, _ => exact hs _ (by decide +kernel)
      | 1, _ => exact hs _ (by decide +kernel)
      | 2, _ => exact hs _ (by decide +kernel)
      | 3, _ => exact hs _ (by decide +kernel)
      | 4, _ => exact hs _ (by decide +kernel)
      | 5, _ => exact hs _ (by decide +kernel)
      | j + 6, h => exact absurd h (by omega)
    | 1, _ =>
      rw [l1]
      intro j hj
      match j, hj with
      | 0, _ => exact hs _ (by decide +kernel)
      | 1, _ => exact hs _ (by decide +kernel)
      | 2, _ => exact hs _ (by decide +kernel)
      | 3, _ => exact hs _ (by decide +kernel)
      | 4, _ => exact hs _ (by decide +kernel)
      | j + 5, h => exact absurd h (by omega)
    | 2, _ =>
      rw [l2]
      intro j hj
      match j, hj with
      | 0, _ => exact hs _ (by decide +kernel)
      | 1, _ => exact hs _ (by decide +kernel)
      | 2, _ => exact hs _ (by decide +kernel)
      | 3, _ => exact hs _ (by decide +kernel)
      | j + 4, h => exact absurd h (by omega)
    | 3, _ =>
      rw [l3]
      intro j hj
      match j, hj with
      | 0, _ => exact hs _ (by decide +kernel)
      | 1, _ => exact hs _ (by decide +kernel)
      | 2, _ => exact hs _ (by decide +kernel)
      | 3, _ => exact hs _ (by decide +kernel)
      | j + 4, h => exact absurd h (by omega)
    | 4, _ =>
      rw [l4]
      intro j hj
      match j, hj with
      | 0, _ => exact hs _ (by decide +kernel)
      | 1, _ => exact hs _ (by decide +kernel)
      | 2, _ => exact hs _ (by decide +kernel)
      | 3, _ => exact hs _ (by decide +kernel)
      | j + 4, h => exact absurd h (by omega)
    | 5, _ =>
      rw [l5]
      intro j hj
      match j, hj with
      | 0, _ => exact hs _ (by decide +kernel)
      | 1, _ => exact hs _ (by decide +kernel)
      | 2, _ => exact hs _ (by decide +kernel)
      | 3, _ => exact hs _ (by decide +kernel)
      | 4, _ => exact hs _ (by decide +kernel)
      | j + 5, h => exact absurd h (by omega)
    | 6, _ =>
      rw [l6]
      intro j hj
      match j, hj with
      | 0, _ => exact hs _ (by decide +kernel)
      | 1, _ => exact hs _ (by decide +kernel)
      | 2, _ => exact hs _ (by decide +kernel)
      | 3, _ => exact hs _ (by decide +kernel)
      | j + 4, h => exact absurd h (by omega)
    | i + 7, h => exact absurd h (by omega)
  have hne : ∀ i j : Nat, i < 7 → j < 7 → i ≠ j → (Cond.not (Cond.eq (tmS i) (tmS j))).before #[Value.ref b] s = true ∨ (Cond.not (Cond.eq (tmS j) (tmS i))).before #[Value.ref b] s = true := fun i j hi hj hij => by
    match i, hi, hij with
    | 0, _, hij =>
      match j, hj, hij with
      | 0, _, h => exact absurd rfl h
      | 1, _, _ => exact Or.inr (hs _ (by decide +kernel))
      | 2, _, _ => exact Or.inr (hs _ (by decide +kernel))
      | 3, _, _ => exact Or.inr (hs _ (by decide +kernel))
      | 4, _, _ => exact Or.inr (hs _ (by decide +kernel))
      | 5, _, _ => exact Or.inr (hs _ (by decide +kernel))
      | 6, _, _ => exact Or.inr (hs _ (by decide +kernel))
      | j + 7, h, _ => exact absurd h (by omega)
    | 1, _, hij =>
      match j, hj, hij with
      | 0, _, _ => exact Or.inl (hs _ (by decide +kernel))
      | 1, _, h => exact absurd rfl h
      | 2, _, _ => exact Or.inl (hs _ (by decide +kernel))
      | 3, _, _ => exact Or.inl (hs _ (by decide +kernel))
      | 4, _, _ => exact Or.inl (hs _ (by decide +kernel))
      | 5, _, _ => exact Or.inr (hs _ (by decide +kernel))
      | 6, _, _ => exact Or.inl (hs _ (by decide +kernel))
      | j + 7, h, _ => exact absurd h (by omega)
    | 2, _, hij =>
      match j, hj, hij with
      | 0, _, _ => exact Or.inl (hs _ (by decide +kernel))
      | 1, _, _ => exact Or.inr (hs _ (by decide +kernel))
      | 2, _, h => exact absurd rfl h
      | 3, _, _ => exact Or.inr (hs _ (by decide +kernel))
      | 4, _, _ => exact Or.inr (hs _ (by decide +kernel))
      | 5, _, _ => exact Or.inr (hs _ (by decide +kernel))
      | 6, _, _ => exact Or.inl (hs _ (by decide +kernel))
      | j + 7, h, _ => exact absurd h (by omega)
    | 3, _, hij =>
      match j, hj, hij with
      | 0, _, _ => exact Or.inl (hs _ (by decide +kernel))
      | 1, _, _ => exact Or.inr (hs _ (by decide +kernel))
      | 2, _, _ => exact Or.inl (hs _ (by decide +kernel))
      | 3, _, h => exact absurd rfl h
      | 4, _, _ => exact Or.inl (hs _ (by decide +kernel))
      | 5, _, _ => exact Or.inr (hs _ (by decide +kernel))
      | 6, _, _ => exact Or.inl (hs _ (by decide +kernel))
      | j + 7, h, _ => exact absurd h (by omega)
    | 4, _, hij =>
      match j, hj, hij with
      | 0, _, _ => exact Or.inl (hs _ (by decide +kernel))
      | 1, _, _ => exact Or.inr (hs _ (by decide +kernel))
      | 2, _, _ => exact Or.inl (hs _ (by decide +kernel))
      | 3, _, _ => exact Or.inr (hs _ (by decide +kernel))
      | 4, _, h => exact absurd rfl h
      | 5, _, _ => exact Or.inr (hs _ (by decide +kernel))
      | 6, _, _ => exact Or.inl (hs _ (by decide +kernel))
      | j + 7, h, _ => exact absurd h (by omega)
    | 5, _, hij =>
      match j, hj, hij with
      | 0, _, _ => exact Or.inl (hs _ (by decide +kernel))
      | 1, _, _ => exact Or.inl (hs _ (by decide +kernel))
      | 2, _, _ => exact Or.inl (hs _ (by decide +kernel))
      | 3, _, _ => exact Or.inl (hs _ (by decide +kernel))
      | 4, _, _ => exact Or.inl (hs _ (by decide +kernel))
      | 5, _, h => exact absurd rfl h
      | 6, _, _ => exact Or.inl (hs _ (by decide +kernel))
      | j + 7, h, _ => exact absurd h (by omega)
    | 6, _, hij =>
      match j, hj, hij with
      | 0, _, _ => exact Or.inl (hs _ (by decide +kernel))
      | 1, _, _ => exact Or.inr (hs _ (by decide +kernel))
      | 2, _, _ => exact Or.inr (hs _ (by decide +kernel))
      | 3, _, _ => exact Or.inr (hs _ (by decide +kernel))
      | 4, _, _ => exact Or.inr (hs _ (by decide +kernel))
      | 5, _, _ => exact Or.inr (hs _ (by decide +kernel))
      | 6, _, h => exact absurd rfl h
      | j + 7, h, _ => exact absurd h (by omega)
    | i + 7, h, _ => exact absurd h (by omega)
  obtain ⟨adK, adV, hS, hE⟩ := vk_Sof (A := fun q => s.heap.size ≤ q) hN hex hco har hle hel hne (fun a h1 h2 => Nat.lt_irrefl _ (Nat.lt_of_lt_of_le h1 h2))
  refine ⟨adK, adV, hS, fun j o i t hj => ?_⟩
  match j, hj with
  | 0, hj => cases hj; exact ⟨by omega, vk_R.of (hts (Cond.stringRef "DearPenFriend$Tape" 45 "pupil") (by decide +kernel)) (hE 5 (by omega))⟩
  | 1, hj => cases hj; exact ⟨by omega, vk_R.of (hts (Cond.stringRef "DearPenFriend$Tape" 54 "likes") (by decide +kernel)) (hE 1 (by omega))⟩
  | 2, hj => cases hj; exact ⟨by omega, vk_R.of (hts (Cond.stringRef "DearPenFriend$Tape" 59 "pair") (by decide +kernel)) (hE 3 (by omega))⟩
  | 3, hj => cases hj; exact ⟨by omega, vk_R.of (hts (Cond.stringRef "DearPenFriend$Tape" 64 "part") (by decide +kernel)) (hE 4 (by omega))⟩
  | 4, hj => cases hj; exact ⟨by omega, vk_R.of (hts (Cond.stringRef "DearPenFriend$Tape" 69 "loss") (by decide +kernel)) (hE 2 (by omega))⟩
  | 5, hj => cases hj; exact ⟨by omega, vk_R.of (hts (Cond.stringRef "DearPenFriend$Tape" 79 "toil") (by decide +kernel)) (hE 6 (by omega))⟩
  | 6, hj => cases hj; exact ⟨by omega, vk_R.of (hts (Cond.stringRef "DearPenFriend$Tape" 83 "friday") (by decide +kernel)) (hE 0 (by omega))⟩
  | 7, hj => cases hj; exact ⟨by omega, vk_R.of (hts (Cond.stringRef "DearPenFriendModel" 200 "pupil") (by decide +kernel)) (va_eqR (hs (Cond.eq (Term.string "DearPenFriend$Tape" 45) (Term.string "DearPenFriendModel" 200)) (by decide +kernel)) (hE 5 (by omega)))⟩
  | 8, hj => cases hj; exact ⟨by omega, vk_R.of (hts (Cond.stringRef "DearPenFriendModel" 206 "likes") (by decide +kernel)) (va_eqR (hs (Cond.eq (Term.string "DearPenFriend$Tape" 54) (Term.string "DearPenFriendModel" 206)) (by decide +kernel)) (hE 1 (by omega)))⟩
  | 9, hj => cases hj; exact ⟨by omega, vk_R.of (hts (Cond.stringRef "DearPenFriendModel" 208 "pair") (by decide +kernel)) (va_eqR (hs (Cond.eq (Term.string "DearPenFriend$Tape" 59) (Term.string "DearPenFriendModel" 208)) (by decide +kernel)) (hE 3 (by omega)))⟩
  | 10, hj => cases hj; exact ⟨by omega, vk_R.of (hts (Cond.stringRef "DearPenFriendModel" 214 "part") (by decide +kernel)) (va_eqR (hs (Cond.eq (Term.string "DearPenFriend$Tape" 64) (Term.string "DearPenFriendModel" 214)) (by decide +kernel)) (hE 4 (by omega)))⟩
  | 11, hj => cases hj; exact ⟨by omega, vk_R.of (hts (Cond.stringRef "DearPenFriendModel" 216 "loss") (by decide +kernel)) (va_eqR (hs (Cond.eq (Term.string "DearPenFriend$Tape" 69) (Term.string "DearPenFriendModel" 216)) (by decide +kernel)) (hE 2 (by omega)))⟩
  | 12, hj => cases hj; exact ⟨by omega, vk_R.of (hts (Cond.stringRef "DearPenFriendModel" 221 "toil") (by decide +kernel)) (va_eqR (hs (Cond.eq (Term.string "DearPenFriend$Tape" 79) (Term.string "DearPenFriendModel" 221)) (by decide +kernel)) (hE 6 (by omega)))⟩
  | 13, hj => cases hj; exact ⟨by omega, vk_R.of (hts (Cond.stringRef "DearPenFriendModel" 223 "friday") (by decide +kernel)) (va_eqR (hs (Cond.eq (Term.string "DearPenFriend$Tape" 83) (Term.string "DearPenFriendModel" 223)) (by decide +kernel)) (hE 0 (by omega)))⟩
  | j + 14, hj => cases hj
