/-! the checks of method 0, twenty instructions at a time -/
theorem all_ck {α : Type} {f : α → Bool} (n : Nat) : ∀ (m : Nat) (l : List α), (∀ k, k < m → ((l.drop (n * k)).take n).all f = true) → l.length ≤ n * m → l.all f = true := by
  intro m
  induction m with
  | zero =>
    intro l _ hl
    have : l = [] := List.length_eq_zero_iff.mp (by omega)
    rw [this]; rfl
  | succ m ih =>
    intro l h hl
    have h0 := h 0 (by omega)
    rw [Nat.mul_zero, List.drop_zero] at h0
    rw [← List.take_append_drop n l, List.all_append, Bool.and_eq_true]
    refine ⟨h0, ih (l.drop n) (fun k hk => ?_) (by rw [List.length_drop, Nat.mul_succ] at *; omega)⟩
    have h1 := h (k + 1) (by omega)
    rw [List.drop_drop, show n + n * k = n * (k + 1) by rw [Nat.mul_succ]; omega]
    exact h1
set_option maxRecDepth 100000 in
theorem ck_0_0 : (((tab 0).drop (20 * 0)).take 20).all (chE 0) = true := by decide +kernel
set_option maxRecDepth 100000 in
theorem ck_0_1 : (((tab 0).drop (20 * 1)).take 20).all (chE 0) = true := by decide +kernel
set_option maxRecDepth 100000 in
theorem ck_0_2 : (((tab 0).drop (20 * 2)).take 20).all (chE 0) = true := by decide +kernel
set_option maxRecDepth 100000 in
theorem ck_0_3 : (((tab 0).drop (20 * 3)).take 20).all (chE 0) = true := by decide +kernel
set_option maxRecDepth 100000 in
theorem ck_0_4 : (((tab 0).drop (20 * 4)).take 20).all (chE 0) = true := by decide +kernel
set_option maxRecDepth 100000 in
theorem ck_0_5 : (((tab 0).drop (20 * 5)).take 20).all (chE 0) = true := by decide +kernel
set_option maxRecDepth 100000 in
theorem ck_0_6 : (((tab 0).drop (20 * 6)).take 20).all (chE 0) = true := by decide +kernel
set_option maxRecDepth 100000 in
theorem ck_0_7 : (((tab 0).drop (20 * 7)).take 20).all (chE 0) = true := by decide +kernel
set_option maxRecDepth 100000 in
theorem ck_0_8 : (((tab 0).drop (20 * 8)).take 20).all (chE 0) = true := by decide +kernel
set_option maxRecDepth 100000 in
theorem ck_0_9 : (((tab 0).drop (20 * 9)).take 20).all (chE 0) = true := by decide +kernel
set_option maxRecDepth 100000 in
theorem ck_0_10 : (((tab 0).drop (20 * 10)).take 20).all (chE 0) = true := by decide +kernel
set_option maxRecDepth 100000 in
theorem ck_0_11 : (((tab 0).drop (20 * 11)).take 20).all (chE 0) = true := by decide +kernel
set_option maxRecDepth 100000 in
theorem ck_0_12 : (((tab 0).drop (20 * 12)).take 20).all (chE 0) = true := by decide +kernel
set_option maxRecDepth 100000 in
theorem ck_0_13 : (((tab 0).drop (20 * 13)).take 20).all (chE 0) = true := by decide +kernel
set_option maxRecDepth 100000 in
theorem ck_0_14 : (((tab 0).drop (20 * 14)).take 20).all (chE 0) = true := by decide +kernel
set_option maxRecDepth 100000 in
theorem ck_0_15 : (((tab 0).drop (20 * 15)).take 20).all (chE 0) = true := by decide +kernel
set_option maxRecDepth 100000 in
theorem ck_0_16 : (((tab 0).drop (20 * 16)).take 20).all (chE 0) = true := by decide +kernel
set_option maxRecDepth 100000 in
theorem ck_0_17 : (((tab 0).drop (20 * 17)).take 20).all (chE 0) = true := by decide +kernel
set_option maxRecDepth 100000 in
theorem ck_0_18 : (((tab 0).drop (20 * 18)).take 20).all (chE 0) = true := by decide +kernel
set_option maxRecDepth 100000 in
theorem ck_0_19 : (((tab 0).drop (20 * 19)).take 20).all (chE 0) = true := by decide +kernel
set_option maxRecDepth 100000 in
theorem ck_0_20 : (((tab 0).drop (20 * 20)).take 20).all (chE 0) = true := by decide +kernel
set_option maxRecDepth 100000 in
theorem ck_0_21 : (((tab 0).drop (20 * 21)).take 20).all (chE 0) = true := by decide +kernel
set_option maxRecDepth 100000 in
theorem ck_0_22 : (((tab 0).drop (20 * 22)).take 20).all (chE 0) = true := by decide +kernel
set_option maxRecDepth 100000 in
theorem ck_0_23 : (((tab 0).drop (20 * 23)).take 20).all (chE 0) = true := by decide +kernel
set_option maxRecDepth 100000 in
theorem ck_0_24 : (((tab 0).drop (20 * 24)).take 20).all (chE 0) = true := by decide +kernel
set_option maxRecDepth 100000 in
theorem ck_0_25 : (((tab 0).drop (20 * 25)).take 20).all (chE 0) = true := by decide +kernel
set_option maxRecDepth 100000 in
theorem ck_0_26 : (((tab 0).drop (20 * 26)).take 20).all (chE 0) = true := by decide +kernel
set_option maxRecDepth 100000 in
theorem ck_0_27 : (((tab 0).drop (20 * 27)).take 20).all (chE 0) = true := by decide +kernel
set_option maxRecDepth 100000 in
theorem ck_0_28 : (((tab 0).drop (20 * 28)).take 20).all (chE 0) = true := by decide +kernel
set_option maxRecDepth 100000 in
theorem ck_0_29 : (((tab 0).drop (20 * 29)).take 20).all (chE 0) = true := by decide +kernel
set_option maxRecDepth 100000 in
theorem ck_0_30 : (((tab 0).drop (20 * 30)).take 20).all (chE 0) = true := by decide +kernel
set_option maxRecDepth 100000 in
theorem ck_0_31 : (((tab 0).drop (20 * 31)).take 20).all (chE 0) = true := by decide +kernel
set_option maxRecDepth 100000 in
theorem ck_0_32 : (((tab 0).drop (20 * 32)).take 20).all (chE 0) = true := by decide +kernel
set_option maxRecDepth 100000 in
theorem ck_0_33 : (((tab 0).drop (20 * 33)).take 20).all (chE 0) = true := by decide +kernel
set_option maxRecDepth 100000 in
theorem ck_0_34 : (((tab 0).drop (20 * 34)).take 20).all (chE 0) = true := by decide +kernel
set_option maxRecDepth 100000 in
theorem ck_0_35 : (((tab 0).drop (20 * 35)).take 20).all (chE 0) = true := by decide +kernel
set_option maxRecDepth 100000 in
theorem ck_0_36 : (((tab 0).drop (20 * 36)).take 20).all (chE 0) = true := by decide +kernel
set_option maxRecDepth 100000 in
theorem ck_0_37 : (((tab 0).drop (20 * 37)).take 20).all (chE 0) = true := by decide +kernel
set_option maxRecDepth 100000 in
theorem ck_0_38 : (((tab 0).drop (20 * 38)).take 20).all (chE 0) = true := by decide +kernel
set_option maxRecDepth 100000 in
theorem ck_0_39 : (((tab 0).drop (20 * 39)).take 20).all (chE 0) = true := by decide +kernel
set_option maxRecDepth 100000 in
theorem ck_0_40 : (((tab 0).drop (20 * 40)).take 20).all (chE 0) = true := by decide +kernel
set_option maxRecDepth 100000 in
theorem ck_0_41 : (((tab 0).drop (20 * 41)).take 20).all (chE 0) = true := by decide +kernel
set_option maxRecDepth 100000 in
theorem ck_0_42 : (((tab 0).drop (20 * 42)).take 20).all (chE 0) = true := by decide +kernel
set_option maxRecDepth 100000 in
theorem ck_0_43 : (((tab 0).drop (20 * 43)).take 20).all (chE 0) = true := by decide +kernel
set_option maxRecDepth 100000 in
theorem ck_0_44 : (((tab 0).drop (20 * 44)).take 20).all (chE 0) = true := by decide +kernel
set_option maxRecDepth 100000 in
theorem ck_0_45 : (((tab 0).drop (20 * 45)).take 20).all (chE 0) = true := by decide +kernel
set_option maxRecDepth 100000 in
theorem ck_0_46 : (((tab 0).drop (20 * 46)).take 20).all (chE 0) = true := by decide +kernel
set_option maxRecDepth 100000 in
theorem ck_0_47 : (((tab 0).drop (20 * 47)).take 20).all (chE 0) = true := by decide +kernel
set_option maxRecDepth 100000 in
theorem ck_0_48 : (((tab 0).drop (20 * 48)).take 20).all (chE 0) = true := by decide +kernel
set_option maxRecDepth 100000 in
theorem ck_0_49 : (((tab 0).drop (20 * 49)).take 20).all (chE 0) = true := by decide +kernel
set_option maxRecDepth 100000 in
theorem ck_0_50 : (((tab 0).drop (20 * 50)).take 20).all (chE 0) = true := by decide +kernel
set_option maxRecDepth 100000 in
theorem ck_0_51 : (((tab 0).drop (20 * 51)).take 20).all (chE 0) = true := by decide +kernel
set_option maxRecDepth 100000 in
theorem ck_0_52 : (((tab 0).drop (20 * 52)).take 20).all (chE 0) = true := by decide +kernel
set_option maxRecDepth 100000 in
theorem ck_0_53 : (((tab 0).drop (20 * 53)).take 20).all (chE 0) = true := by decide +kernel
set_option maxRecDepth 100000 in
theorem ck_0_54 : (((tab 0).drop (20 * 54)).take 20).all (chE 0) = true := by decide +kernel
set_option maxRecDepth 100000 in
theorem ck_0_55 : (((tab 0).drop (20 * 55)).take 20).all (chE 0) = true := by decide +kernel
set_option maxRecDepth 100000 in
theorem ck_0_56 : (((tab 0).drop (20 * 56)).take 20).all (chE 0) = true := by decide +kernel
set_option maxRecDepth 100000 in
theorem ck_0_57 : (((tab 0).drop (20 * 57)).take 20).all (chE 0) = true := by decide +kernel
set_option maxRecDepth 100000 in
theorem ck_0_58 : (((tab 0).drop (20 * 58)).take 20).all (chE 0) = true := by decide +kernel
set_option maxRecDepth 100000 in
theorem ck_0_59 : (((tab 0).drop (20 * 59)).take 20).all (chE 0) = true := by decide +kernel
theorem ck_0 : (tab 0).all (chE 0) = true := by
  refine all_ck 20 60 _ (fun k hk => ?_) (by decide +kernel)
  match k, hk with
  | 0, _ => exact ck_0_0
  | 1, _ => exact ck_0_1
  | 2, _ => exact ck_0_2
  | 3, _ => exact ck_0_3
  | 4, _ => exact ck_0_4
  | 5, _ => exact ck_0_5
  | 6, _ => exact ck_0_6
  | 7, _ => exact ck_0_7
  | 8, _ => exact ck_0_8
  | 9, _ => exact ck_0_9
  | 10, _ => exact ck_0_10
  | 11, _ => exact ck_0_11
  | 12, _ => exact ck_0_12
  | 13, _ => exact ck_0_13
  | 14, _ => exact ck_0_14
  | 15, _ => exact ck_0_15
  | 16, _ => exact ck_0_16
  | 17, _ => exact ck_0_17
  | 18, _ => exact ck_0_18
  | 19, _ => exact ck_0_19
  | 20, _ => exact ck_0_20
  | 21, _ => exact ck_0_21
  | 22, _ => exact ck_0_22
  | 23, _ => exact ck_0_23
  | 24, _ => exact ck_0_24
  | 25, _ => exact ck_0_25
  | 26, _ => exact ck_0_26
  | 27, _ => exact ck_0_27
  | 28, _ => exact ck_0_28
  | 29, _ => exact ck_0_29
  | 30, _ => exact ck_0_30
  | 31, _ => exact ck_0_31
  | 32, _ => exact ck_0_32
  | 33, _ => exact ck_0_33
  | 34, _ => exact ck_0_34
  | 35, _ => exact ck_0_35
  | 36, _ => exact ck_0_36
  | 37, _ => exact ck_0_37
  | 38, _ => exact ck_0_38
  | 39, _ => exact ck_0_39
  | 40, _ => exact ck_0_40
  | 41, _ => exact ck_0_41
  | 42, _ => exact ck_0_42
  | 43, _ => exact ck_0_43
  | 44, _ => exact ck_0_44
  | 45, _ => exact ck_0_45
  | 46, _ => exact ck_0_46
  | 47, _ => exact ck_0_47
  | 48, _ => exact ck_0_48
  | 49, _ => exact ck_0_49
  | 50, _ => exact ck_0_50
  | 51, _ => exact ck_0_51
  | 52, _ => exact ck_0_52
  | 53, _ => exact ck_0_53
  | 54, _ => exact ck_0_54
  | 55, _ => exact ck_0_55
  | 56, _ => exact ck_0_56
  | 57, _ => exact ck_0_57
  | 58, _ => exact ck_0_58
  | 59, _ => exact ck_0_59
  | k + 60, h => exact absurd h (by omega)
