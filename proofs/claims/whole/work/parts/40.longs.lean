/-! long numbers -/
theorem zJ_add (a b : Int) : zJ a + zJ b = zJ (a + b) := (Int64.ofInt_add a b).symm
theorem zJ_sub (a b : Int) : zJ a - zJ b = zJ (a - b) := (Int64.ofInt_sub a b).symm
theorem zJ_mul (a b : Int) : zJ a * zJ b = zJ (a * b) := (Int64.ofInt_mul a b).symm
theorem zJ_toInt {a : Int} (h1 : -9223372036854775808 ≤ a) (h2 : a < 9223372036854775808) : (zJ a).toInt = a := Int64.toInt_ofInt_of_le h1 (by omega)
theorem zJ_self (x : Int64) : zJ x.toInt = x := Int64.ofInt_toInt x
theorem i2J {a : Int} (h1 : -2147483648 ≤ a) (h2 : a < 2147483648) : (zI a).toInt64 = zJ a := by
  apply Int64.toInt_inj.mp
  rw [Int32.toInt_toInt64, zI_toInt h1 h2, zJ_toInt (by omega) (by omega)]
theorem J2i (a : Int) : (zJ a).toInt32 = zI a := Int64.toInt32_ofInt
theorem zJ_eq {a b : Int} (h1 : -9223372036854775808 ≤ a) (h2 : a < 9223372036854775808) (h3 : -9223372036854775808 ≤ b) (h4 : b < 9223372036854775808) : (zJ a = zJ b) = (a = b) := by
  apply propext
  constructor
  · intro h
    have := congrArg Int64.toInt h
    rwa [zJ_toInt h1 h2, zJ_toInt h3 h4] at this
  · intro h; rw [h]
theorem zJ_div {a b : Int} (h1 : 0 ≤ a) (h2 : a < 9223372036854775808) (h3 : 0 < b) (h4 : b < 9223372036854775808) : zJ a / zJ b = zJ (a / b) := by
  apply Int64.toInt_inj.mp
  have hq : 0 ≤ a / b := Int.ediv_nonneg h1 (by omega)
  have hq2 : a / b ≤ a := Int.ediv_le_self b h1
  rw [Int64.toInt_div_of_ne_left, zJ_toInt (by omega) h2, zJ_toInt (by omega) h4, zJ_toInt (by omega) (by omega), Int.tdiv_eq_ediv_of_nonneg h1]
  intro h
  have := congrArg Int64.toInt h
  rw [zJ_toInt (by omega) h2] at this
  have hm : Int64.minValue.toInt = -9223372036854775808 := rfl
  rw [hm] at this
  omega
theorem lc_lt (x y : Int64) : (lg_cmp x y < zI 0) = (x.toInt < y.toInt) := by
  rw [zI_0]
  exact propext ((lg_cmp_lt x y).trans Int64.lt_iff_toInt_lt)
theorem lc_gt (x y : Int64) : (zI 0 < lg_cmp x y) = (y.toInt < x.toInt) := by
  rw [zI_0]
  exact propext ((lg_cmp_gt x y).trans Int64.lt_iff_toInt_lt)
theorem lc_eq (x y : Int64) : (lg_cmp x y = zI 0) = (x.toInt = y.toInt) := by
  rw [zI_0]
  apply propext
  have h1 := lg_cmp_le x y
  have h2 := lg_cmp_ge x y
  rw [Int64.le_iff_toInt_le] at h1 h2
  rw [Int32.le_iff_toInt_le] at h1 h2
  rw [← Int32.toInt_inj]
  have h0 : (0 : Int32).toInt = 0 := rfl
  rw [h0] at h1 h2 ⊢
  omega
theorem ldJ_1 {n : Nat} {f : Nat → Int64} {a : Int} (h1 : 0 ≤ a) (h2 : a < n) (h3 : n < 2147483648) : ldJ (.inr (1, n, .inr (.inl f))) (zI a) = some (.long (f a.toNat)) := by
  unfold ldJ
  dsimp only
  rw [if_pos ⟨rfl, by rw [zI_toInt (by omega) (by omega)]; exact h1, by rw [zI_toInt (by omega) (by omega)]; exact h2⟩, zI_tn h1 (by omega)]
theorem stJ_1 {n : Nat} {f : Nat → Int64} {a : Int} {x : Int64} (h1 : 0 ≤ a) (h2 : a < n) (h3 : n < 2147483648) : stJ (.inr (1, n, .inr (.inl f))) (zI a) x = some (.inr (1, n, .inr (.inl (vp_updL f a.toNat x)))) := by
  unfold stJ
  dsimp only
  rw [if_pos ⟨rfl, by rw [zI_toInt (by omega) (by omega)]; exact h1, by rw [zI_toInt (by omega) (by omega)]; exact h2⟩, zI_tn h1 (by omega)]
theorem stI_0 {n : Nat} {f : Nat → Int32} {a : Int} {x : Int32} (h1 : 0 ≤ a) (h2 : a < n) (h3 : n < 2147483648) : stI (.inr (0, n, .inl f)) (zI a) x = some (.inr (0, n, .inl (upd f a.toNat x))) := by
  unfold stI
  dsimp only
  rw [if_pos ⟨rfl, by rw [zI_toInt (by omega) (by omega)]; exact h1, by rw [zI_toInt (by omega) (by omega)]; exact h2⟩, zI_tn h1 (by omega)]
theorem stQ_n {M : AM} {t n : Nat} {f : Nat → Option Nat} {a : Int} (ht : t = 2 ∨ t = 3) (h1 : 0 ≤ a) (h2 : a < n) (h3 : n < 2147483648) : stQ M (.inr (t, n, .inr (.inr f))) (zI a) .null = some (.inr (t, n, .inr (.inr (va_up f a.toNat none)))) := by
  unfold stQ
  dsimp only
  rw [if_pos ⟨ht, by rw [zI_toInt (by omega) (by omega)]; exact h1, by rw [zI_toInt (by omega) (by omega)]; exact h2⟩, zI_tn h1 (by omega)]
theorem stQ_r {M : AM} {t n q : Nat} {f : Nat → Option Nat} {a : Int} (ht : t = 2 ∨ t = 3) (h1 : 0 ≤ a) (h2 : a < n) (h3 : n < 2147483648) (hq : isC (M.2.2 q) (elc t) = true) : stQ M (.inr (t, n, .inr (.inr f))) (zI a) (.ref q) = some (.inr (t, n, .inr (.inr (va_up f a.toNat (some q))))) := by
  unfold stQ
  dsimp only
  rw [if_pos ⟨ht, by rw [zI_toInt (by omega) (by omega)]; exact h1, by rw [zI_toInt (by omega) (by omega)]; exact h2⟩, zI_tn h1 (by omega), if_pos hq]
