/-! numbers: the machine's ints as integers -/
theorem zI_add (a b : Int) : zI a + zI b = zI (a + b) := (Int32.ofInt_add a b).symm
theorem zI_sub (a b : Int) : zI a - zI b = zI (a - b) := (Int32.ofInt_sub a b).symm
theorem zI_mul (a b : Int) : zI a * zI b = zI (a * b) := (Int32.ofInt_mul a b).symm
theorem zI_neg (a : Int) : - zI a = zI (-a) := (Int32.ofInt_neg a).symm
theorem zI_toInt {a : Int} (h1 : -2147483648 ≤ a) (h2 : a < 2147483648) : (zI a).toInt = a := Int32.toInt_ofInt_of_le h1 (by omega)
theorem zI_self (x : Int32) : zI x.toInt = x := Int32.ofInt_toInt x
theorem zI_eq {a b : Int} (h1 : -2147483648 ≤ a) (h2 : a < 2147483648) (h3 : -2147483648 ≤ b) (h4 : b < 2147483648) : (zI a = zI b) = (a = b) := by
  apply propext
  constructor
  · intro h
    have := congrArg Int32.toInt h
    rwa [zI_toInt h1 h2, zI_toInt h3 h4] at this
  · intro h; rw [h]
theorem zI_lt {a b : Int} (h1 : -2147483648 ≤ a) (h2 : a < 2147483648) (h3 : -2147483648 ≤ b) (h4 : b < 2147483648) : (zI a < zI b) = (a < b) := by
  apply propext
  rw [Int32.lt_iff_toInt_lt, zI_toInt h1 h2, zI_toInt h3 h4]
theorem zI_tn {a : Int} (h1 : 0 ≤ a) (h2 : a < 2147483648) : (zI a).toNatClampNeg = a.toNat := by
  show (zI a).toInt.toNat = _
  rw [zI_toInt (by omega) h2]
theorem zI_div {a b : Int} (h1 : 0 ≤ a) (h2 : a < 2147483648) (h3 : 0 < b) (h4 : b < 2147483648) : zI a / zI b = zI (a / b) := by
  apply Int32.toInt_inj.mp
  have hq : 0 ≤ a / b := Int.ediv_nonneg h1 (by omega)
  have hq2 : a / b ≤ a := Int.ediv_le_self b h1
  rw [Int32.toInt_div_of_ne_left, zI_toInt (by omega) h2, zI_toInt (by omega) h4, zI_toInt (by omega) (by omega), Int.tdiv_eq_ediv_of_nonneg h1]
  intro h
  have := congrArg Int32.toInt h
  rw [zI_toInt (by omega) h2] at this
  have hm : Int32.minValue.toInt = -2147483648 := rfl
  rw [hm] at this
  omega
/-- a fold over places -/
def fN {α : Type} (f : Nat → α → α) (k i : Nat) (a : α) : α := match k with
  | 0 => a
  | k + 1 => fN f k (i + 1) (f i a)
theorem loopN {α β : Type} (P : Nat → α → β) (f : Nat → α → α) (n : Nat) (h : ∀ i a, i < n → P i a = P (i + 1) (f i a)) : ∀ (k i : Nat) (a : α), i + k = n → P i a = P n (fN f k i a) := by
  intro k
  induction k with
  | zero => intro i a hi; rw [show i = n by omega]; rfl
  | succ k ih => intro i a hi; rw [h i a (by omega), ih (i + 1) (f i a) (by omega)]; rfl
theorem gfA_i (ci k : Nat) (fs : List Value) : gfA (.inl (ci, fs)) ci k = fs[k]? := if_pos rfl
theorem pfA_i (ci k : Nat) (fs : List Value) (v : Value) : pfA (.inl (ci, fs)) ci k v = if k < fs.length then some (.inl (ci, fs.set k v)) else none := by
  unfold pfA
  by_cases h : k < fs.length
  · rw [if_pos h]; exact if_pos ⟨rfl, h⟩
  · rw [if_neg h]; exact if_neg (fun q => h q.2)
theorem ldI_0 {n : Nat} {f : Nat → Int32} {a : Int} (h1 : 0 ≤ a) (h2 : a < n) (h3 : n < 2147483648) : ldI (.inr (0, n, .inl f)) (zI a) = some (.int (f a.toNat)) := by
  unfold ldI
  dsimp only
  rw [if_pos ⟨Or.inl rfl, by rw [zI_toInt (by omega) (by omega)]; exact h1, by rw [zI_toInt (by omega) (by omega)]; exact h2⟩, zI_tn h1 (by omega)]
theorem ldQ_q {t n : Nat} {f : Nat → Option Nat} {a : Int} (ht : t = 2 ∨ t = 3 ∨ t = 4) (h1 : 0 ≤ a) (h2 : a < n) (h3 : n < 2147483648) : ldQ (.inr (t, n, .inr (.inr f))) (zI a) = some (va_rf (f a.toNat)) := by
  unfold ldQ
  dsimp only
  rw [if_pos ⟨ht, by rw [zI_toInt (by omega) (by omega)]; exact h1, by rw [zI_toInt (by omega) (by omega)]; exact h2⟩, zI_tn h1 (by omega)]
theorem lenA_i {t n : Nat} {f : (Nat → Int32) ⊕ (Nat → Int64) ⊕ (Nat → Option Nat)} (ht : t < 8) : lenA (.inr (t, n, f)) = some n := if_pos ht
theorem isC_i (ci : Nat) (fs : List Value) : isC (.inl (ci, fs)) ci = true := by simp [isC]
theorem rcv_r {M : AM} {ci a : Nat} {as : List Value} (h : ¬ ci = 90) : rcv M ci (.ref a :: as) = isC (M.2.2 a) ci := if_neg h
theorem va_rf_n : va_rf none = .null := rfl
theorem va_rf_s (a : Nat) : va_rf (some a) = .ref a := rfl
/-! the schools: S f i is field f of pupil i (0 kind, 1 a, 2 school, 3 likes, 4 friend, 5 owes, 6 silent, 7 length); S 8 0 how many, S 8 1 loss, 2 toil, 3 friday, 4 week, 5 seed -/
abbrev Sc : Type := Nat → Nat → Int
def sU (S : Sc) (f i : Nat) (v : Int) : Sc := fun g j => if g = f ∧ j = i then v else S g j
def frO (S : Sc) (o i : Nat) : Option Nat := if (i : Int) < S 8 0 ∧ 0 ≤ S 4 i then some (o + 2 + (S 4 i).toNat) else none
def hrI (S : Sc) (i : Nat) : Int := if (i : Int) < S 8 0 then 1 else 0
def pcl (S : Sc) (o i : Nat) : AC := .inl (1, [.int (zI i), .int (zI (hrI S i)), .int (zI (S 0 i)), .int (zI (S 1 i)), .int (zI (S 2 i)), .int (zI (S 3 i)), va_rf (frO S o i), .int (zI (S 5 i)), .int (zI (S 6 i)), .int (zI (S 7 i))])
def RS (M : AM) (o : Nat) (S : Sc) : Prop :=
  M.2.2 o = .inl (2, [.ref (o + 1), .int (zI (S 8 0)), .int (zI (S 8 1)), .int (zI (S 8 2)), .int (zI (S 8 3)), .int (zI (S 8 4)), .int (zI (S 8 5))]) ∧
  M.2.2 (o + 1) = .inr (2, 12, .inr (.inr fun i => if i < 12 then some (o + 2 + i) else none)) ∧
  ∀ i, i < 12 → M.2.2 (o + 2 + i) = pcl S o i
/-- what is always so of the schools -/
def In (S : Sc) : Prop :=
  (0 ≤ S 8 0 ∧ S 8 0 ≤ 12) ∧ (0 ≤ S 8 1 ∧ S 8 1 ≤ 12) ∧ (0 ≤ S 8 2 ∧ S 8 2 ≤ 9) ∧ (0 ≤ S 8 3 ∧ S 8 3 ≤ 1) ∧
  (∀ i : Nat, (0 ≤ S 0 i ∧ S 0 i ≤ 5) ∧ (0 ≤ S 1 i ∧ S 1 i ≤ 9) ∧ (0 ≤ S 2 i ∧ S 2 i ≤ 1) ∧ (0 ≤ S 3 i ∧ S 3 i ≤ 255) ∧ (-1 ≤ S 4 i ∧ S 4 i ≤ 11) ∧ (0 ≤ S 5 i ∧ S 5 i ≤ 1) ∧ (0 ≤ S 6 i ∧ S 6 i ≤ 99) ∧ (0 ≤ S 7 i ∧ S 7 i ≤ 99)) ∧
  (∀ (f i : Nat), f < 8 → S 8 0 ≤ i → S f i = 0) ∧
  (∀ i : Nat, (i : Int) < S 8 0 → 0 ≤ S 4 i → S 4 i < S 8 0 ∧ S 4 (S 4 i).toNat = i ∧ S 2 (S 4 i).toNat = 1 - S 2 i ∧ S 5 (S 4 i).toNat = 1 - S 5 i) ∧
  (∀ i : Nat, (i : Int) < S 8 0 → S 4 i < 0 → S 5 i = 0)
def ldr (S : Sc) (i : Nat) : Prop := (i : Int) < S 8 0 ∧ S 2 i = 0 ∧ 0 ≤ S 4 i
def ldD (S : Sc) (i : Nat) : Decidable (ldr S i) := inferInstanceAs (Decidable (_ ∧ _ ∧ _))
def ldB (S : Sc) (i : Nat) : Int := if (i : Int) < S 8 0 ∧ S 2 i = 0 ∧ 0 ≤ S 4 i then 1 else 0
