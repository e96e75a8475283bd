/-! who gets whom: the pure part, and the reference's search -/
def dF (S : Sc) (r : Nat) (col : Nat → Nat) (Vn : (Nat → Int) → Int) (u : Nat → Int) (j : Nat) (a : Int × Int) : Int × Int :=
  if u j = 0 ∧ a.1 < 8 * cm S r (col j) + 1 + Vn (va_up u j 1) then (8 * cm S r (col j) + 1 + Vn (va_up u j 1), (j : Int)) else a
def dV (S : Sc) (row col : Nat → Nat) (cc m : Nat) (k : Nat) : (Nat → Int) → Int × Int := match k with
  | 0 => fun _ => (0, -1)
  | k + 1 => fun u => fN (dF S (row (m - (k + 1))) col (fun u' => (dV S row col cc m k u').1) u) cc 0 ((dV S row col cc m k u).1, -1)
/-- what a choice comes to: how much, how many, who for each row -/
def pc (S : Sc) (row col : Nat → Nat) (i : Nat) (pk : (Nat → Int) → Int × Int × (Nat → Int)) (u : Nat → Int) (c : Int) : Int × Int × (Nat → Int) :=
  if c < 0 then ((pk u).1, (pk u).2.1, va_up (pk u).2.2 i (-1)) else (cm S (row i) (col c.toNat) + (pk (va_up u c.toNat 1)).1, 1 + (pk (va_up u c.toNat 1)).2.1, va_up (pk (va_up u c.toNat 1)).2.2 i (col c.toNat))
def pt (S : Sc) (row col : Nat → Nat) (cc m : Nat) (k : Nat) : (Nat → Int) → Int × Int × (Nat → Int) := match k with
  | 0 => fun _ => (0, 0, fun _ => -1)
  | k + 1 => fun u => pc S row col (m - (k + 1)) (pt S row col cc m k) u (dV S row col cc m (k + 1) u).2
section DV
variable {S : Sc} {row col : Nat → Nat} {cc m : Nat}
theorem va_up_at {α : Type} (f : Nat → α) (j : Nat) (x : α) : va_up f j x j = x := va_up_self f j x
theorem dF_ext {r : Nat} {Vn Vn' : (Nat → Int) → Int} {u u' : Nat → Int} (hu : ∀ j, j < cc → u j = u' j) (hV : ∀ j, j < cc → Vn (va_up u j 1) = Vn' (va_up u' j 1)) : ∀ (k i : Nat) (a : Int × Int), i + k ≤ cc → fN (dF S r col Vn u) k i a = fN (dF S r col Vn' u') k i a := by
  intro k
  induction k with
  | zero => intro i a _; rfl
  | succ k ih =>
    intro i a hi
    have e : dF S r col Vn u i a = dF S r col Vn' u' i a := by
      unfold dF
      rw [hu i (by omega), hV i (by omega)]
    show fN (dF S r col Vn u) k (i + 1) (dF S r col Vn u i a) = fN (dF S r col Vn' u') k (i + 1) (dF S r col Vn' u' i a)
    rw [e]
    exact ih (i + 1) _ (by omega)
theorem up_ext {u u' : Nat → Int} {j : Nat} (hu : ∀ j, j < cc → u j = u' j) : ∀ x, x < cc → va_up u j 1 x = va_up u' j 1 x := fun x hx => by
  unfold va_up
  split
  · rfl
  · exact hu x hx
theorem dV_ext : ∀ (k : Nat) (u u' : Nat → Int), (∀ j, j < cc → u j = u' j) → dV S row col cc m k u = dV S row col cc m k u' := by
  intro k
  induction k with
  | zero => intro u u' _; rfl
  | succ k ih =>
    intro u u' hu
    show fN (dF S (row (m - (k + 1))) col (fun u' => (dV S row col cc m k u').1) u) cc 0 ((dV S row col cc m k u).1, -1) = fN (dF S (row (m - (k + 1))) col (fun u' => (dV S row col cc m k u').1) u') cc 0 ((dV S row col cc m k u').1, -1)
    rw [ih u u' hu]
    refine dF_ext hu (fun j hj => ?_) cc 0 _ (by omega)
    show (dV S row col cc m k (va_up u j 1)).1 = (dV S row col cc m k (va_up u' j 1)).1
    rw [ih _ _ (up_ext hu)]
/-- what a choice is worth -/
def cvl (S : Sc) (r : Nat) (col : Nat → Nat) (Vn : (Nat → Int) → Int) (u : Nat → Int) (cc : Nat) (a : Int × Int) : Prop :=
  (a.2 = -1 ∧ a.1 = Vn u) ∨ ∃ j, j < cc ∧ a.2 = (j : Int) ∧ u j = 0 ∧ a.1 = 8 * cm S r (col j) + 1 + Vn (va_up u j 1)
theorem dF_or {r : Nat} {Vn : (Nat → Int) → Int} {u : Nat → Int} : ∀ (k i : Nat) (a : Int × Int), i + k ≤ cc → cvl S r col Vn u cc a → cvl S r col Vn u cc (fN (dF S r col Vn u) k i a) := by
  intro k
  induction k with
  | zero => intro i a _ h; exact h
  | succ k ih =>
    intro i a hi h
    refine ih (i + 1) _ (by omega) ?_
    unfold dF
    split
    · rename_i q
      exact Or.inr ⟨i, by omega, rfl, q.1, rfl⟩
    · exact h
theorem dV_or (k : Nat) (u : Nat → Int) : cvl S (row (m - (k + 1))) col (fun u' => (dV S row col cc m k u').1) u cc (dV S row col cc m (k + 1) u) :=
  dF_or cc 0 _ (by omega) (Or.inl ⟨rfl, rfl⟩)
theorem pt_ext : ∀ (k : Nat) (u u' : Nat → Int), (∀ j, j < cc → u j = u' j) → pt S row col cc m k u = pt S row col cc m k u' := by
  intro k
  induction k with
  | zero => intro u u' _; rfl
  | succ k ih =>
    intro u u' hu
    show pc S row col (m - (k + 1)) (pt S row col cc m k) u (dV S row col cc m (k + 1) u).2 = pc S row col (m - (k + 1)) (pt S row col cc m k) u' (dV S row col cc m (k + 1) u').2
    rw [dV_ext (k + 1) u u' hu]
    unfold pc
    rw [ih u u' hu, ih _ _ (up_ext hu)]
theorem pt_V : ∀ (k : Nat) (u : Nat → Int), (dV S row col cc m k u).1 = 8 * (pt S row col cc m k u).1 + (pt S row col cc m k u).2.1 := by
  intro k
  induction k with
  | zero => intro u; rfl
  | succ k ih =>
    intro u
    show _ = 8 * (pc S row col (m - (k + 1)) (pt S row col cc m k) u (dV S row col cc m (k + 1) u).2).1 + (pc S row col (m - (k + 1)) (pt S row col cc m k) u (dV S row col cc m (k + 1) u).2).2.1
    rcases dV_or k u with ⟨h1, h2⟩ | ⟨j, h1, h2, h3, h4⟩
    · rw [h1, h2]
      unfold pc
      rw [if_pos (show (-1 : Int) < 0 by omega)]
      exact ih u
    · rw [h2, h4]
      unfold pc
      rw [if_neg (show ¬ (j : Int) < 0 by omega), nat_tn]
      have := ih (va_up u j 1)
      dsimp only
      rw [this]
      omega
theorem pt_b : ∀ (k : Nat) (u : Nat → Int), (0 ≤ (pt S row col cc m k u).1 ∧ (pt S row col cc m k u).1 ≤ 8 * k) ∧ 0 ≤ (pt S row col cc m k u).2.1 ∧ (pt S row col cc m k u).2.1 ≤ k := by
  intro k
  induction k with
  | zero => intro u; show (0 ≤ (0 : Int) ∧ (0 : Int) ≤ 8 * ((0 : Nat) : Int)) ∧ 0 ≤ (0 : Int) ∧ (0 : Int) ≤ ((0 : Nat) : Int); omega
  | succ k ih =>
    intro u
    have e : pt S row col cc m (k + 1) u = pc S row col (m - (k + 1)) (pt S row col cc m k) u (dV S row col cc m (k + 1) u).2 := rfl
    rw [e]
    unfold pc
    split
    · have := ih u
      dsimp only
      omega
    · have h1 := ih (va_up u (dV S row col cc m (k + 1) u).2.toNat 1)
      have h2 := cm_b S (row (m - (k + 1))) (col (dV S row col cc m (k + 1) u).2.toNat)
      dsimp only
      omega
end DV
/-! who is gathered -/
def gaF (p : Nat → Int) (lim : Nat) (q : Nat) (a : Nat × (Nat → Nat)) : Nat × (Nat → Nat) := if p q = 1 ∧ a.1 < lim then (a.1 + 1, va_up a.2 a.1 q) else a
def gaN (p : Nat → Int) (lim q : Nat) : Nat × (Nat → Nat) := fN (gaF p lim) q 0 (0, fun _ => 0)
theorem gaN_s (p : Nat → Int) (lim q : Nat) : gaN p lim (q + 1) = gaF p lim q (gaN p lim q) := fN_last _ _ _
theorem gaN_le (p : Nat → Int) (lim q : Nat) : (gaN p lim q).1 ≤ q ∧ (gaN p lim q).1 ≤ lim := by
  induction q with
  | zero => exact ⟨Nat.le_refl _, Nat.zero_le _⟩
  | succ q ih =>
    rw [gaN_s]
    unfold gaF
    split
    · rename_i h; dsimp only; omega
    · omega
theorem gaN_mono (p : Nat → Int) (lim q : Nat) : ∀ k, (gaN p lim q).1 ≤ (gaN p lim (q + k)).1 ∧ ∀ j, j < (gaN p lim q).1 → (gaN p lim (q + k)).2 j = (gaN p lim q).2 j := by
  intro k
  induction k with
  | zero => exact ⟨Nat.le_refl _, fun _ _ => rfl⟩
  | succ k ih =>
    rw [show q + (k + 1) = (q + k) + 1 by omega, gaN_s]
    unfold gaF
    split
    · refine ⟨by dsimp only; omega, fun j hj => ?_⟩
      dsimp only
      rw [va_up_ne _ _ (show ¬ j = _ by omega)]
      exact ih.2 j hj
    · exact ih
theorem gaN_in (p : Nat → Int) (lim : Nat) : ∀ q j, j < (gaN p lim q).1 → (gaN p lim q).2 j < q ∧ p ((gaN p lim q).2 j) = 1 ∧ (gaN p lim ((gaN p lim q).2 j)).1 = j := by
  intro q
  induction q with
  | zero => intro j h; exact absurd h (Nat.not_lt_zero j)
  | succ q ih =>
    intro j h
    rw [gaN_s] at h ⊢
    unfold gaF at h ⊢
    split
    · rename_i hc
      rw [if_pos hc] at h
      dsimp only at h ⊢
      by_cases e : j = (gaN p lim q).1
      · subst e
        rw [va_up_at]
        exact ⟨by omega, hc.1, rfl⟩
      · rw [va_up_ne _ _ e]
        have := ih j (by omega)
        exact ⟨by omega, this.2⟩
    · rename_i hc
      rw [if_neg hc] at h
      have := ih j h
      exact ⟨by omega, this.2⟩
/-- whether a pupil of a school is without friend -/
def fre (S : Sc) (s : Int) (q : Nat) : Int := if (q : Int) < S 8 0 ∧ S 2 q = s ∧ S 4 q < 0 then 1 else 0
theorem fre_01 (S : Sc) (s : Int) (q : Nat) : fre S s q = 0 ∨ fre S s q = 1 := by unfold fre; split <;> simp
def rws (S : Sc) : Nat × (Nat → Nat) := gaN (fre S 0) 6 12
def cls (S : Sc) : Nat × (Nat → Nat) := gaN (fre S 1) 12 12
/-- who is below q among the columns -/
def cnq (S : Sc) (q : Nat) : Nat := (gaN (fre S 1) 12 q).1
theorem cnq_s1 {S : Sc} {q : Nat} (hq : q < 12) (h : fre S 1 q = 1) : cnq S (q + 1) = cnq S q + 1 ∧ cnq S q < (cls S).1 ∧ (cls S).2 (cnq S q) = q := by
  have h1 := gaN_le (fre S 1) 12 q
  have e : gaN (fre S 1) 12 (q + 1) = ((gaN (fre S 1) 12 q).1 + 1, va_up (gaN (fre S 1) 12 q).2 (gaN (fre S 1) 12 q).1 q) := by
    rw [gaN_s]; exact if_pos ⟨h, by omega⟩
  have h2 := gaN_mono (fre S 1) 12 (q + 1) (12 - (q + 1))
  rw [show q + 1 + (12 - (q + 1)) = 12 by omega, e] at h2
  dsimp only at h2
  refine ⟨?_, ?_, ?_⟩
  · unfold cnq; rw [e]
  · unfold cnq cls; omega
  · unfold cnq cls
    rw [h2.2 _ (by omega), va_up_at]
theorem cnq_s0 {S : Sc} {q : Nat} (h : ¬ fre S 1 q = 1) : cnq S (q + 1) = cnq S q := by
  unfold cnq
  rw [gaN_s]
  unfold gaF
  rw [if_neg (fun x => h x.1)]
theorem cnq_12 (S : Sc) : cnq S 12 = (cls S).1 := rfl
theorem cnq_n {S : Sc} {n : Nat} (hn : S 8 0 = (n : Int)) (hn2 : n ≤ 12) : cnq S n = (cls S).1 := by
  have : ∀ k, n + k ≤ 12 → cnq S (n + k) = cnq S n := by
    intro k
    induction k with
    | zero => intro _; rfl
    | succ k ih =>
      intro hk
      rw [show n + (k + 1) = (n + k) + 1 by omega, cnq_s0 (by unfold fre; rw [if_neg (by omega)]; omega)]
      exact ih (by omega)
  have h := this (12 - n) (by omega)
  rw [show n + (12 - n) = 12 by omega] at h
  rw [← cnq_12, h]
theorem col_in {S : Sc} {j : Nat} (h : j < (cls S).1) : (cls S).2 j < 12 ∧ fre S 1 ((cls S).2 j) = 1 ∧ cnq S ((cls S).2 j) = j := gaN_in (fre S 1) 12 12 j h
theorem row_in {S : Sc} {j : Nat} (h : j < (rws S).1) : (rws S).2 j < 12 ∧ fre S 0 ((rws S).2 j) = 1 := ⟨(gaN_in (fre S 0) 6 12 j h).1, (gaN_in (fre S 0) 6 12 j h).2.1⟩
theorem rws_le (S : Sc) : (rws S).1 ≤ 6 := (gaN_le _ _ _).2
theorem rc_le (S : Sc) : ∀ q, (gaN (fre S 0) 6 q).1 + (gaN (fre S 1) 12 q).1 ≤ q := by
  intro q
  induction q with
  | zero => exact Nat.le_refl _
  | succ q ih =>
    rw [gaN_s, gaN_s]
    unfold gaF
    by_cases h0 : fre S 0 q = 1
    · have h1 : ¬ fre S 1 q = 1 := fun h1 => by
        unfold fre at h0 h1
        split at h0
        · split at h1
          · omega
          · omega
        · omega
      rw [if_neg (c := fre S 1 q = 1 ∧ _) (fun x => h1 x.1)]
      split
      · dsimp only; omega
      · omega
    · rw [if_neg (c := fre S 0 q = 1 ∧ _) (fun x => h0 x.1)]
      split
      · dsimp only; omega
      · omega
theorem rc_12 (S : Sc) : (rws S).1 + (cls S).1 ≤ 12 := rc_le S 12
/-! bits -/
theorem bt_dec : ∀ j : Nat, j < 12 → ∀ h : Nat, h < 64 → ∀ l : Nat, l < 64 → (zI ((64 * h + l : Nat) : Int) >>> (zI j &&& 31)) &&& zI 1 = zI (((64 * h + l) / 2 ^ j % 2 : Nat) : Int) := by decide +kernel
theorem zI_tb12 {t j : Nat} (ht : t < 4096) (hj : j < 12) : (zI t >>> (zI j &&& 31)) &&& zI 1 = zI (tb t j) := by
  have := bt_dec j hj (t / 64) (by omega) (t % 64) (by omega)
  rw [show 64 * (t / 64) + t % 64 = t by omega] at this
  exact this
theorem sh_dec : ∀ j : Nat, j < 12 → zI 1 <<< (zI j &&& 31) = zI ((2 ^ j : Nat) : Int) := by decide +kernel
theorem zI_orN (n m : Nat) : zI (n : Int) ||| zI (m : Int) = zI ((n ||| m : Nat) : Int) := by
  rw [zI_nat, zI_nat, zI_nat]
  apply Int32.toBitVec_inj.mp
  show BitVec.ofNat 32 n ||| BitVec.ofNat 32 m = BitVec.ofNat 32 (n ||| m)
  exact (BitVec.ofNat_or ..).symm
theorem zI_set {t j : Nat} (hj : j < 12) : zI t ||| (zI 1 <<< (zI j &&& 31)) = zI ((t ||| 2 ^ j : Nat) : Int) := by rw [sh_dec j hj, zI_orN]
theorem tb_set (t j x : Nat) : tb ((t ||| 2 ^ j : Nat) : Int) x = if x = j then 1 else tb t x := by
  unfold tb
  rw [nat_tn, nat_tn]
  have h1 : ∀ n b : Nat, n / 2 ^ b % 2 = if n.testBit b then 1 else 0 := fun n b => by
    rw [Nat.testBit_eq_decide_div_mod_eq]
    have : n / 2 ^ b % 2 = 0 ∨ n / 2 ^ b % 2 = 1 := by omega
    rcases this with h | h <;> simp [h]
  rw [h1, h1, Nat.testBit_or, Nat.testBit_two_pow]
  by_cases e : x = j
  · subst e; simp
  · have e' : ¬ j = x := fun q => e q.symm
    simp [e, e']
theorem set_lt {t j : Nat} (ht : t < 4096) (hj : j < 12) : t ||| 2 ^ j < 4096 := by
  have h : 2 ^ j < 2 ^ 12 := Nat.pow_lt_pow_right (by omega) hj
  exact Nat.or_lt_two_pow (n := 12) ht h
