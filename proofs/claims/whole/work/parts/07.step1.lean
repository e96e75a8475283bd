/-! one step of the abstract machine read backwards: what the stack was, what it became -/
section INV
variable {pc a : Nat} {L st b c : List Value} {M d : AM}
theorem nx_2_inv {f : Int32 → Int32 → Int32} (h : nx_2 f pc L st M = some (.inl (a, b, c, d))) : ∃ x y r, st = .int y :: .int x :: r ∧ a = pc ∧ b = L ∧ c = .int (f x y) :: r ∧ d = M := by
  unfold nx_2 at h
  split at h
  · cases h; exact ⟨_, _, _, rfl, rfl, rfl, rfl, rfl⟩
  · cases h
theorem nx_2d_inv {f : Int32 → Int32 → Int32} (h : nx_2d f pc L st M = some (.inl (a, b, c, d))) : ∃ x y r, st = .int y :: .int x :: r ∧ ¬ y = 0 ∧ a = pc ∧ b = L ∧ c = .int (f x y) :: r ∧ d = M := by
  unfold nx_2d at h
  split at h
  · split at h
    · cases h
    · rename_i hy; cases h; exact ⟨_, _, _, rfl, hy, rfl, rfl, rfl, rfl⟩
  · cases h
theorem nx_l2_inv {f : Int64 → Int64 → Int64} (h : nx_l2 f pc L st M = some (.inl (a, b, c, d))) : ∃ x y r, st = .long y :: .long x :: r ∧ a = pc ∧ b = L ∧ c = .long (f x y) :: r ∧ d = M := by
  unfold nx_l2 at h
  split at h
  · cases h; exact ⟨_, _, _, rfl, rfl, rfl, rfl, rfl⟩
  · cases h
theorem nx_l2d_inv {f : Int64 → Int64 → Int64} (h : nx_l2d f pc L st M = some (.inl (a, b, c, d))) : ∃ x y r, st = .long y :: .long x :: r ∧ ¬ y = 0 ∧ a = pc ∧ b = L ∧ c = .long (f x y) :: r ∧ d = M := by
  unfold nx_l2d at h
  split at h
  · split at h
    · cases h
    · rename_i hy; cases h; exact ⟨_, _, _, rfl, hy, rfl, rfl, rfl, rfl⟩
  · cases h
theorem nx_1_inv {f : Int32 → Value} (h : nx_1 f pc L st M = some (.inl (a, b, c, d))) : ∃ x r, st = .int x :: r ∧ a = pc ∧ b = L ∧ c = f x :: r ∧ d = M := by
  unfold nx_1 at h
  split at h
  · cases h; exact ⟨_, _, rfl, rfl, rfl, rfl, rfl⟩
  · cases h
theorem nx_ld0_inv {i : Nat} (h : nx_ld 0 i pc L st M = some (.inl (a, b, c, d))) : ∃ x, L[i]? = some (.int x) ∧ a = pc ∧ b = L ∧ c = .int x :: st ∧ d = M := by
  unfold nx_ld at h
  split at h <;> first | (cases h; done) | skip
  · rename_i x h1; cases h; exact ⟨_, h1, rfl, rfl, rfl, rfl⟩
  · rename_i hz _; cases hz
  · rename_i hz _; cases hz
theorem nx_ld1_inv {i : Nat} (h : nx_ld 1 i pc L st M = some (.inl (a, b, c, d))) : ∃ x, L[i]? = some (.long x) ∧ a = pc ∧ b = L ∧ c = .long x :: st ∧ d = M := by
  unfold nx_ld at h
  split at h <;> first | (cases h; done) | skip
  · rename_i hz _; cases hz
  · rename_i x h1; cases h; exact ⟨_, h1, rfl, rfl, rfl, rfl⟩
  · rename_i hz _; cases hz
theorem isRf_c {v : Value} (h : isRf v = true) : v = .null ∨ ∃ q, v = .ref q := by
  cases v <;> simp [isRf] at h ⊢
theorem nx_ld2_inv {i : Nat} (h : nx_ld 2 i pc L st M = some (.inl (a, b, c, d))) : ∃ v, L[i]? = some v ∧ (v = .null ∨ ∃ q, v = .ref q) ∧ a = pc ∧ b = L ∧ c = v :: st ∧ d = M := by
  unfold nx_ld at h
  split at h <;> first | (cases h; done) | skip
  · rename_i hz _; cases hz
  · rename_i hz _; cases hz
  · rename_i v h1
    split at h
    · rename_i h2; cases h; exact ⟨_, h1, isRf_c h2, rfl, rfl, rfl, rfl⟩
    · cases h
theorem nx_st0_inv {i : Nat} (h : nx_st 0 i pc L st M = some (.inl (a, b, c, d))) : ∃ x r, st = .int x :: r ∧ i < L.length ∧ a = pc ∧ b = st1 L i (.int x) ∧ c = r ∧ d = M := by
  unfold nx_st at h
  split at h <;> first | (cases h; done) | skip
  · split at h
    · rename_i h2; cases h; exact ⟨_, _, rfl, h2, rfl, rfl, rfl, rfl⟩
    · cases h
  · rename_i hz; cases hz
  · rename_i hz; cases hz
theorem nx_st1_inv {i : Nat} (h : nx_st 1 i pc L st M = some (.inl (a, b, c, d))) : ∃ x r, st = .long x :: r ∧ i + 1 < L.length ∧ a = pc ∧ b = st2 L i (.long x) ∧ c = r ∧ d = M := by
  unfold nx_st at h
  split at h <;> first | (cases h; done) | skip
  · rename_i hz; cases hz
  · split at h
    · rename_i h2; cases h; exact ⟨_, _, rfl, h2, rfl, rfl, rfl, rfl⟩
    · cases h
  · rename_i hz; cases hz
theorem nx_st2_inv {i : Nat} (h : nx_st 2 i pc L st M = some (.inl (a, b, c, d))) : ∃ v r, st = v :: r ∧ (v = .null ∨ ∃ q, v = .ref q) ∧ i < L.length ∧ a = pc ∧ b = st1 L i v ∧ c = r ∧ d = M := by
  unfold nx_st at h
  split at h <;> first | (cases h; done) | skip
  · rename_i hz; cases hz
  · rename_i hz; cases hz
  · split at h
    · rename_i h2; cases h; exact ⟨_, _, rfl, isRf_c h2.1, h2.2, rfl, rfl, rfl, rfl⟩
    · cases h
theorem nx_if_inv {k : Jvm.ClassFile.Cond} {t : Nat} (h : nx_if k t pc L st M = some (.inl (a, b, c, d))) : ∃ x r, st = .int x :: r ∧ a = @ite _ (cH k x 0) (cD k x 0) t pc ∧ b = L ∧ c = r ∧ d = M := by
  unfold nx_if at h
  split at h
  · cases h; exact ⟨_, _, rfl, rfl, rfl, rfl, rfl⟩
  · cases h
theorem nx_ic_inv {k : Jvm.ClassFile.Cond} {t : Nat} (h : nx_ic k t pc L st M = some (.inl (a, b, c, d))) : ∃ x y r, st = .int y :: .int x :: r ∧ a = @ite _ (cH k x y) (cD k x y) t pc ∧ b = L ∧ c = r ∧ d = M := by
  unfold nx_ic at h
  split at h
  · cases h; exact ⟨_, _, _, rfl, rfl, rfl, rfl, rfl⟩
  · cases h
theorem nx_nul_inv {k : Bool} {t : Nat} (h : nx_nul k t pc L st M = some (.inl (a, b, c, d))) : (∃ r, st = .null :: r ∧ a = (if k = true then t else pc) ∧ b = L ∧ c = r ∧ d = M) ∨ ∃ q r, st = .ref q :: r ∧ a = (if k = true then pc else t) ∧ b = L ∧ c = r ∧ d = M := by
  unfold nx_nul at h
  split at h
  · cases h; exact Or.inl ⟨_, rfl, rfl, rfl, rfl, rfl⟩
  · cases h; exact Or.inr ⟨_, _, rfl, rfl, rfl, rfl, rfl⟩
  · cases h
theorem nx_tsw_inv {lo hi : Int} {ts : List Nat} (h : nx_tsw lo hi ts L st M = some (.inl (a, b, c, d))) : ∃ x r, st = .int x :: r ∧ b = L ∧ c = r ∧ d = M ∧ (((x.toInt < lo ∨ hi < x.toInt) ∧ ts[0]? = some a) ∨ (¬ x.toInt < lo ∧ ¬ hi < x.toInt ∧ ts[(x.toInt - lo).toNat + 1]? = some a)) := by
  unfold nx_tsw at h
  split at h
  · split at h
    · rename_i h1
      split at h
      · cases h; exact ⟨_, _, rfl, rfl, rfl, rfl, Or.inl ⟨h1, rfl⟩⟩
      · cases h
    · rename_i h1
      split at h
      · rename_i t ht; cases h; exact ⟨_, _, rfl, rfl, rfl, rfl, Or.inr ⟨fun q => h1 (Or.inl q), fun q => h1 (Or.inr q), ht⟩⟩
      · cases h
  · cases h
theorem nx_gf_inv {ci k : Nat} (h : nx_gf ci k pc L st M = some (.inl (a, b, c, d))) : ∃ q r fs v, st = .ref q :: r ∧ M.2.2 q = .inl (ci, fs) ∧ fs[k]? = some v ∧ a = pc ∧ b = L ∧ c = v :: r ∧ d = M := by
  unfold nx_gf at h
  split at h
  · rename_i q r
    split at h
    · rename_i v hv
      unfold gfA at hv
      split at hv
      · rename_i c' fs hM
        split at hv
        · rename_i hc; cases h; exact ⟨_, _, fs, v, rfl, by rw [hM, hc], hv, rfl, rfl, rfl, rfl⟩
        · cases hv
      · cases hv
    · cases h
  · cases h
theorem okv_c {tc : Nat} {v : Value} (h : okv tc v = true) : (tc = 0 ∧ ∃ x, v = .int x) ∨ (tc = 1 ∧ (v = .int 0 ∨ v = .int 1)) ∨ (tc = 2 ∧ (v = .null ∨ ∃ q, v = .ref q)) := by
  unfold okv at h
  split at h
  · exact Or.inl ⟨rfl, _, rfl⟩
  · simp only [Bool.or_eq_true, beq_iff_eq] at h
    rcases h with h | h
    · exact Or.inr (Or.inl ⟨rfl, Or.inl (by rw [h])⟩)
    · exact Or.inr (Or.inl ⟨rfl, Or.inr (by rw [h])⟩)
  · exact Or.inr (Or.inr ⟨rfl, Or.inl rfl⟩)
  · exact Or.inr (Or.inr ⟨rfl, Or.inr ⟨_, rfl⟩⟩)
  · cases h
theorem nx_pf_inv {ci k tc : Nat} (h : nx_pf ci k tc pc L st M = some (.inl (a, b, c, d))) : ∃ q r fs v, st = v :: .ref q :: r ∧ okv tc v = true ∧ M.2.2 q = .inl (ci, fs) ∧ k < fs.length ∧ a = pc ∧ b = L ∧ c = r ∧ d = mU M q (.inl (ci, fs.set k v)) := by
  unfold nx_pf at h
  split at h
  · rename_i v q r
    split at h
    · rename_i hok
      split at h
      · rename_i c0 hc0
        unfold pfA at hc0
        split at hc0
        · rename_i c' fs hM
          split at hc0
          · rename_i hc; cases hc0; cases h; exact ⟨_, _, fs, v, rfl, hok, by rw [hM, hc.1], hc.2, rfl, rfl, rfl, rfl⟩
          · cases hc0
        · cases hc0
      · cases h
    · cases h
  · cases h
theorem nx_al_inv {g : AC → Int32 → Option Value} (h : nx_al g pc L st M = some (.inl (a, b, c, d))) : ∃ i q r v, st = .int i :: .ref q :: r ∧ g (M.2.2 q) i = some v ∧ a = pc ∧ b = L ∧ c = v :: r ∧ d = M := by
  unfold nx_al at h
  split at h
  · split at h
    · rename_i v hv; cases h; exact ⟨_, _, _, v, rfl, hv, rfl, rfl, rfl, rfl⟩
    · cases h
  · cases h
theorem ldI_inv {k : AC} {i : Int32} {v : Value} (h : ldI k i = some v) : ∃ t n f, k = .inr (t, n, .inl f) ∧ (t = 0 ∨ t = 7) ∧ 0 ≤ i.toInt ∧ i.toInt < n ∧ v = .int (f i.toNatClampNeg) := by
  unfold ldI at h
  split at h
  · split at h
    · rename_i hc; cases h; exact ⟨_, _, _, rfl, hc.1, hc.2.1, hc.2.2, rfl⟩
    · cases h
  · cases h
theorem ldJ_inv {k : AC} {i : Int32} {v : Value} (h : ldJ k i = some v) : ∃ n f, k = .inr (1, n, .inr (.inl f)) ∧ 0 ≤ i.toInt ∧ i.toInt < n ∧ v = .long (f i.toNatClampNeg) := by
  unfold ldJ at h
  split at h
  · split at h
    · rename_i hc; cases h; exact ⟨_, _, by rw [hc.1], hc.2.1, hc.2.2, rfl⟩
    · cases h
  · cases h
theorem ldQ_inv {k : AC} {i : Int32} {v : Value} (h : ldQ k i = some v) : ∃ t n f, k = .inr (t, n, .inr (.inr f)) ∧ (t = 2 ∨ t = 3 ∨ t = 4) ∧ 0 ≤ i.toInt ∧ i.toInt < n ∧ v = va_rf (f i.toNatClampNeg) := by
  unfold ldQ at h
  split at h
  · split at h
    · rename_i hc; cases h; exact ⟨_, _, _, rfl, hc.1, hc.2.1, hc.2.2, rfl⟩
    · cases h
  · cases h
theorem nx_is_inv (h : nx_is pc L st M = some (.inl (a, b, c, d))) : ∃ x i q r n f, st = .int x :: .int i :: .ref q :: r ∧ M.2.2 q = .inr (0, n, .inl f) ∧ 0 ≤ i.toInt ∧ i.toInt < n ∧ a = pc ∧ b = L ∧ c = r ∧ d = mU M q (.inr (0, n, .inl (upd f i.toNatClampNeg x))) := by
  unfold nx_is at h
  split at h
  · split at h
    · rename_i c0 hc0
      unfold stI at hc0
      split at hc0
      · rename_i t n f hM
        split at hc0
        · rename_i hc; cases hc0; cases h; exact ⟨_, _, _, _, n, f, rfl, by rw [hM, hc.1], hc.2.1, hc.2.2, rfl, rfl, rfl, rfl⟩
        · cases hc0
      · cases hc0
    · cases h
  · cases h
theorem nx_js_inv (h : nx_js pc L st M = some (.inl (a, b, c, d))) : ∃ x i q r n f, st = .long x :: .int i :: .ref q :: r ∧ M.2.2 q = .inr (1, n, .inr (.inl f)) ∧ 0 ≤ i.toInt ∧ i.toInt < n ∧ a = pc ∧ b = L ∧ c = r ∧ d = mU M q (.inr (1, n, .inr (.inl (vp_updL f i.toNatClampNeg x)))) := by
  unfold nx_js at h
  split at h
  · split at h
    · rename_i c0 hc0
      unfold stJ at hc0
      split at hc0
      · rename_i t n f hM
        split at hc0
        · rename_i hc; cases hc0; cases h; exact ⟨_, _, _, _, n, f, rfl, by rw [hM, hc.1], hc.2.1, hc.2.2, rfl, rfl, rfl, rfl⟩
        · cases hc0
      · cases hc0
    · cases h
  · cases h
theorem isC_c {k : AC} {ci : Nat} (h : isC k ci = true) : ∃ fs, k = .inl (ci, fs) := by
  unfold isC at h
  split at h
  · exact ⟨_, by rw [beq_iff_eq.mp h]⟩
  · cases h
theorem nx_qs_inv (h : nx_qs pc L st M = some (.inl (a, b, c, d))) : ∃ v i q r t n f w, st = v :: .int i :: .ref q :: r ∧ M.2.2 q = .inr (t, n, .inr (.inr f)) ∧ (t = 2 ∨ t = 3) ∧ 0 ≤ i.toInt ∧ i.toInt < n ∧ v = va_rf w ∧ (∀ z, w = some z → ∃ fs, M.2.2 z = .inl (elc t, fs)) ∧ a = pc ∧ b = L ∧ c = r ∧ d = mU M q (.inr (t, n, .inr (.inr (va_up f i.toNatClampNeg w)))) := by
  unfold nx_qs at h
  split at h
  · split at h
    · rename_i c0 hc0
      unfold stQ at hc0
      split at hc0
      · rename_i t n f hM
        split at hc0
        · rename_i hc
          split at hc0
          · cases hc0; cases h; exact ⟨_, _, _, _, t, n, f, none, rfl, hM, hc.1, hc.2.1, hc.2.2, rfl, fun z hz => by (cases hz), rfl, rfl, rfl, rfl⟩
          · rename_i z
            split at hc0
            · rename_i hz
              cases hc0; cases h
              exact ⟨_, _, _, _, t, n, f, some z, rfl, hM, hc.1, hc.2.1, hc.2.2, rfl, fun y hy => by cases hy; exact isC_c hz, rfl, rfl, rfl, rfl⟩
            · cases hc0
          · cases hc0
        · cases hc0
      · cases hc0
    · cases h
  · cases h
theorem nx_len_inv (h : nx_len pc L st M = some (.inl (a, b, c, d))) : ∃ q r t n f, st = .ref q :: r ∧ M.2.2 q = .inr (t, n, f) ∧ t < 8 ∧ a = pc ∧ b = L ∧ c = .int (Int32.ofNat n) :: r ∧ d = M := by
  unfold nx_len at h
  split at h
  · split at h
    · rename_i n hn
      unfold lenA at hn
      split at hn
      · rename_i t n' f hM
        split at hn
        · rename_i ht; cases hn; cases h; exact ⟨_, _, t, _, f, rfl, hM, ht, rfl, rfl, rfl, rfl⟩
        · cases hn
      · cases hn
    · cases h
  · cases h
theorem nx_new_inv {ci : Nat} {fs : List Value} (h : nx_new ci fs pc L st M = some (.inl (a, b, c, d))) : M.1 < 600000 ∧ a = pc ∧ b = L ∧ c = .ref M.1 :: st ∧ d = mN M fs.length (.inl (ci, fs)) := by
  unfold nx_new at h
  split at h
  · rename_i h1; cases h; exact ⟨h1, rfl, rfl, rfl, rfl⟩
  · cases h
theorem nx_na_inv {t : Nat} (h : nx_na t pc L st M = some (.inl (a, b, c, d))) : ∃ n r, st = .int n :: r ∧ M.1 < 600000 ∧ 0 ≤ n.toInt ∧ n.toInt < 100000 ∧ a = pc ∧ b = L ∧ c = .ref M.1 :: r ∧ d = mN M n.toNatClampNeg (nwA t n.toNatClampNeg) := by
  unfold nx_na at h
  split at h
  · split at h
    · rename_i h1; cases h; exact ⟨_, _, rfl, h1.1, h1.2.1, h1.2.2, rfl, rfl, rfl, rfl⟩
    · cases h
  · cases h
theorem nx_mna_inv (h : nx_mna pc L st M = some (.inl (a, b, c, d))) : ∃ n k r, st = .int k :: .int n :: r ∧ M.1 < 600000 ∧ 0 ≤ n.toInt ∧ n.toInt < 1000 ∧ 0 ≤ k.toInt ∧ k.toInt < 1000 ∧ a = pc ∧ b = L ∧ c = .ref M.1 :: r ∧ d = mMul M n.toNatClampNeg k.toNatClampNeg := by
  unfold nx_mna at h
  split at h
  · split at h
    · rename_i h1; cases h; exact ⟨_, _, _, rfl, h1.1, h1.2.1, h1.2.2.1, h1.2.2.2.1, h1.2.2.2.2, rfl, rfl, rfl, rfl⟩
    · cases h
  · cases h
theorem nx_cpy_inv (h : nx_cpy pc L st M = some (.inl (a, b, c, d))) : ∃ n dp q sp q0 r n0 n1 f g, st = .int n :: .int dp :: .ref q :: .int sp :: .ref q0 :: r ∧ M.2.2 q0 = .inr (1, n0, .inr (.inl f)) ∧ M.2.2 q = .inr (1, n1, .inr (.inl g)) ∧ 0 ≤ sp.toInt ∧ 0 ≤ dp.toInt ∧ 0 ≤ n.toInt ∧ sp.toInt + n.toInt ≤ n0 ∧ dp.toInt + n.toInt ≤ n1 ∧ r.length ≤ 4 ∧ a = pc ∧ b = L ∧ c = r ∧ d = mU M q (.inr (1, n1, .inr (.inl (va_cpy f g sp.toNatClampNeg dp.toNatClampNeg n.toNatClampNeg)))) := by
  unfold nx_cpy at h
  split at h
  · split at h
    · rename_i t0 n0 f t1 n1 g e0 e1
      split at h
      · rename_i h1
        cases h
        exact ⟨_, _, _, _, _, _, n0, n1, f, g, rfl, by rw [e0, h1.1], by rw [e1, h1.2.1], h1.2.2.1, h1.2.2.2.1, h1.2.2.2.2.1, h1.2.2.2.2.2.1, h1.2.2.2.2.2.2.1, h1.2.2.2.2.2.2.2, rfl, rfl, rfl, rfl⟩
      · cases h
    · cases h
  · cases h
theorem nx_inv_inv {cf : Nat → List Value → AM → Option AR} {vr : Bool} {ci y n : Nat} (h : nx_inv cf vr ci y n pc L st M = some (.inl (a, b, c, d))) : ∃ o, (vr = true → rcv M ci (st.take n).reverse = true) ∧ n ≤ st.length ∧ (st.drop n).length ≤ 4 ∧ cf y (st.take n).reverse M = some (o, d) ∧ a = pc ∧ b = L ∧ c = o.toList ++ st.drop n := by
  unfold nx_inv at h
  split at h
  · rename_i h1
    unfold nx_ret at h
    split at h
    · rename_i v M' e; cases h; exact ⟨some v, h1.1, h1.2.1, h1.2.2, e, rfl, rfl, rfl⟩
    · rename_i M' e; cases h; exact ⟨none, h1.1, h1.2.1, h1.2.2, e, rfl, rfl, rfl⟩
    · cases h
  · cases h
theorem nx_oi_inv (h : nx_oi pc L st M = some (.inl (a, b, c, d))) : ∃ q r, st = .ref q :: r ∧ r.length ≤ 4 ∧ a = pc ∧ b = L ∧ c = r ∧ d = M := by
  unfold nx_oi at h
  split at h
  · split at h
    · rename_i h4; cases h; exact ⟨_, _, rfl, h4, rfl, rfl, rfl, rfl⟩
    · cases h
  · cases h
end INV
