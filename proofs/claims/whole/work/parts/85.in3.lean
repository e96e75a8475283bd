section IN5
variable {F C : Nat → AC} {n s k : Nat} {fs fs' : List Value} {d : Nat} {c : AC}
def Kst (F C : Nat → AC) (n s : Nat) (fs : List Value) : AM := (n, s, fun q => if q = 0 then .inl (5, fs) else if q < n then F q else C q)
theorem K_of {M : AM} (e1 : M.1 = n) (e2 : M.2.1 = s) (hn : 0 < n) (h0 : M.2.2 0 = .inl (5, fs)) (h1 : ∀ q, 0 < q → q < n → M.2.2 q = F q) (h2 : ∀ q, n ≤ q → M.2.2 q = C q) : M = Kst F C n s fs := by
  refine Prod.ext e1 (Prod.ext e2 (funext fun q => ?_))
  show M.2.2 q = (if q = 0 then _ else if q < n then F q else C q)
  by_cases e : q = 0
  · rw [if_pos e, e, h0]
  · rw [if_neg e]
    by_cases e' : q < n
    · rw [if_pos e', h1 q (by omega) e']
    · rw [if_neg e', h2 q (by omega)]
theorem K_1 : (Kst F C n s fs).1 = n := rfl
theorem K_0 : (Kst F C n s fs).2.2 0 = .inl (5, fs) := rfl
theorem K_in {q : Nat} (h : 0 < q) (h2 : q < n) : (Kst F C n s fs).2.2 q = F q := (if_neg (by omega)).trans (if_pos h2)
theorem K_up {q : Nat} (h : 0 < n) (h2 : n ≤ q) : (Kst F C n s fs).2.2 q = C q := (if_neg (by omega)).trans (if_neg (by omega))
theorem K_n : (mN (Kst F C n s fs) k c).2.2 n = c := mN_a
theorem K_put : mU (Kst F C n s fs) 0 (.inl (5, fs')) = Kst F C n s fs' := by
  refine Prod.ext rfl (Prod.ext rfl (funext fun q => ?_))
  show (if q = 0 then (_ : AC) else if q = 0 then _ else if q < n then F q else C q) = (if q = 0 then _ else if q < n then F q else C q)
  by_cases e : q = 0
  · rw [if_pos e, if_pos e]
  · rw [if_neg e, if_neg e, if_neg e]
theorem K_al (hc : c = F n) (hn : 0 < n) : mN (Kst F C n s fs) k c = Kst F C (n + 1) (s + k) fs := by
  refine K_of rfl rfl (by omega) ?_ (fun q h1 h2 => ?_) (fun q h1 => ?_)
  · rw [mN_ne (by rw [K_1]; omega), K_0]
  · by_cases e : q = n
    · rw [e, K_n, hc]
    · rw [mN_ne (by rw [K_1]; omega), K_in h1 (by omega)]
  · rw [mN_ne (by rw [K_1]; omega), K_up hn (by omega)]
theorem sch_K (hn : 0 < n) (hb : n + 20 < 600000) (h0 : F n = scl sc0 n) (h1 : F (n + 1) = parr n) (h2 : ∀ i, i < 12 → F (n + 2 + i) = pcl sc0 n i) : callD (d + 2) 23 [.ref n] (mN (Kst F C n s fs) 7 (.inl (2, dflA 2))) = some (none, Kst F C (n + 14) (s + 139) fs) := by
  rw [show (Value.ref n) = .ref (Kst F C n s fs).1 from rfl, sch_init (M := Kst F C n s fs) hb]
  refine congrArg (fun z => some (none, z)) (K_of rfl rfl (by omega) ?_ (fun q g1 g2 => ?_) (fun q g1 => ?_))
  · exact (put_ne (by rw [K_1]; omega)).trans K_0
  · show (if q = n then scl sc0 n else if q = n + 1 then parr n else if n + 2 ≤ q ∧ q < n + 14 then pcl sc0 n (q - (n + 2)) else (Kst F C n s fs).2.2 q) = F q
    by_cases e0 : q = n
    · rw [if_pos e0, e0, h0]
    · rw [if_neg e0]
      by_cases e1 : q = n + 1
      · rw [if_pos e1, e1, h1]
      · rw [if_neg e1]
        by_cases e2 : n + 2 ≤ q ∧ q < n + 14
        · rw [if_pos e2, ← h2 (q - (n + 2)) (by omega), show n + 2 + (q - (n + 2)) = q by omega]
        · rw [if_neg e2]; exact K_in g1 (by omega)
  · exact (put_ne (by rw [K_1]; omega)).trans (K_up hn (by omega))
theorem mat_K (hn : 0 < n) (hb : n + 20 < 600000) (h0 : F n = .inl (0, [.ref (n + 1), .ref (n + 1 + 1), .ref (n + 1 + 1 + 1), .ref (n + 1 + 1 + 1 + 1), .int 0, .int 0, .int 0, .int 0])) (h1 : F (n + 1) = .inr (2, 6, .inr (.inr fun _ => none))) (h2 : F (n + 2) = .inr (2, 12, .inr (.inr fun _ => none))) (h3 : F (n + 3) = .inr (2, 6, .inr (.inr fun _ => none))) (h4 : F (n + 4) = .inr (0, 2048, .inl fun _ => 0)) : callD (d + 1) 1 [.ref n] (mN (Kst F C n s fs) 8 (.inl (0, dflA 0))) = some (none, Kst F C (n + 5) (s + 2080) fs) := by
  rw [show (Value.ref n) = .ref (Kst F C n s fs).1 from rfl, mat_init (M := Kst F C n s fs) hb]
  refine congrArg (fun z => some (none, z)) (K_of rfl rfl (by omega) ?_ (fun q g1 g2 => ?_) (fun q g1 => ?_))
  · show (if 0 = n then _ else if 0 = n + 1 then _ else if 0 = n + 2 then _ else if 0 = n + 3 then _ else if 0 = n + 4 then _ else _) = _
    rw [if_neg (by omega), if_neg (by omega), if_neg (by omega), if_neg (by omega), if_neg (by omega)]
    exact K_0
  · show (if q = n then _ else if q = n + 1 then _ else if q = n + 2 then _ else if q = n + 3 then _ else if q = n + 4 then _ else _) = _
    by_cases e0 : q = n
    · rw [if_pos e0, e0, h0]; rfl
    · rw [if_neg e0]
      by_cases e1 : q = n + 1
      · rw [if_pos e1, e1, h1]
      · rw [if_neg e1]
        by_cases e2 : q = n + 2
        · rw [if_pos e2, e2, h2]
        · rw [if_neg e2]
          by_cases e3 : q = n + 3
          · rw [if_pos e3, e3, h3]
          · rw [if_neg e3]
            by_cases e4 : q = n + 4
            · rw [if_pos e4, e4, h4]
            · rw [if_neg e4]; exact K_in g1 (by omega)
  · show (if q = n then _ else if q = n + 1 then _ else if q = n + 2 then _ else if q = n + 3 then _ else if q = n + 4 then _ else _) = _
    rw [if_neg (by omega), if_neg (by omega), if_neg (by omega), if_neg (by omega), if_neg (by omega)]
    exact K_up hn (by omega)
theorem tap_K (hn : 0 < n) (hb : n + 20 < 600000) (h0 : F n = .inl (4, [.ref (n + 1), .int (zI 0), .int 0, .null, .int 0, .int 0, .int 0])) (h1 : F (n + 1) = .inr (0, 250, .inl fun _ => 0)) : callD (d + 1) 59 [.ref n] (mN (Kst F C n s fs) 7 (.inl (4, dflA 4))) = some (none, Kst F C (n + 2) (s + 257) fs) := by
  rw [show (Value.ref n) = .ref (Kst F C n s fs).1 from rfl, tap_init (M := Kst F C n s fs) hb]
  refine congrArg (fun z => some (none, z)) (K_of rfl rfl (by omega) ?_ (fun q g1 g2 => ?_) (fun q g1 => ?_))
  · show (if 0 = n then _ else if 0 = n + 1 then _ else _) = _
    rw [if_neg (by omega), if_neg (by omega)]
    exact K_0
  · show (if q = n then _ else if q = n + 1 then _ else _) = _
    by_cases e0 : q = n
    · rw [if_pos e0, e0, h0]; rfl
    · rw [if_neg e0]
      by_cases e1 : q = n + 1
      · rw [if_pos e1, e1, h1]
      · rw [if_neg e1]; exact K_in g1 (by omega)
  · show (if q = n then _ else if q = n + 1 then _ else _) = _
    rw [if_neg (by omega), if_neg (by omega)]
    exact K_up hn (by omega)
def shA (i : Nat) : AC := .inr (3, 8, .inr (.inr fun j => if j < i then some (49 + 2 * j) else none))
def Lst (F C : Nat → AC) (i s : Nat) (fs : List Value) : AM := mU (Kst F C (49 + 2 * i) s fs) 48 (shA i)
theorem shf_L {i : Nat} (hi : i < 8) (h0 : F (49 + 2 * i) = shl (49 + 2 * i) 0 0 0 0) (h1 : F (49 + 2 * i + 1) = cel (fun _ => 0)) : callD (d + 1) 48 [.ref (49 + 2 * i)] (mN (Lst F C i s fs) 5 (.inl (3, dflA 3))) = some (none, mU (Kst F C (49 + 2 * (i + 1)) (s + 45) fs) 48 (shA i)) := by
  have hx : (Lst F C i s fs).1 = 49 + 2 * i := rfl
  rw [show (Value.ref (49 + 2 * i)) = .ref (Lst F C i s fs).1 from rfl, shf_init (M := Lst F C i s fs) (by omega)]
  refine congrArg (fun z => some (none, z)) (Prod.ext rfl (Prod.ext rfl (funext fun q => ?_)))
  show (if q = 49 + 2 * i then _ else if q = 49 + 2 * i + 1 then _ else if q = 48 then _ else if q = 0 then _ else if q < 49 + 2 * i then F q else C q) = (if q = 48 then (_ : AC) else if q = 0 then _ else if q < 49 + 2 * (i + 1) then F q else C q)
  by_cases e0 : q = 49 + 2 * i
  · rw [if_pos e0, if_neg (by omega), if_neg (by omega), if_pos (by omega), e0, h0]; rfl
  · rw [if_neg e0]
    by_cases e1 : q = 49 + 2 * i + 1
    · rw [if_pos e1, if_neg (by omega), if_neg (by omega), if_pos (by omega), e1, h1]
    · rw [if_neg e1]
      by_cases e2 : q = 48
      · rw [if_pos e2, if_pos e2]
      · rw [if_neg e2, if_neg e2]
        by_cases e3 : q = 0
        · rw [if_pos e3, if_pos e3]
        · rw [if_neg e3, if_neg e3]
          by_cases e4 : q < 49 + 2 * i
          · rw [if_pos e4, if_pos (by omega)]
          · rw [if_neg e4, if_neg (by omega)]
end IN5
