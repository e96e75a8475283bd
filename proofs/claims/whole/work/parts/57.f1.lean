/-! a new reference -/
def g0 (b j : Nat) : AC := if j = 4 then aR b else if 5 ≤ j ∧ j < 13 then .inr (1, 40, .inr (.inl fun _ => 0)) else if j = 13 then .inr (1, 40, .inr (.inl fun _ => 0)) else .inr (0, (if j = 15 then 250 else if 17 ≤ j ∧ j < 25 then 12 else if j = 25 ∨ j = 26 then 3 else if 27 ≤ j then 6 else 8), .inl fun _ => 0)
def Ast (M : Nat → AC) (b n s : Nat) (fs : List Value) : AM := (b + 1 + n, s, fun q => if q = b then .inl (6, fs) else if b < q ∧ q < b + 1 + n then g0 b (q - b) else M q)
section AA
variable {M : Nat → AC} {b n s k : Nat} {fs fs' : List Value} {c : AC}
theorem A_al (hc : c = g0 b (n + 1)) : mN (Ast M b n s fs) k c = Ast M b (n + 1) (s + k) fs := by
  refine Prod.ext rfl (Prod.ext rfl (funext fun q => ?_))
  show (if q = b + 1 + n then c else if q = b then .inl (6, fs) else if b < q ∧ q < b + 1 + n then g0 b (q - b) else M q) = (if q = b then .inl (6, fs) else if b < q ∧ q < b + 1 + (n + 1) then g0 b (q - b) else M q)
  by_cases e : q = b + 1 + n
  · rw [if_pos e, if_neg (by omega), if_pos (by omega), hc, show q - b = n + 1 by omega]
  · rw [if_neg e]
    by_cases e1 : q = b
    · rw [if_pos e1, if_pos e1]
    · rw [if_neg e1, if_neg e1]
      by_cases e2 : b < q ∧ q < b + 1 + n
      · rw [if_pos e2, if_pos (by omega)]
      · rw [if_neg e2, if_neg (by omega)]
theorem A_mul : mMul (Ast M b 3 s fs) 8 40 = Ast M b 12 (s + 328) fs := by
  refine Prod.ext rfl (Prod.ext rfl (funext fun q => ?_))
  show (if q = b + 1 + 3 then (.inr (4, 8, .inr (.inr fun i => if i < 8 then some (b + 1 + 3 + 1 + i) else none)) : AC) else if b + 1 + 3 < q ∧ q ≤ b + 1 + 3 + 8 then .inr (1, 40, .inr (.inl fun _ => 0)) else if q = b then .inl (6, fs) else if b < q ∧ q < b + 1 + 3 then g0 b (q - b) else M q) = (if q = b then .inl (6, fs) else if b < q ∧ q < b + 1 + 12 then g0 b (q - b) else M q)
  by_cases e : q = b + 1 + 3
  · rw [if_pos e, if_neg (by omega), if_pos (by omega), show q - b = 4 by omega]
    rfl
  · rw [if_neg e]
    by_cases e1 : b + 1 + 3 < q ∧ q ≤ b + 1 + 3 + 8
    · rw [if_pos e1, if_neg (by omega), if_pos (by omega)]
      unfold g0
      rw [if_neg (by omega), if_pos (by omega)]
    · rw [if_neg e1]
      by_cases e2 : q = b
      · rw [if_pos e2, if_pos e2]
      · rw [if_neg e2, if_neg e2]
        by_cases e3 : b < q ∧ q < b + 1 + 3
        · rw [if_pos e3, if_pos (by omega)]
        · rw [if_neg e3, if_neg (by omega)]
theorem A_put : mU (Ast M b n s fs) b (.inl (6, fs')) = Ast M b n s fs' := by
  refine Prod.ext rfl (Prod.ext rfl (funext fun q => ?_))
  show (if q = b then .inl (6, fs') else if q = b then .inl (6, fs) else if b < q ∧ q < b + 1 + n then g0 b (q - b) else M q) = (if q = b then .inl (6, fs') else if b < q ∧ q < b + 1 + n then g0 b (q - b) else M q)
  by_cases e : q = b
  · rw [if_pos e, if_pos e]
  · rw [if_neg e, if_neg e, if_neg e]
theorem A_b : (Ast M b n s fs).2.2 b = .inl (6, fs) := if_pos rfl
theorem A_1 : (Ast M b n s fs).1 = b + 1 + n := rfl
theorem A_25 : (Ast M b 29 s fs).2.2 (b + 1 + 24) = .inr (0, 3, .inl fun _ => 0) := by
  show (if b + 1 + 24 = b then _ else if b < b + 1 + 24 ∧ b + 1 + 24 < b + 1 + 29 then g0 b (b + 1 + 24 - b) else M (b + 1 + 24)) = _
  rw [if_neg (by omega), if_pos (by omega), show b + 1 + 24 - b = 25 by omega]
  rfl
theorem A_new (W : AM) : mN W 36 (.inl (6, fs)) = Ast W.2.2 W.1 0 (W.2.1 + 36) fs := by
  refine Prod.ext rfl (Prod.ext rfl (funext fun q => ?_))
  show (if q = W.1 then .inl (6, fs) else W.2.2 q) = (if q = W.1 then .inl (6, fs) else if W.1 < q ∧ q < W.1 + 1 + 0 then g0 W.1 (q - W.1) else W.2.2 q)
  by_cases e : q = W.1
  · rw [if_pos e, if_pos e]
  · rw [if_neg e, if_neg e, if_neg (by omega)]
theorem A_al_0 : mN (Ast M b 0 (s + 0) fs) 8 (nwA 0 8) = Ast M b 1 (s + 8) fs := A_al rfl
theorem A_al_1 : mN (Ast M b 1 (s + 8) fs) 8 (nwA 0 8) = Ast M b 2 (s + 16) fs := A_al rfl
theorem A_al_2 : mN (Ast M b 2 (s + 16) fs) 8 (nwA 0 8) = Ast M b 3 (s + 24) fs := A_al rfl
theorem A_al_12 : mN (Ast M b 12 (s + 352) fs) 40 (nwA 1 40) = Ast M b 13 (s + 392) fs := A_al rfl
theorem A_al_13 : mN (Ast M b 13 (s + 392) fs) 8 (nwA 0 8) = Ast M b 14 (s + 400) fs := A_al rfl
theorem A_al_14 : mN (Ast M b 14 (s + 400) fs) 250 (nwA 0 250) = Ast M b 15 (s + 650) fs := A_al rfl
theorem A_al_15 : mN (Ast M b 15 (s + 650) fs) 8 (nwA 0 8) = Ast M b 16 (s + 658) fs := A_al rfl
theorem A_al_16 : mN (Ast M b 16 (s + 658) fs) 12 (nwA 0 12) = Ast M b 17 (s + 670) fs := A_al rfl
theorem A_al_17 : mN (Ast M b 17 (s + 670) fs) 12 (nwA 0 12) = Ast M b 18 (s + 682) fs := A_al rfl
theorem A_al_18 : mN (Ast M b 18 (s + 682) fs) 12 (nwA 0 12) = Ast M b 19 (s + 694) fs := A_al rfl
theorem A_al_19 : mN (Ast M b 19 (s + 694) fs) 12 (nwA 0 12) = Ast M b 20 (s + 706) fs := A_al rfl
theorem A_al_20 : mN (Ast M b 20 (s + 706) fs) 12 (nwA 0 12) = Ast M b 21 (s + 718) fs := A_al rfl
theorem A_al_21 : mN (Ast M b 21 (s + 718) fs) 12 (nwA 0 12) = Ast M b 22 (s + 730) fs := A_al rfl
theorem A_al_22 : mN (Ast M b 22 (s + 730) fs) 12 (nwA 0 12) = Ast M b 23 (s + 742) fs := A_al rfl
theorem A_al_23 : mN (Ast M b 23 (s + 742) fs) 12 (nwA 0 12) = Ast M b 24 (s + 754) fs := A_al rfl
theorem A_al_24 : mN (Ast M b 24 (s + 754) fs) 3 (nwA 0 3) = Ast M b 25 (s + 757) fs := A_al rfl
theorem A_al_25 : mN (Ast M b 25 (s + 757) fs) 3 (nwA 0 3) = Ast M b 26 (s + 760) fs := A_al rfl
theorem A_al_26 : mN (Ast M b 26 (s + 760) fs) 6 (nwA 0 6) = Ast M b 27 (s + 766) fs := A_al rfl
theorem A_al_27 : mN (Ast M b 27 (s + 766) fs) 6 (nwA 0 6) = Ast M b 28 (s + 772) fs := A_al rfl
theorem A_al_28 : mN (Ast M b 28 (s + 772) fs) 6 (nwA 0 6) = Ast M b 29 (s + 778) fs := A_al rfl
theorem A_mul' : mMul (Ast M b 3 (s + 24) fs) 8 40 = Ast M b 12 (s + 352) fs := A_mul
end AA
section PP
variable {x0 x1 x2 x3 x4 x5 x6 x7 x8 x9 x10 x11 x12 x13 x14 x15 x16 x17 x18 x19 x20 x21 x22 x23 x24 x25 x26 x27 x28 x29 x30 x31 x32 x33 x34 x35 v : Value}
theorem A_p0 : pfA (.inl (6, [x0, x1, x2, x3, x4, x5, x6, x7, x8, x9, x10, x11, x12, x13, x14, x15, x16, x17, x18, x19, x20, x21, x22, x23, x24, x25, x26, x27, x28, x29, x30, x31, x32, x33, x34, x35])) 6 0 v = some (.inl (6, [v, x1, x2, x3, x4, x5, x6, x7, x8, x9, x10, x11, x12, x13, x14, x15, x16, x17, x18, x19, x20, x21, x22, x23, x24, x25, x26, x27, x28, x29, x30, x31, x32, x33, x34, x35])) := rfl
theorem A_p1 : pfA (.inl (6, [x0, x1, x2, x3, x4, x5, x6, x7, x8, x9, x10, x11, x12, x13, x14, x15, x16, x17, x18, x19, x20, x21, x22, x23, x24, x25, x26, x27, x28, x29, x30, x31, x32, x33, x34, x35])) 6 1 v = some (.inl (6, [x0, v, x2, x3, x4, x5, x6, x7, x8, x9, x10, x11, x12, x13, x14, x15, x16, x17, x18, x19, x20, x21, x22, x23, x24, x25, x26, x27, x28, x29, x30, x31, x32, x33, x34, x35])) := rfl
theorem A_p2 : pfA (.inl (6, [x0, x1, x2, x3, x4, x5, x6, x7, x8, x9, x10, x11, x12, x13, x14, x15, x16, x17, x18, x19, x20, x21, x22, x23, x24, x25, x26, x27, x28, x29, x30, x31, x32, x33, x34, x35])) 6 2 v = some (.inl (6, [x0, x1, v, x3, x4, x5, x6, x7, x8, x9, x10, x11, x12, x13, x14, x15, x16, x17, x18, x19, x20, x21, x22, x23, x24, x25, x26, x27, x28, x29, x30, x31, x32, x33, x34, x35])) := rfl
theorem A_p3 : pfA (.inl (6, [x0, x1, x2, x3, x4, x5, x6, x7, x8, x9, x10, x11, x12, x13, x14, x15, x16, x17, x18, x19, x20, x21, x22, x23, x24, x25, x26, x27, x28, x29, x30, x31, x32, x33, x34, x35])) 6 3 v = some (.inl (6, [x0, x1, x2, v, x4, x5, x6, x7, x8, x9, x10, x11, x12, x13, x14, x15, x16, x17, x18, x19, x20, x21, x22, x23, x24, x25, x26, x27, x28, x29, x30, x31, x32, x33, x34, x35])) := rfl
theorem A_p4 : pfA (.inl (6, [x0, x1, x2, x3, x4, x5, x6, x7, x8, x9, x10, x11, x12, x13, x14, x15, x16, x17, x18, x19, x20, x21, x22, x23, x24, x25, x26, x27, x28, x29, x30, x31, x32, x33, x34, x35])) 6 4 v = some (.inl (6, [x0, x1, x2, x3, v, x5, x6, x7, x8, x9, x10, x11, x12, x13, x14, x15, x16, x17, x18, x19, x20, x21, x22, x23, x24, x25, x26, x27, x28, x29, x30, x31, x32, x33, x34, x35])) := rfl
theorem A_p5 : pfA (.inl (6, [x0, x1, x2, x3, x4, x5, x6, x7, x8, x9, x10, x11, x12, x13, x14, x15, x16, x17, x18, x19, x20, x21, x22, x23, x24, x25, x26, x27, x28, x29, x30, x31, x32, x33, x34, x35])) 6 5 v = some (.inl (6, [x0, x1, x2, x3, x4, v, x6, x7, x8, x9, x10, x11, x12, x13, x14, x15, x16, x17, x18, x19, x20, x21, x22, x23, x24, x25, x26, x27, x28, x29, x30, x31, x32, x33, x34, x35])) := rfl
theorem A_p6 : pfA (.inl (6, [x0, x1, x2, x3, x4, x5, x6, x7, x8, x9, x10, x11, x12, x13, x14, x15, x16, x17, x18, x19, x20, x21, x22, x23, x24, x25, x26, x27, x28, x29, x30, x31, x32, x33, x34, x35])) 6 6 v = some (.inl (6, [x0, x1, x2, x3, x4, x5, v, x7, x8, x9, x10, x11, x12, x13, x14, x15, x16, x17, x18, x19, x20, x21, x22, x23, x24, x25, x26, x27, x28, x29, x30, x31, x32, x33, x34, x35])) := rfl
theorem A_p8 : pfA (.inl (6, [x0, x1, x2, x3, x4, x5, x6, x7, x8, x9, x10, x11, x12, x13, x14, x15, x16, x17, x18, x19, x20, x21, x22, x23, x24, x25, x26, x27, x28, x29, x30, x31, x32, x33, x34, x35])) 6 8 v = some (.inl (6, [x0, x1, x2, x3, x4, x5, x6, x7, v, x9, x10, x11, x12, x13, x14, x15, x16, x17, x18, x19, x20, x21, x22, x23, x24, x25, x26, x27, x28, x29, x30, x31, x32, x33, x34, x35])) := rfl
theorem A_p10 : pfA (.inl (6, [x0, x1, x2, x3, x4, x5, x6, x7, x8, x9, x10, x11, x12, x13, x14, x15, x16, x17, x18, x19, x20, x21, x22, x23, x24, x25, x26, x27, x28, x29, x30, x31, x32, x33, x34, x35])) 6 10 v = some (.inl (6, [x0, x1, x2, x3, x4, x5, x6, x7, x8, x9, v, x11, x12, x13, x14, x15, x16, x17, x18, x19, x20, x21, x22, x23, x24, x25, x26, x27, x28, x29, x30, x31, x32, x33, x34, x35])) := rfl
theorem A_p11 : pfA (.inl (6, [x0, x1, x2, x3, x4, x5, x6, x7, x8, x9, x10, x11, x12, x13, x14, x15, x16, x17, x18, x19, x20, x21, x22, x23, x24, x25, x26, x27, x28, x29, x30, x31, x32, x33, x34, x35])) 6 11 v = some (.inl (6, [x0, x1, x2, x3, x4, x5, x6, x7, x8, x9, x10, v, x12, x13, x14, x15, x16, x17, x18, x19, x20, x21, x22, x23, x24, x25, x26, x27, x28, x29, x30, x31, x32, x33, x34, x35])) := rfl
theorem A_p12 : pfA (.inl (6, [x0, x1, x2, x3, x4, x5, x6, x7, x8, x9, x10, x11, x12, x13, x14, x15, x16, x17, x18, x19, x20, x21, x22, x23, x24, x25, x26, x27, x28, x29, x30, x31, x32, x33, x34, x35])) 6 12 v = some (.inl (6, [x0, x1, x2, x3, x4, x5, x6, x7, x8, x9, x10, x11, v, x13, x14, x15, x16, x17, x18, x19, x20, x21, x22, x23, x24, x25, x26, x27, x28, x29, x30, x31, x32, x33, x34, x35])) := rfl
theorem A_p13 : pfA (.inl (6, [x0, x1, x2, x3, x4, x5, x6, x7, x8, x9, x10, x11, x12, x13, x14, x15, x16, x17, x18, x19, x20, x21, x22, x23, x24, x25, x26, x27, x28, x29, x30, x31, x32, x33, x34, x35])) 6 13 v = some (.inl (6, [x0, x1, x2, x3, x4, x5, x6, x7, x8, x9, x10, x11, x12, v, x14, x15, x16, x17, x18, x19, x20, x21, x22, x23, x24, x25, x26, x27, x28, x29, x30, x31, x32, x33, x34, x35])) := rfl
theorem A_p14 : pfA (.inl (6, [x0, x1, x2, x3, x4, x5, x6, x7, x8, x9, x10, x11, x12, x13, x14, x15, x16, x17, x18, x19, x20, x21, x22, x23, x24, x25, x26, x27, x28, x29, x30, x31, x32, x33, x34, x35])) 6 14 v = some (.inl (6, [x0, x1, x2, x3, x4, x5, x6, x7, x8, x9, x10, x11, x12, x13, v, x15, x16, x17, x18, x19, x20, x21, x22, x23, x24, x25, x26, x27, x28, x29, x30, x31, x32, x33, x34, x35])) := rfl
theorem A_p15 : pfA (.inl (6, [x0, x1, x2, x3, x4, x5, x6, x7, x8, x9, x10, x11, x12, x13, x14, x15, x16, x17, x18, x19, x20, x21, x22, x23, x24, x25, x26, x27, x28, x29, x30, x31, x32, x33, x34, x35])) 6 15 v = some (.inl (6, [x0, x1, x2, x3, x4, x5, x6, x7, x8, x9, x10, x11, x12, x13, x14, v, x16, x17, x18, x19, x20, x21, x22, x23, x24, x25, x26, x27, x28, x29, x30, x31, x32, x33, x34, x35])) := rfl
theorem A_p16 : pfA (.inl (6, [x0, x1, x2, x3, x4, x5, x6, x7, x8, x9, x10, x11, x12, x13, x14, x15, x16, x17, x18, x19, x20, x21, x22, x23, x24, x25, x26, x27, x28, x29, x30, x31, x32, x33, x34, x35])) 6 16 v = some (.inl (6, [x0, x1, x2, x3, x4, x5, x6, x7, x8, x9, x10, x11, x12, x13, x14, x15, v, x17, x18, x19, x20, x21, x22, x23, x24, x25, x26, x27, x28, x29, x30, x31, x32, x33, x34, x35])) := rfl
theorem A_p17 : pfA (.inl (6, [x0, x1, x2, x3, x4, x5, x6, x7, x8, x9, x10, x11, x12, x13, x14, x15, x16, x17, x18, x19, x20, x21, x22, x23, x24, x25, x26, x27, x28, x29, x30, x31, x32, x33, x34, x35])) 6 17 v = some (.inl (6, [x0, x1, x2, x3, x4, x5, x6, x7, x8, x9, x10, x11, x12, x13, x14, x15, x16, v, x18, x19, x20, x21, x22, x23, x24, x25, x26, x27, x28, x29, x30, x31, x32, x33, x34, x35])) := rfl
theorem A_p18 : pfA (.inl (6, [x0, x1, x2, x3, x4, x5, x6, x7, x8, x9, x10, x11, x12, x13, x14, x15, x16, x17, x18, x19, x20, x21, x22, x23, x24, x25, x26, x27, x28, x29, x30, x31, x32, x33, x34, x35])) 6 18 v = some (.inl (6, [x0, x1, x2, x3, x4, x5, x6, x7, x8, x9, x10, x11, x12, x13, x14, x15, x16, x17, v, x19, x20, x21, x22, x23, x24, x25, x26, x27, x28, x29, x30, x31, x32, x33, x34, x35])) := rfl
theorem A_p20 : pfA (.inl (6, [x0, x1, x2, x3, x4, x5, x6, x7, x8, x9, x10, x11, x12, x13, x14, x15, x16, x17, x18, x19, x20, x21, x22, x23, x24, x25, x26, x27, x28, x29, x30, x31, x32, x33, x34, x35])) 6 20 v = some (.inl (6, [x0, x1, x2, x3, x4, x5, x6, x7, x8, x9, x10, x11, x12, x13, x14, x15, x16, x17, x18, x19, v, x21, x22, x23, x24, x25, x26, x27, x28, x29, x30, x31, x32, x33, x34, x35])) := rfl
theorem A_p28 : pfA (.inl (6, [x0, x1, x2, x3, x4, x5, x6, x7, x8, x9, x10, x11, x12, x13, x14, x15, x16, x17, x18, x19, x20, x21, x22, x23, x24, x25, x26, x27, x28, x29, x30, x31, x32, x33, x34, x35])) 6 28 v = some (.inl (6, [x0, x1, x2, x3, x4, x5, x6, x7, x8, x9, x10, x11, x12, x13, x14, x15, x16, x17, x18, x19, x20, x21, x22, x23, x24, x25, x26, x27, v, x29, x30, x31, x32, x33, x34, x35])) := rfl
theorem A_p30 : pfA (.inl (6, [x0, x1, x2, x3, x4, x5, x6, x7, x8, x9, x10, x11, x12, x13, x14, x15, x16, x17, x18, x19, x20, x21, x22, x23, x24, x25, x26, x27, x28, x29, x30, x31, x32, x33, x34, x35])) 6 30 v = some (.inl (6, [x0, x1, x2, x3, x4, x5, x6, x7, x8, x9, x10, x11, x12, x13, x14, x15, x16, x17, x18, x19, x20, x21, x22, x23, x24, x25, x26, x27, x28, x29, v, x31, x32, x33, x34, x35])) := rfl
theorem A_p32 : pfA (.inl (6, [x0, x1, x2, x3, x4, x5, x6, x7, x8, x9, x10, x11, x12, x13, x14, x15, x16, x17, x18, x19, x20, x21, x22, x23, x24, x25, x26, x27, x28, x29, x30, x31, x32, x33, x34, x35])) 6 32 v = some (.inl (6, [x0, x1, x2, x3, x4, x5, x6, x7, x8, x9, x10, x11, x12, x13, x14, x15, x16, x17, x18, x19, x20, x21, x22, x23, x24, x25, x26, x27, x28, x29, x30, x31, v, x33, x34, x35])) := rfl
theorem A_p33 : pfA (.inl (6, [x0, x1, x2, x3, x4, x5, x6, x7, x8, x9, x10, x11, x12, x13, x14, x15, x16, x17, x18, x19, x20, x21, x22, x23, x24, x25, x26, x27, x28, x29, x30, x31, x32, x33, x34, x35])) 6 33 v = some (.inl (6, [x0, x1, x2, x3, x4, x5, x6, x7, x8, x9, x10, x11, x12, x13, x14, x15, x16, x17, x18, x19, x20, x21, x22, x23, x24, x25, x26, x27, x28, x29, x30, x31, x32, v, x34, x35])) := rfl
theorem A_g18 : gfA (.inl (6, [x0, x1, x2, x3, x4, x5, x6, x7, x8, x9, x10, x11, x12, x13, x14, x15, x16, x17, x18, x19, x20, x21, x22, x23, x24, x25, x26, x27, x28, x29, x30, x31, x32, x33, x34, x35])) 6 18 = some x18 := rfl
end PP
theorem dfl6 : dflA 6 = [.null, .null, .null, .null, .null, .null, .null, .int (zI 0), .null, .int (zI 0), .null, .null, .null, .null, .null, .null, .null, .null, .null, .int (zI 0), .int (zI 0), .null, .null, .int (zI 0), .int (zI 0), .int (zI 0), .int (zI 0), .int (zI 0), .null, .int (zI 0), .null, .int (zI 0), .null, .null, .int (zI 0), .int (zI 0)] := by rw [zI_0]; rfl
/-- the schools of a new reference -/
def sc0 : Sc := fun f j => if f = 8 then (if j = 1 ∨ j = 2 ∨ j = 5 then 1 else 0) else 0
theorem sc0_8 : sc0 8 0 = 0 ∧ sc0 8 1 = 1 ∧ sc0 8 2 = 1 ∧ sc0 8 3 = 0 ∧ sc0 8 4 = 0 ∧ sc0 8 5 = 1 := by decide
theorem sc0_f {f i : Nat} (h : ¬ f = 8) : sc0 f i = 0 := if_neg h
def gw0 (M : AM) (b : Nat) : AM := G M b sc0 (fun _ => 0) (none, none) (fun _ _ => 0) (fun _ _ => 0) (fun _ => 0)
theorem A_fin {M : Nat → AC} {b s : Nat} : mU (Ast M b 29 s [.ref (b + 1 + 0), .ref (b + 1 + 1), .ref (b + 1 + 2), .ref (b + 1 + 3), .ref (b + 1 + 12), .ref (b + 1 + 13), .ref (b + 1 + 14), .int (zI 0), .ref (b + 1 + 15), .int (zI 0), .ref (b + 1 + 16), .ref (b + 1 + 17), .ref (b + 1 + 18), .ref (b + 1 + 19), .ref (b + 1 + 20), .ref (b + 1 + 21), .ref (b + 1 + 22), .ref (b + 1 + 23), .ref (b + 1 + 24), .int (zI 0), .int (zI 1), .null, .null, .int (zI 0), .int (zI 0), .int (zI 0), .int (zI 0), .int (zI 0), .ref (b + 1 + 25), .int (zI 0), .ref (b + 1 + 26), .int (zI 0), .ref (b + 1 + 27), .ref (b + 1 + 28), .int (zI 0), .int (zI 0)]) (b + 1 + 24) (.inr (0, 3, .inl (upd (upd (fun _ => 0) 0 (zI 1)) 1 (zI 1)))) = gw0 (b + 30, s, M) b := by
  have hz : ∀ f, ¬ f = 8 → aS sc0 f = .inr (0, 12, .inl fun _ => 0) := fun f hf => by
    unfold aS
    refine congrArg (fun z => Sum.inr (0, 12, Sum.inl z)) (funext fun i => ?_)
    rw [sc0_f hf, zI_0]
  have h25 : aA sc0 = .inr (0, 3, .inl (upd (upd (fun _ => 0) 0 (zI 1)) 1 (zI 1))) := by
    unfold aA
    refine congrArg (fun z => Sum.inr (0, 3, Sum.inl z)) (funext fun i => ?_)
    have h3 : i = 0 ∨ i = 1 ∨ i = 2 ∨ 3 ≤ i := by omega
    rcases h3 with rfl | rfl | rfl | h3
    · rfl
    · rfl
    · show zI 0 = 0; exact zI_0
    · rw [if_neg (by omega)]
      unfold upd
      rw [if_neg (by omega), if_neg (by omega)]
  refine Prod.ext rfl (Prod.ext rfl (funext fun q => ?_))
  show (if q = b + 1 + 24 then .inr (0, 3, .inl (upd (upd (fun _ => 0) 0 (zI 1)) 1 (zI 1))) else if q = b then .inl (6, [.ref (b + 1 + 0), .ref (b + 1 + 1), .ref (b + 1 + 2), .ref (b + 1 + 3), .ref (b + 1 + 12), .ref (b + 1 + 13), .ref (b + 1 + 14), .int (zI 0), .ref (b + 1 + 15), .int (zI 0), .ref (b + 1 + 16), .ref (b + 1 + 17), .ref (b + 1 + 18), .ref (b + 1 + 19), .ref (b + 1 + 20), .ref (b + 1 + 21), .ref (b + 1 + 22), .ref (b + 1 + 23), .ref (b + 1 + 24), .int (zI 0), .int (zI 1), .null, .null, .int (zI 0), .int (zI 0), .int (zI 0), .int (zI 0), .int (zI 0), .ref (b + 1 + 25), .int (zI 0), .ref (b + 1 + 26), .int (zI 0), .ref (b + 1 + 27), .ref (b + 1 + 28), .int (zI 0), .int (zI 0)]) else if b < q ∧ q < b + 1 + 29 then g0 b (q - b) else M q) = (if q = b then mcl b sc0 (fun _ => 0) (none, none) else if q < b ∨ b + 30 ≤ q then M q else gar b sc0 (fun _ _ => 0) (fun _ _ => 0) (fun _ => 0) (q - b))
  by_cases e : q = b + 1 + 24
  · rw [if_pos e, if_neg (by omega), if_neg (by omega), show q - b = 25 by omega]
    exact h25.symm
  · rw [if_neg e]
    by_cases e1 : q = b
    · rw [if_pos e1, if_pos e1]
      unfold mcl
      rw [sc0_8.1, sc0_8.2.2.2.2.1, sc0_8.2.2.2.2.2]
      rfl
    · rw [if_neg e1, if_neg e1]
      by_cases e2 : b < q ∧ q < b + 1 + 29
      · rw [if_pos e2, if_neg (by omega)]
        obtain ⟨j, rfl⟩ : ∃ j, q = b + j := ⟨q - b, by omega⟩
        rw [show b + j - b = j by omega]
        have hj : j = 1 ∨ j = 2 ∨ j = 3 ∨ j = 4 ∨ j = 5 ∨ j = 6 ∨ j = 7 ∨ j = 8 ∨ j = 9 ∨ j = 10 ∨ j = 11 ∨ j = 12 ∨ j = 13 ∨ j = 14 ∨ j = 15 ∨ j = 16 ∨ (17 ≤ j ∧ j < 25) ∨ j = 26 ∨ j = 27 ∨ j = 28 ∨ j = 29 := by omega
        rcases hj with rfl | rfl | rfl | rfl | rfl | rfl | rfl | rfl | rfl | rfl | rfl | rfl | rfl | rfl | rfl | rfl | hj | rfl | rfl | rfl | rfl
        all_goals try rfl
        unfold gar g0
        simp (disch := omega) only [if_neg, if_pos]
        exact (hz (j - 17) (by omega)).symm
      · rw [if_neg e2, if_pos (by omega)]

def fl0 (b : Nat) : List Value := [.null, .null, .null, .null, .null, .null, .null, .int (zI 0), .null, .int (zI 0), .null, .null, .null, .null, .null, .null, .null, .null, .null, .int (zI 0), .int (zI 0), .null, .null, .int (zI 0), .int (zI 0), .int (zI 0), .int (zI 0), .int (zI 0), .null, .int (zI 0), .null, .int (zI 0), .null, .null, .int (zI 0), .int (zI 0)]
def fl1 (b : Nat) : List Value := [.ref (b + 1 + 0), .null, .null, .null, .null, .null, .null, .int (zI 0), .null, .int (zI 0), .null, .null, .null, .null, .null, .null, .null, .null, .null, .int (zI 0), .int (zI 0), .null, .null, .int (zI 0), .int (zI 0), .int (zI 0), .int (zI 0), .int (zI 0), .null, .int (zI 0), .null, .int (zI 0), .null, .null, .int (zI 0), .int (zI 0)]
theorem fp0 {b : Nat} : pfA (.inl (6, fl0 b)) 6 0 (.ref (b + 1 + 0)) = some (.inl (6, fl1 b)) := rfl
theorem i135_0 {cf : Nat → List Value → AM → Option AR} {M : Nat → AC} {b s : Nat} (hb : b + 30 < 600000) : den cf 135 4 [.ref b] [] (Ast M b 0 (s + 0) (fl0 b)) = den cf 135 12 [.ref b] [] (Ast M b 1 (s + 8) (fl1 b)) := by
  simp (disch := omega) only [e_135_4, e_135_5, e_135_7, e_135_9, oK_some, okv_r, okv_i, if_true, if_pos, and_self, and_true, true_and, Int.lt_irrefl, Int.reduceEq, Int.reduceNe, Int.reduceLT, Int.reduceLE, Int.reduceSub, Int.reduceAdd, Int.reduceMul, Int.reduceDiv, Int.reduceNeg, Int.reduceToNat, or_self, or_false, false_or, if_false, if_true, not_true_eq_false, not_false_eq_true, or_true, true_or, and_false, false_and, zI_toInt, zI_tn, A_b, A_1, A_put, fp0, A_mul', A_al_0, A_al_1, A_al_2, A_al_12, A_al_13, A_al_14, A_al_15, A_al_16, A_al_17, A_al_18, A_al_19, A_al_20, A_al_21, A_al_22, A_al_23, A_al_24, A_al_25, A_al_26, A_al_27, A_al_28, A_mul']
def fl2 (b : Nat) : List Value := [.ref (b + 1 + 0), .ref (b + 1 + 1), .null, .null, .null, .null, .null, .int (zI 0), .null, .int (zI 0), .null, .null, .null, .null, .null, .null, .null, .null, .null, .int (zI 0), .int (zI 0), .null, .null, .int (zI 0), .int (zI 0), .int (zI 0), .int (zI 0), .int (zI 0), .null, .int (zI 0), .null, .int (zI 0), .null, .null, .int (zI 0), .int (zI 0)]
theorem fp1 {b : Nat} : pfA (.inl (6, fl1 b)) 6 1 (.ref (b + 1 + 1)) = some (.inl (6, fl2 b)) := rfl
theorem i135_1 {cf : Nat → List Value → AM → Option AR} {M : Nat → AC} {b s : Nat} (hb : b + 30 < 600000) : den cf 135 12 [.ref b] [] (Ast M b 1 (s + 8) (fl1 b)) = den cf 135 20 [.ref b] [] (Ast M b 2 (s + 16) (fl2 b)) := by
  simp (disch := omega) only [e_135_12, e_135_13, e_135_15, e_135_17, oK_some, okv_r, okv_i, if_true, if_pos, and_self, and_true, true_and, Int.lt_irrefl, Int.reduceEq, Int.reduceNe, Int.reduceLT, Int.reduceLE, Int.reduceSub, Int.reduceAdd, Int.reduceMul, Int.reduceDiv, Int.reduceNeg, Int.reduceToNat, or_self, or_false, false_or, if_false, if_true, not_true_eq_false, not_false_eq_true, or_true, true_or, and_false, false_and, zI_toInt, zI_tn, A_b, A_1, A_put, fp1, A_mul', A_al_0, A_al_1, A_al_2, A_al_12, A_al_13, A_al_14, A_al_15, A_al_16, A_al_17, A_al_18, A_al_19, A_al_20, A_al_21, A_al_22, A_al_23, A_al_24, A_al_25, A_al_26, A_al_27, A_al_28, A_mul']
def fl3 (b : Nat) : List Value := [.ref (b + 1 + 0), .ref (b + 1 + 1), .ref (b + 1 + 2), .null, .null, .null, .null, .int (zI 0), .null, .int (zI 0), .null, .null, .null, .null, .null, .null, .null, .null, .null, .int (zI 0), .int (zI 0), .null, .null, .int (zI 0), .int (zI 0), .int (zI 0), .int (zI 0), .int (zI 0), .null, .int (zI 0), .null, .int (zI 0), .null, .null, .int (zI 0), .int (zI 0)]
theorem fp2 {b : Nat} : pfA (.inl (6, fl2 b)) 6 2 (.ref (b + 1 + 2)) = some (.inl (6, fl3 b)) := rfl
theorem i135_2 {cf : Nat → List Value → AM → Option AR} {M : Nat → AC} {b s : Nat} (hb : b + 30 < 600000) : den cf 135 20 [.ref b] [] (Ast M b 2 (s + 16) (fl2 b)) = den cf 135 28 [.ref b] [] (Ast M b 3 (s + 24) (fl3 b)) := by
  simp (disch := omega) only [e_135_20, e_135_21, e_135_23, e_135_25, oK_some, okv_r, okv_i, if_true, if_pos, and_self, and_true, true_and, Int.lt_irrefl, Int.reduceEq, Int.reduceNe, Int.reduceLT, Int.reduceLE, Int.reduceSub, Int.reduceAdd, Int.reduceMul, Int.reduceDiv, Int.reduceNeg, Int.reduceToNat, or_self, or_false, false_or, if_false, if_true, not_true_eq_false, not_false_eq_true, or_true, true_or, and_false, false_and, zI_toInt, zI_tn, A_b, A_1, A_put, fp2, A_mul', A_al_0, A_al_1, A_al_2, A_al_12, A_al_13, A_al_14, A_al_15, A_al_16, A_al_17, A_al_18, A_al_19, A_al_20, A_al_21, A_al_22, A_al_23, A_al_24, A_al_25, A_al_26, A_al_27, A_al_28, A_mul']
def fl4 (b : Nat) : List Value := [.ref (b + 1 + 0), .ref (b + 1 + 1), .ref (b + 1 + 2), .ref (b + 1 + 3), .null, .null, .null, .int (zI 0), .null, .int (zI 0), .null, .null, .null, .null, .null, .null, .null, .null, .null, .int (zI 0), .int (zI 0), .null, .null, .int (zI 0), .int (zI 0), .int (zI 0), .int (zI 0), .int (zI 0), .null, .int (zI 0), .null, .int (zI 0), .null, .null, .int (zI 0), .int (zI 0)]
theorem fp3 {b : Nat} : pfA (.inl (6, fl3 b)) 6 3 (.ref (b + 1 + 3)) = some (.inl (6, fl4 b)) := rfl
theorem i135_3 {cf : Nat → List Value → AM → Option AR} {M : Nat → AC} {b s : Nat} (hb : b + 30 < 600000) : den cf 135 28 [.ref b] [] (Ast M b 3 (s + 24) (fl3 b)) = den cf 135 40 [.ref b] [] (Ast M b 12 (s + 352) (fl4 b)) := by
  simp (disch := omega) only [e_135_28, e_135_29, e_135_31, e_135_33, e_135_37, oK_some, okv_r, okv_i, if_true, if_pos, and_self, and_true, true_and, Int.lt_irrefl, Int.reduceEq, Int.reduceNe, Int.reduceLT, Int.reduceLE, Int.reduceSub, Int.reduceAdd, Int.reduceMul, Int.reduceDiv, Int.reduceNeg, Int.reduceToNat, or_self, or_false, false_or, if_false, if_true, not_true_eq_false, not_false_eq_true, or_true, true_or, and_false, false_and, zI_toInt, zI_tn, A_b, A_1, A_put, fp3, A_mul', A_al_0, A_al_1, A_al_2, A_al_12, A_al_13, A_al_14, A_al_15, A_al_16, A_al_17, A_al_18, A_al_19, A_al_20, A_al_21, A_al_22, A_al_23, A_al_24, A_al_25, A_al_26, A_al_27, A_al_28, A_mul']
def fl5 (b : Nat) : List Value := [.ref (b + 1 + 0), .ref (b + 1 + 1), .ref (b + 1 + 2), .ref (b + 1 + 3), .ref (b + 1 + 12), .null, .null, .int (zI 0), .null, .int (zI 0), .null, .null, .null, .null, .null, .null, .null, .null, .null, .int (zI 0), .int (zI 0), .null, .null, .int (zI 0), .int (zI 0), .int (zI 0), .int (zI 0), .int (zI 0), .null, .int (zI 0), .null, .int (zI 0), .null, .null, .int (zI 0), .int (zI 0)]
theorem fp4 {b : Nat} : pfA (.inl (6, fl4 b)) 6 4 (.ref (b + 1 + 12)) = some (.inl (6, fl5 b)) := rfl
theorem i135_4 {cf : Nat → List Value → AM → Option AR} {M : Nat → AC} {b s : Nat} (hb : b + 30 < 600000) : den cf 135 40 [.ref b] [] (Ast M b 12 (s + 352) (fl4 b)) = den cf 135 48 [.ref b] [] (Ast M b 13 (s + 392) (fl5 b)) := by
  simp (disch := omega) only [e_135_40, e_135_41, e_135_43, e_135_45, oK_some, okv_r, okv_i, if_true, if_pos, and_self, and_true, true_and, Int.lt_irrefl, Int.reduceEq, Int.reduceNe, Int.reduceLT, Int.reduceLE, Int.reduceSub, Int.reduceAdd, Int.reduceMul, Int.reduceDiv, Int.reduceNeg, Int.reduceToNat, or_self, or_false, false_or, if_false, if_true, not_true_eq_false, not_false_eq_true, or_true, true_or, and_false, false_and, zI_toInt, zI_tn, A_b, A_1, A_put, fp4, A_mul', A_al_0, A_al_1, A_al_2, A_al_12, A_al_13, A_al_14, A_al_15, A_al_16, A_al_17, A_al_18, A_al_19, A_al_20, A_al_21, A_al_22, A_al_23, A_al_24, A_al_25, A_al_26, A_al_27, A_al_28, A_mul']
def fl6 (b : Nat) : List Value := [.ref (b + 1 + 0), .ref (b + 1 + 1), .ref (b + 1 + 2), .ref (b + 1 + 3), .ref (b + 1 + 12), .ref (b + 1 + 13), .null, .int (zI 0), .null, .int (zI 0), .null, .null, .null, .null, .null, .null, .null, .null, .null, .int (zI 0), .int (zI 0), .null, .null, .int (zI 0), .int (zI 0), .int (zI 0), .int (zI 0), .int (zI 0), .null, .int (zI 0), .null, .int (zI 0), .null, .null, .int (zI 0), .int (zI 0)]
theorem fp5 {b : Nat} : pfA (.inl (6, fl5 b)) 6 5 (.ref (b + 1 + 13)) = some (.inl (6, fl6 b)) := rfl
theorem i135_5 {cf : Nat → List Value → AM → Option AR} {M : Nat → AC} {b s : Nat} (hb : b + 30 < 600000) : den cf 135 48 [.ref b] [] (Ast M b 13 (s + 392) (fl5 b)) = den cf 135 56 [.ref b] [] (Ast M b 14 (s + 400) (fl6 b)) := by
  simp (disch := omega) only [e_135_48, e_135_49, e_135_51, e_135_53, oK_some, okv_r, okv_i, if_true, if_pos, and_self, and_true, true_and, Int.lt_irrefl, Int.reduceEq, Int.reduceNe, Int.reduceLT, Int.reduceLE, Int.reduceSub, Int.reduceAdd, Int.reduceMul, Int.reduceDiv, Int.reduceNeg, Int.reduceToNat, or_self, or_false, false_or, if_false, if_true, not_true_eq_false, not_false_eq_true, or_true, true_or, and_false, false_and, zI_toInt, zI_tn, A_b, A_1, A_put, fp5, A_mul', A_al_0, A_al_1, A_al_2, A_al_12, A_al_13, A_al_14, A_al_15, A_al_16, A_al_17, A_al_18, A_al_19, A_al_20, A_al_21, A_al_22, A_al_23, A_al_24, A_al_25, A_al_26, A_al_27, A_al_28, A_mul']
def fl7 (b : Nat) : List Value := [.ref (b + 1 + 0), .ref (b + 1 + 1), .ref (b + 1 + 2), .ref (b + 1 + 3), .ref (b + 1 + 12), .ref (b + 1 + 13), .ref (b + 1 + 14), .int (zI 0), .null, .int (zI 0), .null, .null, .null, .null, .null, .null, .null, .null, .null, .int (zI 0), .int (zI 0), .null, .null, .int (zI 0), .int (zI 0), .int (zI 0), .int (zI 0), .int (zI 0), .null, .int (zI 0), .null, .int (zI 0), .null, .null, .int (zI 0), .int (zI 0)]
theorem fp6 {b : Nat} : pfA (.inl (6, fl6 b)) 6 6 (.ref (b + 1 + 14)) = some (.inl (6, fl7 b)) := rfl
theorem i135_6 {cf : Nat → List Value → AM → Option AR} {M : Nat → AC} {b s : Nat} (hb : b + 30 < 600000) : den cf 135 56 [.ref b] [] (Ast M b 14 (s + 400) (fl6 b)) = den cf 135 65 [.ref b] [] (Ast M b 15 (s + 650) (fl7 b)) := by
  simp (disch := omega) only [e_135_56, e_135_57, e_135_60, e_135_62, oK_some, okv_r, okv_i, if_true, if_pos, and_self, and_true, true_and, Int.lt_irrefl, Int.reduceEq, Int.reduceNe, Int.reduceLT, Int.reduceLE, Int.reduceSub, Int.reduceAdd, Int.reduceMul, Int.reduceDiv, Int.reduceNeg, Int.reduceToNat, or_self, or_false, false_or, if_false, if_true, not_true_eq_false, not_false_eq_true, or_true, true_or, and_false, false_and, zI_toInt, zI_tn, A_b, A_1, A_put, fp6, A_mul', A_al_0, A_al_1, A_al_2, A_al_12, A_al_13, A_al_14, A_al_15, A_al_16, A_al_17, A_al_18, A_al_19, A_al_20, A_al_21, A_al_22, A_al_23, A_al_24, A_al_25, A_al_26, A_al_27, A_al_28, A_mul']
def fl8 (b : Nat) : List Value := [.ref (b + 1 + 0), .ref (b + 1 + 1), .ref (b + 1 + 2), .ref (b + 1 + 3), .ref (b + 1 + 12), .ref (b + 1 + 13), .ref (b + 1 + 14), .int (zI 0), .ref (b + 1 + 15), .int (zI 0), .null, .null, .null, .null, .null, .null, .null, .null, .null, .int (zI 0), .int (zI 0), .null, .null, .int (zI 0), .int (zI 0), .int (zI 0), .int (zI 0), .int (zI 0), .null, .int (zI 0), .null, .int (zI 0), .null, .null, .int (zI 0), .int (zI 0)]
theorem fp7 {b : Nat} : pfA (.inl (6, fl7 b)) 6 8 (.ref (b + 1 + 15)) = some (.inl (6, fl8 b)) := rfl
theorem i135_7 {cf : Nat → List Value → AM → Option AR} {M : Nat → AC} {b s : Nat} (hb : b + 30 < 600000) : den cf 135 65 [.ref b] [] (Ast M b 15 (s + 650) (fl7 b)) = den cf 135 73 [.ref b] [] (Ast M b 16 (s + 658) (fl8 b)) := by
  simp (disch := omega) only [e_135_65, e_135_66, e_135_68, e_135_70, oK_some, okv_r, okv_i, if_true, if_pos, and_self, and_true, true_and, Int.lt_irrefl, Int.reduceEq, Int.reduceNe, Int.reduceLT, Int.reduceLE, Int.reduceSub, Int.reduceAdd, Int.reduceMul, Int.reduceDiv, Int.reduceNeg, Int.reduceToNat, or_self, or_false, false_or, if_false, if_true, not_true_eq_false, not_false_eq_true, or_true, true_or, and_false, false_and, zI_toInt, zI_tn, A_b, A_1, A_put, fp7, A_mul', A_al_0, A_al_1, A_al_2, A_al_12, A_al_13, A_al_14, A_al_15, A_al_16, A_al_17, A_al_18, A_al_19, A_al_20, A_al_21, A_al_22, A_al_23, A_al_24, A_al_25, A_al_26, A_al_27, A_al_28, A_mul']
def fl9 (b : Nat) : List Value := [.ref (b + 1 + 0), .ref (b + 1 + 1), .ref (b + 1 + 2), .ref (b + 1 + 3), .ref (b + 1 + 12), .ref (b + 1 + 13), .ref (b + 1 + 14), .int (zI 0), .ref (b + 1 + 15), .int (zI 0), .ref (b + 1 + 16), .null, .null, .null, .null, .null, .null, .null, .null, .int (zI 0), .int (zI 0), .null, .null, .int (zI 0), .int (zI 0), .int (zI 0), .int (zI 0), .int (zI 0), .null, .int (zI 0), .null, .int (zI 0), .null, .null, .int (zI 0), .int (zI 0)]
theorem fp8 {b : Nat} : pfA (.inl (6, fl8 b)) 6 10 (.ref (b + 1 + 16)) = some (.inl (6, fl9 b)) := rfl
theorem i135_8 {cf : Nat → List Value → AM → Option AR} {M : Nat → AC} {b s : Nat} (hb : b + 30 < 600000) : den cf 135 73 [.ref b] [] (Ast M b 16 (s + 658) (fl8 b)) = den cf 135 81 [.ref b] [] (Ast M b 17 (s + 670) (fl9 b)) := by
  simp (disch := omega) only [e_135_73, e_135_74, e_135_76, e_135_78, oK_some, okv_r, okv_i, if_true, if_pos, and_self, and_true, true_and, Int.lt_irrefl, Int.reduceEq, Int.reduceNe, Int.reduceLT, Int.reduceLE, Int.reduceSub, Int.reduceAdd, Int.reduceMul, Int.reduceDiv, Int.reduceNeg, Int.reduceToNat, or_self, or_false, false_or, if_false, if_true, not_true_eq_false, not_false_eq_true, or_true, true_or, and_false, false_and, zI_toInt, zI_tn, A_b, A_1, A_put, fp8, A_mul', A_al_0, A_al_1, A_al_2, A_al_12, A_al_13, A_al_14, A_al_15, A_al_16, A_al_17, A_al_18, A_al_19, A_al_20, A_al_21, A_al_22, A_al_23, A_al_24, A_al_25, A_al_26, A_al_27, A_al_28, A_mul']
def fl10 (b : Nat) : List Value := [.ref (b + 1 + 0), .ref (b + 1 + 1), .ref (b + 1 + 2), .ref (b + 1 + 3), .ref (b + 1 + 12), .ref (b + 1 + 13), .ref (b + 1 + 14), .int (zI 0), .ref (b + 1 + 15), .int (zI 0), .ref (b + 1 + 16), .ref (b + 1 + 17), .null, .null, .null, .null, .null, .null, .null, .int (zI 0), .int (zI 0), .null, .null, .int (zI 0), .int (zI 0), .int (zI 0), .int (zI 0), .int (zI 0), .null, .int (zI 0), .null, .int (zI 0), .null, .null, .int (zI 0), .int (zI 0)]
theorem fp9 {b : Nat} : pfA (.inl (6, fl9 b)) 6 11 (.ref (b + 1 + 17)) = some (.inl (6, fl10 b)) := rfl
theorem i135_9 {cf : Nat → List Value → AM → Option AR} {M : Nat → AC} {b s : Nat} (hb : b + 30 < 600000) : den cf 135 81 [.ref b] [] (Ast M b 17 (s + 670) (fl9 b)) = den cf 135 89 [.ref b] [] (Ast M b 18 (s + 682) (fl10 b)) := by
  simp (disch := omega) only [e_135_81, e_135_82, e_135_84, e_135_86, oK_some, okv_r, okv_i, if_true, if_pos, and_self, and_true, true_and, Int.lt_irrefl, Int.reduceEq, Int.reduceNe, Int.reduceLT, Int.reduceLE, Int.reduceSub, Int.reduceAdd, Int.reduceMul, Int.reduceDiv, Int.reduceNeg, Int.reduceToNat, or_self, or_false, false_or, if_false, if_true, not_true_eq_false, not_false_eq_true, or_true, true_or, and_false, false_and, zI_toInt, zI_tn, A_b, A_1, A_put, fp9, A_mul', A_al_0, A_al_1, A_al_2, A_al_12, A_al_13, A_al_14, A_al_15, A_al_16, A_al_17, A_al_18, A_al_19, A_al_20, A_al_21, A_al_22, A_al_23, A_al_24, A_al_25, A_al_26, A_al_27, A_al_28, A_mul']
def fl11 (b : Nat) : List Value := [.ref (b + 1 + 0), .ref (b + 1 + 1), .ref (b + 1 + 2), .ref (b + 1 + 3), .ref (b + 1 + 12), .ref (b + 1 + 13), .ref (b + 1 + 14), .int (zI 0), .ref (b + 1 + 15), .int (zI 0), .ref (b + 1 + 16), .ref (b + 1 + 17), .ref (b + 1 + 18), .null, .null, .null, .null, .null, .null, .int (zI 0), .int (zI 0), .null, .null, .int (zI 0), .int (zI 0), .int (zI 0), .int (zI 0), .int (zI 0), .null, .int (zI 0), .null, .int (zI 0), .null, .null, .int (zI 0), .int (zI 0)]
theorem fp10 {b : Nat} : pfA (.inl (6, fl10 b)) 6 12 (.ref (b + 1 + 18)) = some (.inl (6, fl11 b)) := rfl
theorem i135_10 {cf : Nat → List Value → AM → Option AR} {M : Nat → AC} {b s : Nat} (hb : b + 30 < 600000) : den cf 135 89 [.ref b] [] (Ast M b 18 (s + 682) (fl10 b)) = den cf 135 97 [.ref b] [] (Ast M b 19 (s + 694) (fl11 b)) := by
  simp (disch := omega) only [e_135_89, e_135_90, e_135_92, e_135_94, oK_some, okv_r, okv_i, if_true, if_pos, and_self, and_true, true_and, Int.lt_irrefl, Int.reduceEq, Int.reduceNe, Int.reduceLT, Int.reduceLE, Int.reduceSub, Int.reduceAdd, Int.reduceMul, Int.reduceDiv, Int.reduceNeg, Int.reduceToNat, or_self, or_false, false_or, if_false, if_true, not_true_eq_false, not_false_eq_true, or_true, true_or, and_false, false_and, zI_toInt, zI_tn, A_b, A_1, A_put, fp10, A_mul', A_al_0, A_al_1, A_al_2, A_al_12, A_al_13, A_al_14, A_al_15, A_al_16, A_al_17, A_al_18, A_al_19, A_al_20, A_al_21, A_al_22, A_al_23, A_al_24, A_al_25, A_al_26, A_al_27, A_al_28, A_mul']
def fl12 (b : Nat) : List Value := [.ref (b + 1 + 0), .ref (b + 1 + 1), .ref (b + 1 + 2), .ref (b + 1 + 3), .ref (b + 1 + 12), .ref (b + 1 + 13), .ref (b + 1 + 14), .int (zI 0), .ref (b + 1 + 15), .int (zI 0), .ref (b + 1 + 16), .ref (b + 1 + 17), .ref (b + 1 + 18), .ref (b + 1 + 19), .null, .null, .null, .null, .null, .int (zI 0), .int (zI 0), .null, .null, .int (zI 0), .int (zI 0), .int (zI 0), .int (zI 0), .int (zI 0), .null, .int (zI 0), .null, .int (zI 0), .null, .null, .int (zI 0), .int (zI 0)]
theorem fp11 {b : Nat} : pfA (.inl (6, fl11 b)) 6 13 (.ref (b + 1 + 19)) = some (.inl (6, fl12 b)) := rfl
theorem i135_11 {cf : Nat → List Value → AM → Option AR} {M : Nat → AC} {b s : Nat} (hb : b + 30 < 600000) : den cf 135 97 [.ref b] [] (Ast M b 19 (s + 694) (fl11 b)) = den cf 135 105 [.ref b] [] (Ast M b 20 (s + 706) (fl12 b)) := by
  simp (disch := omega) only [e_135_97, e_135_98, e_135_100, e_135_102, oK_some, okv_r, okv_i, if_true, if_pos, and_self, and_true, true_and, Int.lt_irrefl, Int.reduceEq, Int.reduceNe, Int.reduceLT, Int.reduceLE, Int.reduceSub, Int.reduceAdd, Int.reduceMul, Int.reduceDiv, Int.reduceNeg, Int.reduceToNat, or_self, or_false, false_or, if_false, if_true, not_true_eq_false, not_false_eq_true, or_true, true_or, and_false, false_and, zI_toInt, zI_tn, A_b, A_1, A_put, fp11, A_mul', A_al_0, A_al_1, A_al_2, A_al_12, A_al_13, A_al_14, A_al_15, A_al_16, A_al_17, A_al_18, A_al_19, A_al_20, A_al_21, A_al_22, A_al_23, A_al_24, A_al_25, A_al_26, A_al_27, A_al_28, A_mul']
def fl13 (b : Nat) : List Value := [.ref (b + 1 + 0), .ref (b + 1 + 1), .ref (b + 1 + 2), .ref (b + 1 + 3), .ref (b + 1 + 12), .ref (b + 1 + 13), .ref (b + 1 + 14), .int (zI 0), .ref (b + 1 + 15), .int (zI 0), .ref (b + 1 + 16), .ref (b + 1 + 17), .ref (b + 1 + 18), .ref (b + 1 + 19), .ref (b + 1 + 20), .null, .null, .null, .null, .int (zI 0), .int (zI 0), .null, .null, .int (zI 0), .int (zI 0), .int (zI 0), .int (zI 0), .int (zI 0), .null, .int (zI 0), .null, .int (zI 0), .null, .null, .int (zI 0), .int (zI 0)]
theorem fp12 {b : Nat} : pfA (.inl (6, fl12 b)) 6 14 (.ref (b + 1 + 20)) = some (.inl (6, fl13 b)) := rfl
theorem i135_12 {cf : Nat → List Value → AM → Option AR} {M : Nat → AC} {b s : Nat} (hb : b + 30 < 600000) : den cf 135 105 [.ref b] [] (Ast M b 20 (s + 706) (fl12 b)) = den cf 135 113 [.ref b] [] (Ast M b 21 (s + 718) (fl13 b)) := by
  simp (disch := omega) only [e_135_105, e_135_106, e_135_108, e_135_110, oK_some, okv_r, okv_i, if_true, if_pos, and_self, and_true, true_and, Int.lt_irrefl, Int.reduceEq, Int.reduceNe, Int.reduceLT, Int.reduceLE, Int.reduceSub, Int.reduceAdd, Int.reduceMul, Int.reduceDiv, Int.reduceNeg, Int.reduceToNat, or_self, or_false, false_or, if_false, if_true, not_true_eq_false, not_false_eq_true, or_true, true_or, and_false, false_and, zI_toInt, zI_tn, A_b, A_1, A_put, fp12, A_mul', A_al_0, A_al_1, A_al_2, A_al_12, A_al_13, A_al_14, A_al_15, A_al_16, A_al_17, A_al_18, A_al_19, A_al_20, A_al_21, A_al_22, A_al_23, A_al_24, A_al_25, A_al_26, A_al_27, A_al_28, A_mul']
def fl14 (b : Nat) : List Value := [.ref (b + 1 + 0), .ref (b + 1 + 1), .ref (b + 1 + 2), .ref (b + 1 + 3), .ref (b + 1 + 12), .ref (b + 1 + 13), .ref (b + 1 + 14), .int (zI 0), .ref (b + 1 + 15), .int (zI 0), .ref (b + 1 + 16), .ref (b + 1 + 17), .ref (b + 1 + 18), .ref (b + 1 + 19), .ref (b + 1 + 20), .ref (b + 1 + 21), .null, .null, .null, .int (zI 0), .int (zI 0), .null, .null, .int (zI 0), .int (zI 0), .int (zI 0), .int (zI 0), .int (zI 0), .null, .int (zI 0), .null, .int (zI 0), .null, .null, .int (zI 0), .int (zI 0)]
theorem fp13 {b : Nat} : pfA (.inl (6, fl13 b)) 6 15 (.ref (b + 1 + 21)) = some (.inl (6, fl14 b)) := rfl
theorem i135_13 {cf : Nat → List Value → AM → Option AR} {M : Nat → AC} {b s : Nat} (hb : b + 30 < 600000) : den cf 135 113 [.ref b] [] (Ast M b 21 (s + 718) (fl13 b)) = den cf 135 121 [.ref b] [] (Ast M b 22 (s + 730) (fl14 b)) := by
  simp (disch := omega) only [e_135_113, e_135_114, e_135_116, e_135_118, oK_some, okv_r, okv_i, if_true, if_pos, and_self, and_true, true_and, Int.lt_irrefl, Int.reduceEq, Int.reduceNe, Int.reduceLT, Int.reduceLE, Int.reduceSub, Int.reduceAdd, Int.reduceMul, Int.reduceDiv, Int.reduceNeg, Int.reduceToNat, or_self, or_false, false_or, if_false, if_true, not_true_eq_false, not_false_eq_true, or_true, true_or, and_false, false_and, zI_toInt, zI_tn, A_b, A_1, A_put, fp13, A_mul', A_al_0, A_al_1, A_al_2, A_al_12, A_al_13, A_al_14, A_al_15, A_al_16, A_al_17, A_al_18, A_al_19, A_al_20, A_al_21, A_al_22, A_al_23, A_al_24, A_al_25, A_al_26, A_al_27, A_al_28, A_mul']
def fl15 (b : Nat) : List Value := [.ref (b + 1 + 0), .ref (b + 1 + 1), .ref (b + 1 + 2), .ref (b + 1 + 3), .ref (b + 1 + 12), .ref (b + 1 + 13), .ref (b + 1 + 14), .int (zI 0), .ref (b + 1 + 15), .int (zI 0), .ref (b + 1 + 16), .ref (b + 1 + 17), .ref (b + 1 + 18), .ref (b + 1 + 19), .ref (b + 1 + 20), .ref (b + 1 + 21), .ref (b + 1 + 22), .null, .null, .int (zI 0), .int (zI 0), .null, .null, .int (zI 0), .int (zI 0), .int (zI 0), .int (zI 0), .int (zI 0), .null, .int (zI 0), .null, .int (zI 0), .null, .null, .int (zI 0), .int (zI 0)]
theorem fp14 {b : Nat} : pfA (.inl (6, fl14 b)) 6 16 (.ref (b + 1 + 22)) = some (.inl (6, fl15 b)) := rfl
theorem i135_14 {cf : Nat → List Value → AM → Option AR} {M : Nat → AC} {b s : Nat} (hb : b + 30 < 600000) : den cf 135 121 [.ref b] [] (Ast M b 22 (s + 730) (fl14 b)) = den cf 135 129 [.ref b] [] (Ast M b 23 (s + 742) (fl15 b)) := by
  simp (disch := omega) only [e_135_121, e_135_122, e_135_124, e_135_126, oK_some, okv_r, okv_i, if_true, if_pos, and_self, and_true, true_and, Int.lt_irrefl, Int.reduceEq, Int.reduceNe, Int.reduceLT, Int.reduceLE, Int.reduceSub, Int.reduceAdd, Int.reduceMul, Int.reduceDiv, Int.reduceNeg, Int.reduceToNat, or_self, or_false, false_or, if_false, if_true, not_true_eq_false, not_false_eq_true, or_true, true_or, and_false, false_and, zI_toInt, zI_tn, A_b, A_1, A_put, fp14, A_mul', A_al_0, A_al_1, A_al_2, A_al_12, A_al_13, A_al_14, A_al_15, A_al_16, A_al_17, A_al_18, A_al_19, A_al_20, A_al_21, A_al_22, A_al_23, A_al_24, A_al_25, A_al_26, A_al_27, A_al_28, A_mul']
def fl16 (b : Nat) : List Value := [.ref (b + 1 + 0), .ref (b + 1 + 1), .ref (b + 1 + 2), .ref (b + 1 + 3), .ref (b + 1 + 12), .ref (b + 1 + 13), .ref (b + 1 + 14), .int (zI 0), .ref (b + 1 + 15), .int (zI 0), .ref (b + 1 + 16), .ref (b + 1 + 17), .ref (b + 1 + 18), .ref (b + 1 + 19), .ref (b + 1 + 20), .ref (b + 1 + 21), .ref (b + 1 + 22), .ref (b + 1 + 23), .null, .int (zI 0), .int (zI 0), .null, .null, .int (zI 0), .int (zI 0), .int (zI 0), .int (zI 0), .int (zI 0), .null, .int (zI 0), .null, .int (zI 0), .null, .null, .int (zI 0), .int (zI 0)]
theorem fp15 {b : Nat} : pfA (.inl (6, fl15 b)) 6 17 (.ref (b + 1 + 23)) = some (.inl (6, fl16 b)) := rfl
theorem i135_15 {cf : Nat → List Value → AM → Option AR} {M : Nat → AC} {b s : Nat} (hb : b + 30 < 600000) : den cf 135 129 [.ref b] [] (Ast M b 23 (s + 742) (fl15 b)) = den cf 135 137 [.ref b] [] (Ast M b 24 (s + 754) (fl16 b)) := by
  simp (disch := omega) only [e_135_129, e_135_130, e_135_132, e_135_134, oK_some, okv_r, okv_i, if_true, if_pos, and_self, and_true, true_and, Int.lt_irrefl, Int.reduceEq, Int.reduceNe, Int.reduceLT, Int.reduceLE, Int.reduceSub, Int.reduceAdd, Int.reduceMul, Int.reduceDiv, Int.reduceNeg, Int.reduceToNat, or_self, or_false, false_or, if_false, if_true, not_true_eq_false, not_false_eq_true, or_true, true_or, and_false, false_and, zI_toInt, zI_tn, A_b, A_1, A_put, fp15, A_mul', A_al_0, A_al_1, A_al_2, A_al_12, A_al_13, A_al_14, A_al_15, A_al_16, A_al_17, A_al_18, A_al_19, A_al_20, A_al_21, A_al_22, A_al_23, A_al_24, A_al_25, A_al_26, A_al_27, A_al_28, A_mul']
def fl17 (b : Nat) : List Value := [.ref (b + 1 + 0), .ref (b + 1 + 1), .ref (b + 1 + 2), .ref (b + 1 + 3), .ref (b + 1 + 12), .ref (b + 1 + 13), .ref (b + 1 + 14), .int (zI 0), .ref (b + 1 + 15), .int (zI 0), .ref (b + 1 + 16), .ref (b + 1 + 17), .ref (b + 1 + 18), .ref (b + 1 + 19), .ref (b + 1 + 20), .ref (b + 1 + 21), .ref (b + 1 + 22), .ref (b + 1 + 23), .ref (b + 1 + 24), .int (zI 0), .int (zI 0), .null, .null, .int (zI 0), .int (zI 0), .int (zI 0), .int (zI 0), .int (zI 0), .null, .int (zI 0), .null, .int (zI 0), .null, .null, .int (zI 0), .int (zI 0)]
theorem fp16 {b : Nat} : pfA (.inl (6, fl16 b)) 6 18 (.ref (b + 1 + 24)) = some (.inl (6, fl17 b)) := rfl
theorem i135_16 {cf : Nat → List Value → AM → Option AR} {M : Nat → AC} {b s : Nat} (hb : b + 30 < 600000) : den cf 135 137 [.ref b] [] (Ast M b 24 (s + 754) (fl16 b)) = den cf 135 144 [.ref b] [] (Ast M b 25 (s + 757) (fl17 b)) := by
  simp (disch := omega) only [e_135_137, e_135_138, e_135_139, e_135_141, oK_some, okv_r, okv_i, if_true, if_pos, and_self, and_true, true_and, Int.lt_irrefl, Int.reduceEq, Int.reduceNe, Int.reduceLT, Int.reduceLE, Int.reduceSub, Int.reduceAdd, Int.reduceMul, Int.reduceDiv, Int.reduceNeg, Int.reduceToNat, or_self, or_false, false_or, if_false, if_true, not_true_eq_false, not_false_eq_true, or_true, true_or, and_false, false_and, zI_toInt, zI_tn, A_b, A_1, A_put, fp16, A_mul', A_al_0, A_al_1, A_al_2, A_al_12, A_al_13, A_al_14, A_al_15, A_al_16, A_al_17, A_al_18, A_al_19, A_al_20, A_al_21, A_al_22, A_al_23, A_al_24, A_al_25, A_al_26, A_al_27, A_al_28, A_mul']
def fl18 (b : Nat) : List Value := [.ref (b + 1 + 0), .ref (b + 1 + 1), .ref (b + 1 + 2), .ref (b + 1 + 3), .ref (b + 1 + 12), .ref (b + 1 + 13), .ref (b + 1 + 14), .int (zI 0), .ref (b + 1 + 15), .int (zI 0), .ref (b + 1 + 16), .ref (b + 1 + 17), .ref (b + 1 + 18), .ref (b + 1 + 19), .ref (b + 1 + 20), .ref (b + 1 + 21), .ref (b + 1 + 22), .ref (b + 1 + 23), .ref (b + 1 + 24), .int (zI 0), .int (zI 1), .null, .null, .int (zI 0), .int (zI 0), .int (zI 0), .int (zI 0), .int (zI 0), .null, .int (zI 0), .null, .int (zI 0), .null, .null, .int (zI 0), .int (zI 0)]
theorem fp17 {b : Nat} : pfA (.inl (6, fl17 b)) 6 20 (.int (zI 1)) = some (.inl (6, fl18 b)) := rfl
theorem i135_17 {cf : Nat → List Value → AM → Option AR} {M : Nat → AC} {b s : Nat} (hb : b + 30 < 600000) : den cf 135 144 [.ref b] [] (Ast M b 25 (s + 757) (fl17 b)) = den cf 135 149 [.ref b] [] (Ast M b 25 (s + 757) (fl18 b)) := by
  simp (disch := omega) only [e_135_144, e_135_145, e_135_146, oK_some, okv_r, okv_i, if_true, if_pos, and_self, and_true, true_and, Int.lt_irrefl, Int.reduceEq, Int.reduceNe, Int.reduceLT, Int.reduceLE, Int.reduceSub, Int.reduceAdd, Int.reduceMul, Int.reduceDiv, Int.reduceNeg, Int.reduceToNat, or_self, or_false, false_or, if_false, if_true, not_true_eq_false, not_false_eq_true, or_true, true_or, and_false, false_and, zI_toInt, zI_tn, A_b, A_1, A_put, fp17, A_mul', A_al_0, A_al_1, A_al_2, A_al_12, A_al_13, A_al_14, A_al_15, A_al_16, A_al_17, A_al_18, A_al_19, A_al_20, A_al_21, A_al_22, A_al_23, A_al_24, A_al_25, A_al_26, A_al_27, A_al_28, A_mul']
def fl19 (b : Nat) : List Value := [.ref (b + 1 + 0), .ref (b + 1 + 1), .ref (b + 1 + 2), .ref (b + 1 + 3), .ref (b + 1 + 12), .ref (b + 1 + 13), .ref (b + 1 + 14), .int (zI 0), .ref (b + 1 + 15), .int (zI 0), .ref (b + 1 + 16), .ref (b + 1 + 17), .ref (b + 1 + 18), .ref (b + 1 + 19), .ref (b + 1 + 20), .ref (b + 1 + 21), .ref (b + 1 + 22), .ref (b + 1 + 23), .ref (b + 1 + 24), .int (zI 0), .int (zI 1), .null, .null, .int (zI 0), .int (zI 0), .int (zI 0), .int (zI 0), .int (zI 0), .ref (b + 1 + 25), .int (zI 0), .null, .int (zI 0), .null, .null, .int (zI 0), .int (zI 0)]
theorem fp18 {b : Nat} : pfA (.inl (6, fl18 b)) 6 28 (.ref (b + 1 + 25)) = some (.inl (6, fl19 b)) := rfl
theorem i135_18 {cf : Nat → List Value → AM → Option AR} {M : Nat → AC} {b s : Nat} (hb : b + 30 < 600000) : den cf 135 149 [.ref b] [] (Ast M b 25 (s + 757) (fl18 b)) = den cf 135 156 [.ref b] [] (Ast M b 26 (s + 760) (fl19 b)) := by
  simp (disch := omega) only [e_135_149, e_135_150, e_135_151, e_135_153, oK_some, okv_r, okv_i, if_true, if_pos, and_self, and_true, true_and, Int.lt_irrefl, Int.reduceEq, Int.reduceNe, Int.reduceLT, Int.reduceLE, Int.reduceSub, Int.reduceAdd, Int.reduceMul, Int.reduceDiv, Int.reduceNeg, Int.reduceToNat, or_self, or_false, false_or, if_false, if_true, not_true_eq_false, not_false_eq_true, or_true, true_or, and_false, false_and, zI_toInt, zI_tn, A_b, A_1, A_put, fp18, A_mul', A_al_0, A_al_1, A_al_2, A_al_12, A_al_13, A_al_14, A_al_15, A_al_16, A_al_17, A_al_18, A_al_19, A_al_20, A_al_21, A_al_22, A_al_23, A_al_24, A_al_25, A_al_26, A_al_27, A_al_28, A_mul']
def fl20 (b : Nat) : List Value := [.ref (b + 1 + 0), .ref (b + 1 + 1), .ref (b + 1 + 2), .ref (b + 1 + 3), .ref (b + 1 + 12), .ref (b + 1 + 13), .ref (b + 1 + 14), .int (zI 0), .ref (b + 1 + 15), .int (zI 0), .ref (b + 1 + 16), .ref (b + 1 + 17), .ref (b + 1 + 18), .ref (b + 1 + 19), .ref (b + 1 + 20), .ref (b + 1 + 21), .ref (b + 1 + 22), .ref (b + 1 + 23), .ref (b + 1 + 24), .int (zI 0), .int (zI 1), .null, .null, .int (zI 0), .int (zI 0), .int (zI 0), .int (zI 0), .int (zI 0), .ref (b + 1 + 25), .int (zI 0), .ref (b + 1 + 26), .int (zI 0), .null, .null, .int (zI 0), .int (zI 0)]
theorem fp19 {b : Nat} : pfA (.inl (6, fl19 b)) 6 30 (.ref (b + 1 + 26)) = some (.inl (6, fl20 b)) := rfl
theorem i135_19 {cf : Nat → List Value → AM → Option AR} {M : Nat → AC} {b s : Nat} (hb : b + 30 < 600000) : den cf 135 156 [.ref b] [] (Ast M b 26 (s + 760) (fl19 b)) = den cf 135 164 [.ref b] [] (Ast M b 27 (s + 766) (fl20 b)) := by
  simp (disch := omega) only [e_135_156, e_135_157, e_135_159, e_135_161, oK_some, okv_r, okv_i, if_true, if_pos, and_self, and_true, true_and, Int.lt_irrefl, Int.reduceEq, Int.reduceNe, Int.reduceLT, Int.reduceLE, Int.reduceSub, Int.reduceAdd, Int.reduceMul, Int.reduceDiv, Int.reduceNeg, Int.reduceToNat, or_self, or_false, false_or, if_false, if_true, not_true_eq_false, not_false_eq_true, or_true, true_or, and_false, false_and, zI_toInt, zI_tn, A_b, A_1, A_put, fp19, A_mul', A_al_0, A_al_1, A_al_2, A_al_12, A_al_13, A_al_14, A_al_15, A_al_16, A_al_17, A_al_18, A_al_19, A_al_20, A_al_21, A_al_22, A_al_23, A_al_24, A_al_25, A_al_26, A_al_27, A_al_28, A_mul']
def fl21 (b : Nat) : List Value := [.ref (b + 1 + 0), .ref (b + 1 + 1), .ref (b + 1 + 2), .ref (b + 1 + 3), .ref (b + 1 + 12), .ref (b + 1 + 13), .ref (b + 1 + 14), .int (zI 0), .ref (b + 1 + 15), .int (zI 0), .ref (b + 1 + 16), .ref (b + 1 + 17), .ref (b + 1 + 18), .ref (b + 1 + 19), .ref (b + 1 + 20), .ref (b + 1 + 21), .ref (b + 1 + 22), .ref (b + 1 + 23), .ref (b + 1 + 24), .int (zI 0), .int (zI 1), .null, .null, .int (zI 0), .int (zI 0), .int (zI 0), .int (zI 0), .int (zI 0), .ref (b + 1 + 25), .int (zI 0), .ref (b + 1 + 26), .int (zI 0), .ref (b + 1 + 27), .null, .int (zI 0), .int (zI 0)]
theorem fp20 {b : Nat} : pfA (.inl (6, fl20 b)) 6 32 (.ref (b + 1 + 27)) = some (.inl (6, fl21 b)) := rfl
theorem i135_20 {cf : Nat → List Value → AM → Option AR} {M : Nat → AC} {b s : Nat} (hb : b + 30 < 600000) : den cf 135 164 [.ref b] [] (Ast M b 27 (s + 766) (fl20 b)) = den cf 135 172 [.ref b] [] (Ast M b 28 (s + 772) (fl21 b)) := by
  simp (disch := omega) only [e_135_164, e_135_165, e_135_167, e_135_169, oK_some, okv_r, okv_i, if_true, if_pos, and_self, and_true, true_and, Int.lt_irrefl, Int.reduceEq, Int.reduceNe, Int.reduceLT, Int.reduceLE, Int.reduceSub, Int.reduceAdd, Int.reduceMul, Int.reduceDiv, Int.reduceNeg, Int.reduceToNat, or_self, or_false, false_or, if_false, if_true, not_true_eq_false, not_false_eq_true, or_true, true_or, and_false, false_and, zI_toInt, zI_tn, A_b, A_1, A_put, fp20, A_mul', A_al_0, A_al_1, A_al_2, A_al_12, A_al_13, A_al_14, A_al_15, A_al_16, A_al_17, A_al_18, A_al_19, A_al_20, A_al_21, A_al_22, A_al_23, A_al_24, A_al_25, A_al_26, A_al_27, A_al_28, A_mul']
def fl22 (b : Nat) : List Value := [.ref (b + 1 + 0), .ref (b + 1 + 1), .ref (b + 1 + 2), .ref (b + 1 + 3), .ref (b + 1 + 12), .ref (b + 1 + 13), .ref (b + 1 + 14), .int (zI 0), .ref (b + 1 + 15), .int (zI 0), .ref (b + 1 + 16), .ref (b + 1 + 17), .ref (b + 1 + 18), .ref (b + 1 + 19), .ref (b + 1 + 20), .ref (b + 1 + 21), .ref (b + 1 + 22), .ref (b + 1 + 23), .ref (b + 1 + 24), .int (zI 0), .int (zI 1), .null, .null, .int (zI 0), .int (zI 0), .int (zI 0), .int (zI 0), .int (zI 0), .ref (b + 1 + 25), .int (zI 0), .ref (b + 1 + 26), .int (zI 0), .ref (b + 1 + 27), .ref (b + 1 + 28), .int (zI 0), .int (zI 0)]
theorem fp21 {b : Nat} : pfA (.inl (6, fl21 b)) 6 33 (.ref (b + 1 + 28)) = some (.inl (6, fl22 b)) := rfl
theorem i135_21 {cf : Nat → List Value → AM → Option AR} {M : Nat → AC} {b s : Nat} (hb : b + 30 < 600000) : den cf 135 172 [.ref b] [] (Ast M b 28 (s + 772) (fl21 b)) = den cf 135 180 [.ref b] [] (Ast M b 29 (s + 778) (fl22 b)) := by
  simp (disch := omega) only [e_135_172, e_135_173, e_135_175, e_135_177, oK_some, okv_r, okv_i, if_true, if_pos, and_self, and_true, true_and, Int.lt_irrefl, Int.reduceEq, Int.reduceNe, Int.reduceLT, Int.reduceLE, Int.reduceSub, Int.reduceAdd, Int.reduceMul, Int.reduceDiv, Int.reduceNeg, Int.reduceToNat, or_self, or_false, false_or, if_false, if_true, not_true_eq_false, not_false_eq_true, or_true, true_or, and_false, false_and, zI_toInt, zI_tn, A_b, A_1, A_put, fp21, A_mul', A_al_0, A_al_1, A_al_2, A_al_12, A_al_13, A_al_14, A_al_15, A_al_16, A_al_17, A_al_18, A_al_19, A_al_20, A_al_21, A_al_22, A_al_23, A_al_24, A_al_25, A_al_26, A_al_27, A_al_28, A_mul']
theorem fl_g {b : Nat} : gfA (.inl (6, fl22 b)) 6 18 = some (.ref (b + 1 + 24)) := rfl
theorem r_init {d : Nat} {M : Nat → AC} {b s : Nat} (hb : b + 30 < 600000) : callD (d + 1) 135 [.ref b] (Ast M b 0 s [.null, .null, .null, .null, .null, .null, .null, .int (zI 0), .null, .int (zI 0), .null, .null, .null, .null, .null, .null, .null, .null, .null, .int (zI 0), .int (zI 0), .null, .null, .int (zI 0), .int (zI 0), .int (zI 0), .int (zI 0), .int (zI 0), .null, .int (zI 0), .null, .int (zI 0), .null, .null, .int (zI 0), .int (zI 0)]) = some (none, gw0 (b + 30, s + 778, M) b) := by
  have hA : mU (Ast M b 29 (s + 778) (fl22 b)) (b + 1 + 24) (.inr (0, 3, .inl (upd (upd (fun _ => 0) 0 (zI 1)) 1 (zI 1)))) = gw0 (b + 30, s + 778, M) b := A_fin
  have e0 : (Ast M b 0 s [.null, .null, .null, .null, .null, .null, .null, .int (zI 0), .null, .int (zI 0), .null, .null, .null, .null, .null, .null, .null, .null, .null, .int (zI 0), .int (zI 0), .null, .null, .int (zI 0), .int (zI 0), .int (zI 0), .int (zI 0), .int (zI 0), .null, .int (zI 0), .null, .int (zI 0), .null, .null, .int (zI 0), .int (zI 0)]) = (Ast M b 0 (s + 0) (fl0 b)) := rfl
  have e1 : ∀ x, ¬ b = b + 1 + x := fun x => by omega
  rw [e0, c_135, e_135_0, e_135_1, if_pos (by simp), i135_0 hb, i135_1 hb, i135_2 hb, i135_3 hb, i135_4 hb, i135_5 hb, i135_6 hb, i135_7 hb, i135_8 hb, i135_9 hb, i135_10 hb, i135_11 hb, i135_12 hb, i135_13 hb, i135_14 hb, i135_15 hb, i135_16 hb, i135_17 hb, i135_18 hb, i135_19 hb, i135_20 hb, i135_21 hb]
  simp (disch := omega) only [e_135_180, e_135_181, e_135_184, e_135_185, e_135_186, e_135_187, e_135_188, e_135_191, e_135_192, e_135_193, e_135_194, oK_some, if_true, if_pos, and_self, and_true, true_and, Int.lt_irrefl, Int.reduceEq, Int.reduceNe, Int.reduceLT, Int.reduceLE, Int.reduceSub, Int.reduceAdd, Int.reduceMul, Int.reduceDiv, Int.reduceNeg, Int.reduceToNat, or_self, or_false, false_or, if_false, if_true, not_true_eq_false, not_false_eq_true, or_true, true_or, and_false, false_and, A_b, A_25, fl_g, stI_0, mU_ne, mU_at, mU_mU, e1, Int.toNat_zero, Int.toNat_one, not_false_eq_true, hA]
/-! what is copied -/
theorem mU_self {M : AM} {q : Nat} {c : AC} (h : M.2.2 q = c) : mU M q c = M := by
  refine Prod.ext rfl (Prod.ext rfl (funext fun r => ?_))
  by_cases e : r = q
  · subst e; rw [mU_at, h]
  · rw [mU_ne e]
theorem r_copied {d n x y : Nat} {M : AM} {f g : Nat → Int32} (hx : M.2.2 x = .inr (0, n, .inl f)) (hy : M.2.2 y = .inr (0, n, .inl g)) (hxy : ¬ x = y) (hn : n < 1000) : callD (d + 1) 237 [.ref x, .ref y] M = some (none, mU M y (.inr (0, n, .inl (fun j => if j < n then f j else g j)))) := by
  rw [c_237 (is2_r _) (is2_r _)]
  simp (disch := omega) only [e_237_0, e_237_1, gfA_i, pfA_i, List.getElem?_cons_zero, List.getElem?_cons_succ, oK_some, rK_some, pR_some, pR_none, kq_i, kq_r, kq_n, kq_u, kq_o, kq_l, isRf_r, isRf_n, isRf_o, okv_r, okv_n, okv_o, is2_r, is2_o, is2_n, rcv_r, isC_i, if_true, if_pos, zI_add, zI_sub, zI_mul, nc_12, nc_8, nc_6, nc_40, nc_250, nc_3, nc_s, len4_0, len4_1, len4_2, len4_3, len4_4, and_self, and_true, true_and, lenA_i, va_rf_s, va_rf_n, oN_none, oN_some]
  have h0 : mU M y (.inr (0, n, .inl (fun j => if j < 0 then f j else g j))) = M := mU_self (by
    rw [hy]
    refine congrArg (fun z => Sum.inr (0, n, Sum.inl z)) (funext fun j => ?_)
    rw [if_neg (by omega)])
  have hlo := loopN (fun i (_ : Unit) => den (callD d) 237 2 [.ref x, .ref y, .int (zI i)] [] (mU M y (.inr (0, n, .inl (fun j => if j < i then f j else g j))))) (fun _ c => c) n (fun i c hi => by
    have hu : upd (fun j => if j < i then f j else g j) i (f i) = fun j => if j < i + 1 then f j else g j := by
      funext j
      show (if j = i then f i else if j < i then f j else g j) = _
      by_cases e : j = i
      · rw [if_pos e, if_pos (by omega), e]
      · rw [if_neg e]
        by_cases e2 : j < i
        · rw [if_pos e2, if_pos (by omega)]
        · rw [if_neg e2, if_neg (by omega)]
    try dsimp only
    conv => lhs; rw [e_237_2]
    simp (disch := omega) only [e_237_3, e_237_4, e_237_5, e_237_8, e_237_9, e_237_10, e_237_11, e_237_12, e_237_13, e_237_14, e_237_17, gfA_i, pfA_i, List.getElem?_cons_zero, List.getElem?_cons_succ, oK_some, rK_some, pR_some, pR_none, kq_i, kq_r, kq_n, kq_u, kq_o, kq_l, isRf_r, isRf_n, isRf_o, okv_r, okv_n, okv_o, is2_r, is2_o, is2_n, rcv_r, isC_i, if_true, if_pos, zI_add, zI_sub, zI_mul, nc_12, nc_8, nc_6, nc_40, nc_250, nc_3, nc_s, len4_0, len4_1, len4_2, len4_3, len4_4, and_self, and_true, true_and, lenA_i, va_rf_s, va_rf_n, oN_none, oN_some, Int.lt_irrefl, Int.reduceEq, Int.reduceNe, Int.reduceLT, Int.reduceLE, Int.reduceSub, Int.reduceAdd, Int.reduceMul, Int.reduceDiv, Int.reduceNeg, Int.reduceToNat, or_self, or_false, false_or, if_false, if_true, not_true_eq_false, not_false_eq_true, or_true, true_or, and_false, false_and, zI_lt, nat_tn, nc_s, mU_ne, mU_at, mU_mU, hxy, hx, ldI_0, stI_0, hu, lenA_i, not_false_eq_true]) n 0 () (by omega)
  try dsimp only at hlo
  rw [h0] at hlo
  refine hlo.trans ?_
  rw [e_237_2]
  simp (disch := omega) only [e_237_3, e_237_4, e_237_5, e_237_20, gfA_i, pfA_i, List.getElem?_cons_zero, List.getElem?_cons_succ, oK_some, rK_some, pR_some, pR_none, kq_i, kq_r, kq_n, kq_u, kq_o, kq_l, isRf_r, isRf_n, isRf_o, okv_r, okv_n, okv_o, is2_r, is2_o, is2_n, rcv_r, isC_i, if_true, if_pos, zI_add, zI_sub, zI_mul, nc_12, nc_8, nc_6, nc_40, nc_250, nc_3, nc_s, len4_0, len4_1, len4_2, len4_3, len4_4, and_self, and_true, true_and, lenA_i, va_rf_s, va_rf_n, oN_none, oN_some, Int.lt_irrefl, Int.reduceEq, Int.reduceNe, Int.reduceLT, Int.reduceLE, Int.reduceSub, Int.reduceAdd, Int.reduceMul, Int.reduceDiv, Int.reduceNeg, Int.reduceToNat, or_self, or_false, false_or, if_false, if_true, not_true_eq_false, not_false_eq_true, or_true, true_or, and_false, false_and, zI_lt, mU_ne, hxy, hx, lenA_i, not_false_eq_true]
section TF
variable {M : AM} {o : Nat} {S S' S0 : Sc} {U U' : Nat → Int} {kt kt' : Option Nat × Option Nat} {F F' : Nat → Nat → Int32} {E E' : Nat → Nat → Int64} {mv mv' : Nat → Int64}
theorem G_eqS (h : ∀ f i, f < 8 → S' f i = S f i) (h8 : ∀ i, i < 6 → S' 8 i = S 8 i) : (G M o (S') U kt F E mv) = (G M o S U kt F E mv) := by
  have e1 : mcl o S' U kt = mcl o S U kt := by
    unfold mcl
    rw [h8 0 (by omega), h8 4 (by omega), h8 5 (by omega)]
  have e2 : ∀ f, f < 8 → aS S' f = aS S f := fun f hf => by
    unfold aS
    refine congrArg (fun z => Sum.inr (0, 12, Sum.inl z)) (funext fun i => ?_)
    rw [h f i hf]
  have e3 : aA S' = aA S := by
    unfold aA
    refine congrArg (fun z => Sum.inr (0, 3, Sum.inl z)) (funext fun i => ?_)
    by_cases hi : i < 3
    · rw [if_pos hi, if_pos hi, h8 (i + 1) (by omega)]
    · rw [if_neg hi, if_neg hi]
  refine Prod.ext rfl (Prod.ext rfl (funext fun q => ?_))
  show (if q = o then mcl o S' U kt else if q < o ∨ o + 30 ≤ q then M.2.2 q else gar o S' F E mv (q - o)) = (if q = o then mcl o S U kt else if q < o ∨ o + 30 ≤ q then M.2.2 q else gar o S F E mv (q - o))
  rw [e1]
  by_cases e : q = o
  · rw [if_pos e, if_pos e]
  · rw [if_neg e, if_neg e]
    by_cases e4 : q < o ∨ o + 30 ≤ q
    · rw [if_pos e4, if_pos e4]
    · rw [if_neg e4, if_neg e4]
      have hj : (q - o < 17 ∨ 25 ≤ q - o) ∨ (17 ≤ q - o ∧ q - o < 25) := by omega
      unfold gar
      rw [e3]
      rcases hj with hj | hj
      · by_cases e5 : q - o < 13
        · simp only [e5, if_true]
        · have h5 : q - o = 13 ∨ q - o = 14 ∨ q - o = 15 ∨ q - o = 16 ∨ q - o = 25 ∨ q - o = 26 ∨ q - o = 27 ∨ q - o = 28 ∨ q - o = 29 := by omega
          rcases h5 with h5 | h5 | h5 | h5 | h5 | h5 | h5 | h5 | h5 <;> (rw [h5]; rfl)
      · rw [e2 _ (by omega)]
theorem mG_fld {f : Nat} (hf : f < 8) (h2 : ∀ g i, ¬ g = f → S' g i = S g i) : mU (G M o S U kt F E mv) (o + (17 + f)) (aS S' f) = (G M o (S') U kt F E mv) := by
  have hS : ∀ g, ¬ g = f → aS S' g = aS S g := fun g hg => by
    unfold aS
    refine congrArg (fun z => Sum.inr (0, 12, Sum.inl z)) (funext fun i => ?_)
    rw [h2 g i hg]
  have hA : aA S' = aA S := by
    unfold aA
    refine congrArg (fun z => Sum.inr (0, 3, Sum.inl z)) (funext fun i => ?_)
    rw [h2 8 _ (by omega)]
  refine mU_Ga (by omega) (by omega) ?_ ?_ (fun k h1 h2 h3 => ?_)
  · unfold gar
    simp (disch := omega) only [if_neg]
    rw [show 17 + f - 17 = f by omega]
  · unfold mcl
    rw [h2 8 0 (by omega), h2 8 4 (by omega), h2 8 5 (by omega)]
  · unfold gar
    by_cases e : k < 17
    · have h4 : k = 1 ∨ k = 2 ∨ k = 3 ∨ k = 4 ∨ k = 5 ∨ k = 6 ∨ k = 7 ∨ k = 8 ∨ k = 9 ∨ k = 10 ∨ k = 11 ∨ k = 12 ∨ k = 13 ∨ k = 14 ∨ k = 15 ∨ k = 16 := by omega
      rcases h4 with rfl | rfl | rfl | rfl | rfl | rfl | rfl | rfl | rfl | rfl | rfl | rfl | rfl | rfl | rfl | rfl <;> rfl
    · rw [hS _ (by omega), hA]
/-- the fields below k are copied -/
def tfS (S0 S : Sc) (k : Nat) : Sc := fun f j => if f < k then S f j else if f = 8 ∧ j = 0 then S 8 0 else S0 f j
theorem tf_cp {d b k : Nat} (hbo : b + 30 ≤ o ∨ o + 30 ≤ b) (hk : k < 8) (hz0 : Z12 S0) (hz : Z12 S) (hb : M.2.2 (b + (17 + k)) = aS S k) : callD (d + 1) 237 [.ref (b + (17 + k)), .ref (o + (17 + k))] (G M o ((tfS S0 S k)) U kt F E mv) = some (none, (G M o ((tfS S0 S (k + 1))) U kt F E mv)) := by
  have h1 : (G M o ((tfS S0 S k)) U kt F E mv).2.2 (b + (17 + k)) = aS S k := (G_ne (by omega)).trans hb
  have h2 : (G M o ((tfS S0 S k)) U kt F E mv).2.2 (o + (17 + k)) = aS (tfS S0 S k) k := (G_in (by omega) (by omega)).trans (by
    unfold gar
    simp (disch := omega) only [if_neg]
    rw [show 17 + k - 17 = k by omega])
  rw [r_copied h1 h2 (by omega) (by omega)]
  have e : (Sum.inr (0, 12, Sum.inl (fun j => if j < 12 then zI (S k j) else zI (tfS S0 S k k j))) : AC) = aS (tfS S0 S (k + 1)) k := by
    unfold aS
    refine congrArg (fun z => Sum.inr (0, 12, Sum.inl z)) (funext fun j => ?_)
    have e1 : tfS S0 S (k + 1) k j = S k j := if_pos (by omega)
    have e2 : tfS S0 S k k j = S0 k j := by unfold tfS; rw [if_neg (by omega), if_neg (by omega)]
    rw [e1, e2]
    by_cases hj : j < 12
    · rw [if_pos hj]
    · rw [if_neg hj, hz0 k j hk (by omega), hz k j hk (by omega)]
  rw [e, mG_fld hk (fun g i hg => ?_)]
  unfold tfS
  by_cases e5 : g < k
  · rw [if_pos e5, if_pos (by omega)]
  · rw [if_neg e5, if_neg (by omega)]
theorem tf_as {d b : Nat} (hbo : b + 30 ≤ o ∨ o + 30 ≤ b) (hb : M.2.2 (b + 25) = aA S) : callD (d + 1) 237 [.ref (b + 25), .ref (o + 25)] (G M o (S0) U kt F E mv) = some (none, (G M o ((fun f j => if f = 8 ∧ 1 ≤ j ∧ j ≤ 3 then S 8 j else S0 f j)) U kt F E mv)) := by
  have h1 : (G M o (S0) U kt F E mv).2.2 (b + 25) = aA S := (G_ne (by omega)).trans hb
  have h2 : (G M o (S0) U kt F E mv).2.2 (o + 25) = aA S0 := (G_in (by omega) (by omega)).trans rfl
  rw [r_copied h1 h2 (by omega) (by omega)]
  have e : (Sum.inr (0, 3, Sum.inl (fun j => if j < 3 then (if j < 3 then zI (S 8 (j + 1)) else 0) else (if j < 3 then zI (S0 8 (j + 1)) else 0))) : AC) = aA (fun f j => if f = 8 ∧ 1 ≤ j ∧ j ≤ 3 then S 8 j else S0 f j) := by
    unfold aA
    refine congrArg (fun z => Sum.inr (0, 3, Sum.inl z)) (funext fun j => ?_)
    by_cases hj : j < 3
    · rw [if_pos hj, if_pos hj, if_pos hj]
      show zI (S 8 (j + 1)) = zI (if (8 : Nat) = 8 ∧ 1 ≤ j + 1 ∧ j + 1 ≤ 3 then S 8 (j + 1) else S0 8 (j + 1))
      rw [if_pos (by omega)]
    · rw [if_neg hj, if_neg hj, if_neg hj]
  rw [e]
  refine congrArg some (congrArg (Prod.mk none) (mU_Ga (by omega) (by omega) rfl ?_ (fun k h1 h2 h3 => ?_)))
  · rfl
  · unfold gar
    by_cases e5 : k < 17
    · have h4 : k = 1 ∨ k = 2 ∨ k = 3 ∨ k = 4 ∨ k = 5 ∨ k = 6 ∨ k = 7 ∨ k = 8 ∨ k = 9 ∨ k = 10 ∨ k = 11 ∨ k = 12 ∨ k = 13 ∨ k = 14 ∨ k = 15 ∨ k = 16 := by omega
      rcases h4 with rfl | rfl | rfl | rfl | rfl | rfl | rfl | rfl | rfl | rfl | rfl | rfl | rfl | rfl | rfl | rfl <;> rfl
    · by_cases e6 : k < 25
      · have hS : aS (fun f j => if f = 8 ∧ 1 ≤ j ∧ j ≤ 3 then S 8 j else S0 f j) (k - 17) = aS S0 (k - 17) := by
          unfold aS
          refine congrArg (fun z => Sum.inr (0, 12, Sum.inl z)) (funext fun i => ?_)
          show zI (if k - 17 = 8 ∧ 1 ≤ i ∧ i ≤ 3 then S 8 i else S0 (k - 17) i) = zI (S0 (k - 17) i)
          rw [if_neg (by omega)]
        rw [hS]
        simp only [h3, if_false]
      · have h4 : k = 26 ∨ k = 27 ∨ k = 28 ∨ k = 29 := by omega
        rcases h4 with rfl | rfl | rfl | rfl <;> rfl
def tfT (S0 S : Sc) : Sc := fun f j => if f = 8 ∧ 1 ≤ j ∧ j ≤ 3 then S 8 j else tfS S0 S 8 f j
theorem r_takeFrom {d b : Nat} (hL : LY M b S) (hbo : b + 30 ≤ o ∨ o + 30 ≤ b) (hz0 : Z12 S0) (hz : Z12 S) : callD (d + 2) 238 [.ref o, .ref b] (G M o (S0) U kt F E mv) = some (none, (G M o (S) U kt F E mv)) := by
  obtain ⟨Ub, kb, Fb, Eb, mb, hL⟩ := hL
  have hq : ∀ q, M.2.2 q = (G M (b) S (Ub) (kb) (Fb) (Eb) (mb)).2.2 q := fun q => by rw [hL]
  have hb0 : ∀ S1, (G M o (S1) U kt F E mv).2.2 b = mcl b S Ub kb := fun S1 => (G_ne (by omega)).trans ((hq b).trans G_o)
  have hcp : ∀ k, k < 8 → M.2.2 (b + (17 + k)) = aS S k := fun k hk => (hq _).trans ((G_in (by omega) (by omega)).trans (by
    unfold gar
    simp (disch := omega) only [if_neg]
    rw [show 17 + k - 17 = k by omega]))
  have ha : M.2.2 (b + 25) = aA S := (hq _).trans ((G_in (by omega) (by omega)).trans rfl)
  have e0 : sU S0 8 0 (S 8 0) = tfS S0 S 0 := by funext f j; exact (if_neg (Nat.not_lt_zero f)).symm
  have e0' : mU (G M o (S0) U kt F E mv) o (mcl o (sU S0 8 0 (S 8 0)) U kt) = (G M o ((tfS S0 S 0)) U kt F E mv) := by rw [mG_8 (Or.inl rfl), e0]
  have c0 : callD (d + 1) 237 [.ref (b + 17), .ref (o + 17)] (G M o ((tfS S0 S 0)) U kt F E mv) = _ := tf_cp (k := 0) hbo (by omega) hz0 hz (hcp 0 (by omega))
  have c1 : callD (d + 1) 237 [.ref (b + 18), .ref (o + 18)] (G M o ((tfS S0 S 1)) U kt F E mv) = _ := tf_cp (k := 1) hbo (by omega) hz0 hz (hcp 1 (by omega))
  have c2 : callD (d + 1) 237 [.ref (b + 19), .ref (o + 19)] (G M o ((tfS S0 S 2)) U kt F E mv) = _ := tf_cp (k := 2) hbo (by omega) hz0 hz (hcp 2 (by omega))
  have c3 : callD (d + 1) 237 [.ref (b + 20), .ref (o + 20)] (G M o ((tfS S0 S 3)) U kt F E mv) = _ := tf_cp (k := 3) hbo (by omega) hz0 hz (hcp 3 (by omega))
  have c4 : callD (d + 1) 237 [.ref (b + 21), .ref (o + 21)] (G M o ((tfS S0 S 4)) U kt F E mv) = _ := tf_cp (k := 4) hbo (by omega) hz0 hz (hcp 4 (by omega))
  have c5 : callD (d + 1) 237 [.ref (b + 22), .ref (o + 22)] (G M o ((tfS S0 S 5)) U kt F E mv) = _ := tf_cp (k := 5) hbo (by omega) hz0 hz (hcp 5 (by omega))
  have c6 : callD (d + 1) 237 [.ref (b + 23), .ref (o + 23)] (G M o ((tfS S0 S 6)) U kt F E mv) = _ := tf_cp (k := 6) hbo (by omega) hz0 hz (hcp 6 (by omega))
  have c7 : callD (d + 1) 237 [.ref (b + 24), .ref (o + 24)] (G M o ((tfS S0 S 7)) U kt F E mv) = _ := tf_cp (k := 7) hbo (by omega) hz0 hz (hcp 7 (by omega))
  have c8 : callD (d + 1) 237 [.ref (b + 25), .ref (o + 25)] (G M o ((tfS S0 S 8)) U kt F E mv) = some (none, (G M o ((tfT S0 S)) U kt F E mv)) := tf_as hbo ha
  rw [c_238 (is2_r _)]
  simp (maxSteps := 10000000) (disch := omega) only [e_238_0, e_238_1, e_238_2, e_238_5, e_238_8, e_238_9, e_238_12, e_238_13, e_238_16, e_238_19, e_238_20, e_238_23, e_238_24, e_238_27, e_238_30, e_238_31, e_238_34, e_238_35, e_238_38, e_238_41, e_238_42, e_238_45, e_238_46, e_238_49, e_238_52, e_238_53, e_238_56, e_238_57, e_238_60, e_238_63, e_238_64, e_238_67, e_238_68, e_238_71, e_238_74, e_238_75, e_238_78, e_238_79, e_238_82, e_238_85, e_238_86, e_238_89, e_238_90, e_238_93, e_238_96, e_238_97, e_238_100, e_238_101, e_238_104, e_238_107, e_238_108, e_238_109, e_238_112, e_238_115, e_238_116, e_238_117, e_238_120, e_238_123, gfA_i, pfA_i, List.getElem?_cons_zero, List.getElem?_cons_succ, oK_some, rK_some, pR_some, pR_none, kq_i, kq_r, kq_n, kq_u, kq_o, kq_l, isRf_r, isRf_n, isRf_o, okv_r, okv_n, okv_o, is2_r, is2_o, is2_n, rcv_r, isC_i, if_true, if_pos, zI_add, zI_sub, zI_mul, nc_12, nc_8, nc_6, nc_40, nc_250, nc_3, nc_s, len4_0, len4_1, len4_2, len4_3, len4_4, and_self, and_true, true_and, lenA_i, va_rf_s, va_rf_n, oN_none, oN_some, zI_lt, zI_eq, nat_tn, nc_s, Int.lt_irrefl, Int.reduceEq, Int.reduceNe, Int.reduceLT, Int.reduceLE, Int.reduceSub, Int.reduceAdd, Int.reduceMul, Int.reduceDiv, Int.reduceNeg, Int.reduceToNat, or_self, or_false, false_or, if_false, if_true, not_true_eq_false, not_false_eq_true, or_true, true_or, and_false, false_and, ldI_0, stI_0, isC_mcl, Int.add_zero, zJ_eq, Nat.reduceAdd, Nat.reduceLT, G_o, G_1, G_2, G_3, G_4, G_13, G_14, G_15, G_16, G_17, G_18, G_19, G_20, G_21, G_22, G_23, G_24, G_25, G_26, G_27, G_28, G_29, gm_0, gm_1, gm_2, gm_3, gm_4, gm_5, gm_6, gm_7, gm_8, gm_9, gm_10, gm_11, gm_12, gm_13, gm_14, gm_15, gm_16, gm_17, gm_18, gm_19, gm_20, gm_21, gm_22, gm_23, gm_24, gm_25, gm_26, gm_27, gm_28, gm_29, gm_30, gm_31, gm_32, gm_33, gm_34, gm_35, pm_7, pm_23, pm_24, pm_25, pm_26, pm_27, pm_29, pm_31, pm_34, pm_35, pm_9, pm_19, pm_20, pm_21, pm_22, mG_U, mG_8, mG_25, mG_1, mG_2, mG_3, mG_13, mG_14, mG_15, mG_16, mG_26, mG_27, mG_28, mG_29, mG_17, mG_18, mG_19, mG_20, mG_21, mG_22, mG_23, mG_24, kq_l, va_up_ne, va_up_self, hb0, e0', c0, c1, c2, c3, c4, c5, c6, c7, c8]
  refine congrArg some (congrArg (Prod.mk none) (G_eqS (fun f i hf => ?_) (fun i hi => ?_)))
  · unfold sU tfT tfS
    rw [if_neg (by omega), if_neg (by omega), if_neg (by omega), if_pos (by omega)]
  · have h6 : i = 0 ∨ i = 1 ∨ i = 2 ∨ i = 3 ∨ i = 4 ∨ i = 5 := by omega
    rcases h6 with rfl | rfl | rfl | rfl | rfl | rfl <;> rfl
theorem G_G : G (G M o (S0) U kt F E mv) o S U' kt' F' E' mv' = (G M o S (U') (kt') (F') (E') (mv')) := by
  refine Prod.ext rfl (Prod.ext rfl (funext fun q => ?_))
  show (if q = o then mcl o S U' kt' else if q < o ∨ o + 30 ≤ q then (if q = o then _ else if q < o ∨ o + 30 ≤ q then M.2.2 q else _) else gar o S F' E' mv' (q - o)) = (if q = o then mcl o S U' kt' else if q < o ∨ o + 30 ≤ q then M.2.2 q else gar o S F' E' mv' (q - o))
  by_cases e : q = o
  · rw [if_pos e, if_pos e]
  · rw [if_neg e, if_neg e, if_neg e]
    by_cases e4 : q < o ∨ o + 30 ≤ q
    · rw [if_pos e4, if_pos e4, if_pos e4]
    · rw [if_neg e4, if_neg e4]
theorem LY_G : LY (G M o S U kt F E mv) o S := ⟨U, kt, F, E, mv, G_G⟩
theorem LY_ne {D D' : AM} {a : Nat} (h : LY D a S) (he : ∀ q, a ≤ q → q < a + 30 → D'.2.2 q = D.2.2 q) : LY D' a S := by
  obtain ⟨U, kt, F, E, mv, h⟩ := h
  refine ⟨U, kt, F, E, mv, Prod.ext rfl (Prod.ext rfl (funext fun q => ?_))⟩
  by_cases e : a ≤ q ∧ q < a + 30
  · rw [he q e.1 e.2, ← congrFun (congrArg (fun z : AM => z.2.2) h) q]
    show (if q = a then _ else if q < a ∨ a + 30 ≤ q then D'.2.2 q else _) = (if q = a then _ else if q < a ∨ a + 30 ≤ q then D.2.2 q else _)
    by_cases e1 : q = a
    · rw [if_pos e1, if_pos e1]
    · rw [if_neg e1, if_neg e1, if_neg (by omega), if_neg (by omega)]
  · rw [G_ne (by omega)]
end TF
theorem itc {α : Type} {c : Prop} {hd : Decidable c} {a x y : α} (h : ¬ c → x = y) : @ite α c hd a x = @ite α c hd a y := by
  by_cases e : c
  · rw [if_pos e, if_pos e]
  · rw [if_neg e, if_neg e, h e]
theorem In_z {S : Sc} (h : In S) : Z12 S := fun f i hf hi => h.a hf (by have := h.1; omega)
section HD
variable {S S2 K : Sc} {kp : Int} {X : Xm} {T : Sc} {nC : Nat → Int} {E : Nat → Nat → Int64} {z : Int} {B : Nat → Int32} {Y : Yt} {Rf : Nat → Int32} {D D' : AM} {U U' : Nat → Int} {kt kt' : Option Nat × Option Nat} {F F' : Nat → Nat → Int32} {mv mv' : Nat → Int64} {S' Sh : Sc} {E' : Nat → Nat → Int64}
theorem H_hi {q : Nat} (h : 68 ≤ q) : (H S S2 K kp X T nC E z B Y Rf D).2.2 q = D.2.2 q := by
  rw [H_ne (by omega)]
  unfold bsc
  rw [if_neg (by omega), if_neg (by omega), if_neg (by omega), if_neg (by omega), if_neg (by omega), if_neg (by omega), if_neg (by omega), if_neg (by omega), if_neg (by omega), if_neg (by omega), if_neg (by omega)]
theorem H_lo {q : Nat} (h : q < 68) : (H S S2 K kp X T nC E z B Y Rf D).2.2 q = (H S S2 K kp X T nC E z B Y Rf (D')).2.2 q := by
  unfold H putS bs bsc
  dsimp only
  refine itc fun h1 => itc fun h2 => itc fun h3 => itc fun h4 => itc fun h5 => itc fun h6 => itc fun h7 => itc fun h8 => itc fun h9 => itc fun h10 => itc fun h11 => itc fun h12 => itc fun h13 => itc fun h14 => itc fun h15 => itc fun h16 => itc fun h17 => itc fun h18 => itc fun h19 => itc fun h20 => ?_
  omega
theorem GC {a : Nat} (ha : 98 ≤ a) : G (G ((H (Sh) S2 K kp X T nC E z B Y Rf D)) (68) S U kt F E mv) a S' U' kt' F' E' mv' = (G ((H (Sh) S2 K kp X T nC E z B Y Rf ((G D a S' U' kt' F' E' mv')))) (68) S U kt F E mv) := by
  refine Prod.ext rfl (Prod.ext rfl (funext fun q => ?_))
  by_cases e : q < 98
  · rw [G_ne (by omega)]
    by_cases e1 : q < 68
    · rw [G_ne (by omega), G_ne (by omega)]
      exact H_lo e1
    · show (if q = 68 then _ else if q < 68 ∨ 68 + 30 ≤ q then _ else _) = (if q = 68 then _ else if q < 68 ∨ 68 + 30 ≤ q then _ else _)
      refine itc fun h1 => ?_
      rw [if_neg (by omega), if_neg (by omega)]
  · rw [G_ne (o := 68) (by omega), H_hi (by omega)]
    show (if q = a then _ else if q < a ∨ a + 30 ≤ q then (G ((H (Sh) S2 K kp X T nC E z B Y Rf D)) (68) S U kt F E mv).2.2 q else _) = (if q = a then _ else if q < a ∨ a + 30 ≤ q then D.2.2 q else _)
    rw [G_ne (by omega), H_hi (by omega)]
/-- something done to the second reference alone -/
theorem onB {n m b : Nat} {as : List Value} {r : Option Value} {Sa Sb : Sc} (hL : LY D b Sa) (hb : 98 ≤ b) (h : ∀ U' kt' F' E' mv', G (G ((H (Sh) S2 K kp X T nC E z B Y Rf D)) (68) S U kt F E mv) b Sa U' kt' F' E' mv' = (G ((H (Sh) S2 K kp X T nC E z B Y Rf D)) (68) S U kt F E mv) → callD n m (.ref b :: as) (G (G ((H (Sh) S2 K kp X T nC E z B Y Rf D)) (68) S U kt F E mv) b Sa U' kt' F' E' mv') = some (r, G (G ((H (Sh) S2 K kp X T nC E z B Y Rf D)) (68) S U kt F E mv) b Sb U' kt' F' E' mv')) : ∃ D', callD n m (.ref b :: as) (G ((H (Sh) S2 K kp X T nC E z B Y Rf D)) (68) S U kt F E mv) = some (r, (G ((H (Sh) S2 K kp X T nC E z B Y Rf (D'))) (68) S U kt F E mv)) ∧ LY D' b Sb ∧ D'.1 = D.1 ∧ D'.2.1 = D.2.1 ∧ ∀ q, q < b ∨ b + 30 ≤ q → D'.2.2 q = D.2.2 q := by
  obtain ⟨U1, k1, F1, E1, m1, e⟩ := hL
  have eW : G (G ((H (Sh) S2 K kp X T nC E z B Y Rf D)) (68) S U kt F E mv) b Sa U1 k1 F1 E1 m1 = (G ((H (Sh) S2 K kp X T nC E z B Y Rf D)) (68) S U kt F E mv) := by rw [GC hb, e]
  have h1 := h U1 k1 F1 E1 m1 eW
  rw [eW, GC hb] at h1
  exact ⟨_, h1, LY_G, rfl, rfl, fun q hq => G_ne hq⟩
theorem LYl {a : Nat} (h : LY D a S') (ha : 98 ≤ a) : LY (G ((H (Sh) S2 K kp X T nC E z B Y Rf D)) (68) S U kt F E mv) a S' := by
  refine LY_ne h (fun q h1 h2 => ?_)
  rw [G_ne (by omega), H_hi (by omega)]
/-- the second reference takes all from the first -/
theorem tk_b {d b : Nat} {Sa : Sc} (hI : In S) (hL : LY D b Sa) (hb : 98 ≤ b) (hz : Z12 Sa) : ∃ D', callD (d + 2) 238 [.ref b, .ref 68] (G ((H (Sh) S2 K kp X T nC E z B Y Rf D)) (68) S U kt F E mv) = some (none, (G ((H (Sh) S2 K kp X T nC E z B Y Rf (D'))) (68) S U kt F E mv)) ∧ LY D' b S ∧ D'.1 = D.1 ∧ D'.2.1 = D.2.1 ∧ ∀ q, q < b ∨ b + 30 ≤ q → D'.2.2 q = D.2.2 q :=
  onB hL hb (fun U' kt' F' E' mv' e => by
    refine r_takeFrom ?_ (by omega) hz (In_z hI)
    exact LY_G)
/-- a new second reference -/
theorem nw_b {d : Nat} (hD : D.1 + 30 < 600000) (hb : 98 ≤ D.1) (hk : 98 ≤ D.1) : callD (d + 1) 135 [.ref D.1] (mN (G ((H (Sh) S2 K kp X T nC E z B Y Rf D)) (68) S U kt F E mv) 36 (.inl (6, dflA 6))) = some (none, (G ((H (Sh) S2 K kp X T nC E z B Y Rf ((gw0 (D.1 + 30, D.2.1 + 814, D.2.2) D.1)))) (68) S U kt F E mv)) := by
  have e : ((G ((H (Sh) S2 K kp X T nC E z B Y Rf D)) (68) S U kt F E mv) : AM).1 = D.1 := rfl
  have e2 : ((G ((H (Sh) S2 K kp X T nC E z B Y Rf D)) (68) S U kt F E mv) : AM).2.1 = D.2.1 := rfl
  rw [dfl6, A_new, e, e2, r_init hD]
  have e3 : (D.1 + 30, D.2.1 + 36 + 778, ((G ((H (Sh) S2 K kp X T nC E z B Y Rf D)) (68) S U kt F E mv) : AM).2.2) = ((G ((H (Sh) S2 K kp X T nC E z B Y Rf ((D.1 + 30, D.2.1 + 814, D.2.2)))) (68) S U kt F E mv) : AM) := rfl
  rw [e3]
  unfold gw0
  rw [GC hb]
theorem sc0_z : Z12 sc0 := fun f i hf hi => sc0_f (by omega)
end HD
