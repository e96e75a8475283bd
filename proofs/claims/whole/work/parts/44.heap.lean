/-! the whole object as a function of what it means: schools S (now), S2 (thought), K (kept), whether kept, X the matching, T nC E the shelves, z B Y the tape, Rf the refusals; the rest of the heap D -/
abbrev Xm : Type := (Nat → Int) × (Nat → Option Nat) × (Nat → Option Nat) × (Nat → Option Nat) × (Nat → Int32)
abbrev Yt : Type := (Nat → Int) × Option Nat
def c0 (kp : Int) : AC := .inl (5, [.ref 1, .ref 15, .ref 29, .int (zI kp), .ref 43, .ref 48, .ref 65, .ref 67])
def c43 (X : Xm) : AC := .inl (0, [.ref 44, .ref 45, .ref 46, .ref 47, .int (zI (X.1 0)), .int (zI (X.1 1)), .int (zI (X.1 2)), .int (zI (X.1 3))])
def c65 (z : Int) (Y : Yt) : AC := .inl (4, [.ref 66, .int (zI z), .int (zI (Y.1 0)), va_rf Y.2, .int (zI (Y.1 1)), .int (zI (Y.1 2)), .int (zI (Y.1 3))])
def c48 : AC := .inr (3, 8, .inr (.inr fun i => if i < 8 then some (49 + 2 * i) else none))
def bsc (kp : Int) (X : Xm) (T : Sc) (nC : Nat → Int) (E : Nat → Nat → Int64) (z : Int) (B : Nat → Int32) (Y : Yt) (Rf : Nat → Int32) (D : AM) (q : Nat) : AC :=
  if q = 0 then c0 kp else if q = 43 then c43 X else if q = 44 then .inr (2, 6, .inr (.inr X.2.1)) else if q = 45 then .inr (2, 12, .inr (.inr X.2.2.1)) else if q = 46 then .inr (2, 6, .inr (.inr X.2.2.2.1)) else if q = 47 then .inr (0, 2048, .inl X.2.2.2.2) else if q = 48 then c48 else if 49 ≤ q ∧ q < 65 then (if q % 2 = 1 then shl q (T 0 ((q - 49) / 2)) (nC ((q - 49) / 2)) (T 1 ((q - 49) / 2)) (T 2 ((q - 49) / 2)) else cel (E ((q - 49) / 2))) else if q = 65 then c65 z Y else if q = 66 then .inr (0, 250, .inl B) else if q = 67 then .inr (0, 7, .inl Rf) else D.2.2 q
def bs (kp : Int) (X : Xm) (T : Sc) (nC : Nat → Int) (E : Nat → Nat → Int64) (z : Int) (B : Nat → Int32) (Y : Yt) (Rf : Nat → Int32) (D : AM) : AM := (D.1, D.2.1, bsc kp X T nC E z B Y Rf D)
def H (S S2 K : Sc) (kp : Int) (X : Xm) (T : Sc) (nC : Nat → Int) (E : Nat → Nat → Int64) (z : Int) (B : Nat → Int32) (Y : Yt) (Rf : Nat → Int32) (D : AM) : AM := putS (putS (putS (bs kp X T nC E z B Y Rf D) 29 K) 15 S2) 1 S
section HH
variable {S S2 K S' : Sc} {kp kp' : Int} {X X' : Xm} {T T' : Sc} {nC nC' : Nat → Int} {E E' : Nat → Nat → Int64} {z z' : Int} {B B' : Nat → Int32} {Y Y' : Yt} {Rf Rf' : Nat → Int32} {D : AM}
theorem put_comm {M : AM} {o o' : Nat} {S S' : Sc} (h : o + 14 ≤ o' ∨ o' + 14 ≤ o) : putS (putS M o S) o' S' = putS (putS M o' S') o S := by
  refine Prod.ext rfl (Prod.ext rfl (funext fun q => ?_))
  show (if q = o' then scl S' o' else if q = o' + 1 then parr o' else if o' + 2 ≤ q ∧ q < o' + 14 then pcl S' o' (q - (o' + 2)) else if q = o then scl S o else if q = o + 1 then parr o else if o + 2 ≤ q ∧ q < o + 14 then pcl S o (q - (o + 2)) else M.2.2 q) = (if q = o then scl S o else if q = o + 1 then parr o else if o + 2 ≤ q ∧ q < o + 14 then pcl S o (q - (o + 2)) else if q = o' then scl S' o' else if q = o' + 1 then parr o' else if o' + 2 ≤ q ∧ q < o' + 14 then pcl S' o' (q - (o' + 2)) else M.2.2 q)
  (repeat' split) <;> first | rfl | (exfalso; omega)
theorem put_mU {M : AM} {o q : Nat} {S : Sc} {c : AC} (h : q < o ∨ o + 14 ≤ q) : mU (putS M o S) q c = putS (mU M q c) o S := by
  refine Prod.ext rfl (Prod.ext rfl (funext fun r => ?_))
  by_cases e : r = q
  · subst e; rw [mU_at, put_ne h, mU_at]
  · rw [mU_ne e]
    show (if r = o then scl S o else if r = o + 1 then parr o else if o + 2 ≤ r ∧ r < o + 14 then pcl S o (r - (o + 2)) else M.2.2 r) = (if r = o then scl S o else if r = o + 1 then parr o else if o + 2 ≤ r ∧ r < o + 14 then pcl S o (r - (o + 2)) else (mU M q c).2.2 r)
    rw [mU_ne e]
theorem H_ne {q : Nat} (h : q = 0 ∨ 43 ≤ q) : (H S S2 K kp X T nC E z B Y Rf D).2.2 q = bsc kp X T nC E z B Y Rf D q := by
  unfold H
  rw [put_ne (by omega), put_ne (by omega), put_ne (by omega)]
  rfl
theorem H_0 : (H S S2 K kp X T nC E z B Y Rf D).2.2 0 = c0 kp := (H_ne (by omega)).trans rfl
theorem H_43 : (H S S2 K kp X T nC E z B Y Rf D).2.2 43 = c43 X := (H_ne (by omega)).trans rfl
theorem H_44 : (H S S2 K kp X T nC E z B Y Rf D).2.2 44 = .inr (2, 6, .inr (.inr X.2.1)) := (H_ne (by omega)).trans rfl
theorem H_45 : (H S S2 K kp X T nC E z B Y Rf D).2.2 45 = .inr (2, 12, .inr (.inr X.2.2.1)) := (H_ne (by omega)).trans rfl
theorem H_46 : (H S S2 K kp X T nC E z B Y Rf D).2.2 46 = .inr (2, 6, .inr (.inr X.2.2.2.1)) := (H_ne (by omega)).trans rfl
theorem H_47 : (H S S2 K kp X T nC E z B Y Rf D).2.2 47 = .inr (0, 2048, .inl X.2.2.2.2) := (H_ne (by omega)).trans rfl
theorem H_48 : (H S S2 K kp X T nC E z B Y Rf D).2.2 48 = c48 := (H_ne (by omega)).trans rfl
theorem H_65 : (H S S2 K kp X T nC E z B Y Rf D).2.2 65 = c65 z Y := (H_ne (by omega)).trans rfl
theorem H_66 : (H S S2 K kp X T nC E z B Y Rf D).2.2 66 = .inr (0, 250, .inl B) := (H_ne (by omega)).trans rfl
theorem H_67 : (H S S2 K kp X T nC E z B Y Rf D).2.2 67 = .inr (0, 7, .inl Rf) := (H_ne (by omega)).trans rfl
theorem H_sh {s : Nat} (h : s < 8) : (H S S2 K kp X T nC E z B Y Rf D).2.2 (49 + 2 * s) = shl (49 + 2 * s) (T 0 s) (nC s) (T 1 s) (T 2 s) := by
  rw [H_ne (by omega)]
  unfold bsc
  rw [if_neg (by omega), if_neg (by omega), if_neg (by omega), if_neg (by omega), if_neg (by omega), if_neg (by omega), if_neg (by omega), if_pos (by omega), if_pos (by omega), show (49 + 2 * s - 49) / 2 = s by omega]
theorem H_ce {s : Nat} (h : s < 8) : (H S S2 K kp X T nC E z B Y Rf D).2.2 (49 + 2 * s + 1) = cel (E s) := by
  rw [H_ne (by omega)]
  unfold bsc
  rw [if_neg (by omega), if_neg (by omega), if_neg (by omega), if_neg (by omega), if_neg (by omega), if_neg (by omega), if_neg (by omega), if_pos (by omega), if_neg (by omega), show (49 + 2 * s + 1 - 49) / 2 = s by omega]
theorem RS_1 : RS (H S S2 K kp X T nC E z B Y Rf D) 1 S := RS_put _ _ _
theorem RS_15 : RS (H S S2 K kp X T nC E z B Y Rf D) 15 S2 := RS_put_ne (RS_put _ _ _) (by omega)
theorem RS_29 : RS (H S S2 K kp X T nC E z B Y Rf D) 29 K := RS_put_ne (RS_put_ne (RS_put _ _ _) (by omega)) (by omega)
theorem put_1 : putS (H S S2 K kp X T nC E z B Y Rf D) 1 S' = (H (S') S2 K kp X T nC E z B Y Rf D) := put_put _ _ _ _
theorem put_15 : putS (H S S2 K kp X T nC E z B Y Rf D) 15 S' = (H S (S') K kp X T nC E z B Y Rf D) := by
  unfold H
  rw [put_comm (o := 1) (by omega), put_put]
theorem put_29 : putS (H S S2 K kp X T nC E z B Y Rf D) 29 S' = (H S S2 (S') kp X T nC E z B Y Rf D) := by
  unfold H
  rw [put_comm (o := 1) (by omega), put_comm (o := 15) (by omega), put_put]
theorem mU_H {q : Nat} {c : AC} (h : q = 0 ∨ 43 ≤ q) (he : mU (bs kp X T nC E z B Y Rf D) q c = bs kp' X' T' nC' E' z' B' Y' Rf' D) : mU (H S S2 K kp X T nC E z B Y Rf D) q c = (H S S2 K (kp') (X') (T') (nC') (E') (z') (B') (Y') (Rf') D) := by
  unfold H
  rw [put_mU (by omega), put_mU (by omega), put_mU (by omega), he]
theorem mU_bs {q : Nat} {c : AC} (h1 : c = bsc kp' X' T' nC' E' z' B' Y' Rf' D q) (h2 : ∀ r, ¬ r = q → bsc kp X T nC E z B Y Rf D r = bsc kp' X' T' nC' E' z' B' Y' Rf' D r) : mU (bs kp X T nC E z B Y Rf D) q c = bs kp' X' T' nC' E' z' B' Y' Rf' D := by
  refine Prod.ext rfl (Prod.ext rfl (funext fun r => ?_))
  by_cases e : r = q
  · subst e; rw [mU_at, h1]; rfl
  · rw [mU_ne e]; exact h2 r e
theorem mU_0 : mU (H S S2 K kp X T nC E z B Y Rf D) 0 (c0 kp') = (H S S2 K (kp') X T nC E z B Y Rf D) := mU_H (by omega) (mU_bs rfl (fun r h => by unfold bsc; rw [if_neg h, if_neg h]))
theorem mU_65 : mU (H S S2 K kp X T nC E z B Y Rf D) 65 (c65 z' Y') = (H S S2 K kp X T nC E (z') B (Y') Rf D) := mU_H (by omega) (mU_bs rfl (fun r h => by simp only [bsc, h, if_false]))
theorem mU_66 : mU (H S S2 K kp X T nC E z B Y Rf D) 66 (.inr (0, 250, .inl B')) = (H S S2 K kp X T nC E z (B') Y Rf D) := mU_H (by omega) (mU_bs rfl (fun r h => by simp only [bsc, h, if_false]))
theorem mU_67 : mU (H S S2 K kp X T nC E z B Y Rf D) 67 (.inr (0, 7, .inl Rf')) = (H S S2 K kp X T nC E z B Y (Rf') D) := mU_H (by omega) (mU_bs rfl (fun r h => by simp only [bsc, h, if_false]))
theorem mU_43 {f : Nat → Int} : mU (H S S2 K kp X T nC E z B Y Rf D) 43 (c43 (f, X.2)) = (H S S2 K kp ((f, X.2)) T nC E z B Y Rf D) := mU_H (by omega) (mU_bs rfl (fun r h => by simp only [bsc, h, if_false]))
theorem mU_44 {f : Nat → Option Nat} : mU (H S S2 K kp X T nC E z B Y Rf D) 44 (.inr (2, 6, .inr (.inr f))) = (H S S2 K kp ((X.1, f, X.2.2)) T nC E z B Y Rf D) := mU_H (by omega) (mU_bs rfl (fun r h => by simp only [bsc, h, if_false]; rfl))
theorem mU_45 {f : Nat → Option Nat} : mU (H S S2 K kp X T nC E z B Y Rf D) 45 (.inr (2, 12, .inr (.inr f))) = (H S S2 K kp ((X.1, X.2.1, f, X.2.2.2)) T nC E z B Y Rf D) := mU_H (by omega) (mU_bs rfl (fun r h => by simp only [bsc, h, if_false]; rfl))
theorem mU_46 {f : Nat → Option Nat} : mU (H S S2 K kp X T nC E z B Y Rf D) 46 (.inr (2, 6, .inr (.inr f))) = (H S S2 K kp ((X.1, X.2.1, X.2.2.1, f, X.2.2.2.2)) T nC E z B Y Rf D) := mU_H (by omega) (mU_bs rfl (fun r h => by simp only [bsc, h, if_false]; rfl))
theorem mU_47 {f : Nat → Int32} : mU (H S S2 K kp X T nC E z B Y Rf D) 47 (.inr (0, 2048, .inl f)) = (H S S2 K kp ((X.1, X.2.1, X.2.2.1, X.2.2.2.1, f)) T nC E z B Y Rf D) := mU_H (by omega) (mU_bs rfl (fun r h => by simp only [bsc, h, if_false]; rfl))
theorem mU_ce {s : Nat} {e : Nat → Int64} (h : s < 8) : mU (H S S2 K kp X T nC E z B Y Rf D) (49 + 2 * s + 1) (cel e) = (H S S2 K kp X T nC ((va_up E s e)) z B Y Rf D) := mU_H (by omega) (mU_bs (by
  unfold bsc
  rw [if_neg (by omega), if_neg (by omega), if_neg (by omega), if_neg (by omega), if_neg (by omega), if_neg (by omega), if_neg (by omega), if_pos (by omega), if_neg (by omega), show (49 + 2 * s + 1 - 49) / 2 = s by omega, va_up_self]) (fun r h => by
  unfold bsc
  by_cases e1 : (r - 49) / 2 = s
  · by_cases hr : 49 ≤ r ∧ r < 65
    · have h2 : r % 2 = 1 := by omega
      simp only [h2, if_true]
    · simp only [hr, if_false]
  · rw [va_up_ne E e e1]))
/-- the shelf s with new numbers -/
def shT (T : Sc) (s : Nat) (a b c : Int) : Sc := fun f j => if j = s then (if f = 0 then a else if f = 1 then b else if f = 2 then c else T f j) else T f j
theorem mU_sh {s : Nat} {a n b c : Int} (h : s < 8) : mU (H S S2 K kp X T nC E z B Y Rf D) (49 + 2 * s) (shl (49 + 2 * s) a n b c) = (H S S2 K kp X ((shT T s a b c)) ((va_up nC s n)) E z B Y Rf D) := mU_H (by omega) (mU_bs (by
  unfold bsc
  rw [if_neg (by omega), if_neg (by omega), if_neg (by omega), if_neg (by omega), if_neg (by omega), if_neg (by omega), if_neg (by omega), if_pos (by omega), if_pos (by omega), show (49 + 2 * s - 49) / 2 = s by omega, va_up_self]
  simp [shT]) (fun r h => by
  unfold bsc
  by_cases e1 : (r - 49) / 2 = s
  · by_cases hr : 49 ≤ r ∧ r < 65
    · have h2 : ¬ r % 2 = 1 := by omega
      simp only [h2, if_false]
    · simp only [hr, if_false]
  · rw [va_up_ne nC n e1]
    simp [shT, e1]))
end HH
