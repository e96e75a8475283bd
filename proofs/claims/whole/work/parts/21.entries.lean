section ENT
variable {d : Nat} {M : AM} {a : Nat} {x1 x2 x3 x4 x5 x6 : Int32} {p1 p2 p3 p4 p5 p6 : Int64} {v1 v2 v3 v4 v5 v6 : Value}
theorem is2_i (x : Int32) : is2 (.int x) = false := rfl
theorem is2_r (x : Addr) : is2 (.ref x) = false := rfl
theorem is2_n : is2 .null = false := rfl
theorem is2_l (x : Int64) : is2 (.long x) = true := rfl
theorem is2_o (o : Option Nat) : is2 (va_rf o) = false := by cases o <;> rfl
theorem c_0 (h1 : is2 v1 = false) : callD (d + 1) 0 [v1] M = den (callD d) 0 0 [v1, uu, uu, uu] [] M := by
  rw [callD_eq (by decide), show mdL 0 = 4 from rfl, show enL 4 [v1] = [v1, uu, uu, uu] from by simp [enL, is2_i, is2_r, is2_l, List.replicate, h1]]
  exact if_pos rfl
theorem c_1  : callD (d + 1) 1 [.ref a] M = den (callD d) 1 0 [.ref a] [] M := by
  rw [callD_eq (by decide), show mdL 1 = 1 from rfl, show enL 1 [.ref a] = [.ref a] from by simp [enL, is2_i, is2_r, is2_l, List.replicate]]
  exact if_pos rfl
theorem c_2  : callD (d + 1) 2 [.ref a, .int x1] M = den (callD d) 2 0 [.ref a, .int x1] [] M := by
  rw [callD_eq (by decide), show mdL 2 = 2 from rfl, show enL 2 [.ref a, .int x1] = [.ref a, .int x1] from by simp [enL, is2_i, is2_r, is2_l, List.replicate]]
  exact if_pos rfl
theorem c_3  : callD (d + 1) 3 [.ref a, .int x1] M = den (callD d) 3 0 [.ref a, .int x1] [] M := by
  rw [callD_eq (by decide), show mdL 3 = 2 from rfl, show enL 2 [.ref a, .int x1] = [.ref a, .int x1] from by simp [enL, is2_i, is2_r, is2_l, List.replicate]]
  exact if_pos rfl
theorem c_4  : callD (d + 1) 4 [.ref a, .int x1] M = den (callD d) 4 0 [.ref a, .int x1] [] M := by
  rw [callD_eq (by decide), show mdL 4 = 2 from rfl, show enL 2 [.ref a, .int x1] = [.ref a, .int x1] from by simp [enL, is2_i, is2_r, is2_l, List.replicate]]
  exact if_pos rfl
theorem c_5 (h1 : is2 v1 = false) : callD (d + 1) 5 [.ref a, v1] M = den (callD d) 5 0 [.ref a, v1, uu, uu] [] M := by
  rw [callD_eq (by decide), show mdL 5 = 4 from rfl, show enL 4 [.ref a, v1] = [.ref a, v1, uu, uu] from by simp [enL, is2_i, is2_r, is2_l, List.replicate, h1]]
  exact if_pos rfl
theorem c_6 (h1 : is2 v1 = false) : callD (d + 1) 6 [.ref a, v1] M = den (callD d) 6 0 [.ref a, v1, uu, uu, uu, uu] [] M := by
  rw [callD_eq (by decide), show mdL 6 = 6 from rfl, show enL 6 [.ref a, v1] = [.ref a, v1, uu, uu, uu, uu] from by simp [enL, is2_i, is2_r, is2_l, List.replicate, h1]]
  exact if_pos rfl
theorem c_7  : callD (d + 1) 7 [.ref a, .int x1, .int x2] M = den (callD d) 7 0 [.ref a, .int x1, .int x2, uu] [] M := by
  rw [callD_eq (by decide), show mdL 7 = 4 from rfl, show enL 4 [.ref a, .int x1, .int x2] = [.ref a, .int x1, .int x2, uu] from by simp [enL, is2_i, is2_r, is2_l, List.replicate]]
  exact if_pos rfl
theorem c_8  : callD (d + 1) 8 [.ref a, .int x1, .int x2, .int x3] M = den (callD d) 8 0 [.ref a, .int x1, .int x2, .int x3, uu, uu, uu] [] M := by
  rw [callD_eq (by decide), show mdL 8 = 7 from rfl, show enL 7 [.ref a, .int x1, .int x2, .int x3] = [.ref a, .int x1, .int x2, .int x3, uu, uu, uu] from by simp [enL, is2_i, is2_r, is2_l, List.replicate]]
  exact if_pos rfl
theorem c_9  : callD (d + 1) 9 [.ref a, .int x1, .int x2] M = den (callD d) 9 0 [.ref a, .int x1, .int x2, uu, uu] [] M := by
  rw [callD_eq (by decide), show mdL 9 = 5 from rfl, show enL 5 [.ref a, .int x1, .int x2] = [.ref a, .int x1, .int x2, uu, uu] from by simp [enL, is2_i, is2_r, is2_l, List.replicate]]
  exact if_pos rfl
theorem c_10  : callD (d + 1) 10 [.ref a] M = den (callD d) 10 0 [.ref a, uu, uu, uu, uu] [] M := by
  rw [callD_eq (by decide), show mdL 10 = 5 from rfl, show enL 5 [.ref a] = [.ref a, uu, uu, uu, uu] from by simp [enL, is2_i, is2_r, is2_l, List.replicate]]
  exact if_pos rfl
theorem c_11  : callD (d + 1) 11 [.ref a, .int x1, .int x2] M = den (callD d) 11 0 [.ref a, .int x1, .int x2, uu, uu, uu] [] M := by
  rw [callD_eq (by decide), show mdL 11 = 6 from rfl, show enL 6 [.ref a, .int x1, .int x2] = [.ref a, .int x1, .int x2, uu, uu, uu] from by simp [enL, is2_i, is2_r, is2_l, List.replicate]]
  exact if_pos rfl
theorem c_12  : callD (d + 1) 12 [.ref a, .int x1] M = den (callD d) 12 0 [.ref a, .int x1] [] M := by
  rw [callD_eq (by decide), show mdL 12 = 2 from rfl, show enL 2 [.ref a, .int x1] = [.ref a, .int x1] from by simp [enL, is2_i, is2_r, is2_l, List.replicate]]
  exact if_pos rfl
theorem c_13  : callD (d + 1) 13 [.ref a, .int x1, .int x2, .int x3] M = den (callD d) 13 0 [.ref a, .int x1, .int x2, .int x3] [] M := by
  rw [callD_eq (by decide), show mdL 13 = 4 from rfl, show enL 4 [.ref a, .int x1, .int x2, .int x3] = [.ref a, .int x1, .int x2, .int x3] from by simp [enL, is2_i, is2_r, is2_l, List.replicate]]
  exact if_pos rfl
theorem c_14  : callD (d + 1) 14 [.ref a] M = den (callD d) 14 0 [.ref a] [] M := by
  rw [callD_eq (by decide), show mdL 14 = 1 from rfl, show enL 1 [.ref a] = [.ref a] from by simp [enL, is2_i, is2_r, is2_l, List.replicate]]
  exact if_pos rfl
theorem c_15  : callD (d + 1) 15 [.ref a, .int x1] M = den (callD d) 15 0 [.ref a, .int x1] [] M := by
  rw [callD_eq (by decide), show mdL 15 = 2 from rfl, show enL 2 [.ref a, .int x1] = [.ref a, .int x1] from by simp [enL, is2_i, is2_r, is2_l, List.replicate]]
  exact if_pos rfl
theorem c_16  : callD (d + 1) 16 [.ref a] M = den (callD d) 16 0 [.ref a] [] M := by
  rw [callD_eq (by decide), show mdL 16 = 1 from rfl, show enL 1 [.ref a] = [.ref a] from by simp [enL, is2_i, is2_r, is2_l, List.replicate]]
  exact if_pos rfl
theorem c_17 (h1 : is2 v1 = false) : callD (d + 1) 17 [.ref a, v1] M = den (callD d) 17 0 [.ref a, v1] [] M := by
  rw [callD_eq (by decide), show mdL 17 = 2 from rfl, show enL 2 [.ref a, v1] = [.ref a, v1] from by simp [enL, is2_i, is2_r, is2_l, List.replicate, h1]]
  exact if_pos rfl
theorem c_18  : callD (d + 1) 18 [.ref a] M = den (callD d) 18 0 [.ref a] [] M := by
  rw [callD_eq (by decide), show mdL 18 = 1 from rfl, show enL 1 [.ref a] = [.ref a] from by simp [enL, is2_i, is2_r, is2_l, List.replicate]]
  exact if_pos rfl
theorem c_19  : callD (d + 1) 19 [.ref a] M = den (callD d) 19 0 [.ref a] [] M := by
  rw [callD_eq (by decide), show mdL 19 = 1 from rfl, show enL 1 [.ref a] = [.ref a] from by simp [enL, is2_i, is2_r, is2_l, List.replicate]]
  exact if_pos rfl
theorem c_20 (h1 : is2 v1 = false) : callD (d + 1) 20 [.ref a, v1] M = den (callD d) 20 0 [.ref a, v1] [] M := by
  rw [callD_eq (by decide), show mdL 20 = 2 from rfl, show enL 2 [.ref a, v1] = [.ref a, v1] from by simp [enL, is2_i, is2_r, is2_l, List.replicate, h1]]
  exact if_pos rfl
theorem c_21  : callD (d + 1) 21 [.ref a, .int x1] M = den (callD d) 21 0 [.ref a, .int x1] [] M := by
  rw [callD_eq (by decide), show mdL 21 = 2 from rfl, show enL 2 [.ref a, .int x1] = [.ref a, .int x1] from by simp [enL, is2_i, is2_r, is2_l, List.replicate]]
  exact if_pos rfl
theorem c_22 (h1 : is2 v1 = false) : callD (d + 1) 22 [.ref a, v1] M = den (callD d) 22 0 [.ref a, v1] [] M := by
  rw [callD_eq (by decide), show mdL 22 = 2 from rfl, show enL 2 [.ref a, v1] = [.ref a, v1] from by simp [enL, is2_i, is2_r, is2_l, List.replicate, h1]]
  exact if_pos rfl
theorem c_23  : callD (d + 1) 23 [.ref a] M = den (callD d) 23 0 [.ref a, uu] [] M := by
  rw [callD_eq (by decide), show mdL 23 = 2 from rfl, show enL 2 [.ref a] = [.ref a, uu] from by simp [enL, is2_i, is2_r, is2_l, List.replicate]]
  exact if_pos rfl
theorem c_24  : callD (d + 1) 24 [.ref a, .int x1] M = den (callD d) 24 0 [.ref a, .int x1] [] M := by
  rw [callD_eq (by decide), show mdL 24 = 2 from rfl, show enL 2 [.ref a, .int x1] = [.ref a, .int x1] from by simp [enL, is2_i, is2_r, is2_l, List.replicate]]
  exact if_pos rfl
theorem c_25  : callD (d + 1) 25 [.ref a, .int x1, .int x2, .int x3] M = den (callD d) 25 0 [.ref a, .int x1, .int x2, .int x3] [] M := by
  rw [callD_eq (by decide), show mdL 25 = 4 from rfl, show enL 4 [.ref a, .int x1, .int x2, .int x3] = [.ref a, .int x1, .int x2, .int x3] from by simp [enL, is2_i, is2_r, is2_l, List.replicate]]
  exact if_pos rfl
theorem c_26 (h1 : is2 v1 = false) : callD (d + 1) 26 [.ref a, v1] M = den (callD d) 26 0 [.ref a, v1, uu, uu] [] M := by
  rw [callD_eq (by decide), show mdL 26 = 4 from rfl, show enL 4 [.ref a, v1] = [.ref a, v1, uu, uu] from by simp [enL, is2_i, is2_r, is2_l, List.replicate, h1]]
  exact if_pos rfl
theorem c_27 (h1 : is2 v1 = false) (h2 : is2 v2 = false) : callD (d + 1) 27 [.ref a, v1, v2] M = den (callD d) 27 0 [.ref a, v1, v2] [] M := by
  rw [callD_eq (by decide), show mdL 27 = 3 from rfl, show enL 3 [.ref a, v1, v2] = [.ref a, v1, v2] from by simp [enL, is2_i, is2_r, is2_l, List.replicate, h1, h2]]
  exact if_pos rfl
theorem c_28 (h1 : is2 v1 = false) (h2 : is2 v2 = false) : callD (d + 1) 28 [.ref a, v1, v2, .int x3] M = den (callD d) 28 0 [.ref a, v1, v2, .int x3, uu] [] M := by
  rw [callD_eq (by decide), show mdL 28 = 5 from rfl, show enL 5 [.ref a, v1, v2, .int x3] = [.ref a, v1, v2, .int x3, uu] from by simp [enL, is2_i, is2_r, is2_l, List.replicate, h1, h2]]
  exact if_pos rfl
theorem c_29 (h1 : is2 v1 = false) (h2 : is2 v2 = false) : callD (d + 1) 29 [.ref a, v1, v2] M = den (callD d) 29 0 [.ref a, v1, v2, uu, uu] [] M := by
  rw [callD_eq (by decide), show mdL 29 = 5 from rfl, show enL 5 [.ref a, v1, v2] = [.ref a, v1, v2, uu, uu] from by simp [enL, is2_i, is2_r, is2_l, List.replicate, h1, h2]]
  exact if_pos rfl
theorem c_30 (h1 : is2 v1 = false) : callD (d + 1) 30 [.ref a, v1, .int x2] M = den (callD d) 30 0 [.ref a, v1, .int x2] [] M := by
  rw [callD_eq (by decide), show mdL 30 = 3 from rfl, show enL 3 [.ref a, v1, .int x2] = [.ref a, v1, .int x2] from by simp [enL, is2_i, is2_r, is2_l, List.replicate, h1]]
  exact if_pos rfl
theorem c_31 (h1 : is2 v1 = false) : callD (d + 1) 31 [.ref a, v1] M = den (callD d) 31 0 [.ref a, v1] [] M := by
  rw [callD_eq (by decide), show mdL 31 = 2 from rfl, show enL 2 [.ref a, v1] = [.ref a, v1] from by simp [enL, is2_i, is2_r, is2_l, List.replicate, h1]]
  exact if_pos rfl
theorem c_32 (h1 : is2 v1 = false) : callD (d + 1) 32 [.ref a, v1] M = den (callD d) 32 0 [.ref a, v1, uu] [] M := by
  rw [callD_eq (by decide), show mdL 32 = 3 from rfl, show enL 3 [.ref a, v1] = [.ref a, v1, uu] from by simp [enL, is2_i, is2_r, is2_l, List.replicate, h1]]
  exact if_pos rfl
theorem c_33 (h1 : is2 v1 = false) : callD (d + 1) 33 [.ref a, v1, .int x2] M = den (callD d) 33 0 [.ref a, v1, .int x2, uu, uu, uu, uu] [] M := by
  rw [callD_eq (by decide), show mdL 33 = 7 from rfl, show enL 7 [.ref a, v1, .int x2] = [.ref a, v1, .int x2, uu, uu, uu, uu] from by simp [enL, is2_i, is2_r, is2_l, List.replicate, h1]]
  exact if_pos rfl
theorem c_34  : callD (d + 1) 34 [.ref a, .int x1] M = den (callD d) 34 0 [.ref a, .int x1, uu, uu, uu, uu, uu] [] M := by
  rw [callD_eq (by decide), show mdL 34 = 7 from rfl, show enL 7 [.ref a, .int x1] = [.ref a, .int x1, uu, uu, uu, uu, uu] from by simp [enL, is2_i, is2_r, is2_l, List.replicate]]
  exact if_pos rfl
theorem c_35 (h1 : is2 v1 = false) : callD (d + 1) 35 [.ref a, v1, .int x2] M = den (callD d) 35 0 [.ref a, v1, .int x2, uu, uu, uu, uu, uu] [] M := by
  rw [callD_eq (by decide), show mdL 35 = 8 from rfl, show enL 8 [.ref a, v1, .int x2] = [.ref a, v1, .int x2, uu, uu, uu, uu, uu] from by simp [enL, is2_i, is2_r, is2_l, List.replicate, h1]]
  exact if_pos rfl
theorem c_36 (h1 : is2 v1 = false) : callD (d + 1) 36 [.ref a, v1] M = den (callD d) 36 0 [.ref a, v1, uu, uu, uu, uu, uu, uu] [] M := by
  rw [callD_eq (by decide), show mdL 36 = 8 from rfl, show enL 8 [.ref a, v1] = [.ref a, v1, uu, uu, uu, uu, uu, uu] from by simp [enL, is2_i, is2_r, is2_l, List.replicate, h1]]
  exact if_pos rfl
theorem c_37  : callD (d + 1) 37 [.ref a, .int x1] M = den (callD d) 37 0 [.ref a, .int x1, uu, uu, uu, uu, uu] [] M := by
  rw [callD_eq (by decide), show mdL 37 = 7 from rfl, show enL 7 [.ref a, .int x1] = [.ref a, .int x1, uu, uu, uu, uu, uu] from by simp [enL, is2_i, is2_r, is2_l, List.replicate]]
  exact if_pos rfl
theorem c_38  : callD (d + 1) 38 [.ref a] M = den (callD d) 38 0 [.ref a, uu, uu] [] M := by
  rw [callD_eq (by decide), show mdL 38 = 3 from rfl, show enL 3 [.ref a] = [.ref a, uu, uu] from by simp [enL, is2_i, is2_r, is2_l, List.replicate]]
  exact if_pos rfl
theorem c_39  : callD (d + 1) 39 [.ref a] M = den (callD d) 39 0 [.ref a, uu, uu, uu, uu, uu, uu, uu, uu, uu] [] M := by
  rw [callD_eq (by decide), show mdL 39 = 10 from rfl, show enL 10 [.ref a] = [.ref a, uu, uu, uu, uu, uu, uu, uu, uu, uu] from by simp [enL, is2_i, is2_r, is2_l, List.replicate]]
  exact if_pos rfl
theorem c_40  : callD (d + 1) 40 [.ref a] M = den (callD d) 40 0 [.ref a, uu, uu, uu, uu, uu] [] M := by
  rw [callD_eq (by decide), show mdL 40 = 6 from rfl, show enL 6 [.ref a] = [.ref a, uu, uu, uu, uu, uu] from by simp [enL, is2_i, is2_r, is2_l, List.replicate]]
  exact if_pos rfl
theorem c_41  : callD (d + 1) 41 [.ref a] M = den (callD d) 41 0 [.ref a, uu, uu, uu, uu, uu] [] M := by
  rw [callD_eq (by decide), show mdL 41 = 6 from rfl, show enL 6 [.ref a] = [.ref a, uu, uu, uu, uu, uu] from by simp [enL, is2_i, is2_r, is2_l, List.replicate]]
  exact if_pos rfl
theorem c_42  : callD (d + 1) 42 [.ref a] M = den (callD d) 42 0 [.ref a, uu, uu, uu, uu, uu] [] M := by
  rw [callD_eq (by decide), show mdL 42 = 6 from rfl, show enL 6 [.ref a] = [.ref a, uu, uu, uu, uu, uu] from by simp [enL, is2_i, is2_r, is2_l, List.replicate]]
  exact if_pos rfl
theorem c_43  : callD (d + 1) 43 [.ref a] M = den (callD d) 43 0 [.ref a, uu, uu, uu, uu, uu] [] M := by
  rw [callD_eq (by decide), show mdL 43 = 6 from rfl, show enL 6 [.ref a] = [.ref a, uu, uu, uu, uu, uu] from by simp [enL, is2_i, is2_r, is2_l, List.replicate]]
  exact if_pos rfl
theorem c_44 (h3 : is2 v3 = false) : callD (d + 1) 44 [.ref a, .int x1, .int x2, v3, .int x4] M = den (callD d) 44 0 [.ref a, .int x1, .int x2, v3, .int x4, uu, uu, uu] [] M := by
  rw [callD_eq (by decide), show mdL 44 = 8 from rfl, show enL 8 [.ref a, .int x1, .int x2, v3, .int x4] = [.ref a, .int x1, .int x2, v3, .int x4, uu, uu, uu] from by simp [enL, is2_i, is2_r, is2_l, List.replicate, h3]]
  exact if_pos rfl
theorem c_45  : callD (d + 1) 45 [.ref a, .long p1] M = den (callD d) 45 0 [.ref a, .long p1, uu, uu, uu, uu] [] M := by
  rw [callD_eq (by decide), show mdL 45 = 6 from rfl, show enL 6 [.ref a, .long p1] = [.ref a, .long p1, uu, uu, uu, uu] from by simp [enL, is2_i, is2_r, is2_l, List.replicate]]
  exact if_pos rfl
theorem c_46  : callD (d + 1) 46 [.ref a] M = den (callD d) 46 0 [.ref a, uu, uu, uu, uu, uu, uu, uu] [] M := by
  rw [callD_eq (by decide), show mdL 46 = 8 from rfl, show enL 8 [.ref a] = [.ref a, uu, uu, uu, uu, uu, uu, uu] from by simp [enL, is2_i, is2_r, is2_l, List.replicate]]
  exact if_pos rfl
theorem c_47  : callD (d + 1) 47 [.ref a] M = den (callD d) 47 0 [.ref a] [] M := by
  rw [callD_eq (by decide), show mdL 47 = 1 from rfl, show enL 1 [.ref a] = [.ref a] from by simp [enL, is2_i, is2_r, is2_l, List.replicate]]
  exact if_pos rfl
theorem c_48  : callD (d + 1) 48 [.ref a] M = den (callD d) 48 0 [.ref a] [] M := by
  rw [callD_eq (by decide), show mdL 48 = 1 from rfl, show enL 1 [.ref a] = [.ref a] from by simp [enL, is2_i, is2_r, is2_l, List.replicate]]
  exact if_pos rfl
theorem c_49  : callD (d + 1) 49 [.ref a] M = den (callD d) 49 0 [.ref a] [] M := by
  rw [callD_eq (by decide), show mdL 49 = 1 from rfl, show enL 1 [.ref a] = [.ref a] from by simp [enL, is2_i, is2_r, is2_l, List.replicate]]
  exact if_pos rfl
theorem c_50  : callD (d + 1) 50 [.ref a, .int x1] M = den (callD d) 50 0 [.ref a, .int x1] [] M := by
  rw [callD_eq (by decide), show mdL 50 = 2 from rfl, show enL 2 [.ref a, .int x1] = [.ref a, .int x1] from by simp [enL, is2_i, is2_r, is2_l, List.replicate]]
  exact if_pos rfl
theorem c_51  : callD (d + 1) 51 [.ref a, .int x1, .int x2] M = den (callD d) 51 0 [.ref a, .int x1, .int x2, uu] [] M := by
  rw [callD_eq (by decide), show mdL 51 = 4 from rfl, show enL 4 [.ref a, .int x1, .int x2] = [.ref a, .int x1, .int x2, uu] from by simp [enL, is2_i, is2_r, is2_l, List.replicate]]
  exact if_pos rfl
theorem c_52  : callD (d + 1) 52 [.ref a] M = den (callD d) 52 0 [.ref a] [] M := by
  rw [callD_eq (by decide), show mdL 52 = 1 from rfl, show enL 1 [.ref a] = [.ref a] from by simp [enL, is2_i, is2_r, is2_l, List.replicate]]
  exact if_pos rfl
theorem c_53  : callD (d + 1) 53 [.ref a, .int x1, .int x2] M = den (callD d) 53 0 [.ref a, .int x1, .int x2] [] M := by
  rw [callD_eq (by decide), show mdL 53 = 3 from rfl, show enL 3 [.ref a, .int x1, .int x2] = [.ref a, .int x1, .int x2] from by simp [enL, is2_i, is2_r, is2_l, List.replicate]]
  exact if_pos rfl
theorem c_54  : callD (d + 1) 54 [.ref a, .int x1] M = den (callD d) 54 0 [.ref a, .int x1] [] M := by
  rw [callD_eq (by decide), show mdL 54 = 2 from rfl, show enL 2 [.ref a, .int x1] = [.ref a, .int x1] from by simp [enL, is2_i, is2_r, is2_l, List.replicate]]
  exact if_pos rfl
theorem c_55  : callD (d + 1) 55 [.ref a, .int x1] M = den (callD d) 55 0 [.ref a, .int x1, uu] [] M := by
  rw [callD_eq (by decide), show mdL 55 = 3 from rfl, show enL 3 [.ref a, .int x1] = [.ref a, .int x1, uu] from by simp [enL, is2_i, is2_r, is2_l, List.replicate]]
  exact if_pos rfl
theorem c_56  : callD (d + 1) 56 [.ref a, .int x1] M = den (callD d) 56 0 [.ref a, .int x1] [] M := by
  rw [callD_eq (by decide), show mdL 56 = 2 from rfl, show enL 2 [.ref a, .int x1] = [.ref a, .int x1] from by simp [enL, is2_i, is2_r, is2_l, List.replicate]]
  exact if_pos rfl
theorem c_57  : callD (d + 1) 57 [.ref a, .int x1, .long p2] M = den (callD d) 57 0 [.ref a, .int x1, .long p2, uu] [] M := by
  rw [callD_eq (by decide), show mdL 57 = 4 from rfl, show enL 4 [.ref a, .int x1, .long p2] = [.ref a, .int x1, .long p2, uu] from by simp [enL, is2_i, is2_r, is2_l, List.replicate]]
  exact if_pos rfl
theorem c_58  : callD (d + 1) 58 [.ref a, .long p1] M = den (callD d) 58 0 [.ref a, .long p1, uu] [] M := by
  rw [callD_eq (by decide), show mdL 58 = 3 from rfl, show enL 3 [.ref a, .long p1] = [.ref a, .long p1, uu] from by simp [enL, is2_i, is2_r, is2_l, List.replicate]]
  exact if_pos rfl
theorem c_59  : callD (d + 1) 59 [.ref a] M = den (callD d) 59 0 [.ref a] [] M := by
  rw [callD_eq (by decide), show mdL 59 = 1 from rfl, show enL 1 [.ref a] = [.ref a] from by simp [enL, is2_i, is2_r, is2_l, List.replicate]]
  exact if_pos rfl
theorem c_60  : callD (d + 1) 60 [.ref a, .int x1] M = den (callD d) 60 0 [.ref a, .int x1] [] M := by
  rw [callD_eq (by decide), show mdL 60 = 2 from rfl, show enL 2 [.ref a, .int x1] = [.ref a, .int x1] from by simp [enL, is2_i, is2_r, is2_l, List.replicate]]
  exact if_pos rfl
theorem c_61  : callD (d + 1) 61 [.ref a, .int x1] M = den (callD d) 61 0 [.ref a, .int x1] [] M := by
  rw [callD_eq (by decide), show mdL 61 = 2 from rfl, show enL 2 [.ref a, .int x1] = [.ref a, .int x1] from by simp [enL, is2_i, is2_r, is2_l, List.replicate]]
  exact if_pos rfl
theorem c_62 (h1 : is2 v1 = false) : callD (d + 1) 62 [.ref a, v1] M = den (callD d) 62 0 [.ref a, v1, uu] [] M := by
  rw [callD_eq (by decide), show mdL 62 = 3 from rfl, show enL 3 [.ref a, v1] = [.ref a, v1, uu] from by simp [enL, is2_i, is2_r, is2_l, List.replicate, h1]]
  exact if_pos rfl
theorem c_63  : callD (d + 1) 63 [.ref a] M = den (callD d) 63 0 [.ref a] [] M := by
  rw [callD_eq (by decide), show mdL 63 = 1 from rfl, show enL 1 [.ref a] = [.ref a] from by simp [enL, is2_i, is2_r, is2_l, List.replicate]]
  exact if_pos rfl
theorem c_64  : callD (d + 1) 64 [.ref a] M = den (callD d) 64 0 [.ref a] [] M := by
  rw [callD_eq (by decide), show mdL 64 = 1 from rfl, show enL 1 [.ref a] = [.ref a] from by simp [enL, is2_i, is2_r, is2_l, List.replicate]]
  exact if_pos rfl
theorem c_65  : callD (d + 1) 65 [.ref a] M = den (callD d) 65 0 [.ref a, uu, uu, uu] [] M := by
  rw [callD_eq (by decide), show mdL 65 = 4 from rfl, show enL 4 [.ref a] = [.ref a, uu, uu, uu] from by simp [enL, is2_i, is2_r, is2_l, List.replicate]]
  exact if_pos rfl
theorem c_66  : callD (d + 1) 66 [.ref a] M = den (callD d) 66 0 [.ref a, uu, uu] [] M := by
  rw [callD_eq (by decide), show mdL 66 = 3 from rfl, show enL 3 [.ref a] = [.ref a, uu, uu] from by simp [enL, is2_i, is2_r, is2_l, List.replicate]]
  exact if_pos rfl
theorem c_67  : callD (d + 1) 67 [.ref a] M = den (callD d) 67 0 [.ref a, uu, uu] [] M := by
  rw [callD_eq (by decide), show mdL 67 = 3 from rfl, show enL 3 [.ref a] = [.ref a, uu, uu] from by simp [enL, is2_i, is2_r, is2_l, List.replicate]]
  exact if_pos rfl
theorem c_68  : callD (d + 1) 68 [.ref a] M = den (callD d) 68 0 [.ref a, uu] [] M := by
  rw [callD_eq (by decide), show mdL 68 = 2 from rfl, show enL 2 [.ref a] = [.ref a, uu] from by simp [enL, is2_i, is2_r, is2_l, List.replicate]]
  exact if_pos rfl
theorem c_69  : callD (d + 1) 69 [.ref a] M = den (callD d) 69 0 [.ref a] [] M := by
  rw [callD_eq (by decide), show mdL 69 = 1 from rfl, show enL 1 [.ref a] = [.ref a] from by simp [enL, is2_i, is2_r, is2_l, List.replicate]]
  exact if_pos rfl
theorem c_70  : callD (d + 1) 70 [.ref a, .int x1] M = den (callD d) 70 0 [.ref a, .int x1, uu, uu] [] M := by
  rw [callD_eq (by decide), show mdL 70 = 4 from rfl, show enL 4 [.ref a, .int x1] = [.ref a, .int x1, uu, uu] from by simp [enL, is2_i, is2_r, is2_l, List.replicate]]
  exact if_pos rfl
theorem c_71 (h1 : is2 v1 = false) : callD (d + 1) 71 [.ref a, v1] M = den (callD d) 71 0 [.ref a, v1, uu] [] M := by
  rw [callD_eq (by decide), show mdL 71 = 3 from rfl, show enL 3 [.ref a, v1] = [.ref a, v1, uu] from by simp [enL, is2_i, is2_r, is2_l, List.replicate, h1]]
  exact if_pos rfl
theorem c_72  : callD (d + 1) 72 [.ref a] M = den (callD d) 72 0 [.ref a] [] M := by
  rw [callD_eq (by decide), show mdL 72 = 1 from rfl, show enL 1 [.ref a] = [.ref a] from by simp [enL, is2_i, is2_r, is2_l, List.replicate]]
  exact if_pos rfl
theorem c_73  : callD (d + 1) 73 [.int x1] M = den (callD d) 73 0 [.int x1] [] M := by
  rw [callD_eq (by decide), show mdL 73 = 1 from rfl, show enL 1 [.int x1] = [.int x1] from by simp [enL, is2_i, is2_r, is2_l, List.replicate]]
  exact if_pos rfl
theorem c_74  : callD (d + 1) 74 [.ref a] M = den (callD d) 74 0 [.ref a, uu] [] M := by
  rw [callD_eq (by decide), show mdL 74 = 2 from rfl, show enL 2 [.ref a] = [.ref a, uu] from by simp [enL, is2_i, is2_r, is2_l, List.replicate]]
  exact if_pos rfl
theorem c_75  : callD (d + 1) 75 [.ref a, .int x1, .int x2, .int x3] M = den (callD d) 75 0 [.ref a, .int x1, .int x2, .int x3, uu] [] M := by
  rw [callD_eq (by decide), show mdL 75 = 5 from rfl, show enL 5 [.ref a, .int x1, .int x2, .int x3] = [.ref a, .int x1, .int x2, .int x3, uu] from by simp [enL, is2_i, is2_r, is2_l, List.replicate]]
  exact if_pos rfl
theorem c_76  : callD (d + 1) 76 [.ref a, .int x1, .int x2, .long p3] M = den (callD d) 76 0 [.ref a, .int x1, .int x2, .long p3, uu, uu] [] M := by
  rw [callD_eq (by decide), show mdL 76 = 6 from rfl, show enL 6 [.ref a, .int x1, .int x2, .long p3] = [.ref a, .int x1, .int x2, .long p3, uu, uu] from by simp [enL, is2_i, is2_r, is2_l, List.replicate]]
  exact if_pos rfl
theorem c_77  : callD (d + 1) 77 [.ref a, .int x1, .int x2, .int x3, .int x4, .int x5] M = den (callD d) 77 0 [.ref a, .int x1, .int x2, .int x3, .int x4, .int x5, uu, uu, uu] [] M := by
  rw [callD_eq (by decide), show mdL 77 = 9 from rfl, show enL 9 [.ref a, .int x1, .int x2, .int x3, .int x4, .int x5] = [.ref a, .int x1, .int x2, .int x3, .int x4, .int x5, uu, uu, uu] from by simp [enL, is2_i, is2_r, is2_l, List.replicate]]
  exact if_pos rfl
theorem c_78  : callD (d + 1) 78 [.ref a, .int x1, .int x2] M = den (callD d) 78 0 [.ref a, .int x1, .int x2, uu] [] M := by
  rw [callD_eq (by decide), show mdL 78 = 4 from rfl, show enL 4 [.ref a, .int x1, .int x2] = [.ref a, .int x1, .int x2, uu] from by simp [enL, is2_i, is2_r, is2_l, List.replicate]]
  exact if_pos rfl
theorem c_79  : callD (d + 1) 79 [.ref a, .int x1] M = den (callD d) 79 0 [.ref a, .int x1, uu] [] M := by
  rw [callD_eq (by decide), show mdL 79 = 3 from rfl, show enL 3 [.ref a, .int x1] = [.ref a, .int x1, uu] from by simp [enL, is2_i, is2_r, is2_l, List.replicate]]
  exact if_pos rfl
theorem c_80  : callD (d + 1) 80 [.ref a, .int x1, .int x2] M = den (callD d) 80 0 [.ref a, .int x1, .int x2, uu] [] M := by
  rw [callD_eq (by decide), show mdL 80 = 4 from rfl, show enL 4 [.ref a, .int x1, .int x2] = [.ref a, .int x1, .int x2, uu] from by simp [enL, is2_i, is2_r, is2_l, List.replicate]]
  exact if_pos rfl
theorem c_81  : callD (d + 1) 81 [.ref a, .int x1, .int x2] M = den (callD d) 81 0 [.ref a, .int x1, .int x2, uu, uu, uu] [] M := by
  rw [callD_eq (by decide), show mdL 81 = 6 from rfl, show enL 6 [.ref a, .int x1, .int x2] = [.ref a, .int x1, .int x2, uu, uu, uu] from by simp [enL, is2_i, is2_r, is2_l, List.replicate]]
  exact if_pos rfl
theorem c_82  : callD (d + 1) 82 [.ref a, .int x1, .int x2, .int x3] M = den (callD d) 82 0 [.ref a, .int x1, .int x2, .int x3] [] M := by
  rw [callD_eq (by decide), show mdL 82 = 4 from rfl, show enL 4 [.ref a, .int x1, .int x2, .int x3] = [.ref a, .int x1, .int x2, .int x3] from by simp [enL, is2_i, is2_r, is2_l, List.replicate]]
  exact if_pos rfl
theorem c_83  : callD (d + 1) 83 [.ref a, .int x1, .int x2, .int x3] M = den (callD d) 83 0 [.ref a, .int x1, .int x2, .int x3, uu, uu] [] M := by
  rw [callD_eq (by decide), show mdL 83 = 6 from rfl, show enL 6 [.ref a, .int x1, .int x2, .int x3] = [.ref a, .int x1, .int x2, .int x3, uu, uu] from by simp [enL, is2_i, is2_r, is2_l, List.replicate]]
  exact if_pos rfl
theorem c_84  : callD (d + 1) 84 [.ref a, .int x1, .int x2] M = den (callD d) 84 0 [.ref a, .int x1, .int x2, uu, uu] [] M := by
  rw [callD_eq (by decide), show mdL 84 = 5 from rfl, show enL 5 [.ref a, .int x1, .int x2] = [.ref a, .int x1, .int x2, uu, uu] from by simp [enL, is2_i, is2_r, is2_l, List.replicate]]
  exact if_pos rfl
theorem c_85  : callD (d + 1) 85 [.ref a, .int x1] M = den (callD d) 85 0 [.ref a, .int x1, uu, uu] [] M := by
  rw [callD_eq (by decide), show mdL 85 = 4 from rfl, show enL 4 [.ref a, .int x1] = [.ref a, .int x1, uu, uu] from by simp [enL, is2_i, is2_r, is2_l, List.replicate]]
  exact if_pos rfl
theorem c_86  : callD (d + 1) 86 [.ref a, .int x1, .int x2] M = den (callD d) 86 0 [.ref a, .int x1, .int x2, uu, uu] [] M := by
  rw [callD_eq (by decide), show mdL 86 = 5 from rfl, show enL 5 [.ref a, .int x1, .int x2] = [.ref a, .int x1, .int x2, uu, uu] from by simp [enL, is2_i, is2_r, is2_l, List.replicate]]
  exact if_pos rfl
theorem c_87  : callD (d + 1) 87 [.ref a, .int x1] M = den (callD d) 87 0 [.ref a, .int x1] [] M := by
  rw [callD_eq (by decide), show mdL 87 = 2 from rfl, show enL 2 [.ref a, .int x1] = [.ref a, .int x1] from by simp [enL, is2_i, is2_r, is2_l, List.replicate]]
  exact if_pos rfl
theorem c_88  : callD (d + 1) 88 [.ref a] M = den (callD d) 88 0 [.ref a, uu] [] M := by
  rw [callD_eq (by decide), show mdL 88 = 2 from rfl, show enL 2 [.ref a] = [.ref a, uu] from by simp [enL, is2_i, is2_r, is2_l, List.replicate]]
  exact if_pos rfl
theorem c_89  : callD (d + 1) 89 [.ref a] M = den (callD d) 89 0 [.ref a, uu] [] M := by
  rw [callD_eq (by decide), show mdL 89 = 2 from rfl, show enL 2 [.ref a] = [.ref a, uu] from by simp [enL, is2_i, is2_r, is2_l, List.replicate]]
  exact if_pos rfl
theorem c_90  : callD (d + 1) 90 [.ref a, .int x1, .int x2] M = den (callD d) 90 0 [.ref a, .int x1, .int x2, uu] [] M := by
  rw [callD_eq (by decide), show mdL 90 = 4 from rfl, show enL 4 [.ref a, .int x1, .int x2] = [.ref a, .int x1, .int x2, uu] from by simp [enL, is2_i, is2_r, is2_l, List.replicate]]
  exact if_pos rfl
theorem c_91  : callD (d + 1) 91 [.ref a, .int x1, .int x2] M = den (callD d) 91 0 [.ref a, .int x1, .int x2, uu, uu] [] M := by
  rw [callD_eq (by decide), show mdL 91 = 5 from rfl, show enL 5 [.ref a, .int x1, .int x2] = [.ref a, .int x1, .int x2, uu, uu] from by simp [enL, is2_i, is2_r, is2_l, List.replicate]]
  exact if_pos rfl
theorem c_92  : callD (d + 1) 92 [.ref a, .int x1, .int x2] M = den (callD d) 92 0 [.ref a, .int x1, .int x2, uu] [] M := by
  rw [callD_eq (by decide), show mdL 92 = 4 from rfl, show enL 4 [.ref a, .int x1, .int x2] = [.ref a, .int x1, .int x2, uu] from by simp [enL, is2_i, is2_r, is2_l, List.replicate]]
  exact if_pos rfl
theorem c_93  : callD (d + 1) 93 [.ref a, .int x1] M = den (callD d) 93 0 [.ref a, .int x1, uu] [] M := by
  rw [callD_eq (by decide), show mdL 93 = 3 from rfl, show enL 3 [.ref a, .int x1] = [.ref a, .int x1, uu] from by simp [enL, is2_i, is2_r, is2_l, List.replicate]]
  exact if_pos rfl
theorem c_94  : callD (d + 1) 94 [.ref a, .int x1, .int x2] M = den (callD d) 94 0 [.ref a, .int x1, .int x2, uu] [] M := by
  rw [callD_eq (by decide), show mdL 94 = 4 from rfl, show enL 4 [.ref a, .int x1, .int x2] = [.ref a, .int x1, .int x2, uu] from by simp [enL, is2_i, is2_r, is2_l, List.replicate]]
  exact if_pos rfl
theorem c_95  : callD (d + 1) 95 [.ref a, .int x1, .int x2] M = den (callD d) 95 0 [.ref a, .int x1, .int x2, uu, uu] [] M := by
  rw [callD_eq (by decide), show mdL 95 = 5 from rfl, show enL 5 [.ref a, .int x1, .int x2] = [.ref a, .int x1, .int x2, uu, uu] from by simp [enL, is2_i, is2_r, is2_l, List.replicate]]
  exact if_pos rfl
theorem c_96  : callD (d + 1) 96 [.ref a, .int x1, .int x2] M = den (callD d) 96 0 [.ref a, .int x1, .int x2, uu] [] M := by
  rw [callD_eq (by decide), show mdL 96 = 4 from rfl, show enL 4 [.ref a, .int x1, .int x2] = [.ref a, .int x1, .int x2, uu] from by simp [enL, is2_i, is2_r, is2_l, List.replicate]]
  exact if_pos rfl
theorem c_97  : callD (d + 1) 97 [.ref a, .int x1] M = den (callD d) 97 0 [.ref a, .int x1, uu, uu] [] M := by
  rw [callD_eq (by decide), show mdL 97 = 4 from rfl, show enL 4 [.ref a, .int x1] = [.ref a, .int x1, uu, uu] from by simp [enL, is2_i, is2_r, is2_l, List.replicate]]
  exact if_pos rfl
theorem c_98  : callD (d + 1) 98 [.ref a, .int x1] M = den (callD d) 98 0 [.ref a, .int x1, uu, uu, uu, uu, uu, uu, uu] [] M := by
  rw [callD_eq (by decide), show mdL 98 = 9 from rfl, show enL 9 [.ref a, .int x1] = [.ref a, .int x1, uu, uu, uu, uu, uu, uu, uu] from by simp [enL, is2_i, is2_r, is2_l, List.replicate]]
  exact if_pos rfl
theorem c_99  : callD (d + 1) 99 [.ref a, .int x1, .int x2, .int x3] M = den (callD d) 99 0 [.ref a, .int x1, .int x2, .int x3, uu, uu] [] M := by
  rw [callD_eq (by decide), show mdL 99 = 6 from rfl, show enL 6 [.ref a, .int x1, .int x2, .int x3] = [.ref a, .int x1, .int x2, .int x3, uu, uu] from by simp [enL, is2_i, is2_r, is2_l, List.replicate]]
  exact if_pos rfl
theorem c_100  : callD (d + 1) 100 [.ref a, .int x1, .int x2, .int x3] M = den (callD d) 100 0 [.ref a, .int x1, .int x2, .int x3, uu, uu] [] M := by
  rw [callD_eq (by decide), show mdL 100 = 6 from rfl, show enL 6 [.ref a, .int x1, .int x2, .int x3] = [.ref a, .int x1, .int x2, .int x3, uu, uu] from by simp [enL, is2_i, is2_r, is2_l, List.replicate]]
  exact if_pos rfl
theorem c_101  : callD (d + 1) 101 [.ref a, .int x1, .int x2] M = den (callD d) 101 0 [.ref a, .int x1, .int x2, uu, uu, uu, uu, uu] [] M := by
  rw [callD_eq (by decide), show mdL 101 = 8 from rfl, show enL 8 [.ref a, .int x1, .int x2] = [.ref a, .int x1, .int x2, uu, uu, uu, uu, uu] from by simp [enL, is2_i, is2_r, is2_l, List.replicate]]
  exact if_pos rfl
theorem c_102  : callD (d + 1) 102 [.ref a, .int x1] M = den (callD d) 102 0 [.ref a, .int x1, uu] [] M := by
  rw [callD_eq (by decide), show mdL 102 = 3 from rfl, show enL 3 [.ref a, .int x1] = [.ref a, .int x1, uu] from by simp [enL, is2_i, is2_r, is2_l, List.replicate]]
  exact if_pos rfl
theorem c_103  : callD (d + 1) 103 [.ref a] M = den (callD d) 103 0 [.ref a, uu, uu, uu, uu, uu] [] M := by
  rw [callD_eq (by decide), show mdL 103 = 6 from rfl, show enL 6 [.ref a] = [.ref a, uu, uu, uu, uu, uu] from by simp [enL, is2_i, is2_r, is2_l, List.replicate]]
  exact if_pos rfl
theorem c_104  : callD (d + 1) 104 [.ref a] M = den (callD d) 104 0 [.ref a, uu, uu, uu, uu] [] M := by
  rw [callD_eq (by decide), show mdL 104 = 5 from rfl, show enL 5 [.ref a] = [.ref a, uu, uu, uu, uu] from by simp [enL, is2_i, is2_r, is2_l, List.replicate]]
  exact if_pos rfl
theorem c_105  : callD (d + 1) 105 [.ref a, .int x1] M = den (callD d) 105 0 [.ref a, .int x1, uu, uu] [] M := by
  rw [callD_eq (by decide), show mdL 105 = 4 from rfl, show enL 4 [.ref a, .int x1] = [.ref a, .int x1, uu, uu] from by simp [enL, is2_i, is2_r, is2_l, List.replicate]]
  exact if_pos rfl
theorem c_106  : callD (d + 1) 106 [.ref a, .int x1] M = den (callD d) 106 0 [.ref a, .int x1, uu] [] M := by
  rw [callD_eq (by decide), show mdL 106 = 3 from rfl, show enL 3 [.ref a, .int x1] = [.ref a, .int x1, uu] from by simp [enL, is2_i, is2_r, is2_l, List.replicate]]
  exact if_pos rfl
theorem c_107  : callD (d + 1) 107 [.ref a, .int x1, .int x2] M = den (callD d) 107 0 [.ref a, .int x1, .int x2, uu, uu, uu, uu, uu, uu] [] M := by
  rw [callD_eq (by decide), show mdL 107 = 9 from rfl, show enL 9 [.ref a, .int x1, .int x2] = [.ref a, .int x1, .int x2, uu, uu, uu, uu, uu, uu] from by simp [enL, is2_i, is2_r, is2_l, List.replicate]]
  exact if_pos rfl
theorem c_108  : callD (d + 1) 108 [.ref a, .int x1] M = den (callD d) 108 0 [.ref a, .int x1, uu, uu, uu, uu, uu, uu] [] M := by
  rw [callD_eq (by decide), show mdL 108 = 8 from rfl, show enL 8 [.ref a, .int x1] = [.ref a, .int x1, uu, uu, uu, uu, uu, uu] from by simp [enL, is2_i, is2_r, is2_l, List.replicate]]
  exact if_pos rfl
theorem c_109  : callD (d + 1) 109 [.ref a] M = den (callD d) 109 0 [.ref a] [] M := by
  rw [callD_eq (by decide), show mdL 109 = 1 from rfl, show enL 1 [.ref a] = [.ref a] from by simp [enL, is2_i, is2_r, is2_l, List.replicate]]
  exact if_pos rfl
theorem c_110  : callD (d + 1) 110 [.ref a] M = den (callD d) 110 0 [.ref a, uu] [] M := by
  rw [callD_eq (by decide), show mdL 110 = 2 from rfl, show enL 2 [.ref a] = [.ref a, uu] from by simp [enL, is2_i, is2_r, is2_l, List.replicate]]
  exact if_pos rfl
theorem c_111  : callD (d + 1) 111 [.ref a] M = den (callD d) 111 0 [.ref a, uu] [] M := by
  rw [callD_eq (by decide), show mdL 111 = 2 from rfl, show enL 2 [.ref a] = [.ref a, uu] from by simp [enL, is2_i, is2_r, is2_l, List.replicate]]
  exact if_pos rfl
theorem c_112  : callD (d + 1) 112 [.ref a, .int x1, .int x2] M = den (callD d) 112 0 [.ref a, .int x1, .int x2, uu, uu, uu, uu, uu, uu] [] M := by
  rw [callD_eq (by decide), show mdL 112 = 9 from rfl, show enL 9 [.ref a, .int x1, .int x2] = [.ref a, .int x1, .int x2, uu, uu, uu, uu, uu, uu] from by simp [enL, is2_i, is2_r, is2_l, List.replicate]]
  exact if_pos rfl
theorem c_113  : callD (d + 1) 113 [.ref a] M = den (callD d) 113 0 [.ref a, uu, uu, uu, uu, uu, uu] [] M := by
  rw [callD_eq (by decide), show mdL 113 = 7 from rfl, show enL 7 [.ref a] = [.ref a, uu, uu, uu, uu, uu, uu] from by simp [enL, is2_i, is2_r, is2_l, List.replicate]]
  exact if_pos rfl
theorem c_114  : callD (d + 1) 114 [.ref a, .int x1] M = den (callD d) 114 0 [.ref a, .int x1, uu, uu, uu, uu, uu, uu, uu] [] M := by
  rw [callD_eq (by decide), show mdL 114 = 9 from rfl, show enL 9 [.ref a, .int x1] = [.ref a, .int x1, uu, uu, uu, uu, uu, uu, uu] from by simp [enL, is2_i, is2_r, is2_l, List.replicate]]
  exact if_pos rfl
theorem c_115  : callD (d + 1) 115 [.ref a, .int x1] M = den (callD d) 115 0 [.ref a, .int x1, uu, uu, uu, uu, uu] [] M := by
  rw [callD_eq (by decide), show mdL 115 = 7 from rfl, show enL 7 [.ref a, .int x1] = [.ref a, .int x1, uu, uu, uu, uu, uu] from by simp [enL, is2_i, is2_r, is2_l, List.replicate]]
  exact if_pos rfl
theorem c_116  : callD (d + 1) 116 [.ref a] M = den (callD d) 116 0 [.ref a, uu, uu, uu, uu, uu] [] M := by
  rw [callD_eq (by decide), show mdL 116 = 6 from rfl, show enL 6 [.ref a] = [.ref a, uu, uu, uu, uu, uu] from by simp [enL, is2_i, is2_r, is2_l, List.replicate]]
  exact if_pos rfl
theorem c_117  : callD (d + 1) 117 [.ref a] M = den (callD d) 117 0 [.ref a, uu, uu, uu, uu, uu, uu, uu] [] M := by
  rw [callD_eq (by decide), show mdL 117 = 8 from rfl, show enL 8 [.ref a] = [.ref a, uu, uu, uu, uu, uu, uu, uu] from by simp [enL, is2_i, is2_r, is2_l, List.replicate]]
  exact if_pos rfl
theorem c_118  : callD (d + 1) 118 [.ref a] M = den (callD d) 118 0 [.ref a, uu, uu, uu, uu, uu] [] M := by
  rw [callD_eq (by decide), show mdL 118 = 6 from rfl, show enL 6 [.ref a] = [.ref a, uu, uu, uu, uu, uu] from by simp [enL, is2_i, is2_r, is2_l, List.replicate]]
  exact if_pos rfl
theorem c_119  : callD (d + 1) 119 [.ref a, .int x1, .int x2, .int x3] M = den (callD d) 119 0 [.ref a, .int x1, .int x2, .int x3, uu, uu, uu, uu, uu] [] M := by
  rw [callD_eq (by decide), show mdL 119 = 9 from rfl, show enL 9 [.ref a, .int x1, .int x2, .int x3] = [.ref a, .int x1, .int x2, .int x3, uu, uu, uu, uu, uu] from by simp [enL, is2_i, is2_r, is2_l, List.replicate]]
  exact if_pos rfl
theorem c_120  : callD (d + 1) 120 [.ref a, .int x1, .int x2] M = den (callD d) 120 0 [.ref a, .int x1, .int x2, uu] [] M := by
  rw [callD_eq (by decide), show mdL 120 = 4 from rfl, show enL 4 [.ref a, .int x1, .int x2] = [.ref a, .int x1, .int x2, uu] from by simp [enL, is2_i, is2_r, is2_l, List.replicate]]
  exact if_pos rfl
theorem c_121  : callD (d + 1) 121 [.ref a, .int x1, .int x2, .int x3] M = den (callD d) 121 0 [.ref a, .int x1, .int x2, .int x3, uu] [] M := by
  rw [callD_eq (by decide), show mdL 121 = 5 from rfl, show enL 5 [.ref a, .int x1, .int x2, .int x3] = [.ref a, .int x1, .int x2, .int x3, uu] from by simp [enL, is2_i, is2_r, is2_l, List.replicate]]
  exact if_pos rfl
theorem c_122  : callD (d + 1) 122 [.ref a, .int x1, .int x2] M = den (callD d) 122 0 [.ref a, .int x1, .int x2, uu] [] M := by
  rw [callD_eq (by decide), show mdL 122 = 4 from rfl, show enL 4 [.ref a, .int x1, .int x2] = [.ref a, .int x1, .int x2, uu] from by simp [enL, is2_i, is2_r, is2_l, List.replicate]]
  exact if_pos rfl
theorem c_123  : callD (d + 1) 123 [.ref a, .int x1] M = den (callD d) 123 0 [.ref a, .int x1, uu, uu] [] M := by
  rw [callD_eq (by decide), show mdL 123 = 4 from rfl, show enL 4 [.ref a, .int x1] = [.ref a, .int x1, uu, uu] from by simp [enL, is2_i, is2_r, is2_l, List.replicate]]
  exact if_pos rfl
theorem c_124  : callD (d + 1) 124 [.ref a, .int x1] M = den (callD d) 124 0 [.ref a, .int x1, uu] [] M := by
  rw [callD_eq (by decide), show mdL 124 = 3 from rfl, show enL 3 [.ref a, .int x1] = [.ref a, .int x1, uu] from by simp [enL, is2_i, is2_r, is2_l, List.replicate]]
  exact if_pos rfl
theorem c_125  : callD (d + 1) 125 [.ref a] M = den (callD d) 125 0 [.ref a] [] M := by
  rw [callD_eq (by decide), show mdL 125 = 1 from rfl, show enL 1 [.ref a] = [.ref a] from by simp [enL, is2_i, is2_r, is2_l, List.replicate]]
  exact if_pos rfl
theorem c_126  : callD (d + 1) 126 [.ref a] M = den (callD d) 126 0 [.ref a, uu, uu, uu, uu] [] M := by
  rw [callD_eq (by decide), show mdL 126 = 5 from rfl, show enL 5 [.ref a] = [.ref a, uu, uu, uu, uu] from by simp [enL, is2_i, is2_r, is2_l, List.replicate]]
  exact if_pos rfl
theorem c_127  : callD (d + 1) 127 [.ref a, .int x1] M = den (callD d) 127 0 [.ref a, .int x1] [] M := by
  rw [callD_eq (by decide), show mdL 127 = 2 from rfl, show enL 2 [.ref a, .int x1] = [.ref a, .int x1] from by simp [enL, is2_i, is2_r, is2_l, List.replicate]]
  exact if_pos rfl
theorem c_128  : callD (d + 1) 128 [.ref a, .int x1] M = den (callD d) 128 0 [.ref a, .int x1] [] M := by
  rw [callD_eq (by decide), show mdL 128 = 2 from rfl, show enL 2 [.ref a, .int x1] = [.ref a, .int x1] from by simp [enL, is2_i, is2_r, is2_l, List.replicate]]
  exact if_pos rfl
theorem c_129  : callD (d + 1) 129 [.int x1, .int x2] M = den (callD d) 129 0 [.int x1, .int x2] [] M := by
  rw [callD_eq (by decide), show mdL 129 = 2 from rfl, show enL 2 [.int x1, .int x2] = [.int x1, .int x2] from by simp [enL, is2_i, is2_r, is2_l, List.replicate]]
  exact if_pos rfl
theorem c_130  : callD (d + 1) 130 [.ref a, .int x1] M = den (callD d) 130 0 [.ref a, .int x1] [] M := by
  rw [callD_eq (by decide), show mdL 130 = 2 from rfl, show enL 2 [.ref a, .int x1] = [.ref a, .int x1] from by simp [enL, is2_i, is2_r, is2_l, List.replicate]]
  exact if_pos rfl
theorem c_131  : callD (d + 1) 131 [.ref a] M = den (callD d) 131 0 [.ref a, uu, uu, uu, uu, uu] [] M := by
  rw [callD_eq (by decide), show mdL 131 = 6 from rfl, show enL 6 [.ref a] = [.ref a, uu, uu, uu, uu, uu] from by simp [enL, is2_i, is2_r, is2_l, List.replicate]]
  exact if_pos rfl
theorem c_132  : callD (d + 1) 132 [.int x1, .int x2] M = den (callD d) 132 0 [.int x1, .int x2, uu] [] M := by
  rw [callD_eq (by decide), show mdL 132 = 3 from rfl, show enL 3 [.int x1, .int x2] = [.int x1, .int x2, uu] from by simp [enL, is2_i, is2_r, is2_l, List.replicate]]
  exact if_pos rfl
theorem c_133  : callD (d + 1) 133 [.ref a, .int x1, .int x2] M = den (callD d) 133 0 [.ref a, .int x1, .int x2, uu] [] M := by
  rw [callD_eq (by decide), show mdL 133 = 4 from rfl, show enL 4 [.ref a, .int x1, .int x2] = [.ref a, .int x1, .int x2, uu] from by simp [enL, is2_i, is2_r, is2_l, List.replicate]]
  exact if_pos rfl
theorem c_134  : callD (d + 1) 134 [.ref a, .int x1, .int x2] M = den (callD d) 134 0 [.ref a, .int x1, .int x2, uu, uu] [] M := by
  rw [callD_eq (by decide), show mdL 134 = 5 from rfl, show enL 5 [.ref a, .int x1, .int x2] = [.ref a, .int x1, .int x2, uu, uu] from by simp [enL, is2_i, is2_r, is2_l, List.replicate]]
  exact if_pos rfl
theorem c_135  : callD (d + 1) 135 [.ref a] M = den (callD d) 135 0 [.ref a] [] M := by
  rw [callD_eq (by decide), show mdL 135 = 1 from rfl, show enL 1 [.ref a] = [.ref a] from by simp [enL, is2_i, is2_r, is2_l, List.replicate]]
  exact if_pos rfl
theorem c_136  : callD (d + 1) 136 [.ref a, .int x1] M = den (callD d) 136 0 [.ref a, .int x1] [] M := by
  rw [callD_eq (by decide), show mdL 136 = 2 from rfl, show enL 2 [.ref a, .int x1] = [.ref a, .int x1] from by simp [enL, is2_i, is2_r, is2_l, List.replicate]]
  exact if_pos rfl
theorem c_137  : callD (d + 1) 137 [.long p1, .long p2, .long p3] M = den (callD d) 137 0 [.long p1, uu, .long p2, uu, .long p3, uu] [] M := by
  rw [callD_eq (by decide), show mdL 137 = 6 from rfl, show enL 6 [.long p1, .long p2, .long p3] = [.long p1, uu, .long p2, uu, .long p3, uu] from by simp [enL, is2_i, is2_r, is2_l, List.replicate]]
  exact if_pos rfl
theorem c_138  : callD (d + 1) 138 [.ref a, .int x1] M = den (callD d) 138 0 [.ref a, .int x1] [] M := by
  rw [callD_eq (by decide), show mdL 138 = 2 from rfl, show enL 2 [.ref a, .int x1] = [.ref a, .int x1] from by simp [enL, is2_i, is2_r, is2_l, List.replicate]]
  exact if_pos rfl
theorem c_139  : callD (d + 1) 139 [.int x1] M = den (callD d) 139 0 [.int x1, uu, uu] [] M := by
  rw [callD_eq (by decide), show mdL 139 = 3 from rfl, show enL 3 [.int x1] = [.int x1, uu, uu] from by simp [enL, is2_i, is2_r, is2_l, List.replicate]]
  exact if_pos rfl
theorem c_140  : callD (d + 1) 140 [.ref a, .int x1, .int x2, .int x3] M = den (callD d) 140 0 [.ref a, .int x1, .int x2, .int x3, uu] [] M := by
  rw [callD_eq (by decide), show mdL 140 = 5 from rfl, show enL 5 [.ref a, .int x1, .int x2, .int x3] = [.ref a, .int x1, .int x2, .int x3, uu] from by simp [enL, is2_i, is2_r, is2_l, List.replicate]]
  exact if_pos rfl
theorem c_141  : callD (d + 1) 141 [.int x1, .long p2] M = den (callD d) 141 0 [.int x1, .long p2, uu] [] M := by
  rw [callD_eq (by decide), show mdL 141 = 3 from rfl, show enL 3 [.int x1, .long p2] = [.int x1, .long p2, uu] from by simp [enL, is2_i, is2_r, is2_l, List.replicate]]
  exact if_pos rfl
theorem c_142  : callD (d + 1) 142 [.ref a, .int x1] M = den (callD d) 142 0 [.ref a, .int x1] [] M := by
  rw [callD_eq (by decide), show mdL 142 = 2 from rfl, show enL 2 [.ref a, .int x1] = [.ref a, .int x1] from by simp [enL, is2_i, is2_r, is2_l, List.replicate]]
  exact if_pos rfl
theorem c_143  : callD (d + 1) 143 [.ref a, .int x1, .int x2, .long p3] M = den (callD d) 143 0 [.ref a, .int x1, .int x2, .long p3, uu, uu] [] M := by
  rw [callD_eq (by decide), show mdL 143 = 6 from rfl, show enL 6 [.ref a, .int x1, .int x2, .long p3] = [.ref a, .int x1, .int x2, .long p3, uu, uu] from by simp [enL, is2_i, is2_r, is2_l, List.replicate]]
  exact if_pos rfl
theorem c_144  : callD (d + 1) 144 [.ref a, .int x1, .int x2, .int x3, .int x4, .int x5] M = den (callD d) 144 0 [.ref a, .int x1, .int x2, .int x3, .int x4, .int x5, uu] [] M := by
  rw [callD_eq (by decide), show mdL 144 = 7 from rfl, show enL 7 [.ref a, .int x1, .int x2, .int x3, .int x4, .int x5] = [.ref a, .int x1, .int x2, .int x3, .int x4, .int x5, uu] from by simp [enL, is2_i, is2_r, is2_l, List.replicate]]
  exact if_pos rfl
theorem c_145  : callD (d + 1) 145 [.ref a, .int x1, .int x2] M = den (callD d) 145 0 [.ref a, .int x1, .int x2] [] M := by
  rw [callD_eq (by decide), show mdL 145 = 3 from rfl, show enL 3 [.ref a, .int x1, .int x2] = [.ref a, .int x1, .int x2] from by simp [enL, is2_i, is2_r, is2_l, List.replicate]]
  exact if_pos rfl
theorem c_146  : callD (d + 1) 146 [.ref a, .int x1] M = den (callD d) 146 0 [.ref a, .int x1] [] M := by
  rw [callD_eq (by decide), show mdL 146 = 2 from rfl, show enL 2 [.ref a, .int x1] = [.ref a, .int x1] from by simp [enL, is2_i, is2_r, is2_l, List.replicate]]
  exact if_pos rfl
theorem c_147  : callD (d + 1) 147 [.ref a, .int x1, .int x2] M = den (callD d) 147 0 [.ref a, .int x1, .int x2] [] M := by
  rw [callD_eq (by decide), show mdL 147 = 3 from rfl, show enL 3 [.ref a, .int x1, .int x2] = [.ref a, .int x1, .int x2] from by simp [enL, is2_i, is2_r, is2_l, List.replicate]]
  exact if_pos rfl
theorem c_148  : callD (d + 1) 148 [.int x1, .int x2] M = den (callD d) 148 0 [.int x1, .int x2] [] M := by
  rw [callD_eq (by decide), show mdL 148 = 2 from rfl, show enL 2 [.int x1, .int x2] = [.int x1, .int x2] from by simp [enL, is2_i, is2_r, is2_l, List.replicate]]
  exact if_pos rfl
theorem c_149  : callD (d + 1) 149 [.ref a, .int x1, .int x2] M = den (callD d) 149 0 [.ref a, .int x1, .int x2, uu] [] M := by
  rw [callD_eq (by decide), show mdL 149 = 4 from rfl, show enL 4 [.ref a, .int x1, .int x2] = [.ref a, .int x1, .int x2, uu] from by simp [enL, is2_i, is2_r, is2_l, List.replicate]]
  exact if_pos rfl
theorem c_150  : callD (d + 1) 150 [.ref a, .int x1, .int x2, .int x3] M = den (callD d) 150 0 [.ref a, .int x1, .int x2, .int x3] [] M := by
  rw [callD_eq (by decide), show mdL 150 = 4 from rfl, show enL 4 [.ref a, .int x1, .int x2, .int x3] = [.ref a, .int x1, .int x2, .int x3] from by simp [enL, is2_i, is2_r, is2_l, List.replicate]]
  exact if_pos rfl
theorem c_151  : callD (d + 1) 151 [.ref a, .int x1, .int x2, .int x3] M = den (callD d) 151 0 [.ref a, .int x1, .int x2, .int x3] [] M := by
  rw [callD_eq (by decide), show mdL 151 = 4 from rfl, show enL 4 [.ref a, .int x1, .int x2, .int x3] = [.ref a, .int x1, .int x2, .int x3] from by simp [enL, is2_i, is2_r, is2_l, List.replicate]]
  exact if_pos rfl
theorem c_152  : callD (d + 1) 152 [.ref a, .int x1, .int x2, .int x3] M = den (callD d) 152 0 [.ref a, .int x1, .int x2, .int x3, uu] [] M := by
  rw [callD_eq (by decide), show mdL 152 = 5 from rfl, show enL 5 [.ref a, .int x1, .int x2, .int x3] = [.ref a, .int x1, .int x2, .int x3, uu] from by simp [enL, is2_i, is2_r, is2_l, List.replicate]]
  exact if_pos rfl
theorem c_153  : callD (d + 1) 153 [.ref a, .int x1, .int x2] M = den (callD d) 153 0 [.ref a, .int x1, .int x2] [] M := by
  rw [callD_eq (by decide), show mdL 153 = 3 from rfl, show enL 3 [.ref a, .int x1, .int x2] = [.ref a, .int x1, .int x2] from by simp [enL, is2_i, is2_r, is2_l, List.replicate]]
  exact if_pos rfl
theorem c_154  : callD (d + 1) 154 [.ref a, .int x1, .int x2, .int x3] M = den (callD d) 154 0 [.ref a, .int x1, .int x2, .int x3] [] M := by
  rw [callD_eq (by decide), show mdL 154 = 4 from rfl, show enL 4 [.ref a, .int x1, .int x2, .int x3] = [.ref a, .int x1, .int x2, .int x3] from by simp [enL, is2_i, is2_r, is2_l, List.replicate]]
  exact if_pos rfl
theorem c_155  : callD (d + 1) 155 [.ref a, .int x1, .int x2] M = den (callD d) 155 0 [.ref a, .int x1, .int x2] [] M := by
  rw [callD_eq (by decide), show mdL 155 = 3 from rfl, show enL 3 [.ref a, .int x1, .int x2] = [.ref a, .int x1, .int x2] from by simp [enL, is2_i, is2_r, is2_l, List.replicate]]
  exact if_pos rfl
theorem c_156  : callD (d + 1) 156 [.ref a, .int x1, .int x2] M = den (callD d) 156 0 [.ref a, .int x1, .int x2] [] M := by
  rw [callD_eq (by decide), show mdL 156 = 3 from rfl, show enL 3 [.ref a, .int x1, .int x2] = [.ref a, .int x1, .int x2] from by simp [enL, is2_i, is2_r, is2_l, List.replicate]]
  exact if_pos rfl
theorem c_157  : callD (d + 1) 157 [.ref a, .int x1, .int x2] M = den (callD d) 157 0 [.ref a, .int x1, .int x2] [] M := by
  rw [callD_eq (by decide), show mdL 157 = 3 from rfl, show enL 3 [.ref a, .int x1, .int x2] = [.ref a, .int x1, .int x2] from by simp [enL, is2_i, is2_r, is2_l, List.replicate]]
  exact if_pos rfl
theorem c_158  : callD (d + 1) 158 [.ref a, .int x1] M = den (callD d) 158 0 [.ref a, .int x1] [] M := by
  rw [callD_eq (by decide), show mdL 158 = 2 from rfl, show enL 2 [.ref a, .int x1] = [.ref a, .int x1] from by simp [enL, is2_i, is2_r, is2_l, List.replicate]]
  exact if_pos rfl
theorem c_159  : callD (d + 1) 159 [.ref a, .int x1] M = den (callD d) 159 0 [.ref a, .int x1, uu] [] M := by
  rw [callD_eq (by decide), show mdL 159 = 3 from rfl, show enL 3 [.ref a, .int x1] = [.ref a, .int x1, uu] from by simp [enL, is2_i, is2_r, is2_l, List.replicate]]
  exact if_pos rfl
theorem c_160  : callD (d + 1) 160 [.ref a, .int x1, .int x2] M = den (callD d) 160 0 [.ref a, .int x1, .int x2, uu] [] M := by
  rw [callD_eq (by decide), show mdL 160 = 4 from rfl, show enL 4 [.ref a, .int x1, .int x2] = [.ref a, .int x1, .int x2, uu] from by simp [enL, is2_i, is2_r, is2_l, List.replicate]]
  exact if_pos rfl
theorem c_161  : callD (d + 1) 161 [.ref a, .int x1] M = den (callD d) 161 0 [.ref a, .int x1] [] M := by
  rw [callD_eq (by decide), show mdL 161 = 2 from rfl, show enL 2 [.ref a, .int x1] = [.ref a, .int x1] from by simp [enL, is2_i, is2_r, is2_l, List.replicate]]
  exact if_pos rfl
theorem c_162  : callD (d + 1) 162 [.ref a] M = den (callD d) 162 0 [.ref a, uu] [] M := by
  rw [callD_eq (by decide), show mdL 162 = 2 from rfl, show enL 2 [.ref a] = [.ref a, uu] from by simp [enL, is2_i, is2_r, is2_l, List.replicate]]
  exact if_pos rfl
theorem c_163  : callD (d + 1) 163 [.int x1] M = den (callD d) 163 0 [.int x1] [] M := by
  rw [callD_eq (by decide), show mdL 163 = 1 from rfl, show enL 1 [.int x1] = [.int x1] from by simp [enL, is2_i, is2_r, is2_l, List.replicate]]
  exact if_pos rfl
theorem c_164  : callD (d + 1) 164 [.int x1] M = den (callD d) 164 0 [.int x1] [] M := by
  rw [callD_eq (by decide), show mdL 164 = 1 from rfl, show enL 1 [.int x1] = [.int x1] from by simp [enL, is2_i, is2_r, is2_l, List.replicate]]
  exact if_pos rfl
theorem c_165  : callD (d + 1) 165 [.ref a] M = den (callD d) 165 0 [.ref a] [] M := by
  rw [callD_eq (by decide), show mdL 165 = 1 from rfl, show enL 1 [.ref a] = [.ref a] from by simp [enL, is2_i, is2_r, is2_l, List.replicate]]
  exact if_pos rfl
theorem c_166  : callD (d + 1) 166 [.ref a] M = den (callD d) 166 0 [.ref a] [] M := by
  rw [callD_eq (by decide), show mdL 166 = 1 from rfl, show enL 1 [.ref a] = [.ref a] from by simp [enL, is2_i, is2_r, is2_l, List.replicate]]
  exact if_pos rfl
theorem c_167 (h1 : is2 v1 = false) : callD (d + 1) 167 [.ref a, v1] M = den (callD d) 167 0 [.ref a, v1, uu] [] M := by
  rw [callD_eq (by decide), show mdL 167 = 3 from rfl, show enL 3 [.ref a, v1] = [.ref a, v1, uu] from by simp [enL, is2_i, is2_r, is2_l, List.replicate, h1]]
  exact if_pos rfl
theorem c_168  : callD (d + 1) 168 [.ref a, .int x1, .int x2, .int x3] M = den (callD d) 168 0 [.ref a, .int x1, .int x2, .int x3] [] M := by
  rw [callD_eq (by decide), show mdL 168 = 4 from rfl, show enL 4 [.ref a, .int x1, .int x2, .int x3] = [.ref a, .int x1, .int x2, .int x3] from by simp [enL, is2_i, is2_r, is2_l, List.replicate]]
  exact if_pos rfl
theorem c_169  : callD (d + 1) 169 [.ref a, .int x1] M = den (callD d) 169 0 [.ref a, .int x1] [] M := by
  rw [callD_eq (by decide), show mdL 169 = 2 from rfl, show enL 2 [.ref a, .int x1] = [.ref a, .int x1] from by simp [enL, is2_i, is2_r, is2_l, List.replicate]]
  exact if_pos rfl
theorem c_170  : callD (d + 1) 170 [.ref a, .int x1, .int x2] M = den (callD d) 170 0 [.ref a, .int x1, .int x2, uu] [] M := by
  rw [callD_eq (by decide), show mdL 170 = 4 from rfl, show enL 4 [.ref a, .int x1, .int x2] = [.ref a, .int x1, .int x2, uu] from by simp [enL, is2_i, is2_r, is2_l, List.replicate]]
  exact if_pos rfl
theorem c_171  : callD (d + 1) 171 [.ref a, .int x1, .int x2, .int x3] M = den (callD d) 171 0 [.ref a, .int x1, .int x2, .int x3, uu] [] M := by
  rw [callD_eq (by decide), show mdL 171 = 5 from rfl, show enL 5 [.ref a, .int x1, .int x2, .int x3] = [.ref a, .int x1, .int x2, .int x3, uu] from by simp [enL, is2_i, is2_r, is2_l, List.replicate]]
  exact if_pos rfl
theorem c_172  : callD (d + 1) 172 [.ref a] M = den (callD d) 172 0 [.ref a] [] M := by
  rw [callD_eq (by decide), show mdL 172 = 1 from rfl, show enL 1 [.ref a] = [.ref a] from by simp [enL, is2_i, is2_r, is2_l, List.replicate]]
  exact if_pos rfl
theorem c_173  : callD (d + 1) 173 [.ref a] M = den (callD d) 173 0 [.ref a] [] M := by
  rw [callD_eq (by decide), show mdL 173 = 1 from rfl, show enL 1 [.ref a] = [.ref a] from by simp [enL, is2_i, is2_r, is2_l, List.replicate]]
  exact if_pos rfl
theorem c_174  : callD (d + 1) 174 [.ref a] M = den (callD d) 174 0 [.ref a] [] M := by
  rw [callD_eq (by decide), show mdL 174 = 1 from rfl, show enL 1 [.ref a] = [.ref a] from by simp [enL, is2_i, is2_r, is2_l, List.replicate]]
  exact if_pos rfl
theorem c_175  : callD (d + 1) 175 [.ref a] M = den (callD d) 175 0 [.ref a, uu, uu] [] M := by
  rw [callD_eq (by decide), show mdL 175 = 3 from rfl, show enL 3 [.ref a] = [.ref a, uu, uu] from by simp [enL, is2_i, is2_r, is2_l, List.replicate]]
  exact if_pos rfl
theorem c_176  : callD (d + 1) 176 [.ref a, .int x1, .int x2] M = den (callD d) 176 0 [.ref a, .int x1, .int x2] [] M := by
  rw [callD_eq (by decide), show mdL 176 = 3 from rfl, show enL 3 [.ref a, .int x1, .int x2] = [.ref a, .int x1, .int x2] from by simp [enL, is2_i, is2_r, is2_l, List.replicate]]
  exact if_pos rfl
theorem c_177  : callD (d + 1) 177 [.ref a, .int x1, .int x2] M = den (callD d) 177 0 [.ref a, .int x1, .int x2, uu] [] M := by
  rw [callD_eq (by decide), show mdL 177 = 4 from rfl, show enL 4 [.ref a, .int x1, .int x2] = [.ref a, .int x1, .int x2, uu] from by simp [enL, is2_i, is2_r, is2_l, List.replicate]]
  exact if_pos rfl
theorem c_178  : callD (d + 1) 178 [.ref a, .int x1, .int x2] M = den (callD d) 178 0 [.ref a, .int x1, .int x2, uu, uu, uu] [] M := by
  rw [callD_eq (by decide), show mdL 178 = 6 from rfl, show enL 6 [.ref a, .int x1, .int x2] = [.ref a, .int x1, .int x2, uu, uu, uu] from by simp [enL, is2_i, is2_r, is2_l, List.replicate]]
  exact if_pos rfl
theorem c_179  : callD (d + 1) 179 [.ref a, .int x1, .int x2] M = den (callD d) 179 0 [.ref a, .int x1, .int x2] [] M := by
  rw [callD_eq (by decide), show mdL 179 = 3 from rfl, show enL 3 [.ref a, .int x1, .int x2] = [.ref a, .int x1, .int x2] from by simp [enL, is2_i, is2_r, is2_l, List.replicate]]
  exact if_pos rfl
theorem c_180  : callD (d + 1) 180 [.ref a, .int x1] M = den (callD d) 180 0 [.ref a, .int x1] [] M := by
  rw [callD_eq (by decide), show mdL 180 = 2 from rfl, show enL 2 [.ref a, .int x1] = [.ref a, .int x1] from by simp [enL, is2_i, is2_r, is2_l, List.replicate]]
  exact if_pos rfl
theorem c_181  : callD (d + 1) 181 [.ref a, .int x1, .int x2] M = den (callD d) 181 0 [.ref a, .int x1, .int x2, uu] [] M := by
  rw [callD_eq (by decide), show mdL 181 = 4 from rfl, show enL 4 [.ref a, .int x1, .int x2] = [.ref a, .int x1, .int x2, uu] from by simp [enL, is2_i, is2_r, is2_l, List.replicate]]
  exact if_pos rfl
theorem c_182  : callD (d + 1) 182 [.ref a, .int x1] M = den (callD d) 182 0 [.ref a, .int x1] [] M := by
  rw [callD_eq (by decide), show mdL 182 = 2 from rfl, show enL 2 [.ref a, .int x1] = [.ref a, .int x1] from by simp [enL, is2_i, is2_r, is2_l, List.replicate]]
  exact if_pos rfl
theorem c_183  : callD (d + 1) 183 [.ref a, .int x1] M = den (callD d) 183 0 [.ref a, .int x1, uu] [] M := by
  rw [callD_eq (by decide), show mdL 183 = 3 from rfl, show enL 3 [.ref a, .int x1] = [.ref a, .int x1, uu] from by simp [enL, is2_i, is2_r, is2_l, List.replicate]]
  exact if_pos rfl
theorem c_184  : callD (d + 1) 184 [.ref a, .int x1] M = den (callD d) 184 0 [.ref a, .int x1, uu] [] M := by
  rw [callD_eq (by decide), show mdL 184 = 3 from rfl, show enL 3 [.ref a, .int x1] = [.ref a, .int x1, uu] from by simp [enL, is2_i, is2_r, is2_l, List.replicate]]
  exact if_pos rfl
theorem c_185  : callD (d + 1) 185 [.ref a, .int x1] M = den (callD d) 185 0 [.ref a, .int x1] [] M := by
  rw [callD_eq (by decide), show mdL 185 = 2 from rfl, show enL 2 [.ref a, .int x1] = [.ref a, .int x1] from by simp [enL, is2_i, is2_r, is2_l, List.replicate]]
  exact if_pos rfl
theorem c_186  : callD (d + 1) 186 [.ref a, .int x1, .int x2] M = den (callD d) 186 0 [.ref a, .int x1, .int x2] [] M := by
  rw [callD_eq (by decide), show mdL 186 = 3 from rfl, show enL 3 [.ref a, .int x1, .int x2] = [.ref a, .int x1, .int x2] from by simp [enL, is2_i, is2_r, is2_l, List.replicate]]
  exact if_pos rfl
theorem c_187  : callD (d + 1) 187 [.ref a, .int x1, .int x2] M = den (callD d) 187 0 [.ref a, .int x1, .int x2, uu, uu, uu, uu, uu] [] M := by
  rw [callD_eq (by decide), show mdL 187 = 8 from rfl, show enL 8 [.ref a, .int x1, .int x2] = [.ref a, .int x1, .int x2, uu, uu, uu, uu, uu] from by simp [enL, is2_i, is2_r, is2_l, List.replicate]]
  exact if_pos rfl
theorem c_188  : callD (d + 1) 188 [.ref a, .int x1, .int x2] M = den (callD d) 188 0 [.ref a, .int x1, .int x2, uu] [] M := by
  rw [callD_eq (by decide), show mdL 188 = 4 from rfl, show enL 4 [.ref a, .int x1, .int x2] = [.ref a, .int x1, .int x2, uu] from by simp [enL, is2_i, is2_r, is2_l, List.replicate]]
  exact if_pos rfl
theorem c_189  : callD (d + 1) 189 [.ref a, .int x1, .int x2] M = den (callD d) 189 0 [.ref a, .int x1, .int x2, uu, uu] [] M := by
  rw [callD_eq (by decide), show mdL 189 = 5 from rfl, show enL 5 [.ref a, .int x1, .int x2] = [.ref a, .int x1, .int x2, uu, uu] from by simp [enL, is2_i, is2_r, is2_l, List.replicate]]
  exact if_pos rfl
theorem c_190  : callD (d + 1) 190 [.ref a, .int x1, .int x2] M = den (callD d) 190 0 [.ref a, .int x1, .int x2, uu, uu, uu, uu, uu, uu, uu, uu, uu] [] M := by
  rw [callD_eq (by decide), show mdL 190 = 12 from rfl, show enL 12 [.ref a, .int x1, .int x2] = [.ref a, .int x1, .int x2, uu, uu, uu, uu, uu, uu, uu, uu, uu] from by simp [enL, is2_i, is2_r, is2_l, List.replicate]]
  exact if_pos rfl
theorem c_191  : callD (d + 1) 191 [.ref a, .int x1, .int x2, .int x3, .int x4] M = den (callD d) 191 0 [.ref a, .int x1, .int x2, .int x3, .int x4, uu] [] M := by
  rw [callD_eq (by decide), show mdL 191 = 6 from rfl, show enL 6 [.ref a, .int x1, .int x2, .int x3, .int x4] = [.ref a, .int x1, .int x2, .int x3, .int x4, uu] from by simp [enL, is2_i, is2_r, is2_l, List.replicate]]
  exact if_pos rfl
theorem c_192  : callD (d + 1) 192 [.ref a] M = den (callD d) 192 0 [.ref a, uu] [] M := by
  rw [callD_eq (by decide), show mdL 192 = 2 from rfl, show enL 2 [.ref a] = [.ref a, uu] from by simp [enL, is2_i, is2_r, is2_l, List.replicate]]
  exact if_pos rfl
theorem c_193  : callD (d + 1) 193 [.ref a, .int x1] M = den (callD d) 193 0 [.ref a, .int x1] [] M := by
  rw [callD_eq (by decide), show mdL 193 = 2 from rfl, show enL 2 [.ref a, .int x1] = [.ref a, .int x1] from by simp [enL, is2_i, is2_r, is2_l, List.replicate]]
  exact if_pos rfl
theorem c_194  : callD (d + 1) 194 [.ref a] M = den (callD d) 194 0 [.ref a, uu, uu] [] M := by
  rw [callD_eq (by decide), show mdL 194 = 3 from rfl, show enL 3 [.ref a] = [.ref a, uu, uu] from by simp [enL, is2_i, is2_r, is2_l, List.replicate]]
  exact if_pos rfl
theorem c_195  : callD (d + 1) 195 [.ref a] M = den (callD d) 195 0 [.ref a] [] M := by
  rw [callD_eq (by decide), show mdL 195 = 1 from rfl, show enL 1 [.ref a] = [.ref a] from by simp [enL, is2_i, is2_r, is2_l, List.replicate]]
  exact if_pos rfl
theorem c_196  : callD (d + 1) 196 [.ref a, .int x1] M = den (callD d) 196 0 [.ref a, .int x1, uu, uu] [] M := by
  rw [callD_eq (by decide), show mdL 196 = 4 from rfl, show enL 4 [.ref a, .int x1] = [.ref a, .int x1, uu, uu] from by simp [enL, is2_i, is2_r, is2_l, List.replicate]]
  exact if_pos rfl
theorem c_197  : callD (d + 1) 197 [.ref a, .int x1] M = den (callD d) 197 0 [.ref a, .int x1, uu, uu] [] M := by
  rw [callD_eq (by decide), show mdL 197 = 4 from rfl, show enL 4 [.ref a, .int x1] = [.ref a, .int x1, uu, uu] from by simp [enL, is2_i, is2_r, is2_l, List.replicate]]
  exact if_pos rfl
theorem c_198  : callD (d + 1) 198 [.ref a] M = den (callD d) 198 0 [.ref a, uu, uu] [] M := by
  rw [callD_eq (by decide), show mdL 198 = 3 from rfl, show enL 3 [.ref a] = [.ref a, uu, uu] from by simp [enL, is2_i, is2_r, is2_l, List.replicate]]
  exact if_pos rfl
theorem c_199  : callD (d + 1) 199 [.ref a, .int x1] M = den (callD d) 199 0 [.ref a, .int x1, uu, uu] [] M := by
  rw [callD_eq (by decide), show mdL 199 = 4 from rfl, show enL 4 [.ref a, .int x1] = [.ref a, .int x1, uu, uu] from by simp [enL, is2_i, is2_r, is2_l, List.replicate]]
  exact if_pos rfl
theorem c_200  : callD (d + 1) 200 [.ref a, .int x1] M = den (callD d) 200 0 [.ref a, .int x1] [] M := by
  rw [callD_eq (by decide), show mdL 200 = 2 from rfl, show enL 2 [.ref a, .int x1] = [.ref a, .int x1] from by simp [enL, is2_i, is2_r, is2_l, List.replicate]]
  exact if_pos rfl
theorem c_201  : callD (d + 1) 201 [.ref a] M = den (callD d) 201 0 [.ref a, uu, uu] [] M := by
  rw [callD_eq (by decide), show mdL 201 = 3 from rfl, show enL 3 [.ref a] = [.ref a, uu, uu] from by simp [enL, is2_i, is2_r, is2_l, List.replicate]]
  exact if_pos rfl
theorem c_202  : callD (d + 1) 202 [.ref a] M = den (callD d) 202 0 [.ref a, uu, uu] [] M := by
  rw [callD_eq (by decide), show mdL 202 = 3 from rfl, show enL 3 [.ref a] = [.ref a, uu, uu] from by simp [enL, is2_i, is2_r, is2_l, List.replicate]]
  exact if_pos rfl
theorem c_203  : callD (d + 1) 203 [.ref a] M = den (callD d) 203 0 [.ref a] [] M := by
  rw [callD_eq (by decide), show mdL 203 = 1 from rfl, show enL 1 [.ref a] = [.ref a] from by simp [enL, is2_i, is2_r, is2_l, List.replicate]]
  exact if_pos rfl
theorem c_204  : callD (d + 1) 204 [.ref a, .int x1] M = den (callD d) 204 0 [.ref a, .int x1, uu, uu, uu] [] M := by
  rw [callD_eq (by decide), show mdL 204 = 5 from rfl, show enL 5 [.ref a, .int x1] = [.ref a, .int x1, uu, uu, uu] from by simp [enL, is2_i, is2_r, is2_l, List.replicate]]
  exact if_pos rfl
theorem c_205  : callD (d + 1) 205 [.ref a] M = den (callD d) 205 0 [.ref a] [] M := by
  rw [callD_eq (by decide), show mdL 205 = 1 from rfl, show enL 1 [.ref a] = [.ref a] from by simp [enL, is2_i, is2_r, is2_l, List.replicate]]
  exact if_pos rfl
theorem c_206  : callD (d + 1) 206 [.ref a] M = den (callD d) 206 0 [.ref a, uu, uu, uu] [] M := by
  rw [callD_eq (by decide), show mdL 206 = 4 from rfl, show enL 4 [.ref a] = [.ref a, uu, uu, uu] from by simp [enL, is2_i, is2_r, is2_l, List.replicate]]
  exact if_pos rfl
theorem c_207  : callD (d + 1) 207 [.ref a, .int x1, .int x2] M = den (callD d) 207 0 [.ref a, .int x1, .int x2] [] M := by
  rw [callD_eq (by decide), show mdL 207 = 3 from rfl, show enL 3 [.ref a, .int x1, .int x2] = [.ref a, .int x1, .int x2] from by simp [enL, is2_i, is2_r, is2_l, List.replicate]]
  exact if_pos rfl
theorem c_208  : callD (d + 1) 208 [.ref a, .int x1, .int x2] M = den (callD d) 208 0 [.ref a, .int x1, .int x2, uu, uu] [] M := by
  rw [callD_eq (by decide), show mdL 208 = 5 from rfl, show enL 5 [.ref a, .int x1, .int x2] = [.ref a, .int x1, .int x2, uu, uu] from by simp [enL, is2_i, is2_r, is2_l, List.replicate]]
  exact if_pos rfl
theorem c_209  : callD (d + 1) 209 [.ref a] M = den (callD d) 209 0 [.ref a, uu, uu] [] M := by
  rw [callD_eq (by decide), show mdL 209 = 3 from rfl, show enL 3 [.ref a] = [.ref a, uu, uu] from by simp [enL, is2_i, is2_r, is2_l, List.replicate]]
  exact if_pos rfl
theorem c_210  : callD (d + 1) 210 [.ref a, .int x1] M = den (callD d) 210 0 [.ref a, .int x1, uu, uu] [] M := by
  rw [callD_eq (by decide), show mdL 210 = 4 from rfl, show enL 4 [.ref a, .int x1] = [.ref a, .int x1, uu, uu] from by simp [enL, is2_i, is2_r, is2_l, List.replicate]]
  exact if_pos rfl
theorem c_211  : callD (d + 1) 211 [.ref a, .int x1] M = den (callD d) 211 0 [.ref a, .int x1, uu, uu] [] M := by
  rw [callD_eq (by decide), show mdL 211 = 4 from rfl, show enL 4 [.ref a, .int x1] = [.ref a, .int x1, uu, uu] from by simp [enL, is2_i, is2_r, is2_l, List.replicate]]
  exact if_pos rfl
theorem c_212  : callD (d + 1) 212 [.ref a, .int x1, .int x2] M = den (callD d) 212 0 [.ref a, .int x1, .int x2, uu, uu] [] M := by
  rw [callD_eq (by decide), show mdL 212 = 5 from rfl, show enL 5 [.ref a, .int x1, .int x2] = [.ref a, .int x1, .int x2, uu, uu] from by simp [enL, is2_i, is2_r, is2_l, List.replicate]]
  exact if_pos rfl
theorem c_213  : callD (d + 1) 213 [.ref a, .int x1] M = den (callD d) 213 0 [.ref a, .int x1, uu, uu, uu] [] M := by
  rw [callD_eq (by decide), show mdL 213 = 5 from rfl, show enL 5 [.ref a, .int x1] = [.ref a, .int x1, uu, uu, uu] from by simp [enL, is2_i, is2_r, is2_l, List.replicate]]
  exact if_pos rfl
theorem c_214  : callD (d + 1) 214 [.ref a, .int x1] M = den (callD d) 214 0 [.ref a, .int x1, uu, uu, uu, uu, uu, uu, uu] [] M := by
  rw [callD_eq (by decide), show mdL 214 = 9 from rfl, show enL 9 [.ref a, .int x1] = [.ref a, .int x1, uu, uu, uu, uu, uu, uu, uu] from by simp [enL, is2_i, is2_r, is2_l, List.replicate]]
  exact if_pos rfl
theorem c_215  : callD (d + 1) 215 [.ref a, .int x1, .int x2, .int x3] M = den (callD d) 215 0 [.ref a, .int x1, .int x2, .int x3, uu] [] M := by
  rw [callD_eq (by decide), show mdL 215 = 5 from rfl, show enL 5 [.ref a, .int x1, .int x2, .int x3] = [.ref a, .int x1, .int x2, .int x3, uu] from by simp [enL, is2_i, is2_r, is2_l, List.replicate]]
  exact if_pos rfl
theorem c_216  : callD (d + 1) 216 [.ref a, .int x1] M = den (callD d) 216 0 [.ref a, .int x1, uu, uu, uu, uu] [] M := by
  rw [callD_eq (by decide), show mdL 216 = 6 from rfl, show enL 6 [.ref a, .int x1] = [.ref a, .int x1, uu, uu, uu, uu] from by simp [enL, is2_i, is2_r, is2_l, List.replicate]]
  exact if_pos rfl
theorem c_217  : callD (d + 1) 217 [.ref a, .int x1, .int x2, .int x3] M = den (callD d) 217 0 [.ref a, .int x1, .int x2, .int x3, uu, uu, uu, uu] [] M := by
  rw [callD_eq (by decide), show mdL 217 = 8 from rfl, show enL 8 [.ref a, .int x1, .int x2, .int x3] = [.ref a, .int x1, .int x2, .int x3, uu, uu, uu, uu] from by simp [enL, is2_i, is2_r, is2_l, List.replicate]]
  exact if_pos rfl
theorem c_218  : callD (d + 1) 218 [.ref a, .int x1, .int x2] M = den (callD d) 218 0 [.ref a, .int x1, .int x2, uu, uu, uu] [] M := by
  rw [callD_eq (by decide), show mdL 218 = 6 from rfl, show enL 6 [.ref a, .int x1, .int x2] = [.ref a, .int x1, .int x2, uu, uu, uu] from by simp [enL, is2_i, is2_r, is2_l, List.replicate]]
  exact if_pos rfl
theorem c_219  : callD (d + 1) 219 [.ref a] M = den (callD d) 219 0 [.ref a, uu, uu] [] M := by
  rw [callD_eq (by decide), show mdL 219 = 3 from rfl, show enL 3 [.ref a] = [.ref a, uu, uu] from by simp [enL, is2_i, is2_r, is2_l, List.replicate]]
  exact if_pos rfl
theorem c_220  : callD (d + 1) 220 [.ref a] M = den (callD d) 220 0 [.ref a, uu, uu] [] M := by
  rw [callD_eq (by decide), show mdL 220 = 3 from rfl, show enL 3 [.ref a] = [.ref a, uu, uu] from by simp [enL, is2_i, is2_r, is2_l, List.replicate]]
  exact if_pos rfl
theorem c_221  : callD (d + 1) 221 [.ref a] M = den (callD d) 221 0 [.ref a, uu, uu] [] M := by
  rw [callD_eq (by decide), show mdL 221 = 3 from rfl, show enL 3 [.ref a] = [.ref a, uu, uu] from by simp [enL, is2_i, is2_r, is2_l, List.replicate]]
  exact if_pos rfl
theorem c_222  : callD (d + 1) 222 [.ref a, .int x1, .int x2] M = den (callD d) 222 0 [.ref a, .int x1, .int x2, uu] [] M := by
  rw [callD_eq (by decide), show mdL 222 = 4 from rfl, show enL 4 [.ref a, .int x1, .int x2] = [.ref a, .int x1, .int x2, uu] from by simp [enL, is2_i, is2_r, is2_l, List.replicate]]
  exact if_pos rfl
theorem c_223 (h1 : is2 v1 = false) : callD (d + 1) 223 [.ref a, v1, .int x2, .int x3, .int x4] M = den (callD d) 223 0 [.ref a, v1, .int x2, .int x3, .int x4, uu, uu, uu] [] M := by
  rw [callD_eq (by decide), show mdL 223 = 8 from rfl, show enL 8 [.ref a, v1, .int x2, .int x3, .int x4] = [.ref a, v1, .int x2, .int x3, .int x4, uu, uu, uu] from by simp [enL, is2_i, is2_r, is2_l, List.replicate, h1]]
  exact if_pos rfl
theorem c_224  : callD (d + 1) 224 [.ref a, .int x1, .int x2, .int x3] M = den (callD d) 224 0 [.ref a, .int x1, .int x2, .int x3, uu, uu, uu, uu] [] M := by
  rw [callD_eq (by decide), show mdL 224 = 8 from rfl, show enL 8 [.ref a, .int x1, .int x2, .int x3] = [.ref a, .int x1, .int x2, .int x3, uu, uu, uu, uu] from by simp [enL, is2_i, is2_r, is2_l, List.replicate]]
  exact if_pos rfl
theorem c_225  : callD (d + 1) 225 [.ref a, .long p1] M = den (callD d) 225 0 [.ref a, .long p1, uu, uu, uu] [] M := by
  rw [callD_eq (by decide), show mdL 225 = 5 from rfl, show enL 5 [.ref a, .long p1] = [.ref a, .long p1, uu, uu, uu] from by simp [enL, is2_i, is2_r, is2_l, List.replicate]]
  exact if_pos rfl
theorem c_226 (h1 : is2 v1 = false) : callD (d + 1) 226 [.ref a, v1, .int x2] M = den (callD d) 226 0 [.ref a, v1, .int x2, uu, uu] [] M := by
  rw [callD_eq (by decide), show mdL 226 = 5 from rfl, show enL 5 [.ref a, v1, .int x2] = [.ref a, v1, .int x2, uu, uu] from by simp [enL, is2_i, is2_r, is2_l, List.replicate, h1]]
  exact if_pos rfl
theorem c_227  : callD (d + 1) 227 [.ref a, .int x1, .int x2] M = den (callD d) 227 0 [.ref a, .int x1, .int x2, uu] [] M := by
  rw [callD_eq (by decide), show mdL 227 = 4 from rfl, show enL 4 [.ref a, .int x1, .int x2] = [.ref a, .int x1, .int x2, uu] from by simp [enL, is2_i, is2_r, is2_l, List.replicate]]
  exact if_pos rfl
theorem c_228  : callD (d + 1) 228 [.ref a] M = den (callD d) 228 0 [.ref a, uu, uu] [] M := by
  rw [callD_eq (by decide), show mdL 228 = 3 from rfl, show enL 3 [.ref a] = [.ref a, uu, uu] from by simp [enL, is2_i, is2_r, is2_l, List.replicate]]
  exact if_pos rfl
theorem c_229  : callD (d + 1) 229 [.ref a] M = den (callD d) 229 0 [.ref a, uu, uu] [] M := by
  rw [callD_eq (by decide), show mdL 229 = 3 from rfl, show enL 3 [.ref a] = [.ref a, uu, uu] from by simp [enL, is2_i, is2_r, is2_l, List.replicate]]
  exact if_pos rfl
theorem c_230  : callD (d + 1) 230 [.ref a, .int x1, .int x2, .int x3] M = den (callD d) 230 0 [.ref a, .int x1, .int x2, .int x3, uu] [] M := by
  rw [callD_eq (by decide), show mdL 230 = 5 from rfl, show enL 5 [.ref a, .int x1, .int x2, .int x3] = [.ref a, .int x1, .int x2, .int x3, uu] from by simp [enL, is2_i, is2_r, is2_l, List.replicate]]
  exact if_pos rfl
theorem c_231  : callD (d + 1) 231 [.ref a, .int x1, .int x2] M = den (callD d) 231 0 [.ref a, .int x1, .int x2, uu] [] M := by
  rw [callD_eq (by decide), show mdL 231 = 4 from rfl, show enL 4 [.ref a, .int x1, .int x2] = [.ref a, .int x1, .int x2, uu] from by simp [enL, is2_i, is2_r, is2_l, List.replicate]]
  exact if_pos rfl
theorem c_232  : callD (d + 1) 232 [.ref a, .int x1] M = den (callD d) 232 0 [.ref a, .int x1] [] M := by
  rw [callD_eq (by decide), show mdL 232 = 2 from rfl, show enL 2 [.ref a, .int x1] = [.ref a, .int x1] from by simp [enL, is2_i, is2_r, is2_l, List.replicate]]
  exact if_pos rfl
theorem c_233  : callD (d + 1) 233 [.ref a, .int x1] M = den (callD d) 233 0 [.ref a, .int x1, uu, uu] [] M := by
  rw [callD_eq (by decide), show mdL 233 = 4 from rfl, show enL 4 [.ref a, .int x1] = [.ref a, .int x1, uu, uu] from by simp [enL, is2_i, is2_r, is2_l, List.replicate]]
  exact if_pos rfl
theorem c_234  : callD (d + 1) 234 [.ref a, .int x1] M = den (callD d) 234 0 [.ref a, .int x1, uu, uu, uu] [] M := by
  rw [callD_eq (by decide), show mdL 234 = 5 from rfl, show enL 5 [.ref a, .int x1] = [.ref a, .int x1, uu, uu, uu] from by simp [enL, is2_i, is2_r, is2_l, List.replicate]]
  exact if_pos rfl
theorem c_235  : callD (d + 1) 235 [.ref a] M = den (callD d) 235 0 [.ref a, uu] [] M := by
  rw [callD_eq (by decide), show mdL 235 = 2 from rfl, show enL 2 [.ref a] = [.ref a, uu] from by simp [enL, is2_i, is2_r, is2_l, List.replicate]]
  exact if_pos rfl
theorem c_236  : callD (d + 1) 236 [.ref a, .int x1] M = den (callD d) 236 0 [.ref a, .int x1, uu] [] M := by
  rw [callD_eq (by decide), show mdL 236 = 3 from rfl, show enL 3 [.ref a, .int x1] = [.ref a, .int x1, uu] from by simp [enL, is2_i, is2_r, is2_l, List.replicate]]
  exact if_pos rfl
theorem c_237 (h1 : is2 v1 = false) (h2 : is2 v2 = false) : callD (d + 1) 237 [v1, v2] M = den (callD d) 237 0 [v1, v2, uu] [] M := by
  rw [callD_eq (by decide), show mdL 237 = 3 from rfl, show enL 3 [v1, v2] = [v1, v2, uu] from by simp [enL, is2_i, is2_r, is2_l, List.replicate, h1, h2]]
  exact if_pos rfl
theorem c_238 (h1 : is2 v1 = false) : callD (d + 1) 238 [.ref a, v1] M = den (callD d) 238 0 [.ref a, v1] [] M := by
  rw [callD_eq (by decide), show mdL 238 = 2 from rfl, show enL 2 [.ref a, v1] = [.ref a, v1] from by simp [enL, is2_i, is2_r, is2_l, List.replicate, h1]]
  exact if_pos rfl
theorem c_239  : callD (d + 1) 239 [.ref a] M = den (callD d) 239 0 [.ref a] [] M := by
  rw [callD_eq (by decide), show mdL 239 = 1 from rfl, show enL 1 [.ref a] = [.ref a] from by simp [enL, is2_i, is2_r, is2_l, List.replicate]]
  exact if_pos rfl
theorem c_240  : callD (d + 1) 240 [.ref a] M = den (callD d) 240 0 [.ref a, uu] [] M := by
  rw [callD_eq (by decide), show mdL 240 = 2 from rfl, show enL 2 [.ref a] = [.ref a, uu] from by simp [enL, is2_i, is2_r, is2_l, List.replicate]]
  exact if_pos rfl
theorem c_241  : callD (d + 1) 241 [.ref a, .int x1] M = den (callD d) 241 0 [.ref a, .int x1, uu, uu] [] M := by
  rw [callD_eq (by decide), show mdL 241 = 4 from rfl, show enL 4 [.ref a, .int x1] = [.ref a, .int x1, uu, uu] from by simp [enL, is2_i, is2_r, is2_l, List.replicate]]
  exact if_pos rfl
theorem c_242  : callD (d + 1) 242 [.int x1] M = den (callD d) 242 0 [.int x1] [] M := by
  rw [callD_eq (by decide), show mdL 242 = 1 from rfl, show enL 1 [.int x1] = [.int x1] from by simp [enL, is2_i, is2_r, is2_l, List.replicate]]
  exact if_pos rfl
theorem c_243  : callD (d + 1) 243 [.int x1, .int x2] M = den (callD d) 243 0 [.int x1, .int x2] [] M := by
  rw [callD_eq (by decide), show mdL 243 = 2 from rfl, show enL 2 [.int x1, .int x2] = [.int x1, .int x2] from by simp [enL, is2_i, is2_r, is2_l, List.replicate]]
  exact if_pos rfl
theorem c_244  : callD (d + 1) 244 [.int x1, .int x2] M = den (callD d) 244 0 [.int x1, .int x2] [] M := by
  rw [callD_eq (by decide), show mdL 244 = 2 from rfl, show enL 2 [.int x1, .int x2] = [.int x1, .int x2] from by simp [enL, is2_i, is2_r, is2_l, List.replicate]]
  exact if_pos rfl
end ENT
