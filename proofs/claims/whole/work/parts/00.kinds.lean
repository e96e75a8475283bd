/-- a row of the library's rest is named here, so that the texts are read over the whole library from the first -/
theorem kd_wide : True := by
  have _h := @Jvm.Stand.multianewarray2F
  trivial
/-! what a new object of each class holds -/
def dflA (ci : Nat) : List Value := match ci with
  | 0 => [.null, .null, .null, .null, .int 0, .int 0, .int 0, .int 0]
  | 1 => [.int 0, .int 0, .int 0, .int 0, .int 0, .int 0, .null, .int 0, .int 0, .int 0]
  | 2 => [.null, .int 0, .int 0, .int 0, .int 0, .int 0, .int 0]
  | 3 => [.int 0, .int 0, .int 0, .int 0, .null]
  | 4 => [.null, .int 0, .int 0, .null, .int 0, .int 0, .int 0]
  | 5 => [.null, .null, .null, .int 0, .null, .null, .null, .null]
  | _ => [.null, .null, .null, .null, .null, .null, .null, .int 0, .null, .int 0, .null, .null, .null, .null, .null, .null, .null, .null, .null, .int 0, .int 0, .null, .null, .int 0, .int 0, .int 0, .int 0, .int 0, .null, .int 0, .null, .int 0, .null, .null, .int 0, .int 0]
