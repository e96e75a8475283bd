/-! the checks of methods 0 to 0 -/
set_option maxRecDepth 100000 in
theorem ck_0 : (tab 0).all (chE 0) = true := by decide +kernel
