theorem ck_all : ∀ y, y < 245 → (tab y).all (chE y) = true := sorry
theorem cm_all : ∀ y, 0 < y → y < 245 → chM y = true := sorry
theorem cm_300 : chM 300 = true := sorry
theorem cm_301 : chM 301 = true := sorry
