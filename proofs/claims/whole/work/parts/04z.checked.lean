theorem ck_all : ∀ y, y < 245 → (tab y).all (chE y) = true := sorry
theorem cm_all : ∀ y, 0 < y → y < 245 → chM y = true := sorry
