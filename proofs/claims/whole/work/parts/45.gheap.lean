/-! the reference as a function of what it means: S the schools, U its other numbers (0 tapeSize, 1 at, 2 token, 3 from, 4 figures, 5 fault, 6 statements, 7 many, 8 bestSum, 9 bestPairs), kt kept and tried, F its rows (0 shelf, 1 rowSort, 2 rowSize, 3 shown, 4 tape, 5 refused, 6 told, 7 ones, 8 gets, 9 bestGets), E the cells, mv what is moved -/
def mcl (o : Nat) (S : Sc) (U : Nat → Int) (kt : Option Nat × Option Nat) : AC := .inl (6, [.ref (o + 1), .ref (o + 2), .ref (o + 3), .ref (o + 4), .ref (o + 13), .ref (o + 14), .ref (o + 15), .int (zI (U 0)), .ref (o + 16), .int (zI (S 8 0)), .ref (o + 17), .ref (o + 18), .ref (o + 19), .ref (o + 20), .ref (o + 21), .ref (o + 22), .ref (o + 23), .ref (o + 24), .ref (o + 25), .int (zI (S 8 4)), .int (zI (S 8 5)), va_rf kt.1, va_rf kt.2, .int (zI (U 1)), .int (zI (U 2)), .int (zI (U 3)), .int (zI (U 4)), .int (zI (U 5)), .ref (o + 26), .int (zI (U 6)), .ref (o + 27), .int (zI (U 7)), .ref (o + 28), .ref (o + 29), .int (zI (U 8)), .int (zI (U 9))])
def aS (S : Sc) (f : Nat) : AC := .inr (0, 12, .inl (fun i => zI (S f i)))
def aA (S : Sc) : AC := .inr (0, 3, .inl (fun i => if i < 3 then zI (S 8 (i + 1)) else 0))
def aR (o : Nat) : AC := .inr (4, 8, .inr (.inr fun i => if i < 8 then some (o + 5 + i) else none))
def gar (o : Nat) (S : Sc) (F : Nat → Nat → Int32) (E : Nat → Nat → Int64) (mv : Nat → Int64) (j : Nat) : AC :=
  if j = 1 then .inr (0, 8, .inl (F 0)) else if j = 2 then .inr (0, 8, .inl (F 1)) else if j = 3 then .inr (0, 8, .inl (F 2)) else if j = 14 then .inr (0, 8, .inl (F 3)) else if j = 15 then .inr (0, 250, .inl (F 4)) else if j = 16 then .inr (0, 8, .inl (F 5)) else if j = 26 then .inr (0, 3, .inl (F 6)) else if j = 27 then .inr (0, 6, .inl (F 7)) else if j = 28 then .inr (0, 6, .inl (F 8)) else if j = 29 then .inr (0, 6, .inl (F 9)) else if j = 4 then aR o else if j = 13 then .inr (1, 40, .inr (.inl mv)) else if j = 25 then aA S else if j < 13 then cel (E (j - 5)) else aS S (j - 17)
def G (M : AM) (o : Nat) (S : Sc) (U : Nat → Int) (kt : Option Nat × Option Nat) (F : Nat → Nat → Int32) (E : Nat → Nat → Int64) (mv : Nat → Int64) : AM := (M.1, M.2.1, fun q => if q = o then mcl o S U kt else if q < o ∨ o + 30 ≤ q then M.2.2 q else gar o S F E mv (q - o))
section GG
variable {M : AM} {o : Nat} {S S' : Sc} {U U' : Nat → Int} {kt kt' : Option Nat × Option Nat} {F F' : Nat → Nat → Int32} {E E' : Nat → Nat → Int64} {mv mv' : Nat → Int64}
theorem G_ne {q : Nat} (h : q < o ∨ o + 30 ≤ q) : (G M o S U kt F E mv).2.2 q = M.2.2 q := by
  show (if q = o then _ else if q < o ∨ o + 30 ≤ q then M.2.2 q else _) = _
  rw [if_neg (by omega), if_pos h]
theorem G_o : (G M o S U kt F E mv).2.2 o = mcl o S U kt := if_pos rfl
theorem G_in {j : Nat} (h : 0 < j) (h2 : j < 30) : (G M o S U kt F E mv).2.2 (o + j) = gar o S F E mv j := by
  show (if o + j = o then _ else if o + j < o ∨ o + 30 ≤ o + j then M.2.2 (o + j) else gar o S F E mv (o + j - o)) = _
  rw [if_neg (by omega), if_neg (by omega), show o + j - o = j by omega]
theorem G_1 : (G M o S U kt F E mv).2.2 (o + 1) = .inr (0, 8, .inl (F 0)) := (G_in (by omega) (by omega)).trans rfl
theorem G_2 : (G M o S U kt F E mv).2.2 (o + 2) = .inr (0, 8, .inl (F 1)) := (G_in (by omega) (by omega)).trans rfl
theorem G_3 : (G M o S U kt F E mv).2.2 (o + 3) = .inr (0, 8, .inl (F 2)) := (G_in (by omega) (by omega)).trans rfl
theorem G_14 : (G M o S U kt F E mv).2.2 (o + 14) = .inr (0, 8, .inl (F 3)) := (G_in (by omega) (by omega)).trans rfl
theorem G_15 : (G M o S U kt F E mv).2.2 (o + 15) = .inr (0, 250, .inl (F 4)) := (G_in (by omega) (by omega)).trans rfl
theorem G_16 : (G M o S U kt F E mv).2.2 (o + 16) = .inr (0, 8, .inl (F 5)) := (G_in (by omega) (by omega)).trans rfl
theorem G_26 : (G M o S U kt F E mv).2.2 (o + 26) = .inr (0, 3, .inl (F 6)) := (G_in (by omega) (by omega)).trans rfl
theorem G_27 : (G M o S U kt F E mv).2.2 (o + 27) = .inr (0, 6, .inl (F 7)) := (G_in (by omega) (by omega)).trans rfl
theorem G_28 : (G M o S U kt F E mv).2.2 (o + 28) = .inr (0, 6, .inl (F 8)) := (G_in (by omega) (by omega)).trans rfl
theorem G_29 : (G M o S U kt F E mv).2.2 (o + 29) = .inr (0, 6, .inl (F 9)) := (G_in (by omega) (by omega)).trans rfl
theorem G_4 : (G M o S U kt F E mv).2.2 (o + 4) = aR o := (G_in (by omega) (by omega)).trans rfl
theorem G_13 : (G M o S U kt F E mv).2.2 (o + 13) = .inr (1, 40, .inr (.inl mv)) := (G_in (by omega) (by omega)).trans rfl
theorem G_25 : (G M o S U kt F E mv).2.2 (o + 25) = .inr (0, 3, .inl (fun i => if i < 3 then zI (S 8 (i + 1)) else 0)) := (G_in (by omega) (by omega)).trans rfl
theorem G_17 : (G M o S U kt F E mv).2.2 (o + 17) = .inr (0, 12, .inl (fun i => zI (S 0 i))) := (G_in (by omega) (by omega)).trans rfl
theorem G_18 : (G M o S U kt F E mv).2.2 (o + 18) = .inr (0, 12, .inl (fun i => zI (S 1 i))) := (G_in (by omega) (by omega)).trans rfl
theorem G_19 : (G M o S U kt F E mv).2.2 (o + 19) = .inr (0, 12, .inl (fun i => zI (S 2 i))) := (G_in (by omega) (by omega)).trans rfl
theorem G_20 : (G M o S U kt F E mv).2.2 (o + 20) = .inr (0, 12, .inl (fun i => zI (S 3 i))) := (G_in (by omega) (by omega)).trans rfl
theorem G_21 : (G M o S U kt F E mv).2.2 (o + 21) = .inr (0, 12, .inl (fun i => zI (S 4 i))) := (G_in (by omega) (by omega)).trans rfl
theorem G_22 : (G M o S U kt F E mv).2.2 (o + 22) = .inr (0, 12, .inl (fun i => zI (S 5 i))) := (G_in (by omega) (by omega)).trans rfl
theorem G_23 : (G M o S U kt F E mv).2.2 (o + 23) = .inr (0, 12, .inl (fun i => zI (S 6 i))) := (G_in (by omega) (by omega)).trans rfl
theorem G_24 : (G M o S U kt F E mv).2.2 (o + 24) = .inr (0, 12, .inl (fun i => zI (S 7 i))) := (G_in (by omega) (by omega)).trans rfl
theorem G_E {s : Nat} (h : s < 8) : (G M o S U kt F E mv).2.2 (o + 5 + s) = cel (E s) := by
  rw [show o + 5 + s = o + (5 + s) by omega, G_in (by omega) (by omega)]
  unfold gar
  simp (disch := omega) only [if_neg]
  rw [if_pos (by omega), show 5 + s - 5 = s by omega]
theorem gm_0 : gfA (mcl o S U kt) 6 0 = some (.ref (o + 1)) := rfl
theorem gm_1 : gfA (mcl o S U kt) 6 1 = some (.ref (o + 2)) := rfl
theorem gm_2 : gfA (mcl o S U kt) 6 2 = some (.ref (o + 3)) := rfl
theorem gm_3 : gfA (mcl o S U kt) 6 3 = some (.ref (o + 4)) := rfl
theorem gm_4 : gfA (mcl o S U kt) 6 4 = some (.ref (o + 13)) := rfl
theorem gm_5 : gfA (mcl o S U kt) 6 5 = some (.ref (o + 14)) := rfl
theorem gm_6 : gfA (mcl o S U kt) 6 6 = some (.ref (o + 15)) := rfl
theorem gm_7 : gfA (mcl o S U kt) 6 7 = some (.int (zI (U 0))) := rfl
theorem gm_8 : gfA (mcl o S U kt) 6 8 = some (.ref (o + 16)) := rfl
theorem gm_9 : gfA (mcl o S U kt) 6 9 = some (.int (zI (S 8 0))) := rfl
theorem gm_10 : gfA (mcl o S U kt) 6 10 = some (.ref (o + 17)) := rfl
theorem gm_11 : gfA (mcl o S U kt) 6 11 = some (.ref (o + 18)) := rfl
theorem gm_12 : gfA (mcl o S U kt) 6 12 = some (.ref (o + 19)) := rfl
theorem gm_13 : gfA (mcl o S U kt) 6 13 = some (.ref (o + 20)) := rfl
theorem gm_14 : gfA (mcl o S U kt) 6 14 = some (.ref (o + 21)) := rfl
theorem gm_15 : gfA (mcl o S U kt) 6 15 = some (.ref (o + 22)) := rfl
theorem gm_16 : gfA (mcl o S U kt) 6 16 = some (.ref (o + 23)) := rfl
theorem gm_17 : gfA (mcl o S U kt) 6 17 = some (.ref (o + 24)) := rfl
theorem gm_18 : gfA (mcl o S U kt) 6 18 = some (.ref (o + 25)) := rfl
theorem gm_19 : gfA (mcl o S U kt) 6 19 = some (.int (zI (S 8 4))) := rfl
theorem gm_20 : gfA (mcl o S U kt) 6 20 = some (.int (zI (S 8 5))) := rfl
theorem gm_21 : gfA (mcl o S U kt) 6 21 = some (va_rf kt.1) := rfl
theorem gm_22 : gfA (mcl o S U kt) 6 22 = some (va_rf kt.2) := rfl
theorem gm_23 : gfA (mcl o S U kt) 6 23 = some (.int (zI (U 1))) := rfl
theorem gm_24 : gfA (mcl o S U kt) 6 24 = some (.int (zI (U 2))) := rfl
theorem gm_25 : gfA (mcl o S U kt) 6 25 = some (.int (zI (U 3))) := rfl
theorem gm_26 : gfA (mcl o S U kt) 6 26 = some (.int (zI (U 4))) := rfl
theorem gm_27 : gfA (mcl o S U kt) 6 27 = some (.int (zI (U 5))) := rfl
theorem gm_28 : gfA (mcl o S U kt) 6 28 = some (.ref (o + 26)) := rfl
theorem gm_29 : gfA (mcl o S U kt) 6 29 = some (.int (zI (U 6))) := rfl
theorem gm_30 : gfA (mcl o S U kt) 6 30 = some (.ref (o + 27)) := rfl
theorem gm_31 : gfA (mcl o S U kt) 6 31 = some (.int (zI (U 7))) := rfl
theorem gm_32 : gfA (mcl o S U kt) 6 32 = some (.ref (o + 28)) := rfl
theorem gm_33 : gfA (mcl o S U kt) 6 33 = some (.ref (o + 29)) := rfl
theorem gm_34 : gfA (mcl o S U kt) 6 34 = some (.int (zI (U 8))) := rfl
theorem gm_35 : gfA (mcl o S U kt) 6 35 = some (.int (zI (U 9))) := rfl
theorem pm_7 {v : Int} : pfA (mcl o S U kt) 6 7 (.int (zI v)) = some (mcl o S (va_up U 0 v) kt) := rfl
theorem pm_23 {v : Int} : pfA (mcl o S U kt) 6 23 (.int (zI v)) = some (mcl o S (va_up U 1 v) kt) := rfl
theorem pm_24 {v : Int} : pfA (mcl o S U kt) 6 24 (.int (zI v)) = some (mcl o S (va_up U 2 v) kt) := rfl
theorem pm_25 {v : Int} : pfA (mcl o S U kt) 6 25 (.int (zI v)) = some (mcl o S (va_up U 3 v) kt) := rfl
theorem pm_26 {v : Int} : pfA (mcl o S U kt) 6 26 (.int (zI v)) = some (mcl o S (va_up U 4 v) kt) := rfl
theorem pm_27 {v : Int} : pfA (mcl o S U kt) 6 27 (.int (zI v)) = some (mcl o S (va_up U 5 v) kt) := rfl
theorem pm_29 {v : Int} : pfA (mcl o S U kt) 6 29 (.int (zI v)) = some (mcl o S (va_up U 6 v) kt) := rfl
theorem pm_31 {v : Int} : pfA (mcl o S U kt) 6 31 (.int (zI v)) = some (mcl o S (va_up U 7 v) kt) := rfl
theorem pm_34 {v : Int} : pfA (mcl o S U kt) 6 34 (.int (zI v)) = some (mcl o S (va_up U 8 v) kt) := rfl
theorem pm_35 {v : Int} : pfA (mcl o S U kt) 6 35 (.int (zI v)) = some (mcl o S (va_up U 9 v) kt) := rfl
theorem pm_9 {v : Int} : pfA (mcl o S U kt) 6 9 (.int (zI v)) = some (mcl o (sU S 8 0 v) U kt) := rfl
theorem pm_19 {v : Int} : pfA (mcl o S U kt) 6 19 (.int (zI v)) = some (mcl o (sU S 8 4 v) U kt) := rfl
theorem pm_20 {v : Int} : pfA (mcl o S U kt) 6 20 (.int (zI v)) = some (mcl o (sU S 8 5 v) U kt) := rfl
theorem pm_21 {a : Nat} : pfA (mcl o S U kt) 6 21 (.ref a) = some (mcl o S U (some a, kt.2)) := rfl
theorem pm_22 {a : Nat} : pfA (mcl o S U kt) 6 22 (.ref a) = some (mcl o S U (kt.1, some a)) := rfl
theorem mU_G {q : Nat} {c : AC} (h1 : c = (G M o (S') (U') (kt') (F') (E') (mv')).2.2 q) (h2 : ∀ r, ¬ r = q → (G M o S U kt F E mv).2.2 r = (G M o (S') (U') (kt') (F') (E') (mv')).2.2 r) : mU (G M o S U kt F E mv) q c = (G M o (S') (U') (kt') (F') (E') (mv')) := by
  refine Prod.ext rfl (Prod.ext rfl (funext fun r => ?_))
  by_cases e : r = q
  · subst e; rw [mU_at, h1]
  · rw [mU_ne e]; exact h2 r e
theorem mG_o (h8 : ∀ i, 0 < i → i < 4 → S' 8 i = S 8 i) (h : ∀ f i, f < 8 → S' f i = S f i) : mU (G M o S U kt F E mv) o (mcl o S' U' kt') = (G M o (S') (U') (kt') F E mv) := by
  refine mU_G G_o.symm (fun r hr => ?_)
  by_cases e : r < o ∨ o + 30 ≤ r
  · rw [G_ne e, G_ne e]
  · obtain ⟨j, rfl⟩ : ∃ j, r = o + j := ⟨r - o, by omega⟩
    rw [G_in (by omega) (by omega), G_in (by omega) (by omega)]
    have e1 : aA S' = aA S := by
      unfold aA
      refine congrArg (fun z => Sum.inr (0, 3, Sum.inl z)) (funext fun i => ?_)
      by_cases hi : i < 3
      · rw [if_pos hi, if_pos hi, h8 (i + 1) (by omega) (by omega)]
      · rw [if_neg hi, if_neg hi]
    by_cases h25 : j - 17 < 8
    · have e2 : aS S' (j - 17) = aS S (j - 17) := by
        unfold aS
        refine congrArg (fun z => Sum.inr (0, 12, Sum.inl z)) (funext fun i => ?_)
        rw [h _ _ h25]
      unfold gar
      rw [e1, e2]
    · have h3 : j = 25 ∨ j = 26 ∨ j = 27 ∨ j = 28 ∨ j = 29 := by omega
      rcases h3 with rfl | rfl | rfl | rfl | rfl
      · exact e1.symm
      · rfl
      · rfl
      · rfl
      · rfl
theorem mG_U : mU (G M o S U kt F E mv) o (mcl o S U' kt') = (G M o S (U') (kt') F E mv) := mG_o (fun _ _ _ => rfl) (fun _ _ _ => rfl)
theorem mG_8 {i : Nat} {v : Int} (h : i = 0 ∨ 4 ≤ i) : mU (G M o S U kt F E mv) o (mcl o (sU S 8 i v) U' kt') = (G M o ((sU S 8 i v)) (U') (kt') F E mv) := mG_o (fun j h1 h2 => if_neg (by omega)) (fun f j hf => if_neg (by omega))
theorem G_rest {j : Nat} (h : ∀ k, 0 < k → k < 30 → ¬ k = j → gar o S F E mv k = gar o S' F' E' mv' k) : ∀ r, ¬ r = o + j → (G M o S U kt F E mv).2.2 r = (G M o (S') U kt (F') (E') (mv')).2.2 r ∨ r = o := fun r hr => by
  by_cases e : r < o ∨ o + 30 ≤ r
  · left; rw [G_ne e, G_ne e]
  · by_cases e1 : r = o
    · exact Or.inr e1
    · left
      obtain ⟨k, rfl⟩ : ∃ k, r = o + k := ⟨r - o, by omega⟩
      rw [G_in (by omega) (by omega), G_in (by omega) (by omega)]
      exact h k (by omega) (by omega) (by omega)
theorem mU_Ga {j : Nat} {c : AC} (hj : 0 < j) (hj2 : j < 30) (h1 : c = gar o S' F' E' mv' j) (ho : mcl o S' U kt = mcl o S U kt) (h : ∀ k, 0 < k → k < 30 → ¬ k = j → gar o S F E mv k = gar o S' F' E' mv' k) : mU (G M o S U kt F E mv) (o + j) c = (G M o (S') U kt (F') (E') (mv')) := by
  refine mU_G (h1.trans (G_in hj hj2).symm) (fun r hr => ?_)
  rcases G_rest (U := U) (kt := kt) h r hr with e | e
  · exact e
  · subst e; rw [G_o, G_o, ho]
theorem mG_1 {f : Nat → Int32} : mU (G M o S U kt F E mv) (o + 1) (.inr (0, 8, .inl f)) = (G M o S U kt ((va_up F 0 f)) E mv) := mU_Ga (by omega) (by omega) (by unfold gar; simp [va_up]) rfl (fun k h1 h2 h3 => by simp [gar, h3, va_up])
theorem mG_2 {f : Nat → Int32} : mU (G M o S U kt F E mv) (o + 2) (.inr (0, 8, .inl f)) = (G M o S U kt ((va_up F 1 f)) E mv) := mU_Ga (by omega) (by omega) (by unfold gar; simp [va_up]) rfl (fun k h1 h2 h3 => by simp [gar, h3, va_up])
theorem mG_3 {f : Nat → Int32} : mU (G M o S U kt F E mv) (o + 3) (.inr (0, 8, .inl f)) = (G M o S U kt ((va_up F 2 f)) E mv) := mU_Ga (by omega) (by omega) (by unfold gar; simp [va_up]) rfl (fun k h1 h2 h3 => by simp [gar, h3, va_up])
theorem mG_14 {f : Nat → Int32} : mU (G M o S U kt F E mv) (o + 14) (.inr (0, 8, .inl f)) = (G M o S U kt ((va_up F 3 f)) E mv) := mU_Ga (by omega) (by omega) (by unfold gar; simp [va_up]) rfl (fun k h1 h2 h3 => by simp [gar, h3, va_up])
theorem mG_15 {f : Nat → Int32} : mU (G M o S U kt F E mv) (o + 15) (.inr (0, 250, .inl f)) = (G M o S U kt ((va_up F 4 f)) E mv) := mU_Ga (by omega) (by omega) (by unfold gar; simp [va_up]) rfl (fun k h1 h2 h3 => by simp [gar, h3, va_up])
theorem mG_16 {f : Nat → Int32} : mU (G M o S U kt F E mv) (o + 16) (.inr (0, 8, .inl f)) = (G M o S U kt ((va_up F 5 f)) E mv) := mU_Ga (by omega) (by omega) (by unfold gar; simp [va_up]) rfl (fun k h1 h2 h3 => by simp [gar, h3, va_up])
theorem mG_26 {f : Nat → Int32} : mU (G M o S U kt F E mv) (o + 26) (.inr (0, 3, .inl f)) = (G M o S U kt ((va_up F 6 f)) E mv) := mU_Ga (by omega) (by omega) (by unfold gar; simp [va_up]) rfl (fun k h1 h2 h3 => by simp [gar, h3, va_up])
theorem mG_27 {f : Nat → Int32} : mU (G M o S U kt F E mv) (o + 27) (.inr (0, 6, .inl f)) = (G M o S U kt ((va_up F 7 f)) E mv) := mU_Ga (by omega) (by omega) (by unfold gar; simp [va_up]) rfl (fun k h1 h2 h3 => by simp [gar, h3, va_up])
theorem mG_28 {f : Nat → Int32} : mU (G M o S U kt F E mv) (o + 28) (.inr (0, 6, .inl f)) = (G M o S U kt ((va_up F 8 f)) E mv) := mU_Ga (by omega) (by omega) (by unfold gar; simp [va_up]) rfl (fun k h1 h2 h3 => by simp [gar, h3, va_up])
theorem mG_29 {f : Nat → Int32} : mU (G M o S U kt F E mv) (o + 29) (.inr (0, 6, .inl f)) = (G M o S U kt ((va_up F 9 f)) E mv) := mU_Ga (by omega) (by omega) (by unfold gar; simp [va_up]) rfl (fun k h1 h2 h3 => by simp [gar, h3, va_up])
theorem mG_13 {f : Nat → Int64} : mU (G M o S U kt F E mv) (o + 13) (.inr (1, 40, .inr (.inl f))) = (G M o S U kt F E (f)) := mU_Ga (by omega) (by omega) (by simp [gar]) rfl (fun k h1 h2 h3 => by simp [gar, h3])
theorem mG_E {s : Nat} {f : Nat → Int64} (hs : s < 8) : mU (G M o S U kt F E mv) (o + 5 + s) (cel f) = (G M o S U kt F ((va_up E s f)) mv) := by
  rw [show o + 5 + s = o + (5 + s) by omega]
  refine mU_Ga (by omega) (by omega) ?_ rfl (fun k h1 h2 h3 => ?_)
  · unfold gar
    simp (disch := omega) only [if_neg]
    rw [if_pos (by omega), show 5 + s - 5 = s by omega, va_up_self]
  · unfold gar
    by_cases e : k - 5 = s
    · have h4 : ¬ (4 < k ∧ k < 13) := by omega
      by_cases e2 : k < 13
      · have h5 : k = 1 ∨ k = 2 ∨ k = 3 ∨ k = 4 := by omega
        rcases h5 with rfl | rfl | rfl | rfl <;> rfl
      · simp only [e2, if_false]
    · rw [va_up_ne E f e]
theorem updS {f j : Nat} {v : Int} : upd (fun i => zI (S f i)) j (zI v) = fun i => zI (sU S f j v f i) := by
  funext i
  unfold upd sU
  by_cases e : i = j
  · rw [if_pos e, if_pos ⟨rfl, e⟩]
  · rw [if_neg e, if_neg (fun q => e q.2)]
theorem mG_S {f j : Nat} {v : Int} (hf : f < 8) : mU (G M o S U kt F E mv) (o + (17 + f)) (.inr (0, 12, .inl (upd (fun i => zI (S f i)) j (zI v)))) = (G M o ((sU S f j v)) U kt F E mv) := by
  have hS : ∀ g, ¬ g = f → aS (sU S f j v) g = aS S g := fun g hg => by
    unfold aS
    refine congrArg (fun z => Sum.inr (0, 12, Sum.inl z)) (funext fun i => ?_)
    show zI (if g = f ∧ i = j then v else S g i) = _
    rw [if_neg (fun q => hg q.1)]
  have hA : aA (sU S f j v) = aA S := by
    unfold aA
    refine congrArg (fun z => Sum.inr (0, 3, Sum.inl z)) (funext fun i => ?_)
    show (if i < 3 then zI (if 8 = f ∧ i + 1 = j then v else S 8 (i + 1)) else 0) = _
    rw [if_neg (show ¬ (8 = f ∧ i + 1 = j) by omega)]
  refine mU_Ga (by omega) (by omega) ?_ ?_ (fun k h1 h2 h3 => ?_)
  · rw [updS]
    unfold gar
    simp (disch := omega) only [if_neg]
    rw [show 17 + f - 17 = f by omega]
    rfl
  · unfold mcl sU
    simp only [show ¬ 8 = f by omega, false_and, if_false]
  · unfold gar
    by_cases e : k < 17
    · have h4 : k = 1 ∨ k = 2 ∨ k = 3 ∨ k = 4 ∨ k = 5 ∨ k = 6 ∨ k = 7 ∨ k = 8 ∨ k = 9 ∨ k = 10 ∨ k = 11 ∨ k = 12 ∨ k = 13 ∨ k = 14 ∨ k = 15 ∨ k = 16 := by omega
      rcases h4 with rfl | rfl | rfl | rfl | rfl | rfl | rfl | rfl | rfl | rfl | rfl | rfl | rfl | rfl | rfl | rfl <;> rfl
    · rw [hS _ (by omega), hA]
theorem mG_17 {j : Nat} {v : Int} : mU (G M o S U kt F E mv) (o + 17) (.inr (0, 12, .inl (upd (fun i => zI (S 0 i)) j (zI v)))) = (G M o ((sU S 0 j v)) U kt F E mv) := mG_S (f := 0) (by omega)
theorem mG_18 {j : Nat} {v : Int} : mU (G M o S U kt F E mv) (o + 18) (.inr (0, 12, .inl (upd (fun i => zI (S 1 i)) j (zI v)))) = (G M o ((sU S 1 j v)) U kt F E mv) := mG_S (f := 1) (by omega)
theorem mG_19 {j : Nat} {v : Int} : mU (G M o S U kt F E mv) (o + 19) (.inr (0, 12, .inl (upd (fun i => zI (S 2 i)) j (zI v)))) = (G M o ((sU S 2 j v)) U kt F E mv) := mG_S (f := 2) (by omega)
theorem mG_20 {j : Nat} {v : Int} : mU (G M o S U kt F E mv) (o + 20) (.inr (0, 12, .inl (upd (fun i => zI (S 3 i)) j (zI v)))) = (G M o ((sU S 3 j v)) U kt F E mv) := mG_S (f := 3) (by omega)
theorem mG_21 {j : Nat} {v : Int} : mU (G M o S U kt F E mv) (o + 21) (.inr (0, 12, .inl (upd (fun i => zI (S 4 i)) j (zI v)))) = (G M o ((sU S 4 j v)) U kt F E mv) := mG_S (f := 4) (by omega)
theorem mG_22 {j : Nat} {v : Int} : mU (G M o S U kt F E mv) (o + 22) (.inr (0, 12, .inl (upd (fun i => zI (S 5 i)) j (zI v)))) = (G M o ((sU S 5 j v)) U kt F E mv) := mG_S (f := 5) (by omega)
theorem mG_23 {j : Nat} {v : Int} : mU (G M o S U kt F E mv) (o + 23) (.inr (0, 12, .inl (upd (fun i => zI (S 6 i)) j (zI v)))) = (G M o ((sU S 6 j v)) U kt F E mv) := mG_S (f := 6) (by omega)
theorem mG_24 {j : Nat} {v : Int} : mU (G M o S U kt F E mv) (o + 24) (.inr (0, 12, .inl (upd (fun i => zI (S 7 i)) j (zI v)))) = (G M o ((sU S 7 j v)) U kt F E mv) := mG_S (f := 7) (by omega)
theorem mG_25 {j : Nat} {v : Int} (hj : j < 3) : mU (G M o S U kt F E mv) (o + 25) (.inr (0, 3, .inl (upd (fun i => if i < 3 then zI (S 8 (i + 1)) else 0) j (zI v)))) = (G M o ((sU S 8 (j + 1) v)) U kt F E mv) := by
  refine mU_Ga (by omega) (by omega) ?_ ?_ (fun k h1 h2 h3 => ?_)
  · show _ = aA (sU S 8 (j + 1) v)
    unfold aA
    refine congrArg (fun z => Sum.inr (0, 3, Sum.inl z)) (funext fun i => ?_)
    show (if i = j then zI v else if i < 3 then zI (S 8 (i + 1)) else 0) = (if i < 3 then zI (if 8 = 8 ∧ i + 1 = j + 1 then v else S 8 (i + 1)) else 0)
    by_cases e : i = j
    · subst e; rw [if_pos rfl, if_pos hj, if_pos ⟨rfl, rfl⟩]
    · rw [if_neg e, if_neg (show ¬ ((8 : Nat) = 8 ∧ i + 1 = j + 1) from fun q => e (by omega))]
  · unfold mcl sU
    simp only [true_and, show ¬ 0 = j + 1 by omega, show ¬ 4 = j + 1 by omega, show ¬ 5 = j + 1 by omega, if_false]
  · unfold gar
    have hS : aS (sU S 8 (j + 1) v) (k - 17) = aS S (k - 17) ∨ k - 17 = 8 ∨ 8 < k - 17 := by
      by_cases e : k - 17 < 8
      · left
        unfold aS
        refine congrArg (fun z => Sum.inr (0, 12, Sum.inl z)) (funext fun i => ?_)
        show zI (if k - 17 = 8 ∧ i = j + 1 then v else S (k - 17) i) = _
        rw [if_neg (by omega)]
      · right; omega
    rcases hS with h | h
    · rw [h]
      simp only [h3, if_false]
    · have h4 : k = 26 ∨ k = 27 ∨ k = 28 ∨ k = 29 := by omega
      rcases h4 with rfl | rfl | rfl | rfl <;> rfl
end GG
