theorem m_leads {d : Nat} {M : AM} {o i : Nat} {S : Sc} (hI : In S) (hR : RS M o S) (hi : i < 12) : callD (d + 1) 16 [.ref (o + 2 + i)] M = some (some (.int (zI (ldB S i))), M) := by
  have hp := hR.2.2 i hi
  obtain ⟨⟨hc0, hc1⟩, -, -, -, hf, -⟩ := hI
  obtain ⟨-, -, hs, -, hfr, -⟩ := hf i
  unfold pcl at hp
  rw [c_16]
  simp (disch := omega) only [e_16_0, e_16_1, e_16_4, e_16_7, e_16_8, e_16_11, e_16_14, e_16_15, e_16_18, e_16_21, e_16_22, e_16_25, e_16_26, hp, gfA_i, List.getElem?_cons_zero, List.getElem?_cons_succ, oK_some, zI_eq]
  unfold ldB hrI frO
  by_cases h1 : (i : Int) < S 8 0 <;> by_cases h2 : S 2 i = 0 <;> by_cases h3 : 0 ≤ S 4 i <;> simp [h1, h2, h3, zI_0, zI_1, oN]
