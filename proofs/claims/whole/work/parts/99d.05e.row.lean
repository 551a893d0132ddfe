/-! rows in which nothing is written -/
theorem z_no (a j : Nat) (h1 : oAll.all (fun q => q.1 != 1 || q.2.1 != a) = true) (h2 : 40 ≤ a ∧ a < 271) : EI0 a j = 0 := by
  unfold EI0
  rw [gOp_no oAll 40 a j none h1, nwc_I, if_pos (by omega)]
  rfl
theorem z_all : ∀ a ∈ [41, 61, 67, 191, 189, 192, 224, 225, 226, 227, 228, 229, 230, 232, 233], oAll.all (fun q => q.1 != 1 || q.2.1 != a) = true := by decide +kernel
theorem z_row (L : Nat) (xs : Nat → Int32) (a j : Nat) (h : a ∈ [41, 61, 67, 191, 189, 192, 224, 225, 226, 227, 228, 229, 230, 232, 233]) : gi (AI L xs) a j = 0 := by
  have h2 : 40 ≤ a ∧ a < 271 := by simp at h; omega
  rw [gi_I _ _ _ _ h2.1]
  exact z_no a j (z_all a h) h2
theorem hv_I (L : Nat) (xs : Nat → Int32) (a j : Nat) (h : a ≠ 231) : hv (AI L xs) a j = 0 := by
  unfold hv
  split
  · rename_i c
    exact z_row L xs a j (by simp; omega)
  · rfl
theorem e_231B : EB 231 2 = -1 ∧ EB 231 3 = -1 := by decide +kernel
theorem e_231 : EI0 231 2 = -1 ∧ EI0 231 3 = -1 := by
  have h := e_231B
  simp only [EB_eq, RB_eq] at h
  exact h
theorem hv_231 (L : Nat) (xs : Nat → Int32) : hv (AI L xs) 231 2 = -1 ∧ hv (AI L xs) 231 3 = -1 := by
  unfold hv
  rw [if_pos (by omega), if_pos (by omega), gi_I _ _ _ _ (by omega), gi_I _ _ _ _ (by omega)]
  exact e_231
theorem n_I (L : Nat) (xs : Nat → Int32) : nSe (hv (AI L xs)) = 0 ∧ nPe (hv (AI L xs)) = 0 ∧ nMu (hv (AI L xs)) = 0 ∧ nPo (hv (AI L xs)) = 0 ∧ nNo (hv (AI L xs)) = 0 ∧ nHa (hv (AI L xs)) = 0 := ⟨hv_I L xs 224 11 (by omega), hv_I L xs 224 6 (by omega), hv_I L xs 224 7 (by omega), hv_I L xs 224 8 (by omega), hv_I L xs 224 9 (by omega), hv_I L xs 224 10 (by omega)⟩
theorem e_sitB : (∀ j, j < 16 → EB 69 j = -1) ∧ (∀ j, j < 16 → EB 70 j = 0) ∧ (∀ j, j < 9 → EB 71 j = -1) ∧ (EB 68 0 = EB 237 0 ∧ EB 68 1 = EB 237 1 ∧ EB 68 2 = EB 237 2) ∧ EB 68 7 = 0 ∧ EB 237 25 = 0 ∧ (∀ j, j < 19 → 3 ≤ j → -1 ≤ EB 237 j ∧ EB 237 j ≤ 8) ∧ (∀ j, j < 25 → 19 ≤ j → EB 237 j = 0) ∧ EB 237 0 = 0 ∧ EB 237 1 = 0 ∧ EB 237 2 = -1 := by decide +kernel
theorem e_sit : (∀ j, j < 16 → EI0 69 j = -1) ∧ (∀ j, j < 16 → EI0 70 j = 0) ∧ (∀ j, j < 9 → EI0 71 j = -1) ∧ (EI0 68 0 = EI0 237 0 ∧ EI0 68 1 = EI0 237 1 ∧ EI0 68 2 = EI0 237 2) ∧ EI0 68 7 = 0 ∧ EI0 237 25 = 0 ∧ (∀ j, j < 19 → 3 ≤ j → -1 ≤ EI0 237 j ∧ EI0 237 j ≤ 8) ∧ (∀ j, j < 25 → 19 ≤ j → EI0 237 j = 0) ∧ EI0 237 0 = 0 ∧ EI0 237 1 = 0 ∧ EI0 237 2 = -1 := by
  have h := e_sitB
  simp only [EB_eq, RB_eq] at h
  exact h
theorem e_oneB : RB 40 5 = 58 ∧ RB 58 16 = 0 ∧ RB 58 17 = 0 ∧ (EB 58 1 = 0 ∧ EB 58 2 = 0 ∧ EB 58 3 = 0 ∧ EB 58 4 = 0 ∧ EB 58 5 = 0 ∧ EB 58 6 = 0 ∧ EB 58 18 = 0) ∧ (EB 190 65 = -1 ∧ EB 190 1 = 0 ∧ EB 40 1 = 0 ∧ EB 190 7 = 0 ∧ EB 190 8 = -1 ∧ EB 42 11 = 0 ∧ EB 42 12 = -1) ∧ (EB 190 75 = 1 ∧ EB 40 14 = 1 ∧ EB 190 110 = 0 ∧ EB 187 1 = 0) ∧ (EB 78 2 = 0 ∧ EB 190 73 = 0 ∧ EB 78 1 = 0 ∧ EB 190 74 = 0 ∧ EB 190 53 = 0) ∧ (∀ i, i < 20 → RB 79 i = 80 + 5 * i) ∧ (shI.getD 41 (99, 0)).2 = 1600 := by decide +kernel
theorem e_one : ER0 40 5 = 58 ∧ ER0 58 16 = 0 ∧ ER0 58 17 = 0 ∧ (EI0 58 1 = 0 ∧ EI0 58 2 = 0 ∧ EI0 58 3 = 0 ∧ EI0 58 4 = 0 ∧ EI0 58 5 = 0 ∧ EI0 58 6 = 0 ∧ EI0 58 18 = 0) ∧ (EI0 190 65 = -1 ∧ EI0 190 1 = 0 ∧ EI0 40 1 = 0 ∧ EI0 190 7 = 0 ∧ EI0 190 8 = -1 ∧ EI0 42 11 = 0 ∧ EI0 42 12 = -1) ∧ (EI0 190 75 = 1 ∧ EI0 40 14 = 1 ∧ EI0 190 110 = 0 ∧ EI0 187 1 = 0) ∧ (EI0 78 2 = 0 ∧ EI0 190 73 = 0 ∧ EI0 78 1 = 0 ∧ EI0 190 74 = 0 ∧ EI0 190 53 = 0) ∧ (∀ i, i < 20 → ER0 79 i = 80 + 5 * i) ∧ (shI.getD 41 (99, 0)).2 = 1600 := by
  have h := e_oneB
  simp only [EB_eq, RB_eq] at h
  exact h
