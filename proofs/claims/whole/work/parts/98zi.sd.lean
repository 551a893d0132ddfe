/-! a hall stands: the reference copies what it was told -/
set_option maxRecDepth 100000 in
theorem l_sd224 (d : Nat) : ∀ (j n : Nat) (k : Nat) (A : AH), k + j = 6 → 3 * j + 10 ≤ n → ∃ n' B, n ≤ n' + 3 * j + 2 ∧ go true 3 (runF d) (runN d) pb_X12_stands n 7 [vR 21 190 0, vI (k : Int)] [] A = go true 3 (runF d) (runN d) pb_X12_stands n' 36 [vR 21 190 0, vI 0] [] B ∧ (∀ i : Nat, k ≤ i → i < 6 → gi B 224 (6 + i) = gi A 224 i) ∧ (∀ a i : Nat, ¬ (a = 224 ∧ 6 + k ≤ i ∧ i < 6 + 6) → gi B a i = gi A a i) ∧ (∀ a i : Nat, gr B a i = gr A a i) ∧ B.2.2 = A.2.2 := by
  intro j
  induction j with
  | zero =>
    intro n k A h2 hn
    obtain ⟨n, rfl⟩ : ∃ e, n = e + 10 := ⟨n - 10, by omega⟩
    refine ⟨n + 8, A, by omega, ?_, fun i q1 q2 => by omega, fun _ _ _ => rfl, fun _ _ => rfl, rfl⟩
    rw [q_X12_stands_7, if_neg (by omega)]
  | succ j ih =>
    intro n k A h2 hn
    obtain ⟨n, rfl⟩ : ∃ e, n = e + 10 := ⟨n - 10, by omega⟩
    have ew : w32 (6 + (k : Int)) = ((6 + k : Nat) : Int) := by rw [wid (by omega) (by omega)]; omega
    obtain ⟨n', B, b0, b1, b2, b3, b4, b5⟩ := ih (n + 8) (k + 1) (wi A 224 (6 + k) (gi A 224 k)) (by omega) (by omega)
    refine ⟨n', B, by omega, ?_, fun i q1 q2 => ?_, fun a i q => ?_, b4, b5⟩
    · rw [q_X12_stands_7, if_pos (by omega), if_pos (by omega)]
      simp only [ew]
      rw [if_pos (by omega), Int.toNat_natCast, Int.toNat_natCast, q_X12_stands_28, wid (by omega) (by omega), show (k : Int) + 1 = ((k + 1 : Nat) : Int) by omega]
      exact b1
    · by_cases c : i = k
      · rw [c, b3 224 _ (by omega), gi_wi, if_pos ⟨rfl, rfl⟩]
      · rw [b2 i (by omega) q2, gi_wi, if_neg (by omega)]
    · rw [b3 a i (by omega), gi_wi, if_neg (by omega)]
set_option maxRecDepth 100000 in
theorem l_sd225 (d : Nat) : ∀ (j n : Nat) (k : Nat) (A : AH), k + j = 24 → 3 * j + 10 ≤ n → ∃ n' B, n ≤ n' + 3 * j + 2 ∧ go true 3 (runF d) (runN d) pb_X12_stands n 36 [vR 21 190 0, vI (k : Int)] [] A = go true 3 (runF d) (runN d) pb_X12_stands n' 65 [vR 21 190 0, vI 0] [] B ∧ (∀ i : Nat, k ≤ i → i < 24 → gi B 225 (24 + i) = gi A 225 i) ∧ (∀ a i : Nat, ¬ (a = 225 ∧ 24 + k ≤ i ∧ i < 24 + 24) → gi B a i = gi A a i) ∧ (∀ a i : Nat, gr B a i = gr A a i) ∧ B.2.2 = A.2.2 := by
  intro j
  induction j with
  | zero =>
    intro n k A h2 hn
    obtain ⟨n, rfl⟩ : ∃ e, n = e + 10 := ⟨n - 10, by omega⟩
    refine ⟨n + 8, A, by omega, ?_, fun i q1 q2 => by omega, fun _ _ _ => rfl, fun _ _ => rfl, rfl⟩
    rw [q_X12_stands_36, if_neg (by omega)]
  | succ j ih =>
    intro n k A h2 hn
    obtain ⟨n, rfl⟩ : ∃ e, n = e + 10 := ⟨n - 10, by omega⟩
    have ew : w32 (24 + (k : Int)) = ((24 + k : Nat) : Int) := by rw [wid (by omega) (by omega)]; omega
    obtain ⟨n', B, b0, b1, b2, b3, b4, b5⟩ := ih (n + 8) (k + 1) (wi A 225 (24 + k) (gi A 225 k)) (by omega) (by omega)
    refine ⟨n', B, by omega, ?_, fun i q1 q2 => ?_, fun a i q => ?_, b4, b5⟩
    · rw [q_X12_stands_36, if_pos (by omega), if_pos (by omega)]
      simp only [ew]
      rw [if_pos (by omega), Int.toNat_natCast, Int.toNat_natCast, q_X12_stands_57, wid (by omega) (by omega), show (k : Int) + 1 = ((k + 1 : Nat) : Int) by omega]
      exact b1
    · by_cases c : i = k
      · rw [c, b3 225 _ (by omega), gi_wi, if_pos ⟨rfl, rfl⟩]
      · rw [b2 i (by omega) q2, gi_wi, if_neg (by omega)]
    · rw [b3 a i (by omega), gi_wi, if_neg (by omega)]
set_option maxRecDepth 100000 in
theorem l_sd226 (d : Nat) : ∀ (j n : Nat) (k : Nat) (A : AH), k + j = 32 → 3 * j + 10 ≤ n → ∃ n' B, n ≤ n' + 3 * j + 2 ∧ go true 3 (runF d) (runN d) pb_X12_stands n 65 [vR 21 190 0, vI (k : Int)] [] A = go true 3 (runF d) (runN d) pb_X12_stands n' 94 [vR 21 190 0, vI 0] [] B ∧ (∀ i : Nat, k ≤ i → i < 32 → gi B 226 (32 + i) = gi A 226 i) ∧ (∀ a i : Nat, ¬ (a = 226 ∧ 32 + k ≤ i ∧ i < 32 + 32) → gi B a i = gi A a i) ∧ (∀ a i : Nat, gr B a i = gr A a i) ∧ B.2.2 = A.2.2 := by
  intro j
  induction j with
  | zero =>
    intro n k A h2 hn
    obtain ⟨n, rfl⟩ : ∃ e, n = e + 10 := ⟨n - 10, by omega⟩
    refine ⟨n + 8, A, by omega, ?_, fun i q1 q2 => by omega, fun _ _ _ => rfl, fun _ _ => rfl, rfl⟩
    rw [q_X12_stands_65, if_neg (by omega)]
  | succ j ih =>
    intro n k A h2 hn
    obtain ⟨n, rfl⟩ : ∃ e, n = e + 10 := ⟨n - 10, by omega⟩
    have ew : w32 (32 + (k : Int)) = ((32 + k : Nat) : Int) := by rw [wid (by omega) (by omega)]; omega
    obtain ⟨n', B, b0, b1, b2, b3, b4, b5⟩ := ih (n + 8) (k + 1) (wi A 226 (32 + k) (gi A 226 k)) (by omega) (by omega)
    refine ⟨n', B, by omega, ?_, fun i q1 q2 => ?_, fun a i q => ?_, b4, b5⟩
    · rw [q_X12_stands_65, if_pos (by omega), if_pos (by omega)]
      simp only [ew]
      rw [if_pos (by omega), Int.toNat_natCast, Int.toNat_natCast, q_X12_stands_86, wid (by omega) (by omega), show (k : Int) + 1 = ((k + 1 : Nat) : Int) by omega]
      exact b1
    · by_cases c : i = k
      · rw [c, b3 226 _ (by omega), gi_wi, if_pos ⟨rfl, rfl⟩]
      · rw [b2 i (by omega) q2, gi_wi, if_neg (by omega)]
    · rw [b3 a i (by omega), gi_wi, if_neg (by omega)]
set_option maxRecDepth 100000 in
theorem l_sd227 (d : Nat) : ∀ (j n : Nat) (k : Nat) (A : AH), k + j = 12 → 3 * j + 10 ≤ n → ∃ n' B, n ≤ n' + 3 * j + 2 ∧ go true 3 (runF d) (runN d) pb_X12_stands n 94 [vR 21 190 0, vI (k : Int)] [] A = go true 3 (runF d) (runN d) pb_X12_stands n' 123 [vR 21 190 0, vI 0] [] B ∧ (∀ i : Nat, k ≤ i → i < 12 → gi B 227 (12 + i) = gi A 227 i) ∧ (∀ a i : Nat, ¬ (a = 227 ∧ 12 + k ≤ i ∧ i < 12 + 12) → gi B a i = gi A a i) ∧ (∀ a i : Nat, gr B a i = gr A a i) ∧ B.2.2 = A.2.2 := by
  intro j
  induction j with
  | zero =>
    intro n k A h2 hn
    obtain ⟨n, rfl⟩ : ∃ e, n = e + 10 := ⟨n - 10, by omega⟩
    refine ⟨n + 8, A, by omega, ?_, fun i q1 q2 => by omega, fun _ _ _ => rfl, fun _ _ => rfl, rfl⟩
    rw [q_X12_stands_94, if_neg (by omega)]
  | succ j ih =>
    intro n k A h2 hn
    obtain ⟨n, rfl⟩ : ∃ e, n = e + 10 := ⟨n - 10, by omega⟩
    have ew : w32 (12 + (k : Int)) = ((12 + k : Nat) : Int) := by rw [wid (by omega) (by omega)]; omega
    obtain ⟨n', B, b0, b1, b2, b3, b4, b5⟩ := ih (n + 8) (k + 1) (wi A 227 (12 + k) (gi A 227 k)) (by omega) (by omega)
    refine ⟨n', B, by omega, ?_, fun i q1 q2 => ?_, fun a i q => ?_, b4, b5⟩
    · rw [q_X12_stands_94, if_pos (by omega), if_pos (by omega)]
      simp only [ew]
      rw [if_pos (by omega), Int.toNat_natCast, Int.toNat_natCast, q_X12_stands_115, wid (by omega) (by omega), show (k : Int) + 1 = ((k + 1 : Nat) : Int) by omega]
      exact b1
    · by_cases c : i = k
      · rw [c, b3 227 _ (by omega), gi_wi, if_pos ⟨rfl, rfl⟩]
      · rw [b2 i (by omega) q2, gi_wi, if_neg (by omega)]
    · rw [b3 a i (by omega), gi_wi, if_neg (by omega)]
set_option maxRecDepth 100000 in
theorem l_sd228 (d : Nat) : ∀ (j n : Nat) (k : Nat) (A : AH), k + j = 8 → 3 * j + 10 ≤ n → ∃ n' B, n ≤ n' + 3 * j + 2 ∧ go true 3 (runF d) (runN d) pb_X12_stands n 123 [vR 21 190 0, vI (k : Int)] [] A = go true 3 (runF d) (runN d) pb_X12_stands n' 152 [vR 21 190 0, vI 0] [] B ∧ (∀ i : Nat, k ≤ i → i < 8 → gi B 228 (8 + i) = gi A 228 i) ∧ (∀ a i : Nat, ¬ (a = 228 ∧ 8 + k ≤ i ∧ i < 8 + 8) → gi B a i = gi A a i) ∧ (∀ a i : Nat, gr B a i = gr A a i) ∧ B.2.2 = A.2.2 := by
  intro j
  induction j with
  | zero =>
    intro n k A h2 hn
    obtain ⟨n, rfl⟩ : ∃ e, n = e + 10 := ⟨n - 10, by omega⟩
    refine ⟨n + 8, A, by omega, ?_, fun i q1 q2 => by omega, fun _ _ _ => rfl, fun _ _ => rfl, rfl⟩
    rw [q_X12_stands_123, if_neg (by omega)]
  | succ j ih =>
    intro n k A h2 hn
    obtain ⟨n, rfl⟩ : ∃ e, n = e + 10 := ⟨n - 10, by omega⟩
    have ew : w32 (8 + (k : Int)) = ((8 + k : Nat) : Int) := by rw [wid (by omega) (by omega)]; omega
    obtain ⟨n', B, b0, b1, b2, b3, b4, b5⟩ := ih (n + 8) (k + 1) (wi A 228 (8 + k) (gi A 228 k)) (by omega) (by omega)
    refine ⟨n', B, by omega, ?_, fun i q1 q2 => ?_, fun a i q => ?_, b4, b5⟩
    · rw [q_X12_stands_123, if_pos (by omega), if_pos (by omega)]
      simp only [ew]
      rw [if_pos (by omega), Int.toNat_natCast, Int.toNat_natCast, q_X12_stands_144, wid (by omega) (by omega), show (k : Int) + 1 = ((k + 1 : Nat) : Int) by omega]
      exact b1
    · by_cases c : i = k
      · rw [c, b3 228 _ (by omega), gi_wi, if_pos ⟨rfl, rfl⟩]
      · rw [b2 i (by omega) q2, gi_wi, if_neg (by omega)]
    · rw [b3 a i (by omega), gi_wi, if_neg (by omega)]
set_option maxRecDepth 100000 in
theorem l_sd229 (d : Nat) : ∀ (j n : Nat) (k : Nat) (A : AH), k + j = 18 → 3 * j + 10 ≤ n → ∃ n' B, n ≤ n' + 3 * j + 2 ∧ go true 3 (runF d) (runN d) pb_X12_stands n 152 [vR 21 190 0, vI (k : Int)] [] A = go true 3 (runF d) (runN d) pb_X12_stands n' 181 [vR 21 190 0, vI 0] [] B ∧ (∀ i : Nat, k ≤ i → i < 18 → gi B 229 (18 + i) = gi A 229 i) ∧ (∀ a i : Nat, ¬ (a = 229 ∧ 18 + k ≤ i ∧ i < 18 + 18) → gi B a i = gi A a i) ∧ (∀ a i : Nat, gr B a i = gr A a i) ∧ B.2.2 = A.2.2 := by
  intro j
  induction j with
  | zero =>
    intro n k A h2 hn
    obtain ⟨n, rfl⟩ : ∃ e, n = e + 10 := ⟨n - 10, by omega⟩
    refine ⟨n + 8, A, by omega, ?_, fun i q1 q2 => by omega, fun _ _ _ => rfl, fun _ _ => rfl, rfl⟩
    rw [q_X12_stands_152, if_neg (by omega)]
  | succ j ih =>
    intro n k A h2 hn
    obtain ⟨n, rfl⟩ : ∃ e, n = e + 10 := ⟨n - 10, by omega⟩
    have ew : w32 (18 + (k : Int)) = ((18 + k : Nat) : Int) := by rw [wid (by omega) (by omega)]; omega
    obtain ⟨n', B, b0, b1, b2, b3, b4, b5⟩ := ih (n + 8) (k + 1) (wi A 229 (18 + k) (gi A 229 k)) (by omega) (by omega)
    refine ⟨n', B, by omega, ?_, fun i q1 q2 => ?_, fun a i q => ?_, b4, b5⟩
    · rw [q_X12_stands_152, if_pos (by omega), if_pos (by omega)]
      simp only [ew]
      rw [if_pos (by omega), Int.toNat_natCast, Int.toNat_natCast, q_X12_stands_173, wid (by omega) (by omega), show (k : Int) + 1 = ((k + 1 : Nat) : Int) by omega]
      exact b1
    · by_cases c : i = k
      · rw [c, b3 229 _ (by omega), gi_wi, if_pos ⟨rfl, rfl⟩]
      · rw [b2 i (by omega) q2, gi_wi, if_neg (by omega)]
    · rw [b3 a i (by omega), gi_wi, if_neg (by omega)]
set_option maxRecDepth 100000 in
theorem l_sd230 (d : Nat) : ∀ (j n : Nat) (k : Nat) (A : AH), k + j = 16 → 3 * j + 10 ≤ n → ∃ n' B, n ≤ n' + 3 * j + 2 ∧ go true 3 (runF d) (runN d) pb_X12_stands n 181 [vR 21 190 0, vI (k : Int)] [] A = go true 3 (runF d) (runN d) pb_X12_stands n' 210 [vR 21 190 0, vI 0] [] B ∧ (∀ i : Nat, k ≤ i → i < 16 → gi B 230 (16 + i) = gi A 230 i) ∧ (∀ a i : Nat, ¬ (a = 230 ∧ 16 + k ≤ i ∧ i < 16 + 16) → gi B a i = gi A a i) ∧ (∀ a i : Nat, gr B a i = gr A a i) ∧ B.2.2 = A.2.2 := by
  intro j
  induction j with
  | zero =>
    intro n k A h2 hn
    obtain ⟨n, rfl⟩ : ∃ e, n = e + 10 := ⟨n - 10, by omega⟩
    refine ⟨n + 8, A, by omega, ?_, fun i q1 q2 => by omega, fun _ _ _ => rfl, fun _ _ => rfl, rfl⟩
    rw [q_X12_stands_181, if_neg (by omega)]
  | succ j ih =>
    intro n k A h2 hn
    obtain ⟨n, rfl⟩ : ∃ e, n = e + 10 := ⟨n - 10, by omega⟩
    have ew : w32 (16 + (k : Int)) = ((16 + k : Nat) : Int) := by rw [wid (by omega) (by omega)]; omega
    obtain ⟨n', B, b0, b1, b2, b3, b4, b5⟩ := ih (n + 8) (k + 1) (wi A 230 (16 + k) (gi A 230 k)) (by omega) (by omega)
    refine ⟨n', B, by omega, ?_, fun i q1 q2 => ?_, fun a i q => ?_, b4, b5⟩
    · rw [q_X12_stands_181, if_pos (by omega), if_pos (by omega)]
      simp only [ew]
      rw [if_pos (by omega), Int.toNat_natCast, Int.toNat_natCast, q_X12_stands_202, wid (by omega) (by omega), show (k : Int) + 1 = ((k + 1 : Nat) : Int) by omega]
      exact b1
    · by_cases c : i = k
      · rw [c, b3 230 _ (by omega), gi_wi, if_pos ⟨rfl, rfl⟩]
      · rw [b2 i (by omega) q2, gi_wi, if_neg (by omega)]
    · rw [b3 a i (by omega), gi_wi, if_neg (by omega)]
set_option maxRecDepth 100000 in
theorem l_sd231 (d : Nat) : ∀ (j n : Nat) (k : Nat) (A : AH), k + j = 2 → 4 * j + 10 ≤ n → ∃ n' B, n ≤ n' + 4 * j + 2 ∧ go true 3 (runF d) (runN d) pb_X12_stands n 210 [vR 21 190 0, vI (k : Int)] [] A = go true 3 (runF d) (runN d) pb_X12_stands n' 251 [vR 21 190 0, vI 0] [] B ∧ (∀ i : Nat, k ≤ i → i < 2 → gi B 231 (2 + i) = gi A 231 i ∧ gi B 232 (2 + i) = gi A 232 i) ∧ (∀ a i : Nat, ¬ ((a = 231 ∨ a = 232) ∧ 2 + k ≤ i ∧ i < 4) → gi B a i = gi A a i) ∧ (∀ a i : Nat, gr B a i = gr A a i) ∧ B.2.2 = A.2.2 := by
  intro j
  induction j with
  | zero =>
    intro n k A h2 hn
    obtain ⟨n, rfl⟩ : ∃ e, n = e + 10 := ⟨n - 10, by omega⟩
    refine ⟨n + 8, A, by omega, ?_, fun i q1 q2 => by omega, fun _ _ _ => rfl, fun _ _ => rfl, rfl⟩
    rw [q_X12_stands_210, if_neg (by omega)]
  | succ j ih =>
    intro n k A h2 hn
    obtain ⟨n, rfl⟩ : ∃ e, n = e + 10 := ⟨n - 10, by omega⟩
    have ew : w32 (2 + (k : Int)) = ((2 + k : Nat) : Int) := by rw [wid (by omega) (by omega)]; omega
    obtain ⟨n', B, b0, b1, b2, b3, b4, b5⟩ := ih (n + 7) (k + 1) (wi (wi A 231 (2 + k) (gi A 231 k)) 232 (2 + k) (gi A 232 k)) (by omega) (by omega)
    refine ⟨n', B, by omega, ?_, fun i q1 q2 => ?_, fun a i q => ?_, b4, b5⟩
    · have z : gi (wi A 231 (2 + k) (gi A 231 k)) 232 k = gi A 232 k := by simp -implicitDefEqProofs (disch := omega) only [gi_wi, ↓reduceIte, Int.reduceEq, cI_v, cL_v, cV_v, cR_v, wid, wid64, if_pos, if_neg, Nat.add_zero, if_true, if_false, and_self, and_true, true_and, and_false, false_and, or_true, true_or, or_false, false_or]
      rw [q_X12_stands_210, if_pos (by omega), if_pos (by omega)]
      simp only [ew]
      rw [if_pos (by omega), Int.toNat_natCast, Int.toNat_natCast, q_X12_stands_229]
      simp only [ew]
      rw [if_pos (by omega), if_pos (by omega), Int.toNat_natCast, Int.toNat_natCast, z, q_X12_stands_243, wid (by omega) (by omega), show (k : Int) + 1 = ((k + 1 : Nat) : Int) by omega]
      exact b1
    · by_cases c : i = k
      · rw [c, b3 231 _ (by omega), b3 232 _ (by omega)]
        refine ⟨by simp -implicitDefEqProofs (disch := omega) only [gi_wi, ↓reduceIte, Int.reduceEq, cI_v, cL_v, cV_v, cR_v, wid, wid64, if_pos, if_neg, Nat.add_zero, if_true, if_false, and_self, and_true, true_and, and_false, false_and, or_true, true_or, or_false, false_or], by simp -implicitDefEqProofs (disch := omega) only [gi_wi, ↓reduceIte, Int.reduceEq, cI_v, cL_v, cV_v, cR_v, wid, wid64, if_pos, if_neg, Nat.add_zero, if_true, if_false, and_self, and_true, true_and, and_false, false_and, or_true, true_or, or_false, false_or]⟩
      · rw [(b2 i (by omega) q2).1, (b2 i (by omega) q2).2]
        refine ⟨by simp -implicitDefEqProofs (disch := omega) only [gi_wi, ↓reduceIte, Int.reduceEq, cI_v, cL_v, cV_v, cR_v, wid, wid64, if_pos, if_neg, Nat.add_zero, if_true, if_false, and_self, and_true, true_and, and_false, false_and, or_true, true_or, or_false, false_or], by simp -implicitDefEqProofs (disch := omega) only [gi_wi, ↓reduceIte, Int.reduceEq, cI_v, cL_v, cV_v, cR_v, wid, wid64, if_pos, if_neg, Nat.add_zero, if_true, if_false, and_self, and_true, true_and, and_false, false_and, or_true, true_or, or_false, false_or]⟩
    · rw [b3 a i (by omega), gi_wi, if_neg (by omega), gi_wi, if_neg (by omega)]
set_option maxRecDepth 100000 in
theorem l_sd233 (d N : Nat) (hN : N ≤ 1600) : ∀ (j n : Nat) (k : Nat) (A : AH), k + j = N → gi A 190 55 = N → 3 * j + 10 ≤ n → ∃ n' B, n ≤ n' + 3 * j + 2 ∧ go true 3 (runF d) (runN d) pb_X12_stands n 251 [vR 21 190 0, vI (k : Int)] [] A = go true 3 (runF d) (runN d) pb_X12_stands n' 283 [vR 21 190 0, vI 0] [] B ∧ (∀ i : Nat, k ≤ i → i < N → gi B 233 (1600 + i) = gi A 233 i) ∧ (∀ a i : Nat, ¬ (a = 233 ∧ 1600 + k ≤ i ∧ i < 1600 + N) → gi B a i = gi A a i) ∧ (∀ a i : Nat, gr B a i = gr A a i) ∧ B.2.2 = A.2.2 := by
  intro j
  induction j with
  | zero =>
    intro n k A h2 h55 hn
    obtain ⟨n, rfl⟩ : ∃ e, n = e + 10 := ⟨n - 10, by omega⟩
    refine ⟨n + 8, A, by omega, ?_, fun i q1 q2 => by omega, fun _ _ _ => rfl, fun _ _ => rfl, rfl⟩
    rw [q_X12_stands_251, h55, if_neg (by omega)]
  | succ j ih =>
    intro n k A h2 h55 hn
    obtain ⟨n, rfl⟩ : ∃ e, n = e + 10 := ⟨n - 10, by omega⟩
    have ew : w32 (1600 + (k : Int)) = ((1600 + k : Nat) : Int) := by rw [wid (by omega) (by omega)]; omega
    obtain ⟨n', B, b0, b1, b2, b3, b4, b5⟩ := ih (n + 8) (k + 1) (wi A 233 (1600 + k) (gi A 233 k)) (by omega) (by simp -implicitDefEqProofs (disch := omega) only [gi_wi, ↓reduceIte, Int.reduceEq, cI_v, cL_v, cV_v, cR_v, wid, wid64, if_pos, if_neg, Nat.add_zero, if_true, if_false, and_self, and_true, true_and, and_false, false_and, or_true, true_or, or_false, false_or]; exact h55) (by omega)
    refine ⟨n', B, by omega, ?_, fun i q1 q2 => ?_, fun a i q => ?_, b4, b5⟩
    · rw [q_X12_stands_251, h55, if_pos (by omega), if_pos (by omega)]
      simp only [ew]
      rw [if_pos (by omega), Int.toNat_natCast, Int.toNat_natCast, q_X12_stands_275, wid (by omega) (by omega), show (k : Int) + 1 = ((k + 1 : Nat) : Int) by omega]
      exact b1
    · by_cases c : i = k
      · rw [c, b3 233 _ (by omega), gi_wi, if_pos ⟨rfl, rfl⟩]
      · rw [b2 i (by omega) q2, gi_wi, if_neg (by omega)]
    · rw [b3 a i (by omega), gi_wi, if_neg (by omega)]
set_option maxRecDepth 100000 in
theorem l_sd237 (d : Nat) : ∀ (j n : Nat) (k : Nat) (A : AH), k + j = 146 → 3 * j + 10 ≤ n → ∃ n' B, n ≤ n' + 3 * j + 2 ∧ go true 3 (runF d) (runN d) pb_X12_stands n 283 [vR 21 190 0, vI (k : Int)] [] A = go true 3 (runF d) (runN d) pb_X12_stands n' 312 [vR 21 190 0, vI 0] [] (wi B 237 2 (-1)) ∧ (∀ i : Nat, k ≤ i → i < 146 → gi B 237 i = 0) ∧ (∀ a i : Nat, ¬ (a = 237 ∧ k ≤ i ∧ i < 146) → gi B a i = gi A a i) ∧ (∀ a i : Nat, gr B a i = gr A a i) ∧ B.2.2 = A.2.2 := by
  intro j
  induction j with
  | zero =>
    intro n k A h2 hn
    obtain ⟨n, rfl⟩ : ∃ e, n = e + 10 := ⟨n - 10, by omega⟩
    refine ⟨n + 8, A, by omega, ?_, fun i q1 q2 => by omega, fun _ _ _ => rfl, fun _ _ => rfl, rfl⟩
    rw [q_X12_stands_283, if_neg (by omega)]
  | succ j ih =>
    intro n k A h2 hn
    obtain ⟨n, rfl⟩ : ∃ e, n = e + 10 := ⟨n - 10, by omega⟩
    obtain ⟨n', B, b0, b1, b2, b3, b4, b5⟩ := ih (n + 8) (k + 1) (wi A 237 k 0) (by omega) (by omega)
    refine ⟨n', B, by omega, ?_, fun i q1 q2 => ?_, fun a i q => ?_, b4, b5⟩
    · rw [q_X12_stands_283, if_pos (by omega), if_pos (by omega), Int.toNat_natCast, q_X12_stands_297, wid (by omega) (by omega), show (k : Int) + 1 = ((k + 1 : Nat) : Int) by omega]
      exact b1
    · by_cases c : i = k
      · rw [c, b3 237 _ (by omega), gi_wi, if_pos ⟨rfl, rfl⟩]
      · exact b2 i (by omega) q2
    · rw [b3 a i (by omega), gi_wi, if_neg (by omega)]
set_option maxRecDepth 100000 in
theorem l_sdP (d N : Nat) (hN : N ≤ 8) : ∀ (j n : Nat) (k : Nat) (A : AH), k + j = N → gi A 224 0 = N → 3 * j + 10 ≤ n → ∃ n' B, n ≤ n' + 3 * j + 2 ∧ go true 3 (runF d) (runN d) pb_X12_stands n 312 [vR 21 190 0, vI (k : Int)] [] A = go true 3 (runF d) (runN d) pb_X12_stands n' 348 [vR 21 190 0, vI 0] [] B ∧ (∀ i : Nat, k ≤ i → i < N → gi B 237 (3 + i) = gi A 226 (4 * i + 3)) ∧ (∀ a i : Nat, ¬ (a = 237 ∧ 3 + k ≤ i ∧ i < 3 + N) → gi B a i = gi A a i) ∧ (∀ a i : Nat, gr B a i = gr A a i) ∧ B.2.2 = A.2.2 := by
  intro j
  induction j with
  | zero =>
    intro n k A h2 h0 hn
    obtain ⟨n, rfl⟩ : ∃ e, n = e + 10 := ⟨n - 10, by omega⟩
    refine ⟨n + 8, A, by omega, ?_, fun i q1 q2 => by omega, fun _ _ _ => rfl, fun _ _ => rfl, rfl⟩
    rw [q_X12_stands_312, h0, if_neg (by omega)]
  | succ j ih =>
    intro n k A h2 h0 hn
    obtain ⟨n, rfl⟩ : ∃ e, n = e + 10 := ⟨n - 10, by omega⟩
    have e1 : w32 (w32 (4 * (k : Int)) + 3) = ((4 * k + 3 : Nat) : Int) := by rw [wid (x := 4 * (k : Int)) (by omega) (by omega), wid (by omega) (by omega)]; omega
    have e2 : w32 (3 + (k : Int)) = ((3 + k : Nat) : Int) := by rw [wid (by omega) (by omega)]; omega
    obtain ⟨n', B, b0, b1, b2, b3, b4, b5⟩ := ih (n + 8) (k + 1) (wi A 237 (3 + k) (gi A 226 (4 * k + 3))) (by omega) (by simp -implicitDefEqProofs (disch := omega) only [gi_wi, ↓reduceIte, Int.reduceEq, cI_v, cL_v, cV_v, cR_v, wid, wid64, if_pos, if_neg, Nat.add_zero, if_true, if_false, and_self, and_true, true_and, and_false, false_and, or_true, true_or, or_false, false_or]; exact h0) (by omega)
    refine ⟨n', B, by omega, ?_, fun i q1 q2 => ?_, fun a i q => ?_, b4, b5⟩
    · rw [q_X12_stands_312, h0, if_pos (by omega)]
      simp only [e1, e2]
      rw [if_pos (by omega), if_pos (by omega), Int.toNat_natCast, Int.toNat_natCast, q_X12_stands_340, wid (by omega) (by omega), show (k : Int) + 1 = ((k + 1 : Nat) : Int) by omega]
      exact b1
    · by_cases c : i = k
      · rw [c, b3 237 _ (by omega), gi_wi, if_pos ⟨rfl, rfl⟩]
      · rw [b2 i (by omega) q2, gi_wi, if_neg (by omega)]
    · rw [b3 a i (by omega), gi_wi, if_neg (by omega)]
set_option maxRecDepth 100000 in
theorem l_sdM (d : Nat) : ∀ (j n : Nat) (k : Nat) (A : AH), k + j = 6 → 3 * j + 10 ≤ n → ∃ B, go true 3 (runF d) (runN d) pb_X12_stands n 348 [vR 21 190 0, vI (k : Int)] [] A = some (none, wi B 190 73 0) ∧ (∀ i : Nat, k ≤ i → i < 6 → gi B 237 (13 + i) = -1) ∧ (∀ a i : Nat, ¬ (a = 237 ∧ 13 + k ≤ i ∧ i < 19) → gi B a i = gi A a i) ∧ (∀ a i : Nat, gr B a i = gr A a i) ∧ B.2.2 = A.2.2 := by
  intro j
  induction j with
  | zero =>
    intro n k A h2 hn
    obtain ⟨n, rfl⟩ : ∃ e, n = e + 10 := ⟨n - 10, by omega⟩
    refine ⟨A, ?_, fun i q1 q2 => by omega, fun _ _ _ => rfl, fun _ _ => rfl, rfl⟩
    rw [q_X12_stands_348, if_neg (by omega)]
  | succ j ih =>
    intro n k A h2 hn
    obtain ⟨n, rfl⟩ : ∃ e, n = e + 10 := ⟨n - 10, by omega⟩
    have e2 : w32 (13 + (k : Int)) = ((13 + k : Nat) : Int) := by rw [wid (by omega) (by omega)]; omega
    obtain ⟨B, b1, b2, b3, b4, b5⟩ := ih (n + 8) (k + 1) (wi A 237 (13 + k) (-1)) (by omega) (by omega)
    refine ⟨B, ?_, fun i q1 q2 => ?_, fun a i q => ?_, b4, b5⟩
    · rw [q_X12_stands_348, if_pos (by omega)]
      simp only [e2]
      rw [if_pos (by omega), Int.toNat_natCast, q_X12_stands_364, wid (by omega) (by omega), show (k : Int) + 1 = ((k + 1 : Nat) : Int) by omega]
      exact b1
    · by_cases c : i = k
      · rw [c, b3 237 _ (by omega), gi_wi, if_pos ⟨rfl, rfl⟩]
      · exact b2 i (by omega) q2
    · rw [b3 a i (by omega), gi_wi, if_neg (by omega)]
