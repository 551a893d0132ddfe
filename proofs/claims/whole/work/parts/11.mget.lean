/-! the reference: what it reads of the hall and of the sitting -/
/-- the hall that stands, as the reference holds it -/
def hv (A : AH) (a j : Nat) : Int := if (a = 224 ∧ 6 ≤ j) ∨ (a = 225 ∧ 24 ≤ j) ∨ (a = 226 ∧ 32 ≤ j) ∨ (a = 227 ∧ 12 ≤ j) ∨ (a = 228 ∧ 8 ≤ j) ∨ (a = 229 ∧ 18 ≤ j) ∨ (a = 230 ∧ 16 ≤ j) ∨ (a = 231 ∧ 2 ≤ j) ∨ (a = 232 ∧ 2 ≤ j) ∨ (a = 233 ∧ 1600 ≤ j) then gi A a j else 0
def nv (A : AH) (j : Nat) : Int := gi A 237 j
def nSe (H : Nat → Nat → Int) : Int := H 224 11
def nPe (H : Nat → Nat → Int) : Int := H 224 6
def nMu (H : Nat → Nat → Int) : Int := H 224 7
def nPo (H : Nat → Nat → Int) : Int := H 224 8
def nNo (H : Nat → Nat → Int) : Int := H 224 9
def nHa (H : Nat → Nat → Int) : Int := H 224 10
theorem e_nSe (A : AH) : gi A 224 11 = nSe (hv A) := rfl
theorem e_nPe (A : AH) : gi A 224 6 = nPe (hv A) := rfl
theorem e_nMu (A : AH) : gi A 224 7 = nMu (hv A) := rfl
theorem e_nPo (A : AH) : gi A 224 8 = nPo (hv A) := rfl
theorem e_nNo (A : AH) : gi A 224 9 = nNo (hv A) := rfl
theorem e_nHa (A : AH) : gi A 224 10 = nHa (hv A) := rfl
theorem e_nv (A : AH) (j : Nat) : gi A 237 j = nv A j := rfl
/-- counts are in their bounds -/
def cok (H : Nat → Nat → Int) : Prop := (0 ≤ nSe H ∧ nSe H ≤ 9) ∧ (0 ≤ nPe H ∧ nPe H ≤ 8) ∧ (0 ≤ nMu H ∧ nMu H ≤ 6) ∧ (0 ≤ nPo H ∧ nPo H ≤ 4) ∧ (0 ≤ nNo H ∧ nNo H ≤ 6) ∧ (0 ≤ nHa H ∧ nHa H ≤ 12)
def seatR (row : Nat → Int) (x : Int) : Int := row (3 + x).toNat
def sit (H : Nat → Nat → Int) (row : Nat → Int) (x : Int) : Bool := decide (0 ≤ x ∧ x < nPe H) || (decide (10 ≤ x ∧ x < 10 + nMu H) && decide (seatR row x ≠ -1))
set_option maxRecDepth 100000 in
theorem s_isIn (d : Nat) (x y z : Int) (A : AH) : runF (d + 1) 149 [vL x, vL y, vL z] A = some (some (vI (bI (decide (y ≤ x ∧ x ≤ z)))), A) := by
  rw [r_X12_isIn, q_X12_isIn_0]
  simp -implicitDefEqProofs (disch := omega) only [lcp_lt, lcp_gt, q_X12_isIn_17, ↓reduceIte, Int.reduceEq, cI_v, cL_v, cV_v, cR_v, wid, wid64, if_pos, if_neg, Nat.add_zero, if_true, if_false, and_self, and_true, true_and, and_false, false_and, or_true, true_or, or_false, false_or]
  by_cases h1 : x < y
  · simp -implicitDefEqProofs (disch := omega) only [↓reduceIte, Int.reduceEq, cI_v, cL_v, cV_v, cR_v, wid, wid64, if_pos, if_neg, Nat.add_zero, if_true, if_false, and_self, and_true, true_and, and_false, false_and, or_true, true_or, or_false, false_or]; rw [decide_eq_false (by omega)]; rfl
  · by_cases h2 : z < x
    · simp -implicitDefEqProofs (disch := omega) only [↓reduceIte, Int.reduceEq, cI_v, cL_v, cV_v, cR_v, wid, wid64, if_pos, if_neg, Nat.add_zero, if_true, if_false, and_self, and_true, true_and, and_false, false_and, or_true, true_or, or_false, false_or]; rw [decide_eq_false (by omega)]; rfl
    · simp -implicitDefEqProofs (disch := omega) only [↓reduceIte, Int.reduceEq, cI_v, cL_v, cV_v, cR_v, wid, wid64, if_pos, if_neg, Nat.add_zero, if_true, if_false, and_self, and_true, true_and, and_false, false_and, or_true, true_or, or_false, false_or]; rw [decide_eq_true (by omega)]; rfl
set_option maxRecDepth 100000 in
theorem s_seatMany (d : Nat) (A : AH) : runF (d + 1) 194 [vR 21 190 0] A = some (some (vI (nSe (hv A))), A) := by
  rw [r_X12_seatMany, q_X12_seatMany_0]; rfl
set_option maxRecDepth 100000 in
theorem s_peopleMany (d : Nat) (A : AH) : runF (d + 1) 195 [vR 21 190 0] A = some (some (vI (nPe (hv A))), A) := by
  rw [r_X12_peopleMany, q_X12_peopleMany_0]; rfl
set_option maxRecDepth 100000 in
theorem s_muteMany (d : Nat) (A : AH) : runF (d + 1) 196 [vR 21 190 0] A = some (some (vI (nMu (hv A))), A) := by
  rw [r_X12_muteMany, q_X12_muteMany_0]; rfl
set_option maxRecDepth 100000 in
theorem s_pointMany (d : Nat) (A : AH) : runF (d + 1) 197 [vR 21 190 0] A = some (some (vI (nPo (hv A))), A) := by
  rw [r_X12_pointMany, q_X12_pointMany_0]; rfl
set_option maxRecDepth 100000 in
theorem s_isSeat (d : Nat) (x : Int) (A : AH) (hc : cok (hv A)) : runF (d + 2) 198 [vR 21 190 0, vI x] A = some (some (vI (bI (decide (0 ≤ x ∧ x < nSe (hv A))))), A) := by
  unfold cok at hc
  rw [r_X12_isSeat, q_X12_isSeat_0]
  simp -implicitDefEqProofs (disch := omega) only [s_seatMany, s_isIn, bI_01, if_true, ↓reduceIte, Int.reduceEq, cI_v, cL_v, cV_v, cR_v, wid, wid64, if_pos, if_neg, Nat.add_zero, if_true, if_false, and_self, and_true, true_and, and_false, false_and, or_true, true_or, or_false, false_or]
  congr 6
  apply propext; omega
set_option maxRecDepth 100000 in
theorem s_seatOf (d : Nat) (x : Int) (A : AH) (h1 : 0 ≤ x) (h2 : x < 16) : runF (d + 1) 199 [vR 21 190 0, vI x] A = some (some (vI (seatR (nv A) x)), A) := by
  rw [r_X12_seatOf, q_X12_seatOf_0]
  simp -implicitDefEqProofs (disch := omega) only [↓reduceIte, Int.reduceEq, cI_v, cL_v, cV_v, cR_v, wid, wid64, if_pos, if_neg, Nat.add_zero, if_true, if_false, and_self, and_true, true_and, and_false, false_and, or_true, true_or, or_false, false_or]
  rfl
set_option maxRecDepth 100000 in
theorem s_doesSit (d : Nat) (x : Int) (A : AH) (hc : cok (hv A)) : runF (d + 2) 200 [vR 21 190 0, vI x] A = some (some (vI (bI (sit (hv A) (nv A) x))), A) := by
  unfold cok at hc
  rw [r_X12_doesSit, q_X12_doesSit_0]
  simp -implicitDefEqProofs (disch := omega) only [s_peopleMany, s_muteMany, s_isIn, bI_0, ite_f, q_X12_doesSit_46, q_X12_doesSit_50, ↓reduceIte, Int.reduceEq, cI_v, cL_v, cV_v, cR_v, wid, wid64, if_pos, if_neg, Nat.add_zero, if_true, if_false, and_self, and_true, true_and, and_false, false_and, or_true, true_or, or_false, false_or]
  unfold sit
  by_cases h1 : 0 ≤ x ∧ x ≤ nPe (hv A) - 1
  · rw [decide_eq_true h1, decide_eq_true (p := 0 ≤ x ∧ x < nPe (hv A)) (by omega)]; rfl
  · rw [decide_eq_false h1, decide_eq_false (p := 0 ≤ x ∧ x < nPe (hv A)) (by omega)]
    by_cases h2 : 10 ≤ x ∧ x ≤ 10 + nMu (hv A) - 1
    · rw [decide_eq_true h2, decide_eq_true (p := 10 ≤ x ∧ x < 10 + nMu (hv A)) (by omega)]
      simp -implicitDefEqProofs (disch := omega) only [s_seatOf, ↓reduceIte, Int.reduceEq, cI_v, cL_v, cV_v, cR_v, wid, wid64, if_pos, if_neg, Nat.add_zero, if_true, if_false, and_self, and_true, true_and, and_false, false_and, or_true, true_or, or_false, false_or]
      by_cases h3 : seatR (nv A) x = -1
      · simp [h3, bI]
      · simp [h3, bI]
    · rw [decide_eq_false h2, decide_eq_false (p := 10 ≤ x ∧ x < 10 + nMu (hv A)) (by omega)]; rfl
