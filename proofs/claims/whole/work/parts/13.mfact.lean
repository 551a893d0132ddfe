/-! the reference: the facts of one who sits -/
theorem e224 (A : AH) {j : Nat} (h : 6 ≤ j) : gi A 224 j = hv A 224 j := by unfold hv; rw [if_pos (by omega)]
theorem e225 (A : AH) {j : Nat} (h : 24 ≤ j) : gi A 225 j = hv A 225 j := by unfold hv; rw [if_pos (by omega)]
theorem e226 (A : AH) {j : Nat} (h : 32 ≤ j) : gi A 226 j = hv A 226 j := by unfold hv; rw [if_pos (by omega)]
theorem e227 (A : AH) {j : Nat} (h : 12 ≤ j) : gi A 227 j = hv A 227 j := by unfold hv; rw [if_pos (by omega)]
theorem e228 (A : AH) {j : Nat} (h : 8 ≤ j) : gi A 228 j = hv A 228 j := by unfold hv; rw [if_pos (by omega)]
theorem e229 (A : AH) {j : Nat} (h : 18 ≤ j) : gi A 229 j = hv A 229 j := by unfold hv; rw [if_pos (by omega)]
theorem e230 (A : AH) {j : Nat} (h : 16 ≤ j) : gi A 230 j = hv A 230 j := by unfold hv; rw [if_pos (by omega)]
theorem e231 (A : AH) {j : Nat} (h : 2 ≤ j) : gi A 231 j = hv A 231 j := by unfold hv; rw [if_pos (by omega)]
theorem e232 (A : AH) {j : Nat} (h : 2 ≤ j) : gi A 232 j = hv A 232 j := by unfold hv; rw [if_pos (by omega)]
theorem e233 (A : AH) {j : Nat} (h : 1600 ≤ j) : gi A 233 j = hv A 233 j := by unfold hv; rw [if_pos (by omega)]
/-- what the rows of the hall hold -/
def hok (H : Nat → Nat → Int) : Prop := (∀ j, 32 ≤ j → j < 64 → 0 ≤ H 226 j ∧ H 226 j ≤ 100) ∧ (∀ j, j < 8 → H 226 (34 + 4 * j) ≤ 2) ∧ (∀ j, 12 ≤ j → j < 24 → 0 ≤ H 227 j ∧ H 227 j ≤ 99) ∧ (∀ j, 8 ≤ j → j < 16 → 0 ≤ H 228 j ∧ H 228 j ≤ 99) ∧ (∀ j, 18 ≤ j → j < 36 → 0 ≤ H 229 j ∧ H 229 j ≤ 99) ∧ (∀ j, 16 ≤ j → j < 32 → 0 ≤ H 230 j ∧ H 230 j < 65536) ∧ (∀ j, 24 ≤ j → j < 48 → 0 ≤ H 225 j ∧ H 225 j < 387420489)
def num (x : Int) : Prop := (0 ≤ x ∧ x < 8) ∨ (10 ≤ x ∧ x < 16)
/-- what the row of the sitting holds -/
def rok (H : Nat → Nat → Int) (row : Nat → Int) : Prop := (∀ j, 3 ≤ j → j < 19 → -1 ≤ row j ∧ row j ≤ 8) ∧ (∀ j, 19 ≤ j → j < 25 → 0 ≤ row j ∧ row j ≤ 1 ∧ (row (j - 6) = -1 → row j = 0)) ∧ (-1 ≤ row 2 ∧ row 2 < nPo H)
def keepsF (H : Nat → Nat → Int) (x : Int) : Int := if x < 10 then H 226 (32 + 4 * x).toNat else H 227 (12 + 2 * (x - 10)).toNat
def itchF (H : Nat → Nat → Int) (x : Int) : Int := if x < 10 then H 226 (33 + 4 * x).toNat else 0
def partyF (H : Nat → Nat → Int) (row : Nat → Int) (x : Int) : Int := if x < 10 then H 226 (34 + 4 * x).toNat else row (19 + x - 10).toNat
def besideF (row : Nat → Int) (x y : Int) : Bool := decide (seatR row x - seatR row y = 1) || decide (seatR row y - seatR row x = 1)
def nearF (H : Nat → Nat → Int) (row : Nat → Int) (x : Int) : Int := sm (fun i => bI (sit H row i && besideF row i x)) 16 0
def foeF (H : Nat → Nat → Int) (x y : Int) : Bool := tb (H 230 (16 + x).toNat) y || tb (H 230 (16 + y).toNat) x
def hatedF (H : Nat → Nat → Int) (row : Nat → Int) (x : Int) : Int := sm (fun i => bI (sit H row i && besideF row i x && foeF H i x)) 16 0
def askedF (H : Nat → Nat → Int) (row : Nat → Int) (a x : Int) : Int := if a = -1 ∨ partyF H row x = 2 then 0 else H 228 (8 + 2 * a + partyF H row x).toNat
def loudF (H : Nat → Nat → Int) (q seat minute k : Int) : Int := if k = q ∨ H 229 (18 + 3 * k).toNat ≠ minute then 0 else max 0 (H 229 (20 + 3 * k).toNat - (if H 229 (19 + 3 * k).toNat - seat < 0 then -(H 229 (19 + 3 * k).toNat - seat) else H 229 (19 + 3 * k).toNat - seat))
def noiseF (H : Nat → Nat → Int) (q seat minute : Int) : Int := sm (loudF H q seat minute) (nNo H).toNat 0
theorem sit_num {H : Nat → Nat → Int} {row : Nat → Int} {x : Int} (hc : cok H) (h : sit H row x = true) : num x := by
  unfold sit at h; unfold cok at hc; unfold num
  simp only [Bool.or_eq_true, Bool.and_eq_true, decide_eq_true_eq] at h
  omega
set_option maxRecDepth 100000 in
theorem s_isMute (d : Nat) (x : Int) (A : AH) : runF (d + 1) 202 [vR 21 190 0, vI x] A = some (some (vI (bI (decide (10 ≤ x)))), A) := by
  rw [r_X12_isMute, q_X12_isMute_0]
  by_cases h : x < 10
  · simp -implicitDefEqProofs (disch := omega) only [decide_eq_false (p := 10 ≤ x), bI_f, ↓reduceIte, Int.reduceEq, cI_v, cL_v, cV_v, cR_v, wid, wid64, if_pos, if_neg, Nat.add_zero, if_true, if_false, and_self, and_true, true_and, and_false, false_and, or_true, true_or, or_false, false_or]
  · simp -implicitDefEqProofs (disch := omega) only [decide_eq_true (p := 10 ≤ x), bI_t, ↓reduceIte, Int.reduceEq, cI_v, cL_v, cV_v, cR_v, wid, wid64, if_pos, if_neg, Nat.add_zero, if_true, if_false, and_self, and_true, true_and, and_false, false_and, or_true, true_or, or_false, false_or]
set_option maxRecDepth 100000 in
theorem s_keepsOf (d : Nat) (x : Int) (A : AH) (hx : num x) : runF (d + 2) 203 [vR 21 190 0, vI x] A = some (some (vI (keepsF (hv A) x)), A) := by
  unfold num at hx
  rw [r_X12_keepsOf, q_X12_keepsOf_0]
  unfold keepsF
  by_cases h : x < 10
  · simp -implicitDefEqProofs (disch := omega) only [s_isMute, decide_eq_false (p := 10 ≤ x), bI_f, if_true, e226, ↓reduceIte, Int.reduceEq, cI_v, cL_v, cV_v, cR_v, wid, wid64, if_pos, if_neg, Nat.add_zero, if_true, if_false, and_self, and_true, true_and, and_false, false_and, or_true, true_or, or_false, false_or]
  · simp -implicitDefEqProofs (disch := omega) only [s_isMute, decide_eq_true (p := 10 ≤ x), bI_t, if_true, e227, ↓reduceIte, Int.reduceEq, cI_v, cL_v, cV_v, cR_v, wid, wid64, if_pos, if_neg, Nat.add_zero, if_true, if_false, and_self, and_true, true_and, and_false, false_and, or_true, true_or, or_false, false_or]
set_option maxRecDepth 100000 in
theorem s_itchesOf (d : Nat) (x : Int) (A : AH) (hx : num x) : runF (d + 2) 204 [vR 21 190 0, vI x] A = some (some (vI (itchF (hv A) x)), A) := by
  unfold num at hx
  rw [r_X12_itchesOf, q_X12_itchesOf_0]
  unfold itchF
  by_cases h : x < 10
  · simp -implicitDefEqProofs (disch := omega) only [s_isMute, decide_eq_false (p := 10 ≤ x), bI_f, if_true, e226, ↓reduceIte, Int.reduceEq, cI_v, cL_v, cV_v, cR_v, wid, wid64, if_pos, if_neg, Nat.add_zero, if_true, if_false, and_self, and_true, true_and, and_false, false_and, or_true, true_or, or_false, false_or]
  · simp -implicitDefEqProofs (disch := omega) only [s_isMute, decide_eq_true (p := 10 ≤ x), bI_t, if_true, e227, ↓reduceIte, Int.reduceEq, cI_v, cL_v, cV_v, cR_v, wid, wid64, if_pos, if_neg, Nat.add_zero, if_true, if_false, and_self, and_true, true_and, and_false, false_and, or_true, true_or, or_false, false_or]
set_option maxRecDepth 100000 in
theorem s_partyOf (d : Nat) (x : Int) (A : AH) (hx : num x) : runF (d + 2) 205 [vR 21 190 0, vI x] A = some (some (vI (partyF (hv A) (nv A) x)), A) := by
  unfold num at hx
  rw [r_X12_partyOf, q_X12_partyOf_0]
  unfold partyF
  by_cases h : x < 10
  · simp -implicitDefEqProofs (disch := omega) only [s_isMute, decide_eq_false (p := 10 ≤ x), bI_f, if_true, e226, ↓reduceIte, Int.reduceEq, cI_v, cL_v, cV_v, cR_v, wid, wid64, if_pos, if_neg, Nat.add_zero, if_true, if_false, and_self, and_true, true_and, and_false, false_and, or_true, true_or, or_false, false_or]
  · simp -implicitDefEqProofs (disch := omega) only [s_isMute, decide_eq_true (p := 10 ≤ x), bI_t, if_true, e_nv, ↓reduceIte, Int.reduceEq, cI_v, cL_v, cV_v, cR_v, wid, wid64, if_pos, if_neg, Nat.add_zero, if_true, if_false, and_self, and_true, true_and, and_false, false_and, or_true, true_or, or_false, false_or]
set_option maxRecDepth 100000 in
theorem s_isBeside (d : Nat) (x y : Int) (A : AH) (hr : rok (hv A) (nv A)) (hx1 : 0 ≤ x) (hx2 : x < 16) (hy1 : 0 ≤ y) (hy2 : y < 16) : runF (d + 2) 206 [vR 21 190 0, vI x, vI y] A = some (some (vI (bI (besideF (nv A) x y))), A) := by
  have h1 := hr.1 (3 + x).toNat (by omega) (by omega)
  have h2 := hr.1 (3 + y).toNat (by omega) (by omega)
  have h1 : -1 ≤ seatR (nv A) x ∧ seatR (nv A) x ≤ 8 := h1
  have h2 : -1 ≤ seatR (nv A) y ∧ seatR (nv A) y ≤ 8 := h2
  rw [r_X12_isBeside, q_X12_isBeside_0]
  simp -implicitDefEqProofs (disch := omega) only [s_seatOf, q_X12_isBeside_30, ↓reduceIte, Int.reduceEq, cI_v, cL_v, cV_v, cR_v, wid, wid64, if_pos, if_neg, Nat.add_zero, if_true, if_false, and_self, and_true, true_and, and_false, false_and, or_true, true_or, or_false, false_or]
  unfold besideF
  by_cases e1 : seatR (nv A) x - seatR (nv A) y = 1
  · simp [e1, bI]
  · by_cases e2 : seatR (nv A) y - seatR (nv A) x = 1 <;> simp [e1, e2, bI]
set_option maxRecDepth 100000 in
theorem l_sitterAt (d : Nat) (x : Int) (A : AH) (hc : cok (hv A)) : ∀ (m n : Nat) (k : Int), 0 ≤ k → k + m = 16 → 2 * m + 2 ≤ n → go true 0 (runF (d + 2)) (runN (d + 2)) pb_X12_sitterAt n 2 [vR 21 190 0, vI x, vI k] [] A = some (some (vI (ff (fun i => sit (hv A) (nv A) i && decide (seatR (nv A) i = x)) m k)), A) := by
  intro m
  induction m with
  | zero =>
    intro n k h1 h2 hn
    obtain ⟨n, rfl⟩ : ∃ e, n = e + 2 := ⟨n - 2, by omega⟩
    rw [q_X12_sitterAt_2]
    simp -implicitDefEqProofs (disch := omega) only [ff, ↓reduceIte, Int.reduceEq, cI_v, cL_v, cV_v, cR_v, wid, wid64, if_pos, if_neg, Nat.add_zero, if_true, if_false, and_self, and_true, true_and, and_false, false_and, or_true, true_or, or_false, false_or]
  | succ m ih =>
    intro n k h1 h2 hn
    obtain ⟨n, rfl⟩ : ∃ e, n = e + 2 := ⟨n - 2, by omega⟩
    rw [q_X12_sitterAt_2]
    simp -implicitDefEqProofs (disch := omega) only [s_doesSit, s_seatOf, bI_0, ite_f, q_X12_sitterAt_27, ih, ff, hc, ↓reduceIte, Int.reduceEq, cI_v, cL_v, cV_v, cR_v, wid, wid64, if_pos, if_neg, Nat.add_zero, if_true, if_false, and_self, and_true, true_and, and_false, false_and, or_true, true_or, or_false, false_or]
    by_cases hs : sit (hv A) (nv A) k = true
    · by_cases e : seatR (nv A) k = x <;> simp [hs, e]
    · simp [hs]
set_option maxRecDepth 100000 in
theorem s_sitterAt (d : Nat) (x : Int) (A : AH) (hc : cok (hv A)) : runF (d + 3) 201 [vR 21 190 0, vI x] A = some (some (vI (ff (fun i => sit (hv A) (nv A) i && decide (seatR (nv A) i = x)) 16 0)), A) := by
  rw [r_X12_sitterAt, q_X12_sitterAt_0]
  exact l_sitterAt d x A hc 16 _ 0 (by omega) (by omega) (by have := fu_ge; omega)
set_option maxRecDepth 100000 in
theorem l_nearOf (d : Nat) (x : Int) (A : AH) (hc : cok (hv A)) (hr : rok (hv A) (nv A)) (hx1 : 0 ≤ x) (hx2 : x < 16) : ∀ (m n : Nat) (k v : Int), 0 ≤ k → k + m = 16 → 0 ≤ v → v ≤ k → 2 * m + 2 ≤ n → go true 0 (runF (d + 2)) (runN (d + 2)) pb_X12_nearOf n 4 [vR 21 190 0, vI x, vI v, vI k] [] A = some (some (vI (v + sm (fun i => bI (sit (hv A) (nv A) i && besideF (nv A) i x)) m k)), A) := by
  intro m
  induction m with
  | zero =>
    intro n k v h1 h2 h3 h4 hn
    obtain ⟨n, rfl⟩ : ∃ e, n = e + 2 := ⟨n - 2, by omega⟩
    rw [q_X12_nearOf_4]
    simp -implicitDefEqProofs (disch := omega) only [sm, Int.add_zero, ↓reduceIte, Int.reduceEq, cI_v, cL_v, cV_v, cR_v, wid, wid64, if_pos, if_neg, Nat.add_zero, if_true, if_false, and_self, and_true, true_and, and_false, false_and, or_true, true_or, or_false, false_or]
  | succ m ih =>
    intro n k v h1 h2 h3 h4 hn
    obtain ⟨n, rfl⟩ : ∃ e, n = e + 2 := ⟨n - 2, by omega⟩
    rw [q_X12_nearOf_4]
    simp -implicitDefEqProofs (disch := omega) only [s_doesSit, s_isBeside, bI_0, ite_f, q_X12_nearOf_30, ih, sm, hc, hr, ↓reduceIte, Int.reduceEq, cI_v, cL_v, cV_v, cR_v, wid, wid64, if_pos, if_neg, Nat.add_zero, if_true, if_false, and_self, and_true, true_and, and_false, false_and, or_true, true_or, or_false, false_or]
    by_cases hs : sit (hv A) (nv A) k = true
    · by_cases e : besideF (nv A) k x = true
      · simp [hs, e, bI, Int.add_assoc]
      · simp [hs, e, bI]
    · simp [hs, bI]
set_option maxRecDepth 100000 in
theorem s_nearOf (d : Nat) (x : Int) (A : AH) (hc : cok (hv A)) (hr : rok (hv A) (nv A)) (hx1 : 0 ≤ x) (hx2 : x < 16) : runF (d + 3) 207 [vR 21 190 0, vI x] A = some (some (vI (nearF (hv A) (nv A) x)), A) := by
  rw [r_X12_nearOf, q_X12_nearOf_0, l_nearOf d x A hc hr hx1 hx2 16 _ 0 0 (by omega) (by omega) (by omega) (by omega) (by have := fu_ge; omega), Int.zero_add]; rfl
theorem hates_ok {A : AH} (hh : hok (hv A)) {x : Int} (hx1 : 0 ≤ x) (hx2 : x < 16) : 0 ≤ hv A 230 (16 + x).toNat ∧ hv A 230 (16 + x).toNat < 2147483648 := by
  have := hh.2.2.2.2.2.1 (16 + x).toNat (by omega) (by omega)
  omega
set_option maxRecDepth 100000 in
theorem l_hatedOf (d : Nat) (x : Int) (A : AH) (hc : cok (hv A)) (hh : hok (hv A)) (hr : rok (hv A) (nv A)) (hx1 : 0 ≤ x) (hx2 : x < 16) : ∀ (m n : Nat) (k v : Int), 0 ≤ k → k + m = 16 → 0 ≤ v → v ≤ k → 2 * m + 2 ≤ n → go true 0 (runF (d + 2)) (runN (d + 2)) pb_X12_hatedOf n 4 [vR 21 190 0, vI x, vI v, vI k] [] A = some (some (vI (v + sm (fun i => bI (sit (hv A) (nv A) i && besideF (nv A) i x && foeF (hv A) i x)) m k)), A) := by
  intro m
  induction m with
  | zero =>
    intro n k v h1 h2 h3 h4 hn
    obtain ⟨n, rfl⟩ : ∃ e, n = e + 2 := ⟨n - 2, by omega⟩
    rw [q_X12_hatedOf_4]
    simp -implicitDefEqProofs (disch := omega) only [sm, Int.add_zero, ↓reduceIte, Int.reduceEq, cI_v, cL_v, cV_v, cR_v, wid, wid64, if_pos, if_neg, Nat.add_zero, if_true, if_false, and_self, and_true, true_and, and_false, false_and, or_true, true_or, or_false, false_or]
  | succ m ih =>
    intro n k v h1 h2 h3 h4 hn
    obtain ⟨n, rfl⟩ : ∃ e, n = e + 2 := ⟨n - 2, by omega⟩
    rw [q_X12_hatedOf_4]
    have b1 := hates_ok hh hx1 hx2
    have b2 := hates_ok hh h1 (by omega : k < 16)
    simp -implicitDefEqProofs (disch := omega) only [s_doesSit, s_isBeside, bI_0, bI_1, ite_f, q_X12_hatedOf_59, ih, sm, hc, hr, e230, band_tb2, ↓reduceIte, Int.reduceEq, cI_v, cL_v, cV_v, cR_v, wid, wid64, if_pos, if_neg, Nat.add_zero, if_true, if_false, and_self, and_true, true_and, and_false, false_and, or_true, true_or, or_false, false_or]
    by_cases hs : sit (hv A) (nv A) k = true
    · by_cases e : besideF (nv A) k x = true
      · by_cases f : foeF (hv A) k x = true
        · have f' := f
          unfold foeF at f'
          simp [hs, e, f, f', bI, Int.add_assoc]
        · have f' := f
          unfold foeF at f'
          simp [hs, e, f, f', bI]
      · simp [hs, e, bI]
    · simp [hs, bI]
set_option maxRecDepth 100000 in
theorem s_hatedOf (d : Nat) (x : Int) (A : AH) (hc : cok (hv A)) (hh : hok (hv A)) (hr : rok (hv A) (nv A)) (hx1 : 0 ≤ x) (hx2 : x < 16) : runF (d + 3) 208 [vR 21 190 0, vI x] A = some (some (vI (hatedF (hv A) (nv A) x)), A) := by
  rw [r_X12_hatedOf, q_X12_hatedOf_0, l_hatedOf d x A hc hh hr hx1 hx2 16 _ 0 0 (by omega) (by omega) (by omega) (by omega) (by have := fu_ge; omega), Int.zero_add]; rfl
theorem party_ok {H : Nat → Nat → Int} {row : Nat → Int} (hh : hok H) (hr : rok H row) {x : Int} (hx : num x) : 0 ≤ partyF H row x ∧ partyF H row x ≤ 2 := by
  unfold num at hx
  unfold partyF
  by_cases h : x < 10
  · rw [if_pos h]
    have h1 := hh.1 (34 + 4 * x).toNat (by omega) (by omega)
    have h2 := hh.2.1 x.toNat (by omega)
    rw [show 34 + 4 * x.toNat = (34 + 4 * x).toNat by omega] at h2
    omega
  · rw [if_neg h]
    have h1 := hr.2.1 (19 + x - 10).toNat (by omega) (by omega)
    omega
set_option maxRecDepth 100000 in
theorem s_askedOf (d : Nat) (x : Int) (A : AH) (hc : cok (hv A)) (hh : hok (hv A)) (hr : rok (hv A) (nv A)) (hx : num x) : runF (d + 3) 209 [vR 21 190 0, vI x] A = some (some (vI (askedF (hv A) (nv A) (nv A 2) x)), A) := by
  have hp := party_ok hh hr hx
  have ha := hr.2.2
  unfold cok at hc
  rw [r_X12_askedOf, q_X12_askedOf_0]
  simp -implicitDefEqProofs (disch := omega) only [s_partyOf, hx, q_X12_askedOf_21, e_nv, ↓reduceIte, Int.reduceEq, cI_v, cL_v, cV_v, cR_v, wid, wid64, if_pos, if_neg, Nat.add_zero, if_true, if_false, and_self, and_true, true_and, and_false, false_and, or_true, true_or, or_false, false_or]
  unfold askedF
  by_cases h1 : nv A 2 = -1
  · simp -implicitDefEqProofs (disch := omega) only [↓reduceIte, Int.reduceEq, cI_v, cL_v, cV_v, cR_v, wid, wid64, if_pos, if_neg, Nat.add_zero, if_true, if_false, and_self, and_true, true_and, and_false, false_and, or_true, true_or, or_false, false_or]
  · by_cases h2 : partyF (hv A) (nv A) x = 2
    · simp -implicitDefEqProofs (disch := omega) only [↓reduceIte, Int.reduceEq, cI_v, cL_v, cV_v, cR_v, wid, wid64, if_pos, if_neg, Nat.add_zero, if_true, if_false, and_self, and_true, true_and, and_false, false_and, or_true, true_or, or_false, false_or]
    · simp -implicitDefEqProofs (disch := omega) only [e228, ↓reduceIte, Int.reduceEq, cI_v, cL_v, cV_v, cR_v, wid, wid64, if_pos, if_neg, Nat.add_zero, if_true, if_false, and_self, and_true, true_and, and_false, false_and, or_true, true_or, or_false, false_or]
set_option maxRecDepth 100000 in
theorem l_noiseAt (d : Nat) (x y : Int) (A : AH) (hc : cok (hv A)) (hh : hok (hv A)) (hx1 : -1 ≤ x) (hx2 : x < 16) : ∀ (m n : Nat) (k v : Int) (u5 u6 : AV), 0 ≤ k → k + m = nNo (hv A) → 0 ≤ v → v ≤ 200 * k → 6 * m + 2 ≤ n → go true 0 (runF d) (runN d) pb_X12_noiseAt n 5 [vR 21 190 0, vI x, vI y, vI v, vI k, u5, u6] [] A = some (some (vI (v + sm (loudF (hv A) (gi A 190 65) x y) m k)), A) := by
  intro m
  unfold cok at hc
  induction m with
  | zero =>
    intro n k v u5 u6 h1 h2 h3 h4 hn
    obtain ⟨n, rfl⟩ : ∃ e, n = e + 2 := ⟨n - 2, by omega⟩
    rw [q_X12_noiseAt_5]
    simp -implicitDefEqProofs (disch := omega) only [sm, Int.add_zero, e_nNo, ↓reduceIte, Int.reduceEq, cI_v, cL_v, cV_v, cR_v, wid, wid64, if_pos, if_neg, Nat.add_zero, if_true, if_false, and_self, and_true, true_and, and_false, false_and, or_true, true_or, or_false, false_or]
  | succ m ih =>
    intro n k v u5 u6 h1 h2 h3 h4 hn
    obtain ⟨n, rfl⟩ : ∃ e, n = e + 6 := ⟨n - 6, by omega⟩
    rw [q_X12_noiseAt_5]
    have b1 := hh.2.2.2.2.1 (18 + 3 * k).toNat (by omega) (by omega)
    have b2 := hh.2.2.2.2.1 (19 + 3 * k).toNat (by omega) (by omega)
    have b3 := hh.2.2.2.2.1 (20 + 3 * k).toNat (by omega) (by omega)
    simp -implicitDefEqProofs (disch := omega) only [q_X12_noiseAt_99, sm, e229, e_nNo, ↓reduceIte, Int.reduceEq, cI_v, cL_v, cV_v, cR_v, wid, wid64, if_pos, if_neg, Nat.add_zero, if_true, if_false, and_self, and_true, true_and, and_false, false_and, or_true, true_or, or_false, false_or]
    by_cases e1 : k = gi A 190 65
    · have L : loudF (hv A) (gi A 190 65) x y k = 0 := by unfold loudF; rw [if_pos (Or.inl e1)]
      simp -implicitDefEqProofs (disch := omega) only [ih, L, Int.zero_add, ↓reduceIte, Int.reduceEq, cI_v, cL_v, cV_v, cR_v, wid, wid64, if_pos, if_neg, Nat.add_zero, if_true, if_false, and_self, and_true, true_and, and_false, false_and, or_true, true_or, or_false, false_or]
    · by_cases e2 : hv A 229 (18 + 3 * k).toNat = y
      · rw [q_X12_noiseAt_45]
        have L : loudF (hv A) (gi A 190 65) x y k = max 0 (hv A 229 (20 + 3 * k).toNat - (if hv A 229 (19 + 3 * k).toNat - x < 0 then -(hv A 229 (19 + 3 * k).toNat - x) else hv A 229 (19 + 3 * k).toNat - x)) := by
          unfold loudF; rw [if_neg (by intro q; rcases q with q | q <;> contradiction)]
        rw [L]
        simp -implicitDefEqProofs (disch := omega) only [q_X12_noiseAt_86, q_X12_noiseAt_99, e229, ↓reduceIte, Int.reduceEq, cI_v, cL_v, cV_v, cR_v, wid, wid64, if_pos, if_neg, Nat.add_zero, if_true, if_false, and_self, and_true, true_and, and_false, false_and, or_true, true_or, or_false, false_or]
        by_cases e3 : hv A 229 (19 + 3 * k).toNat - x < 0
        · by_cases e4 : 0 < hv A 229 (20 + 3 * k).toNat - -(hv A 229 (19 + 3 * k).toNat - x)
          · simp -implicitDefEqProofs (disch := omega) only [ih, q_X12_noiseAt_86, q_X12_noiseAt_99, ↓reduceIte, Int.reduceEq, cI_v, cL_v, cV_v, cR_v, wid, wid64, if_pos, if_neg, Nat.add_zero, if_true, if_false, and_self, and_true, true_and, and_false, false_and, or_true, true_or, or_false, false_or]
            rw [Int.max_eq_right (by omega), Int.add_assoc]
          · simp -implicitDefEqProofs (disch := omega) only [ih, q_X12_noiseAt_86, q_X12_noiseAt_99, ↓reduceIte, Int.reduceEq, cI_v, cL_v, cV_v, cR_v, wid, wid64, if_pos, if_neg, Nat.add_zero, if_true, if_false, and_self, and_true, true_and, and_false, false_and, or_true, true_or, or_false, false_or]
            rw [Int.max_eq_left (by omega), Int.zero_add]
        · by_cases e4 : 0 < hv A 229 (20 + 3 * k).toNat - (hv A 229 (19 + 3 * k).toNat - x)
          · simp -implicitDefEqProofs (disch := omega) only [ih, q_X12_noiseAt_86, q_X12_noiseAt_99, ↓reduceIte, Int.reduceEq, cI_v, cL_v, cV_v, cR_v, wid, wid64, if_pos, if_neg, Nat.add_zero, if_true, if_false, and_self, and_true, true_and, and_false, false_and, or_true, true_or, or_false, false_or]
            rw [Int.max_eq_right (by omega), Int.add_assoc]
          · simp -implicitDefEqProofs (disch := omega) only [ih, q_X12_noiseAt_86, q_X12_noiseAt_99, ↓reduceIte, Int.reduceEq, cI_v, cL_v, cV_v, cR_v, wid, wid64, if_pos, if_neg, Nat.add_zero, if_true, if_false, and_self, and_true, true_and, and_false, false_and, or_true, true_or, or_false, false_or]
            rw [Int.max_eq_left (by omega), Int.zero_add]
      · have L : loudF (hv A) (gi A 190 65) x y k = 0 := by unfold loudF; rw [if_pos (Or.inr e2)]
        simp -implicitDefEqProofs (disch := omega) only [ih, L, Int.zero_add, ↓reduceIte, Int.reduceEq, cI_v, cL_v, cV_v, cR_v, wid, wid64, if_pos, if_neg, Nat.add_zero, if_true, if_false, and_self, and_true, true_and, and_false, false_and, or_true, true_or, or_false, false_or]
set_option maxRecDepth 100000 in
theorem s_noiseAt (d : Nat) (x y : Int) (A : AH) (hc : cok (hv A)) (hh : hok (hv A)) (hx1 : -1 ≤ x) (hx2 : x < 16) : runF (d + 1) 210 [vR 21 190 0, vI x, vI y] A = some (some (vI (noiseF (hv A) (gi A 190 65) x y)), A) := by
  have hc' := hc
  unfold cok at hc'
  rw [r_X12_noiseAt, q_X12_noiseAt_0, l_noiseAt d x y A hc hh hx1 hx2 (nNo (hv A)).toNat _ 0 0 _ _ (by omega) (by omega) (by omega) (by omega) (by have := fu_ge; omega), Int.zero_add]; rfl
