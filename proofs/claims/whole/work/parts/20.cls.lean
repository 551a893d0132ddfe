/-! the class: how its hall and its sitting stand to the reference's; its small methods -/
def exi (H : Nat → Nat → Int) (x : Int) : Prop := (0 ≤ x ∧ x < nPe H) ∨ (10 ≤ x ∧ x < 10 + nMu H)
def trC (v : Int) : Int := if 1000 ≤ v then v - 900 else if 7 ≤ v then v - 7 else v + 9
/-- the steps at p of one sum (w: 0 weigh, 1 cough) -/
def WR (A : AH) (p : Nat) (H : Nat → Nat → Int) (w : Int) : Prop := (H 231 (2 + w).toNat = -1 ∧ p = 0) ∨ (H 231 (2 + w).toNat ≠ -1 ∧ 271 ≤ p ∧ (ln A p : Int) = H 232 (2 + w).toNat - H 231 (2 + w).toNat ∧ ∀ k : Int, 0 ≤ k → k < (ln A p : Int) → gi A p k.toNat = trC (codF H (H 231 (2 + w).toNat + k)))
/-- no sum names the minute -/
def noMin (H : Nat → Nat → Int) : Prop := ∀ w : Int, 0 ≤ w → w ≤ 1 → H 231 (2 + w).toNat ≠ -1 → ∀ k : Int, H 231 (2 + w).toNat ≤ k → k < H 232 (2 + w).toNat → codF H k ≠ 14
/-- a name of the reference's as the class holds it: six places -/
def padN (v : Int) : Int := if v < 27 then v * 14348907 else if v < 729 then v * 531441 else if v < 19683 then v * 19683 else if v < 531441 then v * 729 else if v < 14348907 then v * 27 else v
def HR (A : AH) (h : Nat) (H : Nat → Nat → Int) : Prop := (h = 48 ∨ h = 58 ∨ 271 ≤ h) ∧ (gi A h 1 = nSe H ∧ gi A h 2 = nPe H ∧ gi A h 3 = nPo H ∧ gi A h 4 = nNo H ∧ gi A h 5 = nMu H ∧ gi A h 6 = nHa H)
  ∧ (∀ x : Int, exi H x → gi A (h + 2) x.toNat = keepsF H x ∧ gi A (h + 3) x.toNat = itchF H x)
  ∧ (∀ x : Int, 0 ≤ x → x < 16 → ¬ exi H x → gi A (h + 3) x.toNat = 0)
  ∧ (∀ k : Int, 0 ≤ k → k < nPe H → gi A (h + 4) k.toNat = H 226 (34 + 4 * k).toNat ∧ gi A (h + 5) k.toNat = H 226 (35 + 4 * k).toNat)
  ∧ (∀ k : Int, 0 ≤ k → k < nMu H → gi A (h + 6) k.toNat = H 227 (13 + 2 * k).toNat)
  ∧ (∀ k : Int, 0 ≤ k → k < 2 * nPo H → gi A (h + 7) k.toNat = H 228 (8 + k).toNat)
  ∧ (∀ k : Int, 0 ≤ k → k < 3 * nNo H → gi A (h + 8) k.toNat = H 229 (18 + k).toNat)
  ∧ (∀ k : Int, 0 ≤ k → k < 16 → gi A (h + 9) k.toNat = H 230 (16 + k).toNat)
  ∧ (∀ k : Int, 0 ≤ k → k < nPe H → gi A (h + 1) k.toNat = padN (H 225 (24 + k).toNat))
  ∧ (∀ k : Int, 0 ≤ k → k < nMu H → gi A (h + 1) (10 + k).toNat = padN (H 225 (32 + k).toNat))
  ∧ (∀ k : Int, 0 ≤ k → k < nPo H → gi A (h + 1) (16 + k).toNat = padN (H 225 (40 + k).toNat))
  ∧ WR A (gr A h 16) H 0 ∧ WR A (gr A h 17) H 1 ∧ (gi A h 18 = 0 ∨ gi A h 18 = 1) ∧ (gi A h 18 = 0 → noMin H)
def whoF (H : Nat → Nat → Int) (row : Nat → Int) (z : Int) : Int := ff (fun i => sit H row i && decide (seatR row i = z)) 16 0
def SR (A : AH) (s : Nat) (H : Nat → Nat → Int) (row : Nat → Int) : Prop := s ≠ 0 ∧ (gi A s 0 = row 0 ∧ gi A s 1 = row 1 ∧ gi A s 2 = row 2)
  ∧ (∀ x : Int, 0 ≤ x → x < 16 → gi A (s + 1) x.toNat = if sit H row x = true then seatR row x else -1)
  ∧ (∀ x : Int, 0 ≤ x → x < 16 → gi A (s + 2) x.toNat = if sit H row x = true then partyF H row x else 0)
  ∧ (∀ z : Int, 0 ≤ z → z < 9 → gi A (s + 3) z.toNat = whoF H row z)
/-- each has a seat of his own -/
def dok (H : Nat → Nat → Int) (row : Nat → Int) : Prop := (∀ x, sit H row x = true → 0 ≤ seatR row x ∧ seatR row x < nSe H) ∧ (∀ x y, sit H row x = true → sit H row y = true → seatR row x = seatR row y → x = y)
theorem sit_exi {H : Nat → Nat → Int} {row : Nat → Int} {x : Int} (h : sit H row x = true) : exi H x := by
  unfold sit at h; unfold exi
  simp only [Bool.or_eq_true, Bool.and_eq_true, decide_eq_true_eq] at h
  omega
theorem exi_num {H : Nat → Nat → Int} (hc : cok H) {x : Int} (h : exi H x) : num x := by
  unfold exi at h; unfold cok at hc; unfold num; omega
theorem HR_sc {A B : AH} (e : sc A B) {h : Nat} {H : Nat → Nat → Int} (r : HR A h H) : HR B h H := by
  have hh := r.1
  have g : ∀ a j, (a = h ∨ a = h + 1 ∨ a = h + 2 ∨ a = h + 3 ∨ a = h + 4 ∨ a = h + 5 ∨ a = h + 6 ∨ a = h + 7 ∨ a = h + 8 ∨ a = h + 9 ∨ 271 ≤ a) → gi B a j = gi A a j := fun a j ha => e.1 a j (by unfold scr; omega)
  have l : ∀ a, ln B a = ln A a := fun a => by unfold ln; rw [e.2.2]
  unfold HR WR at *
  rw [g h 1 (by omega), g h 2 (by omega), g h 3 (by omega), g h 4 (by omega), g h 5 (by omega), g h 6 (by omega), g h 18 (by omega), e.2.1 h 16 (by omega), e.2.1 h 17 (by omega)]
  simp only [l]
  obtain ⟨r1, r2, r3, r4, r5, r6, r7, r8, r9, r10, r11, r12, r13, r14, r15⟩ := r
  refine ⟨r1, r2, fun x hx => ?_, fun x h1 h2 h3 => ?_, fun k h1 h2 => ?_, fun k h1 h2 => ?_, fun k h1 h2 => ?_, fun k h1 h2 => ?_, fun k h1 h2 => ?_, fun k h1 h2 => ?_, fun k h1 h2 => ?_, fun k h1 h2 => ?_, ?_, ?_, r15⟩
  · rw [g _ _ (by omega), g _ _ (by omega)]; exact r3 x hx
  · rw [g _ _ (by omega)]; exact r4 x h1 h2 h3
  · rw [g _ _ (by omega), g _ _ (by omega)]; exact r5 k h1 h2
  · rw [g _ _ (by omega)]; exact r6 k h1 h2
  · rw [g _ _ (by omega)]; exact r7 k h1 h2
  · rw [g _ _ (by omega)]; exact r8 k h1 h2
  · rw [g _ _ (by omega)]; exact r9 k h1 h2
  · rw [g _ _ (by omega)]; exact r10 k h1 h2
  · rw [g _ _ (by omega)]; exact r11 k h1 h2
  · rw [g _ _ (by omega)]; exact r12 k h1 h2
  · rcases r13 with q | ⟨q1, q2, q3, q4⟩
    · exact Or.inl q
    · exact Or.inr ⟨q1, q2, q3, fun k h1 h2 => by rw [g _ _ (by omega)]; exact q4 k h1 h2⟩
  · rcases r14 with q | ⟨q1, q2, q3, q4⟩
    · exact Or.inl q
    · exact Or.inr ⟨q1, q2, q3, fun k h1 h2 => by rw [g _ _ (by omega)]; exact q4 k h1 h2⟩
/-- a sitting is as it was where its five cells are -/
theorem SR_fr {A B : AH} {s : Nat} {H : Nat → Nat → Int} {row : Nat → Int} (g : ∀ a j, s ≤ a → a ≤ s + 3 → gi B a j = gi A a j) (r : SR A s H row) : SR B s H row := by
  unfold SR at *
  rw [g s 0 (by omega) (by omega), g s 1 (by omega) (by omega), g s 2 (by omega) (by omega)]
  obtain ⟨r1, r2, r3, r4, r5⟩ := r
  refine ⟨r1, r2, fun x h1 h2 => ?_, fun x h1 h2 => ?_, fun x h1 h2 => ?_⟩
  · rw [g _ _ (by omega) (by omega)]; exact r3 x h1 h2
  · rw [g _ _ (by omega) (by omega)]; exact r4 x h1 h2
  · rw [g _ _ (by omega) (by omega)]; exact r5 x h1 h2
set_option maxRecDepth 100000 in
theorem s_abs (d : Nat) (x : Int) (A : AH) (h : -2147483648 < x) (h2 : x < 2147483648) : runF (d + 1) 303 [vI x] A = some (some (vI (if x < 0 then -x else x)), A) := by
  rw [r_J9_abs_0f7a4, q_J9_abs_0f7a4_0]
  by_cases c : x < 0 <;> simp -implicitDefEqProofs (disch := omega) only [↓reduceIte, Int.reduceEq, cI_v, cL_v, cV_v, cR_v, wid, wid64, if_pos, if_neg, Nat.add_zero, if_true, if_false, and_self, and_true, true_and, and_false, false_and, or_true, true_or, or_false, false_or]
set_option maxRecDepth 100000 in
theorem s_maxI (d : Nat) (x y : Int) (A : AH) : runF (d + 1) 304 [vI x, vI y] A = some (some (vI (max x y)), A) := by
  rw [r_J9_max_7cf53, q_J9_max_7cf53_0]
  by_cases c : x < y
  · simp -implicitDefEqProofs (disch := omega) only [Int.max_eq_right, ↓reduceIte, Int.reduceEq, cI_v, cL_v, cV_v, cR_v, wid, wid64, if_pos, if_neg, Nat.add_zero, if_true, if_false, and_self, and_true, true_and, and_false, false_and, or_true, true_or, or_false, false_or]
  · simp -implicitDefEqProofs (disch := omega) only [Int.max_eq_left, ↓reduceIte, Int.reduceEq, cI_v, cL_v, cV_v, cR_v, wid, wid64, if_pos, if_neg, Nat.add_zero, if_true, if_false, and_self, and_true, true_and, and_false, false_and, or_true, true_or, or_false, false_or]
set_option maxRecDepth 100000 in
theorem s_minI (d : Nat) (x y : Int) (A : AH) : runF (d + 1) 306 [vI x, vI y] A = some (some (vI (min x y)), A) := by
  rw [r_J9_min_7cf53, q_J9_min_7cf53_0]
  by_cases c : y < x
  · simp -implicitDefEqProofs (disch := omega) only [Int.min_eq_right, ↓reduceIte, Int.reduceEq, cI_v, cL_v, cV_v, cR_v, wid, wid64, if_pos, if_neg, Nat.add_zero, if_true, if_false, and_self, and_true, true_and, and_false, false_and, or_true, true_or, or_false, false_or]
  · simp -implicitDefEqProofs (disch := omega) only [Int.min_eq_left, ↓reduceIte, Int.reduceEq, cI_v, cL_v, cV_v, cR_v, wid, wid64, if_pos, if_neg, Nat.add_zero, if_true, if_false, and_self, and_true, true_and, and_false, false_and, or_true, true_or, or_false, false_or]
set_option maxRecDepth 100000 in
theorem s_maxL (d : Nat) (x y : Int) (A : AH) : runF (d + 1) 305 [vL x, vL y] A = some (some (vL (max x y)), A) := by
  rw [r_J9_max_f86c9, q_J9_max_f86c9_0]
  simp -implicitDefEqProofs (disch := omega) only [lcp_lt, ↓reduceIte, Int.reduceEq, cI_v, cL_v, cV_v, cR_v, wid, wid64, if_pos, if_neg, Nat.add_zero, if_true, if_false, and_self, and_true, true_and, and_false, false_and, or_true, true_or, or_false, false_or]
  by_cases c : x < y
  · simp -implicitDefEqProofs (disch := omega) only [Int.max_eq_right, ↓reduceIte, Int.reduceEq, cI_v, cL_v, cV_v, cR_v, wid, wid64, if_pos, if_neg, Nat.add_zero, if_true, if_false, and_self, and_true, true_and, and_false, false_and, or_true, true_or, or_false, false_or]
  · simp -implicitDefEqProofs (disch := omega) only [Int.max_eq_left, ↓reduceIte, Int.reduceEq, cI_v, cL_v, cV_v, cR_v, wid, wid64, if_pos, if_neg, Nat.add_zero, if_true, if_false, and_self, and_true, true_and, and_false, false_and, or_true, true_or, or_false, false_or]
set_option maxRecDepth 100000 in
theorem s_minL (d : Nat) (x y : Int) (A : AH) : runF (d + 1) 307 [vL x, vL y] A = some (some (vL (min x y)), A) := by
  rw [r_J9_min_f86c9, q_J9_min_f86c9_0]
  simp -implicitDefEqProofs (disch := omega) only [lcp_gt, ↓reduceIte, Int.reduceEq, cI_v, cL_v, cV_v, cR_v, wid, wid64, if_pos, if_neg, Nat.add_zero, if_true, if_false, and_self, and_true, true_and, and_false, false_and, or_true, true_or, or_false, false_or]
  by_cases c : y < x
  · simp -implicitDefEqProofs (disch := omega) only [Int.min_eq_right, ↓reduceIte, Int.reduceEq, cI_v, cL_v, cV_v, cR_v, wid, wid64, if_pos, if_neg, Nat.add_zero, if_true, if_false, and_self, and_true, true_and, and_false, false_and, or_true, true_or, or_false, false_or]
  · simp -implicitDefEqProofs (disch := omega) only [Int.min_eq_left, ↓reduceIte, Int.reduceEq, cI_v, cL_v, cV_v, cR_v, wid, wid64, if_pos, if_neg, Nat.add_zero, if_true, if_false, and_self, and_true, true_and, and_false, false_and, or_true, true_or, or_false, false_or]
theorem bxor_neg {x y : Int} (hx : in32 x) (hy : in32 y) : (bxor x y < 0) ↔ ((x < 0) ≠ (y < 0)) := by
  have e : ∀ z : Int, in32 z → ((c32 z).toBitVec.msb = true ↔ z < 0) := by
    intro z hz
    have := BitVec.msb_eq_toInt (x := (c32 z).toBitVec)
    rw [this, decide_eq_true_eq]
    show (c32 z).toInt < 0 ↔ _
    rw [c32_toInt hz]
  have hb : in32 (bxor x y) := by rw [bxor_eq]; exact in32_of _
  rw [← e _ hb, c32_bxor, Int32.toBitVec_xor, BitVec.msb_xor, ← propext (e x hx), ← propext (e y hy)]
  cases (c32 x).toBitVec.msb <;> cases (c32 y).toBitVec.msb <;> simp
set_option maxRecDepth 100000 in
theorem s_floorDiv (d : Nat) (a b : Int) (A : AH) (h1 : -1000000 ≤ a ∧ a ≤ 1000000) (h2 : -1000000 ≤ b ∧ b ≤ 1000000) (hb : b ≠ 0) : runF (d + 1) 302 [vI a, vI b] A = some (some (vI (a.fdiv b)), A) := by
  have hf := fdiv_bd (b := b) h1.1 h1.2
  have ht : -1000000 ≤ a.tdiv b ∧ a.tdiv b ≤ 1000000 := by
    have h : (a.tdiv b).natAbs ≤ a.natAbs := by rw [Int.natAbs_tdiv]; exact Nat.div_le_self _ _
    omega
  have hx := bxor_neg (x := a) (y := b) (by unfold in32; omega) (by unfold in32; omega)
  have hm : (a.tdiv b * b).natAbs ≤ a.natAbs := by
    rw [Int.natAbs_mul, Int.natAbs_tdiv]; exact Nat.div_mul_le_self _ _
  have hz : a.tdiv b * b = a ↔ a.tmod b = 0 := by
    rw [Int.tmod_def, Int.mul_comm b]; omega
  rw [r_J9_floorDiv_7cf53, q_J9_floorDiv_7cf53_0]
  simp -implicitDefEqProofs (disch := omega) only [↓reduceIte, Int.reduceEq, cI_v, cL_v, cV_v, cR_v, wid, wid64, if_pos, if_neg, Nat.add_zero, if_true, if_false, and_self, and_true, true_and, and_false, false_and, or_true, true_or, or_false, false_or]
  rw [Int.fdiv_eq_tdiv]
  by_cases c : bxor a b < 0
  · have c2 := hx.mp c
    rw [if_pos c]
    by_cases q : a.tdiv b * b = a
    · rw [if_pos q, if_pos (Int.dvd_of_tmod_eq_zero (hz.mp q)), Int.sub_zero]
    · rw [if_neg q, if_neg (fun z => q (hz.mpr (Int.tmod_eq_zero_of_dvd z)))]
      by_cases ha : a < 0
      · have hb2 : ¬ b < 0 := fun z => c2 (by simp [ha, z])
        simp -implicitDefEqProofs (disch := omega) only [↓reduceIte, Int.reduceEq, cI_v, cL_v, cV_v, cR_v, wid, wid64, if_pos, if_neg, Nat.add_zero, if_true, if_false, and_self, and_true, true_and, and_false, false_and, or_true, true_or, or_false, false_or]; rw [Int.sign_eq_one_of_pos (by omega)]
      · have hb2 : b < 0 := by
          by_cases z : b < 0
          · exact z
          · exact absurd (by simp [ha, z]) c2
        simp -implicitDefEqProofs (disch := omega) only [↓reduceIte, Int.reduceEq, cI_v, cL_v, cV_v, cR_v, wid, wid64, if_pos, if_neg, Nat.add_zero, if_true, if_false, and_self, and_true, true_and, and_false, false_and, or_true, true_or, or_false, false_or]
  · have c2 : (a < 0) = (b < 0) := by
      by_cases z : (a < 0) = (b < 0)
      · exact z
      · exact absurd (hx.mpr z) c
    rw [if_neg c]
    by_cases q : a.tdiv b * b = a
    · rw [if_pos (Int.dvd_of_tmod_eq_zero (hz.mp q)), Int.sub_zero]
    · rw [if_neg (fun z => q (hz.mpr (Int.tmod_eq_zero_of_dvd z)))]
      by_cases ha : a < 0
      · have hb2 : b < 0 := by rw [← c2]; exact ha
        simp -implicitDefEqProofs (disch := omega) only [↓reduceIte, Int.reduceEq, cI_v, cL_v, cV_v, cR_v, wid, wid64, if_pos, if_neg, Nat.add_zero, if_true, if_false, and_self, and_true, true_and, and_false, false_and, or_true, true_or, or_false, false_or]; rw [Int.sign_eq_neg_one_of_neg hb2]; simp
      · have hb2 : ¬ b < 0 := by rw [← c2]; exact ha
        simp -implicitDefEqProofs (disch := omega) only [Int.sub_zero, ↓reduceIte, Int.reduceEq, cI_v, cL_v, cV_v, cR_v, wid, wid64, if_pos, if_neg, Nat.add_zero, if_true, if_false, and_self, and_true, true_and, and_false, false_and, or_true, true_or, or_false, false_or]
def cutF (y lo hi : Int) : Int := if y < lo then lo else if hi < y then hi else y
set_option maxRecDepth 100000 in
theorem s_cut (d : Nat) (y lo hi : Int) (A : AH) (h1 : -2147483648 ≤ lo) (h2 : hi < 2147483648) : runF (d + 1) 147 [vL y, vI lo, vI hi] A = some (some (vI (cutF y lo hi)), A) := by
  rw [r_X11_cut, q_X11_cut_0]
  simp -implicitDefEqProofs (disch := omega) only [lcp_lt, lcp_gt, ↓reduceIte, Int.reduceEq, cI_v, cL_v, cV_v, cR_v, wid, wid64, if_pos, if_neg, Nat.add_zero, if_true, if_false, and_self, and_true, true_and, and_false, false_and, or_true, true_or, or_false, false_or]
  unfold cutF
  by_cases c : y < lo
  · simp -implicitDefEqProofs (disch := omega) only [↓reduceIte, Int.reduceEq, cI_v, cL_v, cV_v, cR_v, wid, wid64, if_pos, if_neg, Nat.add_zero, if_true, if_false, and_self, and_true, true_and, and_false, false_and, or_true, true_or, or_false, false_or]
  · by_cases c2 : hi < y <;> simp -implicitDefEqProofs (disch := omega) only [↓reduceIte, Int.reduceEq, cI_v, cL_v, cV_v, cR_v, wid, wid64, if_pos, if_neg, Nat.add_zero, if_true, if_false, and_self, and_true, true_and, and_false, false_and, or_true, true_or, or_false, false_or]
set_option maxRecDepth 100000 in
theorem s_isThere (d : Nat) (s : Nat) (x : Int) (A : AH) (H : Nat → Nat → Int) (row : Nat → Int) (hc : cok H) (hd : dok H row) (r : SR A s H row) : runF (d + 1) 98 [vR 19 s 0, vI x] A = some (some (vI (bI (sit H row x))), A) := by
  have hs : s ≠ 0 := r.1
  rw [r_X9_isThere, q_X9_isThere_0 _ _ _ _ _ _ r.1]
  simp -implicitDefEqProofs (disch := omega) only [q_X9_isThere_24, ↓reduceIte, Int.reduceEq, cI_v, cL_v, cV_v, cR_v, wid, wid64, if_pos, if_neg, Nat.add_zero, if_true, if_false, and_self, and_true, true_and, and_false, false_and, or_true, true_or, or_false, false_or]
  by_cases c1 : 0 ≤ x ∧ x < 16
  · have e := r.2.2.1 x c1.1 c1.2
    simp -implicitDefEqProofs (disch := omega) only [e, ↓reduceIte, Int.reduceEq, cI_v, cL_v, cV_v, cR_v, wid, wid64, if_pos, if_neg, Nat.add_zero, if_true, if_false, and_self, and_true, true_and, and_false, false_and, or_true, true_or, or_false, false_or]
    by_cases c : sit H row x = true
    · have := hd.1 x c
      simp -implicitDefEqProofs (disch := omega) only [c, bI_t, ↓reduceIte, Int.reduceEq, cI_v, cL_v, cV_v, cR_v, wid, wid64, if_pos, if_neg, Nat.add_zero, if_true, if_false, and_self, and_true, true_and, and_false, false_and, or_true, true_or, or_false, false_or]
    · have c' : sit H row x = false := by simpa using c
      simp -implicitDefEqProofs (disch := omega) only [c', bI_f, Bool.false_eq_true, ↓reduceIte, Int.reduceEq, cI_v, cL_v, cV_v, cR_v, wid, wid64, if_pos, if_neg, Nat.add_zero, if_true, if_false, and_self, and_true, true_and, and_false, false_and, or_true, true_or, or_false, false_or]
  · have e : sit H row x = false := by
      by_cases c : sit H row x = true
      · have := sit_num hc c; unfold num at this; omega
      · simpa using c
    rw [e]
    by_cases c : x < 0 <;> simp -implicitDefEqProofs (disch := omega) only [bI_f, ↓reduceIte, Int.reduceEq, cI_v, cL_v, cV_v, cR_v, wid, wid64, if_pos, if_neg, Nat.add_zero, if_true, if_false, and_self, and_true, true_and, and_false, false_and, or_true, true_or, or_false, false_or]
set_option maxRecDepth 100000 in
theorem s_whoSits (d : Nat) (s : Nat) (z : Int) (A : AH) (H : Nat → Nat → Int) (row : Nat → Int) (hc : cok H) (hd : dok H row) (r : SR A s H row) : runF (d + 1) 99 [vR 19 s 0, vI z] A = some (some (vI (whoF H row z)), A) := by
  have hs : s ≠ 0 := r.1
  rw [r_X9_whoSits, q_X9_whoSits_0 _ _ _ _ _ _ r.1]
  simp -implicitDefEqProofs (disch := omega) only [q_X9_whoSits_19, ↓reduceIte, Int.reduceEq, cI_v, cL_v, cV_v, cR_v, wid, wid64, if_pos, if_neg, Nat.add_zero, if_true, if_false, and_self, and_true, true_and, and_false, false_and, or_true, true_or, or_false, false_or]
  by_cases c1 : 0 ≤ z ∧ z < 9
  · have e := r.2.2.2.2 z c1.1 c1.2
    simp -implicitDefEqProofs (disch := omega) only [e, ↓reduceIte, Int.reduceEq, cI_v, cL_v, cV_v, cR_v, wid, wid64, if_pos, if_neg, Nat.add_zero, if_true, if_false, and_self, and_true, true_and, and_false, false_and, or_true, true_or, or_false, false_or]
  · have e : whoF H row z = -1 := by
      unfold whoF
      rw [ff_none 16 0 (by omega)]
      intro j _ _
      by_cases c : sit H row j = true
      · have := hd.1 j c
        unfold cok at hc
        rw [c, decide_eq_false (by omega)]; rfl
      · simp [c]
    rw [e]
    by_cases c : z < 0 <;> simp -implicitDefEqProofs (disch := omega) only [↓reduceIte, Int.reduceEq, cI_v, cL_v, cV_v, cR_v, wid, wid64, if_pos, if_neg, Nat.add_zero, if_true, if_false, and_self, and_true, true_and, and_false, false_and, or_true, true_or, or_false, false_or]
set_option maxRecDepth 100000 in
theorem s_areFoes (d : Nat) (h : Nat) (x y : Int) (A : AH) (H : Nat → Nat → Int) (hh : hok H) (r : HR A h H) (hx1 : 0 ≤ x) (hx2 : x < 16) (hy1 : 0 ≤ y) (hy2 : y < 16) : runF (d + 1) 51 [vR 13 h 0, vI x, vI y] A = some (some (vI (bI (foeF H x y))), A) := by
  have h0 : h ≠ 0 := by have := r.1; omega
  have e1 := r.2.2.2.2.2.2.2.2.1 x hx1 hx2
  have e2 := r.2.2.2.2.2.2.2.2.1 y hy1 hy2
  have b1 := hh.2.2.2.2.2.1 (16 + x).toNat (by omega) (by omega)
  have b2 := hh.2.2.2.2.2.1 (16 + y).toNat (by omega) (by omega)
  rw [r_X3_areFoes, q_X3_areFoes_0 _ _ _ _ _ _ _ h0]
  simp -implicitDefEqProofs (disch := omega) only [e1, e2, band_tb, bI_0, ite_f, q_X3_areFoes_26, ↓reduceIte, Int.reduceEq, cI_v, cL_v, cV_v, cR_v, wid, wid64, if_pos, if_neg, Nat.add_zero, if_true, if_false, and_self, and_true, true_and, and_false, false_and, or_true, true_or, or_false, false_or]
  unfold foeF
  by_cases c1 : tb (H 230 (16 + x).toNat) y = true
  · simp [c1, bI]
  · by_cases c2 : tb (H 230 (16 + y).toNat) x = true <;> simp [c1, c2, bI]
set_option maxRecDepth 100000 in
theorem s_isPointC (d : Nat) (h : Nat) (x : Int) (A : AH) (H : Nat → Nat → Int) (r : HR A h H) : runF (d + 1) 46 [vR 13 h 0, vI x] A = some (some (vI (bI (decide (0 ≤ x ∧ x < nPo H)))), A) := by
  have h0 : h ≠ 0 := by have := r.1; omega
  rw [r_X3_isPoint, q_X3_isPoint_0 _ _ _ _ _ _ h0, r.2.1.2.2.1]
  simp -implicitDefEqProofs (disch := omega) only [q_X3_isPoint_16, ↓reduceIte, Int.reduceEq, cI_v, cL_v, cV_v, cR_v, wid, wid64, if_pos, if_neg, Nat.add_zero, if_true, if_false, and_self, and_true, true_and, and_false, false_and, or_true, true_or, or_false, false_or]
  by_cases c1 : x < 0
  · simp -implicitDefEqProofs (disch := omega) only [↓reduceIte, Int.reduceEq, cI_v, cL_v, cV_v, cR_v, wid, wid64, if_pos, if_neg, Nat.add_zero, if_true, if_false, and_self, and_true, true_and, and_false, false_and, or_true, true_or, or_false, false_or]; rw [decide_eq_false (by omega)]; rfl
  · by_cases c2 : x < nPo H
    · simp -implicitDefEqProofs (disch := omega) only [↓reduceIte, Int.reduceEq, cI_v, cL_v, cV_v, cR_v, wid, wid64, if_pos, if_neg, Nat.add_zero, if_true, if_false, and_self, and_true, true_and, and_false, false_and, or_true, true_or, or_false, false_or]; rw [decide_eq_true (by omega)]; rfl
    · simp -implicitDefEqProofs (disch := omega) only [↓reduceIte, Int.reduceEq, cI_v, cL_v, cV_v, cR_v, wid, wid64, if_pos, if_neg, Nat.add_zero, if_true, if_false, and_self, and_true, true_and, and_false, false_and, or_true, true_or, or_false, false_or]; rw [decide_eq_false (by omega)]; rfl
set_option maxRecDepth 100000 in
theorem s_isSeatC (d : Nat) (h : Nat) (x : Int) (A : AH) (H : Nat → Nat → Int) (r : HR A h H) : runF (d + 1) 44 [vR 13 h 0, vI x] A = some (some (vI (bI (decide (0 ≤ x ∧ x < nSe H)))), A) := by
  have h0 : h ≠ 0 := by have := r.1; omega
  rw [r_X3_isSeat, q_X3_isSeat_0 _ _ _ _ _ _ h0, r.2.1.1]
  simp -implicitDefEqProofs (disch := omega) only [q_X3_isSeat_16, ↓reduceIte, Int.reduceEq, cI_v, cL_v, cV_v, cR_v, wid, wid64, if_pos, if_neg, Nat.add_zero, if_true, if_false, and_self, and_true, true_and, and_false, false_and, or_true, true_or, or_false, false_or]
  by_cases c1 : x < 0
  · simp -implicitDefEqProofs (disch := omega) only [↓reduceIte, Int.reduceEq, cI_v, cL_v, cV_v, cR_v, wid, wid64, if_pos, if_neg, Nat.add_zero, if_true, if_false, and_self, and_true, true_and, and_false, false_and, or_true, true_or, or_false, false_or]; rw [decide_eq_false (by omega)]; rfl
  · by_cases c2 : x < nSe H
    · simp -implicitDefEqProofs (disch := omega) only [↓reduceIte, Int.reduceEq, cI_v, cL_v, cV_v, cR_v, wid, wid64, if_pos, if_neg, Nat.add_zero, if_true, if_false, and_self, and_true, true_and, and_false, false_and, or_true, true_or, or_false, false_or]; rw [decide_eq_true (by omega)]; rfl
    · simp -implicitDefEqProofs (disch := omega) only [↓reduceIte, Int.reduceEq, cI_v, cL_v, cV_v, cR_v, wid, wid64, if_pos, if_neg, Nat.add_zero, if_true, if_false, and_self, and_true, true_and, and_false, false_and, or_true, true_or, or_false, false_or]; rw [decide_eq_false (by omega)]; rfl
set_option maxRecDepth 100000 in
theorem s_isMuteC (d : Nat) (h : Nat) (x : Int) (A : AH) (H : Nat → Nat → Int) (r : HR A h H) : runF (d + 1) 45 [vR 13 h 0, vI x] A = some (some (vI (bI (decide (0 ≤ x ∧ x < nMu H)))), A) := by
  have h0 : h ≠ 0 := by have := r.1; omega
  rw [r_X3_isMute, q_X3_isMute_0 _ _ _ _ _ _ h0, r.2.1.2.2.2.2.1]
  simp -implicitDefEqProofs (disch := omega) only [q_X3_isMute_16, ↓reduceIte, Int.reduceEq, cI_v, cL_v, cV_v, cR_v, wid, wid64, if_pos, if_neg, Nat.add_zero, if_true, if_false, and_self, and_true, true_and, and_false, false_and, or_true, true_or, or_false, false_or]
  by_cases c1 : x < 0
  · simp -implicitDefEqProofs (disch := omega) only [↓reduceIte, Int.reduceEq, cI_v, cL_v, cV_v, cR_v, wid, wid64, if_pos, if_neg, Nat.add_zero, if_true, if_false, and_self, and_true, true_and, and_false, false_and, or_true, true_or, or_false, false_or]; rw [decide_eq_false (by omega)]; rfl
  · by_cases c2 : x < nMu H
    · simp -implicitDefEqProofs (disch := omega) only [↓reduceIte, Int.reduceEq, cI_v, cL_v, cV_v, cR_v, wid, wid64, if_pos, if_neg, Nat.add_zero, if_true, if_false, and_self, and_true, true_and, and_false, false_and, or_true, true_or, or_false, false_or]; rw [decide_eq_true (by omega)]; rfl
    · simp -implicitDefEqProofs (disch := omega) only [↓reduceIte, Int.reduceEq, cI_v, cL_v, cV_v, cR_v, wid, wid64, if_pos, if_neg, Nat.add_zero, if_true, if_false, and_self, and_true, true_and, and_false, false_and, or_true, true_or, or_false, false_or]; rw [decide_eq_false (by omega)]; rfl
set_option maxRecDepth 100000 in
theorem l_noiseC (d : Nat) (h : Nat) (x y q : Int) (A : AH) (H : Nat → Nat → Int) (hc : cok H) (hh : hok H) (r : HR A h H) (hx1 : -1 ≤ x) (hx2 : x < 16) : ∀ (m n : Nat) (k v : Int), 0 ≤ k → k + m = nNo H → 0 ≤ v → v ≤ 200 * k → 6 * m + 2 ≤ n → go true 0 (runF (d + 1)) (runN (d + 1)) pb_X3_noiseAt n 6 [vR 13 h 0, vI x, vI y, vI q, vI v, vI k] [] A = some (some (vI (v + sm (loudF H q x y) m k)), A) := by
  have h0 : h ≠ 0 := by have := r.1; omega
  have eN := r.2.1.2.2.2.1
  have eS := r.2.2.2.2.2.2.2.1
  unfold cok at hc
  intro m
  induction m with
  | zero =>
    intro n k v h1 h2 h3 h4 hn
    obtain ⟨n, rfl⟩ : ∃ e, n = e + 2 := ⟨n - 2, by omega⟩
    rw [q_X3_noiseAt_6 _ _ _ _ _ _ _ _ _ _ h0, eN]
    simp -implicitDefEqProofs (disch := omega) only [sm, Int.add_zero, ↓reduceIte, Int.reduceEq, cI_v, cL_v, cV_v, cR_v, wid, wid64, if_pos, if_neg, Nat.add_zero, if_true, if_false, and_self, and_true, true_and, and_false, false_and, or_true, true_or, or_false, false_or]
  | succ m ih =>
    intro n k v h1 h2 h3 h4 hn
    obtain ⟨n, rfl⟩ : ∃ e, n = e + 6 := ⟨n - 6, by omega⟩
    rw [q_X3_noiseAt_6 _ _ _ _ _ _ _ _ _ _ h0, eN]
    have b1 := hh.2.2.2.2.1 (18 + 3 * k).toNat (by omega) (by omega)
    have b2 := hh.2.2.2.2.1 (19 + 3 * k).toNat (by omega) (by omega)
    have b3 := hh.2.2.2.2.1 (20 + 3 * k).toNat (by omega) (by omega)
    have e1 := eS (3 * k) (by omega) (by omega)
    have e2 := eS (3 * k + 1) (by omega) (by omega)
    have e3 := eS (3 * k + 2) (by omega) (by omega)
    rw [show 18 + (3 * k + 1) = 19 + 3 * k by omega] at e2
    rw [show 18 + (3 * k + 2) = 20 + 3 * k by omega] at e3
    simp -implicitDefEqProofs (disch := omega) only [q_X3_noiseAt_71, sm, e1, e2, e3, ↓reduceIte, Int.reduceEq, cI_v, cL_v, cV_v, cR_v, wid, wid64, if_pos, if_neg, Nat.add_zero, if_true, if_false, and_self, and_true, true_and, and_false, false_and, or_true, true_or, or_false, false_or]
    by_cases f2 : H 229 (18 + 3 * k).toNat = y
    · by_cases f1 : k = q
      · have L : loudF H q x y k = 0 := by unfold loudF; rw [if_pos (Or.inl f1)]
        simp -implicitDefEqProofs (disch := omega) only [ih, L, Int.zero_add, ↓reduceIte, Int.reduceEq, cI_v, cL_v, cV_v, cR_v, wid, wid64, if_pos, if_neg, Nat.add_zero, if_true, if_false, and_self, and_true, true_and, and_false, false_and, or_true, true_or, or_false, false_or]
      · have L : loudF H q x y k = max 0 (H 229 (20 + 3 * k).toNat - (if x - H 229 (19 + 3 * k).toNat < 0 then -(x - H 229 (19 + 3 * k).toNat) else x - H 229 (19 + 3 * k).toNat)) := by
          unfold loudF; rw [if_neg (by intro q; rcases q with q | q <;> contradiction)]
          by_cases g1 : x - H 229 (19 + 3 * k).toNat < 0
          · rw [if_pos g1, if_neg (by omega)]; congr 2; omega
          · rw [if_neg g1]
            by_cases g2 : H 229 (19 + 3 * k).toNat - x < 0
            · rw [if_pos g2]; congr 2; omega
            · rw [if_neg g2]; congr 2; omega
        have Lb := loud_bd hh (q := q) (s := x) (m := y) h1 (by omega : k < 6)
        rw [L] at Lb
        rw [L]
        have ab : -200 ≤ (if x - H 229 (19 + 3 * k).toNat < 0 then -(x - H 229 (19 + 3 * k).toNat) else x - H 229 (19 + 3 * k).toNat) ∧ (if x - H 229 (19 + 3 * k).toNat < 0 then -(x - H 229 (19 + 3 * k).toNat) else x - H 229 (19 + 3 * k).toNat) ≤ 200 := by
          split <;> omega
        simp -implicitDefEqProofs (disch := omega) only [s_abs, s_maxI, ih, Int.add_assoc, ↓reduceIte, Int.reduceEq, cI_v, cL_v, cV_v, cR_v, wid, wid64, if_pos, if_neg, Nat.add_zero, if_true, if_false, and_self, and_true, true_and, and_false, false_and, or_true, true_or, or_false, false_or]
    · have L : loudF H q x y k = 0 := by unfold loudF; rw [if_pos (Or.inr f2)]
      simp -implicitDefEqProofs (disch := omega) only [ih, L, Int.zero_add, ↓reduceIte, Int.reduceEq, cI_v, cL_v, cV_v, cR_v, wid, wid64, if_pos, if_neg, Nat.add_zero, if_true, if_false, and_self, and_true, true_and, and_false, false_and, or_true, true_or, or_false, false_or]
set_option maxRecDepth 100000 in
theorem s_noiseC (d : Nat) (h : Nat) (x y q : Int) (A : AH) (H : Nat → Nat → Int) (hc : cok H) (hh : hok H) (r : HR A h H) (hx1 : -1 ≤ x) (hx2 : x < 16) : runF (d + 2) 49 [vR 13 h 0, vI x, vI y, vI q] A = some (some (vI (noiseF H q x y)), A) := by
  have h0 : h ≠ 0 := by have := r.1; omega
  have hc' := hc
  unfold cok at hc'
  rw [r_X3_noiseAt, q_X3_noiseAt_0 _ _ _ _ _ _ _ _ h0, l_noiseC d h x y q A H hc hh r hx1 hx2 (nNo H).toNat _ 0 0 (by omega) (by omega) (by omega) (by omega) (by have := fu_ge; omega), Int.zero_add]; rfl
def noisyF (H : Nat → Nat → Int) (y : Int) : Bool := ex (fun k => decide (H 229 (18 + 3 * k).toNat = y)) (nNo H).toNat 0
set_option maxRecDepth 100000 in
theorem l_noisy (d : Nat) (h : Nat) (y : Int) (A : AH) (H : Nat → Nat → Int) (hc : cok H) (r : HR A h H) : ∀ (m n : Nat) (k : Int), 0 ≤ k → k + m = nNo H → 6 * m + 2 ≤ n → go true 2 (runF d) (runN d) pb_X3_isNoisy n 2 [vR 13 h 0, vI y, vI k] [] A = some (some (vI (bI (ex (fun k => decide (H 229 (18 + 3 * k).toNat = y)) m k))), A) := by
  have h0 : h ≠ 0 := by have := r.1; omega
  have eN := r.2.1.2.2.2.1
  have eS := r.2.2.2.2.2.2.2.1
  unfold cok at hc
  intro m
  induction m with
  | zero =>
    intro n k h1 h2 hn
    obtain ⟨n, rfl⟩ : ∃ e, n = e + 2 := ⟨n - 2, by omega⟩
    rw [q_X3_isNoisy_2 _ _ _ _ _ _ _ h0, eN]
    simp -implicitDefEqProofs (disch := omega) only [ex, bI_f, ↓reduceIte, Int.reduceEq, cI_v, cL_v, cV_v, cR_v, wid, wid64, if_pos, if_neg, Nat.add_zero, if_true, if_false, and_self, and_true, true_and, and_false, false_and, or_true, true_or, or_false, false_or]
  | succ m ih =>
    intro n k h1 h2 hn
    obtain ⟨n, rfl⟩ : ∃ e, n = e + 6 := ⟨n - 6, by omega⟩
    rw [q_X3_isNoisy_2 _ _ _ _ _ _ _ h0, eN]
    have e1 := eS (3 * k) (by omega) (by omega)
    simp -implicitDefEqProofs (disch := omega) only [ex, e1, ↓reduceIte, Int.reduceEq, cI_v, cL_v, cV_v, cR_v, wid, wid64, if_pos, if_neg, Nat.add_zero, if_true, if_false, and_self, and_true, true_and, and_false, false_and, or_true, true_or, or_false, false_or]
    by_cases f2 : H 229 (18 + 3 * k).toNat = y
    · simp -implicitDefEqProofs (disch := omega) only [decide_eq_true f2, Bool.true_or, bI_t, ↓reduceIte, Int.reduceEq, cI_v, cL_v, cV_v, cR_v, wid, wid64, if_pos, if_neg, Nat.add_zero, if_true, if_false, and_self, and_true, true_and, and_false, false_and, or_true, true_or, or_false, false_or]
    · simp -implicitDefEqProofs (disch := omega) only [decide_eq_false f2, Bool.false_or, ih, ↓reduceIte, Int.reduceEq, cI_v, cL_v, cV_v, cR_v, wid, wid64, if_pos, if_neg, Nat.add_zero, if_true, if_false, and_self, and_true, true_and, and_false, false_and, or_true, true_or, or_false, false_or]
set_option maxRecDepth 100000 in
theorem s_isNoisy (d : Nat) (h : Nat) (y : Int) (A : AH) (H : Nat → Nat → Int) (hc : cok H) (r : HR A h H) : runF (d + 1) 50 [vR 13 h 0, vI y] A = some (some (vI (bI (noisyF H y))), A) := by
  have h0 : h ≠ 0 := by have := r.1; omega
  have hc' := hc
  unfold cok at hc'
  rw [r_X3_isNoisy, q_X3_isNoisy_0 _ _ _ _ _ _ h0, l_noisy d h y A H hc r (nNo H).toNat _ 0 (by omega) (by omega) (by have := fu_ge; omega)]; rfl
