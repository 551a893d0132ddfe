/-! a question's steps reckoned by the reference -/
def plQ (A : AH) : List Int → Prop
  | [] => True
  | x :: r => gi A 269 r.length = x ∧ plQ A r
theorem plQ_fr {A B : AH} : ∀ {st : List Int}, (∀ j, j < st.length → gi B 269 j = gi A 269 j) → plQ A st → plQ B st
  | [], _, _ => trivial
  | x :: r, h, p => ⟨(h r.length (by simp)).trans p.1, plQ_fr (fun j hj => h j (by simp; omega)) p.2⟩
def scq (A B : AH) : Prop := (∀ a j, ¬ (a = 190 ∧ j = 106) → a ≠ 269 → gi B a j = gi A a j) ∧ (∀ a j, gr B a j = gr A a j) ∧ B.2.2 = A.2.2
theorem scq_refl (A : AH) : scq A A := ⟨fun _ _ _ _ => rfl, fun _ _ => rfl, rfl⟩
theorem scq_trans {A B C : AH} (f : scq A B) (g : scq B C) : scq A C := ⟨fun a j h1 h2 => (g.1 a j h1 h2).trans (f.1 a j h1 h2), fun a j => (g.2.1 a j).trans (f.2.1 a j), g.2.2.trans f.2.2⟩
theorem scq_sc {A B : AH} (f : scq A B) : sc A B := ⟨fun a j h => f.1 a j (fun y => h (by unfold scr; omega)) (fun y => h (by unfold scr; omega)), fun a j _ => f.2.1 a j, f.2.2⟩
theorem scq_wi {A B : AH} {a k : Nat} (v : Int) (h : (a = 190 ∧ k = 106) ∨ a = 269) (f : scq A B) : scq A (wi B a k v) := scq_trans f ⟨fun b j h1 h2 => by rw [gi_wi, if_neg (by omega)], fun _ _ => rfl, rfl⟩
set_option maxRecDepth 100000 in
theorem s_qclip (d : Nat) (x : Int) (A : AH) : runF (d + 1) 281 [vL x] A = some (some (vL (clipF x)), A) := by
  rw [r_X12_qClip, q_X12_qClip_0]
  unfold clipF
  simp -implicitDefEqProofs (disch := omega) only [lcp_gt, lcp_lt, ↓reduceIte, Int.reduceEq, cI_v, cL_v, cV_v, cR_v, wid, wid64, if_pos, if_neg, Nat.add_zero, if_true, if_false, and_self, and_true, true_and, and_false, false_and, or_true, true_or, or_false, false_or]
  by_cases c1 : 1000000 < x
  · simp -implicitDefEqProofs (disch := omega) only [↓reduceIte, Int.reduceEq, cI_v, cL_v, cV_v, cR_v, wid, wid64, if_pos, if_neg, Nat.add_zero, if_true, if_false, and_self, and_true, true_and, and_false, false_and, or_true, true_or, or_false, false_or]
  · by_cases c2 : x < -1000000 <;> simp -implicitDefEqProofs (disch := omega) only [↓reduceIte, Int.reduceEq, cI_v, cL_v, cV_v, cR_v, wid, wid64, if_pos, if_neg, Nat.add_zero, if_true, if_false, and_self, and_true, true_and, and_false, false_and, or_true, true_or, or_false, false_or]
set_option maxRecDepth 100000 in
theorem s_qfloor (d : Nat) (a b : Int) (A : AH) (h1 : -1000000 ≤ a) (h2 : a ≤ 1000000) : runF (d + 1) 282 [vL a, vL b] A = some (some (vL (a.fdiv b)), A) := by
  have hf := fdiv_bd (b := b) h1 h2
  rw [r_X12_qFloor, q_X12_qFloor_0]
  simp -implicitDefEqProofs (disch := omega) only [lcp_eq, lcp_lt, q_X12_qFloor_53, q_X12_qFloor_32, q_X12_qFloor_43, ↓reduceIte, Int.reduceEq, cI_v, cL_v, cV_v, cR_v, wid, wid64, if_pos, if_neg, Nat.add_zero, if_true, if_false, and_self, and_true, true_and, and_false, false_and, or_true, true_or, or_false, false_or]
  by_cases hb : b = 0
  · subst hb; simp
  · have ht : -1000000 ≤ a.tdiv b ∧ a.tdiv b ≤ 1000000 := by
      have h : (a.tdiv b).natAbs ≤ a.natAbs := by rw [Int.natAbs_tdiv]; exact Nat.div_le_self _ _
      omega
    simp -implicitDefEqProofs (disch := omega) only [↓reduceIte, Int.reduceEq, cI_v, cL_v, cV_v, cR_v, wid, wid64, if_pos, if_neg, Nat.add_zero, if_true, if_false, and_self, and_true, true_and, and_false, false_and, or_true, true_or, or_false, false_or]
    rw [Int.fdiv_eq_tdiv]
    by_cases hm : a.tmod b = 0
    · rw [if_pos hm, if_pos (Int.dvd_of_tmod_eq_zero hm), Int.sub_zero]
    · rw [if_neg hm, if_neg (fun q => hm (Int.tmod_eq_zero_of_dvd q))]
      by_cases ha : a < 0
      · by_cases hb2 : b < 0
        · simp -implicitDefEqProofs (disch := omega) only [q_X12_qFloor_53, Int.sub_zero, ↓reduceIte, Int.reduceEq, cI_v, cL_v, cV_v, cR_v, wid, wid64, if_pos, if_neg, Nat.add_zero, if_true, if_false, and_self, and_true, true_and, and_false, false_and, or_true, true_or, or_false, false_or]; rw [Int.sign_eq_neg_one_of_neg hb2]; simp
        · simp -implicitDefEqProofs (disch := omega) only [q_X12_qFloor_53, Int.sub_zero, ↓reduceIte, Int.reduceEq, cI_v, cL_v, cV_v, cR_v, wid, wid64, if_pos, if_neg, Nat.add_zero, if_true, if_false, and_self, and_true, true_and, and_false, false_and, or_true, true_or, or_false, false_or]; rw [Int.sign_eq_one_of_pos (by omega)]
      · by_cases hb2 : b < 0
        · simp -implicitDefEqProofs (disch := omega) only [q_X12_qFloor_53, Int.sub_zero, ↓reduceIte, Int.reduceEq, cI_v, cL_v, cV_v, cR_v, wid, wid64, if_pos, if_neg, Nat.add_zero, if_true, if_false, and_self, and_true, true_and, and_false, false_and, or_true, true_or, or_false, false_or]
        · simp -implicitDefEqProofs (disch := omega) only [q_X12_qFloor_53, Int.sub_zero, ↓reduceIte, Int.reduceEq, cI_v, cL_v, cV_v, cR_v, wid, wid64, if_pos, if_neg, Nat.add_zero, if_true, if_false, and_self, and_true, true_and, and_false, false_and, or_true, true_or, or_false, false_or]
set_option maxRecDepth 100000 in
theorem s_qputs (d : Nat) (y : Int) (A : AH) (h1 : 0 ≤ gi A 190 106) (h2 : gi A 190 106 < 1000) : runF (d + 1) 283 [vR 21 190 0, vL y] A = some (none, wi (wi A 269 (gi A 190 106).toNat y) 190 106 (gi A 190 106 + 1)) := by
  rw [r_X12_qPuts, q_X12_qPuts_0]
  simp -implicitDefEqProofs (disch := omega) only [q_X12_qPuts_10, q_X12_qPuts_20, gi_wi, ↓reduceIte, Int.reduceEq, cI_v, cL_v, cV_v, cR_v, wid, wid64, if_pos, if_neg, Nat.add_zero, if_true, if_false, and_self, and_true, true_and, and_false, false_and, or_true, true_or, or_false, false_or]
theorem clip_id {x : Int} (h : -1000000 ≤ x ∧ x ≤ 1000000) : clipF x = x := by
  unfold clipF; rw [if_neg (by omega), if_neg (by omega)]
theorem and01 {a b : Int} (ha : a = 0 ∨ a = 1) (hb : b = 0 ∨ b = 1) : band a b = a * b ∧ bor a b = (if 0 < a + b then 1 else 0) := by
  rcases ha with rfl | rfl <;> rcases hb with rfl | rfl <;> (rw [band_n (by omega) (by omega) (by omega) (by omega), bor_n (by omega) (by omega) (by omega) (by omega)]; decide)
set_option maxRecDepth 100000 in
theorem s_qjoins (d : Nat) (w a b : Int) (r : List Int) (A : AH) (hp : gi A 190 106 = (b :: a :: r).length) (hl : (b :: a :: r).length ≤ 60) (h : plQ A (b :: a :: r)) (h1 : -1000000 ≤ a ∧ a ≤ 1000000) (h2 : -1000000 ≤ b ∧ b ≤ 1000000) (hw : (10 ≤ w ∧ w ≤ 18) ∨ ((w = 19 ∨ w = 20) ∧ (a = 0 ∨ a = 1) ∧ (b = 0 ∨ b = 1))) : ∃ A', runF (d + 2) 284 [vR 21 190 0, vI (w - 9)] A = some (none, A') ∧ gi A' 190 106 = (clipF (rkF w a b) :: r).length ∧ plQ A' (clipF (rkF w a b) :: r) ∧ scq A A' := by
  simp only [List.length_cons] at hp hl
  have hA : gi A 269 ((gi A 190 106 - 1).toNat) = b := by
    rw [hp]; have := h.1; simp only [List.length_cons] at this
    rw [show ((((r.length + 1 + 1 : Nat) : Int)) - 1).toNat = r.length + 1 by omega]; exact this
  have hB : gi A 269 ((gi A 190 106 - 2).toNat) = a := by
    rw [hp, show ((((r.length + 1 + 1 : Nat) : Int)) - 2).toNat = r.length by omega]; exact h.2.1
  have m := mul_bd h1 h2
  refine ⟨wi (wi (wi A 190 106 (gi A 190 106 - 2)) 269 r.length (clipF (rkF w a b))) 190 106 ((r.length : Int) + 1), ?_, ?_, ?_, ?_⟩
  · have pu : ∀ y, runF (d + 1) 283 [vR 21 190 0, vL y] (wi A 190 106 (gi A 190 106 - 2)) = some (none, wi (wi (wi A 190 106 (gi A 190 106 - 2)) 269 r.length y) 190 106 ((r.length : Int) + 1)) := by
      intro y
      have e : gi (wi A 190 106 (gi A 190 106 - 2)) 190 106 = (r.length : Int) := by
        simp -implicitDefEqProofs (disch := omega) only [gi_wi, ↓reduceIte, Int.reduceEq, cI_v, cL_v, cV_v, cR_v, wid, wid64, if_pos, if_neg, Nat.add_zero, if_true, if_false, and_self, and_true, true_and, and_false, false_and, or_true, true_or, or_false, false_or]; omega
      rw [s_qputs d y _ (by omega) (by omega), e]; rfl
    have e35 : ∀ v, runF (d + 2) 284 [vR 21 190 0, vI v] A = go true 3 (runF (d + 1)) (runN (d + 1)) pb_X12_qJoins (fu + 199) 35 [vR 21 190 0, vI v, vL b, vS, vL a, vS] [] (wi A 190 106 (gi A 190 106 - 2)) := by
      intro v
      rw [r_X12_qJoins, q_X12_qJoins_0]
      simp -implicitDefEqProofs (disch := omega) only [hA, hB, ↓reduceIte, Int.reduceEq, cI_v, cL_v, cV_v, cR_v, wid, wid64, if_pos, if_neg, Nat.add_zero, if_true, if_false, and_self, and_true, true_and, and_false, false_and, or_true, true_or, or_false, false_or]
    rw [e35]
    have hw' : w = 10 ∨ w = 11 ∨ w = 12 ∨ w = 13 ∨ w = 14 ∨ w = 15 ∨ w = 16 ∨ w = 17 ∨ w = 18 ∨ w = 19 ∨ w = 20 := by omega
    rcases hw' with z | z | z | z | z | z | z | z | z | z | z
    · rw [show w - 9 = 1 by omega, z, q_X12_qJoins_35]
      unfold rkF
      simp -implicitDefEqProofs (disch := omega) only [s_qclip, pu, ↓reduceIte, Int.reduceEq, cI_v, cL_v, cV_v, cR_v, wid, wid64, if_pos, if_neg, Nat.add_zero, if_true, if_false, and_self, and_true, true_and, and_false, false_and, or_true, true_or, or_false, false_or]
    · rw [show w - 9 = 2 by omega, z, q_X12_qJoins_35]
      unfold rkF
      simp -implicitDefEqProofs (disch := omega) only [s_qclip, pu, ↓reduceIte, Int.reduceEq, cI_v, cL_v, cV_v, cR_v, wid, wid64, if_pos, if_neg, Nat.add_zero, if_true, if_false, and_self, and_true, true_and, and_false, false_and, or_true, true_or, or_false, false_or]
    · rw [show w - 9 = 3 by omega, z, q_X12_qJoins_35]
      unfold rkF
      simp -implicitDefEqProofs (disch := omega) only [s_qclip, pu, ↓reduceIte, Int.reduceEq, cI_v, cL_v, cV_v, cR_v, wid, wid64, if_pos, if_neg, Nat.add_zero, if_true, if_false, and_self, and_true, true_and, and_false, false_and, or_true, true_or, or_false, false_or]
    · rw [show w - 9 = 4 by omega, z, q_X12_qJoins_35]
      unfold rkF
      simp -implicitDefEqProofs (disch := omega) only [s_qfloor, pu, ↓reduceIte, Int.reduceEq, cI_v, cL_v, cV_v, cR_v, wid, wid64, if_pos, if_neg, Nat.add_zero, if_true, if_false, and_self, and_true, true_and, and_false, false_and, or_true, true_or, or_false, false_or]
      rw [clip_id (fdiv_bd h1.1 h1.2)]
    · rw [show w - 9 = 5 by omega, z, q_X12_qJoins_35]
      unfold rkF
      simp -implicitDefEqProofs (disch := omega) only [lcp_lt, q_X12_qJoins_161, pu, ↓reduceIte, Int.reduceEq, cI_v, cL_v, cV_v, cR_v, wid, wid64, if_pos, if_neg, Nat.add_zero, if_true, if_false, and_self, and_true, true_and, and_false, false_and, or_true, true_or, or_false, false_or]
      by_cases c : a < b
      · simp -implicitDefEqProofs (disch := omega) only [pu, ↓reduceIte, Int.reduceEq, cI_v, cL_v, cV_v, cR_v, wid, wid64, if_pos, if_neg, Nat.add_zero, if_true, if_false, and_self, and_true, true_and, and_false, false_and, or_true, true_or, or_false, false_or]; rw [Int.min_eq_left (by omega), clip_id h1]
      · simp -implicitDefEqProofs (disch := omega) only [pu, ↓reduceIte, Int.reduceEq, cI_v, cL_v, cV_v, cR_v, wid, wid64, if_pos, if_neg, Nat.add_zero, if_true, if_false, and_self, and_true, true_and, and_false, false_and, or_true, true_or, or_false, false_or]; rw [Int.min_eq_right (by omega), clip_id h2]
    · rw [show w - 9 = 6 by omega, z, q_X12_qJoins_35]
      unfold rkF
      simp -implicitDefEqProofs (disch := omega) only [lcp_gt, q_X12_qJoins_181, pu, ↓reduceIte, Int.reduceEq, cI_v, cL_v, cV_v, cR_v, wid, wid64, if_pos, if_neg, Nat.add_zero, if_true, if_false, and_self, and_true, true_and, and_false, false_and, or_true, true_or, or_false, false_or]
      by_cases c : b < a
      · simp -implicitDefEqProofs (disch := omega) only [pu, ↓reduceIte, Int.reduceEq, cI_v, cL_v, cV_v, cR_v, wid, wid64, if_pos, if_neg, Nat.add_zero, if_true, if_false, and_self, and_true, true_and, and_false, false_and, or_true, true_or, or_false, false_or]; rw [Int.max_eq_left (by omega), clip_id h1]
      · simp -implicitDefEqProofs (disch := omega) only [pu, ↓reduceIte, Int.reduceEq, cI_v, cL_v, cV_v, cR_v, wid, wid64, if_pos, if_neg, Nat.add_zero, if_true, if_false, and_self, and_true, true_and, and_false, false_and, or_true, true_or, or_false, false_or]; rw [Int.max_eq_right (by omega), clip_id h2]
    · rw [show w - 9 = 7 by omega, z, q_X12_qJoins_35]
      unfold rkF
      simp -implicitDefEqProofs (disch := omega) only [lcp_lt, q_X12_qJoins_200, pu, ↓reduceIte, Int.reduceEq, cI_v, cL_v, cV_v, cR_v, wid, wid64, if_pos, if_neg, Nat.add_zero, if_true, if_false, and_self, and_true, true_and, and_false, false_and, or_true, true_or, or_false, false_or]
      by_cases c : a < b
      · rw [decide_eq_true c, bI_t]; simp -implicitDefEqProofs (disch := omega) only [pu, ↓reduceIte, Int.reduceEq, cI_v, cL_v, cV_v, cR_v, wid, wid64, if_pos, if_neg, Nat.add_zero, if_true, if_false, and_self, and_true, true_and, and_false, false_and, or_true, true_or, or_false, false_or]; rfl
      · rw [decide_eq_false c, bI_f]; simp -implicitDefEqProofs (disch := omega) only [pu, ↓reduceIte, Int.reduceEq, cI_v, cL_v, cV_v, cR_v, wid, wid64, if_pos, if_neg, Nat.add_zero, if_true, if_false, and_self, and_true, true_and, and_false, false_and, or_true, true_or, or_false, false_or]; rfl
    · rw [show w - 9 = 8 by omega, z, q_X12_qJoins_35]
      unfold rkF
      simp -implicitDefEqProofs (disch := omega) only [lcp_gt, q_X12_qJoins_219, pu, ↓reduceIte, Int.reduceEq, cI_v, cL_v, cV_v, cR_v, wid, wid64, if_pos, if_neg, Nat.add_zero, if_true, if_false, and_self, and_true, true_and, and_false, false_and, or_true, true_or, or_false, false_or]
      by_cases c : b < a
      · rw [decide_eq_true c, bI_t]; simp -implicitDefEqProofs (disch := omega) only [pu, ↓reduceIte, Int.reduceEq, cI_v, cL_v, cV_v, cR_v, wid, wid64, if_pos, if_neg, Nat.add_zero, if_true, if_false, and_self, and_true, true_and, and_false, false_and, or_true, true_or, or_false, false_or]; rfl
      · rw [decide_eq_false c, bI_f]; simp -implicitDefEqProofs (disch := omega) only [pu, ↓reduceIte, Int.reduceEq, cI_v, cL_v, cV_v, cR_v, wid, wid64, if_pos, if_neg, Nat.add_zero, if_true, if_false, and_self, and_true, true_and, and_false, false_and, or_true, true_or, or_false, false_or]; rfl
    · rw [show w - 9 = 9 by omega, z, q_X12_qJoins_35]
      unfold rkF
      simp -implicitDefEqProofs (disch := omega) only [lcp_eq, q_X12_qJoins_238, pu, ↓reduceIte, Int.reduceEq, cI_v, cL_v, cV_v, cR_v, wid, wid64, if_pos, if_neg, Nat.add_zero, if_true, if_false, and_self, and_true, true_and, and_false, false_and, or_true, true_or, or_false, false_or]
      by_cases c : a = b
      · rw [decide_eq_true c, bI_t]; simp -implicitDefEqProofs (disch := omega) only [pu, ↓reduceIte, Int.reduceEq, cI_v, cL_v, cV_v, cR_v, wid, wid64, if_pos, if_neg, Nat.add_zero, if_true, if_false, and_self, and_true, true_and, and_false, false_and, or_true, true_or, or_false, false_or]; rfl
      · rw [decide_eq_false c, bI_f]; simp -implicitDefEqProofs (disch := omega) only [pu, ↓reduceIte, Int.reduceEq, cI_v, cL_v, cV_v, cR_v, wid, wid64, if_pos, if_neg, Nat.add_zero, if_true, if_false, and_self, and_true, true_and, and_false, false_and, or_true, true_or, or_false, false_or]; rfl
    · have h01 : (a = 0 ∨ a = 1) ∧ (b = 0 ∨ b = 1) := by omega
      rw [show w - 9 = 10 by omega, z, q_X12_qJoins_35]
      unfold rkF
      simp -implicitDefEqProofs (disch := omega) only [(and01 h01.1 h01.2).1, pu, ↓reduceIte, Int.reduceEq, cI_v, cL_v, cV_v, cR_v, wid, wid64, if_pos, if_neg, Nat.add_zero, if_true, if_false, and_self, and_true, true_and, and_false, false_and, or_true, true_or, or_false, false_or]
      rw [clip_id]
      rcases h01.1 with y | y <;> rcases h01.2 with y' | y' <;> rw [y, y'] <;> decide
    · have h01 : (a = 0 ∨ a = 1) ∧ (b = 0 ∨ b = 1) := by omega
      rw [show w - 9 = 11 by omega, z, q_X12_qJoins_35]
      unfold rkF
      simp -implicitDefEqProofs (disch := omega) only [(and01 h01.1 h01.2).2, lcp_gt, q_X12_qJoins_270, pu, ↓reduceIte, Int.reduceEq, cI_v, cL_v, cV_v, cR_v, wid, wid64, if_pos, if_neg, Nat.add_zero, if_true, if_false, and_self, and_true, true_and, and_false, false_and, or_true, true_or, or_false, false_or]
      by_cases c : 0 < a + b
      · simp -implicitDefEqProofs (disch := omega) only [pu, ↓reduceIte, Int.reduceEq, cI_v, cL_v, cV_v, cR_v, wid, wid64, if_pos, if_neg, Nat.add_zero, if_true, if_false, and_self, and_true, true_and, and_false, false_and, or_true, true_or, or_false, false_or]; rfl
      · simp -implicitDefEqProofs (disch := omega) only [pu, ↓reduceIte, Int.reduceEq, cI_v, cL_v, cV_v, cR_v, wid, wid64, if_pos, if_neg, Nat.add_zero, if_true, if_false, and_self, and_true, true_and, and_false, false_and, or_true, true_or, or_false, false_or]; rfl
  · simp -implicitDefEqProofs (disch := omega) only [gi_wi, List.length_cons, ↓reduceIte, Int.reduceEq, cI_v, cL_v, cV_v, cR_v, wid, wid64, if_pos, if_neg, Nat.add_zero, if_true, if_false, and_self, and_true, true_and, and_false, false_and, or_true, true_or, or_false, false_or]; omega
  · refine ⟨?_, plQ_fr (fun j hj => ?_) h.2.2⟩
    · simp -implicitDefEqProofs (disch := omega) only [gi_wi, ↓reduceIte, Int.reduceEq, cI_v, cL_v, cV_v, cR_v, wid, wid64, if_pos, if_neg, Nat.add_zero, if_true, if_false, and_self, and_true, true_and, and_false, false_and, or_true, true_or, or_false, false_or]
    · simp -implicitDefEqProofs (disch := omega) only [gi_wi, ↓reduceIte, Int.reduceEq, cI_v, cL_v, cV_v, cR_v, wid, wid64, if_pos, if_neg, Nat.add_zero, if_true, if_false, and_self, and_true, true_and, and_false, false_and, or_true, true_or, or_false, false_or]
  · exact scq_wi _ (by omega) (scq_wi _ (by omega) (scq_wi _ (by omega) (scq_refl A)))
set_option maxRecDepth 100000 in
theorem s_qPartOf (d : Nat) (i x : Int) (A : AH) (hc : cok (hv A)) (hh : hok (hv A)) (hr : rok (hv A) (nv A)) (hx : num x) (h1 : 0 ≤ i) (h2 : i < 10) : runF (d + 4) 285 [vR 21 190 0, vI i, vI x] A = some (some (vL (fctF (hv A) (nv A) (nv A 0) (nv A 2) (gi A 190 65) x i)), A) := by
  have hx' := hx
  unfold num at hx'
  have sb := seat_bd hr (x := x) (by omega) (by omega)
  rw [r_X12_qPartOf, q_X12_qPartOf_0]
  unfold fctF
  have hi : i = 0 ∨ i = 1 ∨ i = 2 ∨ i = 3 ∨ i = 4 ∨ i = 5 ∨ i = 6 ∨ i = 7 ∨ i = 8 ∨ i = 9 := by omega
  rcases hi with rfl | rfl | rfl | rfl | rfl | rfl | rfl | rfl | rfl | rfl
  · simp -implicitDefEqProofs (disch := omega) only [s_keepsOf, ↓reduceIte, Int.reduceEq, cI_v, cL_v, cV_v, cR_v, wid, wid64, if_pos, if_neg, Nat.add_zero, if_true, if_false, and_self, and_true, true_and, and_false, false_and, or_true, true_or, or_false, false_or]
  · simp -implicitDefEqProofs (disch := omega) only [s_itchesOf, ↓reduceIte, Int.reduceEq, cI_v, cL_v, cV_v, cR_v, wid, wid64, if_pos, if_neg, Nat.add_zero, if_true, if_false, and_self, and_true, true_and, and_false, false_and, or_true, true_or, or_false, false_or]
  · simp -implicitDefEqProofs (disch := omega) only [s_nearOf, ↓reduceIte, Int.reduceEq, cI_v, cL_v, cV_v, cR_v, wid, wid64, if_pos, if_neg, Nat.add_zero, if_true, if_false, and_self, and_true, true_and, and_false, false_and, or_true, true_or, or_false, false_or]
  · simp -implicitDefEqProofs (disch := omega) only [s_hatedOf, ↓reduceIte, Int.reduceEq, cI_v, cL_v, cV_v, cR_v, wid, wid64, if_pos, if_neg, Nat.add_zero, if_true, if_false, and_self, and_true, true_and, and_false, false_and, or_true, true_or, or_false, false_or]
  · simp -implicitDefEqProofs (disch := omega) only [s_askedOf, ↓reduceIte, Int.reduceEq, cI_v, cL_v, cV_v, cR_v, wid, wid64, if_pos, if_neg, Nat.add_zero, if_true, if_false, and_self, and_true, true_and, and_false, false_and, or_true, true_or, or_false, false_or]
  · simp -implicitDefEqProofs (disch := omega) only [s_seatOf, s_noiseAt, ↓reduceIte, Int.reduceEq, cI_v, cL_v, cV_v, cR_v, wid, wid64, if_pos, if_neg, Nat.add_zero, if_true, if_false, and_self, and_true, true_and, and_false, false_and, or_true, true_or, or_false, false_or]; rfl
  · simp -implicitDefEqProofs (disch := omega) only [s_seatOf, ↓reduceIte, Int.reduceEq, cI_v, cL_v, cV_v, cR_v, wid, wid64, if_pos, if_neg, Nat.add_zero, if_true, if_false, and_self, and_true, true_and, and_false, false_and, or_true, true_or, or_false, false_or]
  · simp -implicitDefEqProofs (disch := omega) only [↓reduceIte, Int.reduceEq, cI_v, cL_v, cV_v, cR_v, wid, wid64, if_pos, if_neg, Nat.add_zero, if_true, if_false, and_self, and_true, true_and, and_false, false_and, or_true, true_or, or_false, false_or]; rfl
  · simp -implicitDefEqProofs (disch := omega) only [↓reduceIte, Int.reduceEq, cI_v, cL_v, cV_v, cR_v, wid, wid64, if_pos, if_neg, Nat.add_zero, if_true, if_false, and_self, and_true, true_and, and_false, false_and, or_true, true_or, or_false, false_or]
  · simp -implicitDefEqProofs (disch := omega) only [s_partyOf, ↓reduceIte, Int.reduceEq, cI_v, cL_v, cV_v, cR_v, wid, wid64, if_pos, if_neg, Nat.add_zero, if_true, if_false, and_self, and_true, true_and, and_false, false_and, or_true, true_or, or_false, false_or]
noncomputable def besB (H : Nat → Nat → Int) (row : Nat → Int) (x y : Int) : Bool := sit H row y && besideF row x y
set_option maxRecDepth 100000 in
theorem s_qOf (d : Nat) (i y x : Int) (A : AH) (hc : cok (hv A)) (hr : rok (hv A) (nv A)) (hx : num x) (hy : -1000000 ≤ y ∧ y ≤ 1000000) : runF (d + 3) 286 [vR 21 190 0, vI i, vL y, vI x] A = some (some (vL (bI (besB (hv A) (nv A) x y))), A) := by
  have hx' := hx
  unfold num at hx'
  rw [r_X12_qOf, q_X12_qOf_0, s_isIn, cI_v]
  unfold besB
  by_cases c : 0 ≤ y ∧ y ≤ 15
  · rw [decide_eq_true c, bI_t, if_neg (by omega), wid (by omega) (by omega), s_doesSit d _ A hc, cI_v]
    by_cases c2 : sit (hv A) (nv A) y = true
    · rw [c2, bI_t, if_neg (by omega), s_isBeside d _ _ A hr (by omega) (by omega) (by omega) (by omega), cI_v, Bool.true_and]
      by_cases c3 : besideF (nv A) x y = true
      · rw [c3, bI_t, if_neg (by omega)]
      · rw [show besideF (nv A) x y = false by simpa using c3, bI_f, if_pos rfl, q_X12_qOf_47]
    · rw [show sit (hv A) (nv A) y = false by simpa using c2, bI_f, if_pos rfl, q_X12_qOf_47, Bool.false_and, bI_f]
  · have c2 : sit (hv A) (nv A) y = false := by
      by_cases z : sit (hv A) (nv A) y = true
      · have := sit_num hc z
        unfold num at this
        omega
      · simpa using z
    rw [decide_eq_false c, bI_f, if_pos rfl, q_X12_qOf_47, c2, Bool.false_and, bI_f]
noncomputable def evL (F : Int → Int) (B : Int → Bool) : List Int → List Int → List Int
  | [], st => st
  | v :: l, st => evL F B l (stepC F B (clsC v) st)
theorem evL_C {F : Int → Int} {B : Int → Bool} {c : Int → Int} : ∀ (l : List Int) (k : Int) (st : List Int), (∀ i : Nat, i < l.length → c (k + i) = clsC (l.getD i 0)) → evC F B c l.length k st = evL F B l st
  | [], k, st, h => rfl
  | v :: l, k, st, h => by
    have e0 : c k = clsC v := by have := h 0 (by simp); simpa using this
    show evC F B c l.length (k + 1) (stepC F B (c k) st) = evL F B l (stepC F B (clsC v) st)
    rw [e0]
    exact evL_C l (k + 1) _ (fun i hi => by
      have := h (i + 1) (by simp; omega)
      rw [show k + ((i + 1 : Nat) : Int) = k + 1 + i by omega] at this
      simpa using this)
theorem st_c {F : Int → Int} {B : Int → Bool} {v : Int} {st : List Int} (h : 100 ≤ v) : stepC F B v st = (v - 100) :: st := by unfold stepC; rw [if_pos h]
theorem st_f {F : Int → Int} {B : Int → Bool} {v : Int} {st : List Int} (h : v < 10) : stepC F B v st = F v :: st := by unfold stepC; rw [if_neg (by omega), if_pos h]
theorem st_j {F : Int → Int} {B : Int → Bool} {v a b : Int} {r : List Int} (h1 : 10 ≤ v) (h2 : v ≤ 20) : stepC F B v (b :: a :: r) = clipF (rkF v a b) :: r := by
  unfold stepC
  rw [if_neg (by omega), if_neg (by omega)]
  show (if v = 21 then (1 - b) :: a :: r else if v = 22 then bI (B b) :: a :: r else clipF (rkF v a b) :: r) = _
  rw [if_neg (by omega), if_neg (by omega)]
theorem st_n {F : Int → Int} {B : Int → Bool} {b : Int} {r : List Int} : stepC F B 21 (b :: r) = (1 - b) :: r := rfl
theorem st_b {F : Int → Int} {B : Int → Bool} {b : Int} {r : List Int} : stepC F B 22 (b :: r) = bI (B b) :: r := rfl
theorem rk_t {v a b : Int} (h : (16 ≤ v ∧ v ≤ 18) ∨ ((v = 19 ∨ v = 20) ∧ (a = 0 ∨ a = 1) ∧ (b = 0 ∨ b = 1))) : clipF (rkF v a b) = 0 ∨ clipF (rkF v a b) = 1 := by
  refine clip01 ?_
  have hv : v = 16 ∨ v = 17 ∨ v = 18 ∨ v = 19 ∨ v = 20 := by omega
  unfold rkF
  rcases hv with rfl | rfl | rfl | rfl | rfl
  · simp -implicitDefEqProofs (disch := omega) only [↓reduceIte, Int.reduceEq, cI_v, cL_v, cV_v, cR_v, wid, wid64, if_pos, if_neg, Nat.add_zero, if_true, if_false, and_self, and_true, true_and, and_false, false_and, or_true, true_or, or_false, false_or]; exact bI01 _
  · simp -implicitDefEqProofs (disch := omega) only [↓reduceIte, Int.reduceEq, cI_v, cL_v, cV_v, cR_v, wid, wid64, if_pos, if_neg, Nat.add_zero, if_true, if_false, and_self, and_true, true_and, and_false, false_and, or_true, true_or, or_false, false_or]; exact bI01 _
  · simp -implicitDefEqProofs (disch := omega) only [↓reduceIte, Int.reduceEq, cI_v, cL_v, cV_v, cR_v, wid, wid64, if_pos, if_neg, Nat.add_zero, if_true, if_false, and_self, and_true, true_and, and_false, false_and, or_true, true_or, or_false, false_or]; exact bI01 _
  · simp -implicitDefEqProofs (disch := omega) only [↓reduceIte, Int.reduceEq, cI_v, cL_v, cV_v, cR_v, wid, wid64, if_pos, if_neg, Nat.add_zero, if_true, if_false, and_self, and_true, true_and, and_false, false_and, or_true, true_or, or_false, false_or]; exact band01 (by omega) (by omega)
  · simp -implicitDefEqProofs (disch := omega) only [↓reduceIte, Int.reduceEq, cI_v, cL_v, cV_v, cR_v, wid, wid64, if_pos, if_neg, Nat.add_zero, if_true, if_false, and_self, and_true, true_and, and_false, false_and, or_true, true_or, or_false, false_or]; exact bor01 (by omega) (by omega)
set_option maxRecDepth 100000 in
theorem l_qTold (d : Nat) (x : Int) (F : Int → Int) (B : Int → Bool) (L : Nat) (hL : L ≤ 1600) (A0 : AH) (h100 : gi A0 190 100 = (L : Int)) (hc : cok (hv A0)) (hh : hok (hv A0)) (hr : rok (hv A0) (nv A0)) (hx : num x) (hF : ∀ i, 0 ≤ i → i < 10 → F i = fctF (hv A0) (nv A0) (nv A0 0) (nv A0 2) (gi A0 190 65) x i) (hF2 : ∀ i, 0 ≤ i → i < 10 → -1000000 ≤ F i ∧ F i ≤ 1000000) (hB : ∀ y, B y = besB (hv A0) (nv A0) x y) : ∀ (l : List Int) (k n : Nat) (ts : List Bool) (st : List Int) (A : AH) (u3 : AV), k + l.length = L → (∀ i, i < l.length → gi A0 267 (k + i) = mcF true (l.getD i 0)) → wfL true l ts → okst ts st → plQ A st → gi A 190 106 = st.length → st.length ≤ 60 → scq A0 A → 10 * l.length + 10 ≤ n → ∃ A', go true 1 (runF (d + 4)) (runN (d + 4)) pb_X12_qTold n 7 [vR 21 190 0, vI x, vI (k : Int), u3] [] A = some (some (vL (headF (evL F B l st))), A') ∧ scq A0 A'
  | [], k, n, ts, st, A, u3, hk, hcd, hw, ho, hp, hl, hl6, f, hn => by
    obtain ⟨n, rfl⟩ : ∃ e, n = e + 10 := ⟨n - 10, by omega⟩
    obtain ⟨t, rfl⟩ := hw
    obtain ⟨y, rfl⟩ : ∃ y, st = [y] := by
      have := okst_len ho
      match st, this with
      | [y], _ => exact ⟨y, rfl⟩
    simp only [List.length_nil, Nat.add_zero] at hk
    refine ⟨A, ?_, f⟩
    have e0 : gi A 269 0 = y := hp.1
    rw [q_X12_qTold_7, f.1 190 100 (by omega) (by omega), h100, if_neg (by omega), e0]
    rfl
  | v :: l, k, n, ts, st, A, u3, hk, hcd, hw, ho, hp, hl, hl6, f, hn => by
    obtain ⟨n, rfl⟩ : ∃ e, n = e + 10 := ⟨n - 10, by omega⟩
    simp only [List.length_cons] at hk hn
    have e100 : gi A 190 100 = (L : Int) := (f.1 190 100 (by omega) (by omega)).trans h100
    have ev : gi A 267 k = mcF true v := by
      rw [f.1 267 k (by omega) (by omega)]
      have := hcd 0 (by simp)
      simpa using this
    have hcd' : ∀ i, i < l.length → gi A0 267 (k + 1 + i) = mcF true (l.getD i 0) := fun i hi => by
      have := hcd (i + 1) (by simp; omega)
      rw [show k + (i + 1) = k + 1 + i by omega] at this
      simpa using this
    have h0 : ∀ R, (if mcF true v < 1000 then
          go true 1 (runF (d + 4)) (runN (d + 4)) pb_X12_qTold (n + 9) 42 [vR 21 190 0, vI x, vI (k : Int), vI (mcF true v)] [] A
        else
        cV (runF (d + 4) 283 [vR 21 190 0, vL (w32 (mcF true v - 1000))] A) fun A1 =>
        go true 1 (runF (d + 4)) (runN (d + 4)) pb_X12_qTold (n + 9) 162 [vR 21 190 0, vI x, vI (k : Int), vI (mcF true v)] [] A1) = R → go true 1 (runF (d + 4)) (runN (d + 4)) pb_X12_qTold (n + 10) 7 [vR 21 190 0, vI x, vI (k : Int), u3] [] A = R := by
      intro R hR
      rw [q_X12_qTold_7, e100, if_pos (by omega), if_pos (by omega), Int.toNat_natCast, ev]
      exact hR
    have nx : ∀ (m : Nat) (A1 : AH) (w : Int), go true 1 (runF (d + 4)) (runN (d + 4)) pb_X12_qTold (m + 1) 162 [vR 21 190 0, vI x, vI (k : Int), vI w] [] A1 = go true 1 (runF (d + 4)) (runN (d + 4)) pb_X12_qTold m 7 [vR 21 190 0, vI x, vI ((k + 1 : Nat) : Int), vI w] [] A1 := by
      intro m A1 w
      rw [q_X12_qTold_162, wid (by omega) (by omega), show (k : Int) + 1 = ((k + 1 : Nat) : Int) by omega]
      all_goals rfl
    have hv : hv A = hv A0 := sc_hv (scq_sc f)
    have nvv : nv A = nv A0 := sc_nv (scq_sc f)
    have q65 : gi A 190 65 = gi A0 190 65 := sc_q (scq_sc f)
    have pu : ∀ (e : Nat) (y : Int), runF (e + 1) 283 [vR 21 190 0, vL y] A = some (none, wi (wi A 269 st.length y) 190 106 ((st.length : Int) + 1)) := fun e y => by
      rw [s_qputs e y A (by omega) (by omega), hl]; rfl
    have pp : ∀ y, plQ (wi (wi A 269 st.length y) 190 106 ((st.length : Int) + 1)) (y :: st) ∧ gi (wi (wi A 269 st.length y) 190 106 ((st.length : Int) + 1)) 190 106 = (y :: st).length ∧ scq A0 (wi (wi A 269 st.length y) 190 106 ((st.length : Int) + 1)) := fun y => ⟨⟨by simp -implicitDefEqProofs (disch := omega) only [gi_wi, ↓reduceIte, Int.reduceEq, cI_v, cL_v, cV_v, cR_v, wid, wid64, if_pos, if_neg, Nat.add_zero, if_true, if_false, and_self, and_true, true_and, and_false, false_and, or_true, true_or, or_false, false_or], plQ_fr (fun j hj => by simp -implicitDefEqProofs (disch := omega) only [gi_wi, ↓reduceIte, Int.reduceEq, cI_v, cL_v, cV_v, cR_v, wid, wid64, if_pos, if_neg, Nat.add_zero, if_true, if_false, and_self, and_true, true_and, and_false, false_and, or_true, true_or, or_false, false_or]) hp⟩, by simp -implicitDefEqProofs (disch := omega) only [gi_wi, List.length_cons, ↓reduceIte, Int.reduceEq, cI_v, cL_v, cV_v, cR_v, wid, wid64, if_pos, if_neg, Nat.add_zero, if_true, if_false, and_self, and_true, true_and, and_false, false_and, or_true, true_or, or_false, false_or]; omega, scq_wi _ (by omega) (scq_wi _ (by omega) f)⟩
    have ol := okst_len ho
    rcases hw with ⟨h1, h2, h3⟩ | ⟨r, h1, h2, h3⟩ | ⟨_, h⟩
    · rcases h1 with h1 | h1
      · have em : mcF true v = v + 900 := by unfold mcF; rw [if_pos h1.1]
        have ec : clsC v = v := by unfold clsC; rw [if_neg (by omega)]
        obtain ⟨p1, p2, p3⟩ := pp (v - 100)
        obtain ⟨A', e1, e2⟩ := l_qTold d x F B L hL A0 h100 hc hh hr hx hF hF2 hB l (k + 1) (n + 8) (false :: ts) ((v - 100) :: st) _ (vI (mcF true v)) (by omega) hcd' h3 ⟨by omega, fun y => by simp at y, ho⟩ p1 p2 (by simp only [List.length_cons]; omega) p3 (by omega)
        refine ⟨A', h0 _ ?_, e2⟩
        show _ = some (some (vL (headF (evL F B l (stepC F B (clsC v) st)))), A')
        rw [ec, st_c h1.1, ← e1, if_neg (by omega), em, wid (by omega) (by omega), show v + 900 - 1000 = v - 100 by omega, pu (d + 3), cV_v, nx]
      · rw [if_pos rfl] at h1
        have em : mcF true v = v + 40 := by unfold mcF; rw [if_neg (by omega), if_pos (by omega), if_pos rfl]
        have ec : clsC v = v := by unfold clsC; rw [if_neg (by omega)]
        have hFv := hF2 v h1.1 h1.2
        obtain ⟨p1, p2, p3⟩ := pp (F v)
        obtain ⟨A', e1, e2⟩ := l_qTold d x F B L hL A0 h100 hc hh hr hx hF hF2 hB l (k + 1) (n + 6) (false :: ts) (F v :: st) _ (vI (mcF true v)) (by omega) hcd' h3 ⟨hFv, fun y => by simp at y, ho⟩ p1 p2 (by simp only [List.length_cons]; omega) p3 (by omega)
        refine ⟨A', h0 _ ?_, e2⟩
        show _ = some (some (vL (headF (evL F B l (stepC F B (clsC v) st)))), A')
        rw [ec, st_f (by omega), ← e1, if_pos (by omega), q_X12_qTold_42, em, if_pos (by omega), if_neg (by omega), wid (by omega) (by omega), show v + 40 - 40 = v by omega, s_qPartOf d v x A (by rw [hv]; exact hc) (by rw [hv]; exact hh) (by rw [hv, nvv]; exact hr) hx h1.1 h1.2, cL_v, hv, nvv, q65, ← hF v h1.1 h1.2, s_qclip (d + 3), cL_v, clip_id hFv, pu (d + 3), cV_v, nx]
        all_goals rfl
    · obtain ⟨b, a, q, rfl⟩ : ∃ b a q, st = b :: a :: q := by
        rw [h1] at ol
        match st, ol with
        | b :: a :: q, _ => exact ⟨b, a, q, rfl⟩
      rw [h1] at ho
      have em : mcF true v = v - 9 := by unfold mcF; rw [if_neg (by omega), if_neg (by omega), if_neg (by omega), if_neg (by omega)]
      have ec : clsC v = v := by unfold clsC; rw [if_neg (by omega)]
      obtain ⟨A1, j1, j2, j3, j4⟩ := s_qjoins (d + 2) v a b q A hl hl6 hp ho.2.2.1 ho.1 (Or.inl (by omega))
      obtain ⟨A', e1, e2⟩ := l_qTold d x F B L hL A0 h100 hc hh hr hx hF hF2 hB l (k + 1) (n + 3) (false :: r) (clipF (rkF v a b) :: q) A1 (vI (mcF true v)) (by omega) hcd' h3 ⟨clip_bd _, fun y => by simp at y, ho.2.2.2.2⟩ j3 j2 (by simp only [List.length_cons] at hl6 ⊢; omega) (scq_trans f j4) (by omega)
      refine ⟨A', h0 _ ?_, e2⟩
      show _ = some (some (vL (headF (evL F B l (stepC F B (clsC v) (b :: a :: q))))), A')
      rw [ec, st_j (by omega) (by omega), ← e1, if_pos (by omega), q_X12_qTold_42, em, if_pos (by omega), if_pos (by omega), q_X12_qTold_110, if_neg (by omega), if_neg (by omega), j1, cV_v, nx]
      all_goals rfl
    · rcases h with ⟨h1, h2, h3⟩ | ⟨r, h1, h2, h3⟩ | ⟨r, h1, h2, h3⟩ | ⟨r, h1, h2, h3⟩ | ⟨r, h1, h2, h3⟩
      · subst h1
        obtain ⟨p1, p2, p3⟩ := pp 1
        obtain ⟨A', e1, e2⟩ := l_qTold d x F B L hL A0 h100 hc hh hr hx hF hF2 hB l (k + 1) (n + 5) (true :: ts) (1 :: st) _ (vI 13) (by omega) hcd' h3 ⟨by omega, fun _ => Or.inr rfl, ho⟩ p1 p2 (by simp only [List.length_cons]; omega) p3 (by omega)
        refine ⟨A', h0 _ ?_, e2⟩
        show _ = some (some (vL (headF (evL F B l (stepC F B 101 st)))), A')
        rw [st_c (by omega), show (101 : Int) - 100 = 1 by omega, ← e1, show mcF true 23 = 13 from rfl, if_pos (by omega), q_X12_qTold_42, if_pos (by omega), if_pos (by omega), q_X12_qTold_110, if_pos rfl, pu (d + 3), cV_v, nx]
      · obtain ⟨b, a, q, rfl⟩ : ∃ b a q, st = b :: a :: q := by
          rw [h1] at ol
          match st, ol with
          | b :: a :: q, _ => exact ⟨b, a, q, rfl⟩
        rw [h1] at ho
        have em : mcF true v = v - 9 := by unfold mcF; rw [if_neg (by omega), if_neg (by omega), if_neg (by omega), if_neg (by omega)]
        have ec : clsC v = v := by unfold clsC; rw [if_neg (by omega)]
        obtain ⟨A1, j1, j2, j3, j4⟩ := s_qjoins (d + 2) v a b q A hl hl6 hp ho.2.2.1 ho.1 (Or.inl (by omega))
        obtain ⟨A', e1, e2⟩ := l_qTold d x F B L hL A0 h100 hc hh hr hx hF hF2 hB l (k + 1) (n + 3) (true :: r) (clipF (rkF v a b) :: q) A1 (vI (mcF true v)) (by omega) hcd' h3 ⟨clip_bd _, fun _ => rk_t (Or.inl h2), ho.2.2.2.2⟩ j3 j2 (by simp only [List.length_cons] at hl6 ⊢; omega) (scq_trans f j4) (by omega)
        refine ⟨A', h0 _ ?_, e2⟩
        show _ = some (some (vL (headF (evL F B l (stepC F B (clsC v) (b :: a :: q))))), A')
        rw [ec, st_j (by omega) (by omega), ← e1, if_pos (by omega), q_X12_qTold_42, em, if_pos (by omega), if_pos (by omega), q_X12_qTold_110, if_neg (by omega), if_neg (by omega), j1, cV_v, nx]
        all_goals rfl
      · obtain ⟨b, a, q, rfl⟩ : ∃ b a q, st = b :: a :: q := by
          rw [h1] at ol
          match st, ol with
          | b :: a :: q, _ => exact ⟨b, a, q, rfl⟩
        rw [h1] at ho
        have em : mcF true v = v - 9 := by unfold mcF; rw [if_neg (by omega), if_neg (by omega), if_neg (by omega), if_neg (by omega)]
        have ec : clsC v = v := by unfold clsC; rw [if_neg (by omega)]
        have h01 : (v = 19 ∨ v = 20) ∧ (a = 0 ∨ a = 1) ∧ (b = 0 ∨ b = 1) := ⟨by omega, ho.2.2.2.1 rfl, ho.2.1 rfl⟩
        obtain ⟨A1, j1, j2, j3, j4⟩ := s_qjoins (d + 2) v a b q A hl hl6 hp ho.2.2.1 ho.1 (Or.inr h01)
        obtain ⟨A', e1, e2⟩ := l_qTold d x F B L hL A0 h100 hc hh hr hx hF hF2 hB l (k + 1) (n + 3) (true :: r) (clipF (rkF v a b) :: q) A1 (vI (mcF true v)) (by omega) hcd' h3 ⟨clip_bd _, fun _ => rk_t (Or.inr h01), ho.2.2.2.2⟩ j3 j2 (by simp only [List.length_cons] at hl6 ⊢; omega) (scq_trans f j4) (by omega)
        refine ⟨A', h0 _ ?_, e2⟩
        show _ = some (some (vL (headF (evL F B l (stepC F B (clsC v) (b :: a :: q))))), A')
        rw [ec, st_j (by omega) (by omega), ← e1, if_pos (by omega), q_X12_qTold_42, em, if_pos (by omega), if_pos (by omega), q_X12_qTold_110, if_neg (by omega), if_neg (by omega), j1, cV_v, nx]
        all_goals rfl
      · subst h2
        obtain ⟨b, q, rfl⟩ : ∃ b q, st = b :: q := by
          rw [h1] at ol
          match st, ol with
          | b :: q, _ => exact ⟨b, q, rfl⟩
        rw [h1] at ho
        have hb01 := ho.2.1 rfl
        have hl' : gi A 190 106 = ((q.length + 1 : Nat) : Int) := by rw [hl]; simp
        simp only [List.length_cons] at hl6
        have ew : w32 (gi A 190 106 - 1) = ((q.length : Nat) : Int) := by rw [hl', wid (by omega) (by omega)]; omega
        have eb : gi A 269 q.length = b := hp.1
        obtain ⟨A', e1, e2⟩ := l_qTold d x F B L hL A0 h100 hc hh hr hx hF hF2 hB l (k + 1) (n + 3) (true :: r) ((1 - b) :: q) (wi A 269 q.length (1 - b)) (vI 12) (by omega) hcd' h3 ⟨by omega, fun _ => by omega, ho.2.2⟩ ⟨by simp -implicitDefEqProofs (disch := omega) only [gi_wi, ↓reduceIte, Int.reduceEq, cI_v, cL_v, cV_v, cR_v, wid, wid64, if_pos, if_neg, Nat.add_zero, if_true, if_false, and_self, and_true, true_and, and_false, false_and, or_true, true_or, or_false, false_or], plQ_fr (fun j hj => by simp -implicitDefEqProofs (disch := omega) only [gi_wi, ↓reduceIte, Int.reduceEq, cI_v, cL_v, cV_v, cR_v, wid, wid64, if_pos, if_neg, Nat.add_zero, if_true, if_false, and_self, and_true, true_and, and_false, false_and, or_true, true_or, or_false, false_or]) hp.2⟩ (by simp -implicitDefEqProofs (disch := omega) only [gi_wi, ↓reduceIte, Int.reduceEq, cI_v, cL_v, cV_v, cR_v, wid, wid64, if_pos, if_neg, Nat.add_zero, if_true, if_false, and_self, and_true, true_and, and_false, false_and, or_true, true_or, or_false, false_or]; rw [hl']; simp) (by simp only [List.length_cons]; omega) (scq_wi _ (by omega) f) (by omega)
        refine ⟨A', h0 _ ?_, e2⟩
        show _ = some (some (vL (headF (evL F B l (stepC F B 21 (b :: q))))), A')
        rw [st_n, ← e1, show mcF true 21 = 12 from rfl, if_pos (by omega), q_X12_qTold_42, if_pos (by omega), if_pos (by omega), q_X12_qTold_110, if_neg (by omega), if_pos rfl]
        simp only [ew]
        rw [if_pos (by omega), if_pos (by omega), Int.toNat_natCast, eb, wid64 (by omega) (by omega), q_X12_qTold_154, nx]
      · subst h2
        obtain ⟨b, q, rfl⟩ : ∃ b q, st = b :: q := by
          rw [h1] at ol
          match st, ol with
          | b :: q, _ => exact ⟨b, q, rfl⟩
        rw [h1] at ho
        have hl' : gi A 190 106 = ((q.length + 1 : Nat) : Int) := by rw [hl]; simp
        simp only [List.length_cons] at hl6
        have ew : w32 (gi A 190 106 - 1) = ((q.length : Nat) : Int) := by rw [hl', wid (by omega) (by omega)]; omega
        have eb : gi A 269 q.length = b := hp.1
        have hbb := bI_bd (B b)
        obtain ⟨A', e1, e2⟩ := l_qTold d x F B L hL A0 h100 hc hh hr hx hF hF2 hB l (k + 1) (n + 6) (false :: r) (bI (B b) :: q) (wi A 269 q.length (bI (B b))) (vI 60) (by omega) hcd' h3 ⟨by omega, fun y => by simp at y, ho.2.2⟩ ⟨by simp -implicitDefEqProofs (disch := omega) only [gi_wi, ↓reduceIte, Int.reduceEq, cI_v, cL_v, cV_v, cR_v, wid, wid64, if_pos, if_neg, Nat.add_zero, if_true, if_false, and_self, and_true, true_and, and_false, false_and, or_true, true_or, or_false, false_or], plQ_fr (fun j hj => by simp -implicitDefEqProofs (disch := omega) only [gi_wi, ↓reduceIte, Int.reduceEq, cI_v, cL_v, cV_v, cR_v, wid, wid64, if_pos, if_neg, Nat.add_zero, if_true, if_false, and_self, and_true, true_and, and_false, false_and, or_true, true_or, or_false, false_or]) hp.2⟩ (by simp -implicitDefEqProofs (disch := omega) only [gi_wi, ↓reduceIte, Int.reduceEq, cI_v, cL_v, cV_v, cR_v, wid, wid64, if_pos, if_neg, Nat.add_zero, if_true, if_false, and_self, and_true, true_and, and_false, false_and, or_true, true_or, or_false, false_or]; rw [hl']; simp) (by simp only [List.length_cons]; omega) (scq_wi _ (by omega) f) (by omega)
        refine ⟨A', h0 _ ?_, e2⟩
        show _ = some (some (vL (headF (evL F B l (stepC F B 22 (b :: q))))), A')
        rw [st_b, ← e1, show mcF true 22 = 60 from rfl, if_pos (by omega), q_X12_qTold_42, if_neg (by omega)]
        simp only [ew]
        rw [if_pos (by omega), Int.toNat_natCast, eb, s_qOf (d + 1) _ b x A (by rw [hv]; exact hc) (by rw [hv, nvv]; exact hr) hx ho.1, cL_v, hv, nvv, ← hB b, s_qclip (d + 3), cL_v, clip_id (by omega), if_pos (by omega), q_X12_qTold_82, nx]
        all_goals rfl
set_option maxRecDepth 100000 in
theorem s_qTold (d : Nat) (x : Int) (cs : List Int) (A : AH) (h100 : gi A 190 100 = ((cs.length : Nat) : Int)) (hL : cs.length ≤ 1600) (hcd : ∀ i, i < cs.length → gi A 267 i = mcF true (cs.getD i 0)) (hw : wfL true cs []) (hm : mok A) (hx : num x) (ha : -1 ≤ nv A 2 ∧ nv A 2 < nPo (hv A)) : ∃ A', runF (d + 5) 287 [vR 21 190 0, vI x] A = some (some (vL (headF (evL (fctF (hv A) (nv A) (nv A 0) (nv A 2) (gi A 190 65) x) (besB (hv A) (nv A) x) cs []))), A') ∧ scq A A' := by
  obtain ⟨hc, hh, hs, hr, hm1, hm2⟩ := hm
  have f0 : scq A (wi A 190 106 0) := scq_wi _ (by omega) (scq_refl A)
  have e1 : hv (wi A 190 106 0) = hv A := sc_hv (scq_sc f0)
  have e2 : nv (wi A 190 106 0) = nv A := sc_nv (scq_sc f0)
  have e3 : gi (wi A 190 106 0) 190 65 = gi A 190 65 := sc_q (scq_sc f0)
  obtain ⟨A', a1, a2⟩ := l_qTold d x (fctF (hv A) (nv A) (nv A 0) (nv A 2) (gi A 190 65) x) (besB (hv A) (nv A) x) cs.length hL (wi A 190 106 0) (by rw [gi_wi, if_neg (by omega)]; exact h100) (by rw [e1]; exact hc) (by rw [e1]; exact hh) (by rw [e1, e2]; exact hr) hx (fun i _ _ => by rw [e1, e2, e3]) (fun i _ _ => fct_bd hc hh hr hm1 hm2 ha.1 ha.2 hx i) (fun y => by rw [e1, e2]) cs 0 (fu + 199) [] [] (wi A 190 106 0) vU (by omega) (fun i hi => by rw [gi_wi, if_neg (by omega), Nat.zero_add]; exact hcd i hi) hw trivial trivial (by rw [gi_wi, if_pos ⟨rfl, rfl⟩]; rfl) (by simp) (scq_refl _) (by have := fu_ge; omega)
  refine ⟨A', ?_, scq_trans f0 a2⟩
  rw [r_X12_qTold, q_X12_qTold_0]
  exact a1
