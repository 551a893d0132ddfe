/-! the reference's waiting signs and codes: Q -/
abbrev STQ (b c0 : Nat) (A : AH) (W C : List Int) (o : Nat) : Prop := StR 100 102 103 104 267 268 b c0 A W C o
abbrev fVQ (b c0 : Nat) (A B : AH) : Prop := frV 100 102 103 267 268 b c0 A B
set_option maxRecDepth 100000 in
theorem s_codeQ (d : Nat) {T : Nat → Int} {L p : Nat} {t : Bool} {b c0 : Nat} (v : Int) (A : AH) (W C : List Int) (o : Nat) (s : STQ b c0 A W C o) (m : MdS A T L p t) (hC : c0 + C.length < 1600) : ∃ B, runF (d + 1) 262 [vR 21 190 0, vI v] A = some (none, B) ∧ STQ b c0 B W (C ++ [v]) o ∧ MdS B T L p t ∧ fVQ b c0 A B ∧ gi B 190 2 = gi A 190 2 := by
  obtain ⟨⟨s1, s2⟩, ⟨s3, s4⟩, s5, s6, s7⟩ := s
  refine ⟨wi (wi A 267 (c0 + C.length) v) 190 100 ((c0 + C.length + 1 : Nat) : Int), ?_, ⟨⟨?_, fun i hi => ?_⟩, ⟨by simp -implicitDefEqProofs (disch := omega) only [gi_wi, ↓reduceIte, Int.reduceEq, cI_v, cL_v, cV_v, cR_v, wid, wid64, if_pos, if_neg, Nat.add_zero, if_true, if_false, and_self, and_true, true_and, and_false, false_and, or_true, true_or, or_false, false_or]; exact s3, stkR_fr (fun j _ _ => by simp -implicitDefEqProofs (disch := omega) only [gi_wi, ↓reduceIte, Int.reduceEq, cI_v, cL_v, cV_v, cR_v, wid, wid64, if_pos, if_neg, Nat.add_zero, if_true, if_false, and_self, and_true, true_and, and_false, false_and, or_true, true_or, or_false, false_or]) s4⟩, by simp -implicitDefEqProofs (disch := omega) only [gi_wi, ↓reduceIte, Int.reduceEq, cI_v, cL_v, cV_v, cR_v, wid, wid64, if_pos, if_neg, Nat.add_zero, if_true, if_false, and_self, and_true, true_and, and_false, false_and, or_true, true_or, or_false, false_or]; exact s5, by simp -implicitDefEqProofs (disch := omega) only [gi_wi, ↓reduceIte, Int.reduceEq, cI_v, cL_v, cV_v, cR_v, wid, wid64, if_pos, if_neg, Nat.add_zero, if_true, if_false, and_self, and_true, true_and, and_false, false_and, or_true, true_or, or_false, false_or]; exact s6, by simp -implicitDefEqProofs (disch := omega) only [gi_wi, ↓reduceIte, Int.reduceEq, cI_v, cL_v, cV_v, cR_v, wid, wid64, if_pos, if_neg, Nat.add_zero, if_true, if_false, and_self, and_true, true_and, and_false, false_and, or_true, true_or, or_false, false_or]; exact s7⟩, MdS_fr (by simp -implicitDefEqProofs (disch := omega) only [gi_wi, ↓reduceIte, Int.reduceEq, cI_v, cL_v, cV_v, cR_v, wid, wid64, if_pos, if_neg, Nat.add_zero, if_true, if_false, and_self, and_true, true_and, and_false, false_and, or_true, true_or, or_false, false_or]) (by simp -implicitDefEqProofs (disch := omega) only [gi_wi, ↓reduceIte, Int.reduceEq, cI_v, cL_v, cV_v, cR_v, wid, wid64, if_pos, if_neg, Nat.add_zero, if_true, if_false, and_self, and_true, true_and, and_false, false_and, or_true, true_or, or_false, false_or]) (by simp -implicitDefEqProofs (disch := omega) only [gi_wi, ↓reduceIte, Int.reduceEq, cI_v, cL_v, cV_v, cR_v, wid, wid64, if_pos, if_neg, Nat.add_zero, if_true, if_false, and_self, and_true, true_and, and_false, false_and, or_true, true_or, or_false, false_or]) (by simp -implicitDefEqProofs (disch := omega) only [gi_wi, ↓reduceIte, Int.reduceEq, cI_v, cL_v, cV_v, cR_v, wid, wid64, if_pos, if_neg, Nat.add_zero, if_true, if_false, and_self, and_true, true_and, and_false, false_and, or_true, true_or, or_false, false_or]) (by simp -implicitDefEqProofs (disch := omega) only [gi_wi, ↓reduceIte, Int.reduceEq, cI_v, cL_v, cV_v, cR_v, wid, wid64, if_pos, if_neg, Nat.add_zero, if_true, if_false, and_self, and_true, true_and, and_false, false_and, or_true, true_or, or_false, false_or]) (fun a j h1 h2 => by rw [gi_wi, if_neg (by omega), gi_wi, if_neg (by omega)]) m, frV_i _ _ (by omega) (frV_c _ _ (by omega) (frV_refl _ _ _ _ _ _ _ A)), by simp -implicitDefEqProofs (disch := omega) only [gi_wi, ↓reduceIte, Int.reduceEq, cI_v, cL_v, cV_v, cR_v, wid, wid64, if_pos, if_neg, Nat.add_zero, if_true, if_false, and_self, and_true, true_and, and_false, false_and, or_true, true_or, or_false, false_or]⟩
  · rw [r_X12_qCode, q_X12_qCode_0, s1, if_pos (by omega), Int.toNat_natCast, q_X12_qCode_10, gi_wi, if_neg (by omega), s1, wid (by omega) (by omega), q_X12_qCode_20, show ((c0 + C.length : Nat) : Int) + 1 = ((c0 + C.length + 1 : Nat) : Int) by omega]
  · simp -implicitDefEqProofs (disch := omega) only [gi_wi, ↓reduceIte, Int.reduceEq, cI_v, cL_v, cV_v, cR_v, wid, wid64, if_pos, if_neg, Nat.add_zero, if_true, if_false, and_self, and_true, true_and, and_false, false_and, or_true, true_or, or_false, false_or]; simp; omega
  · rw [gi_wi, if_neg (by omega), getD_app]
    simp only [List.length_append, List.length_cons, List.length_nil] at hi
    by_cases h : i < C.length
    · rw [if_pos h, gi_wi, if_neg (by omega)]; exact s2 i h
    · rw [if_neg h, if_pos (by omega), gi_wi, if_pos ⟨rfl, by omega⟩]
set_option maxRecDepth 100000 in
theorem s_dropsQ (d : Nat) {T : Nat → Int} {L p : Nat} {t : Bool} {b c0 : Nat} (x : Int) (A : AH) (W C : List Int) (o : Nat) (s : STQ b c0 A (x :: W) C o) (m : MdS A T L p t) (hC : c0 + C.length < 1600) (hW : b + W.length < 1600) : ∃ B, runF (d + 2) 265 [vR 21 190 0] A = some (none, B) ∧ STQ b c0 B W (C ++ [x]) o ∧ MdS B T L p t ∧ fVQ b c0 A B ∧ gi B 190 2 = gi A 190 2 := by
  obtain ⟨⟨s1, s2⟩, ⟨s3, s4⟩, s5, s6, s7⟩ := s
  simp only [List.length_cons] at s3
  have sA : STQ b c0 (wi A 190 102 ((b + W.length : Nat) : Int)) W C o := ⟨⟨by simp -implicitDefEqProofs (disch := omega) only [gi_wi, ↓reduceIte, Int.reduceEq, cI_v, cL_v, cV_v, cR_v, wid, wid64, if_pos, if_neg, Nat.add_zero, if_true, if_false, and_self, and_true, true_and, and_false, false_and, or_true, true_or, or_false, false_or]; exact s1, fun i hi => by simp -implicitDefEqProofs (disch := omega) only [gi_wi, ↓reduceIte, Int.reduceEq, cI_v, cL_v, cV_v, cR_v, wid, wid64, if_pos, if_neg, Nat.add_zero, if_true, if_false, and_self, and_true, true_and, and_false, false_and, or_true, true_or, or_false, false_or]; exact s2 i hi⟩, ⟨by simp -implicitDefEqProofs (disch := omega) only [gi_wi, ↓reduceIte, Int.reduceEq, cI_v, cL_v, cV_v, cR_v, wid, wid64, if_pos, if_neg, Nat.add_zero, if_true, if_false, and_self, and_true, true_and, and_false, false_and, or_true, true_or, or_false, false_or], stkR_fr (fun j _ _ => by simp -implicitDefEqProofs (disch := omega) only [gi_wi, ↓reduceIte, Int.reduceEq, cI_v, cL_v, cV_v, cR_v, wid, wid64, if_pos, if_neg, Nat.add_zero, if_true, if_false, and_self, and_true, true_and, and_false, false_and, or_true, true_or, or_false, false_or]) s4.2⟩, by simp -implicitDefEqProofs (disch := omega) only [gi_wi, ↓reduceIte, Int.reduceEq, cI_v, cL_v, cV_v, cR_v, wid, wid64, if_pos, if_neg, Nat.add_zero, if_true, if_false, and_self, and_true, true_and, and_false, false_and, or_true, true_or, or_false, false_or]; exact s5, by simp -implicitDefEqProofs (disch := omega) only [gi_wi, ↓reduceIte, Int.reduceEq, cI_v, cL_v, cV_v, cR_v, wid, wid64, if_pos, if_neg, Nat.add_zero, if_true, if_false, and_self, and_true, true_and, and_false, false_and, or_true, true_or, or_false, false_or]; exact s6, by simp -implicitDefEqProofs (disch := omega) only [gi_wi, ↓reduceIte, Int.reduceEq, cI_v, cL_v, cV_v, cR_v, wid, wid64, if_pos, if_neg, Nat.add_zero, if_true, if_false, and_self, and_true, true_and, and_false, false_and, or_true, true_or, or_false, false_or]; exact s7⟩
  have mA : MdS (wi A 190 102 ((b + W.length : Nat) : Int)) T L p t := MdS_fr (by simp -implicitDefEqProofs (disch := omega) only [gi_wi, ↓reduceIte, Int.reduceEq, cI_v, cL_v, cV_v, cR_v, wid, wid64, if_pos, if_neg, Nat.add_zero, if_true, if_false, and_self, and_true, true_and, and_false, false_and, or_true, true_or, or_false, false_or]) (by simp -implicitDefEqProofs (disch := omega) only [gi_wi, ↓reduceIte, Int.reduceEq, cI_v, cL_v, cV_v, cR_v, wid, wid64, if_pos, if_neg, Nat.add_zero, if_true, if_false, and_self, and_true, true_and, and_false, false_and, or_true, true_or, or_false, false_or]) (by simp -implicitDefEqProofs (disch := omega) only [gi_wi, ↓reduceIte, Int.reduceEq, cI_v, cL_v, cV_v, cR_v, wid, wid64, if_pos, if_neg, Nat.add_zero, if_true, if_false, and_self, and_true, true_and, and_false, false_and, or_true, true_or, or_false, false_or]) (by simp -implicitDefEqProofs (disch := omega) only [gi_wi, ↓reduceIte, Int.reduceEq, cI_v, cL_v, cV_v, cR_v, wid, wid64, if_pos, if_neg, Nat.add_zero, if_true, if_false, and_self, and_true, true_and, and_false, false_and, or_true, true_or, or_false, false_or]) (by simp -implicitDefEqProofs (disch := omega) only [gi_wi, ↓reduceIte, Int.reduceEq, cI_v, cL_v, cV_v, cR_v, wid, wid64, if_pos, if_neg, Nat.add_zero, if_true, if_false, and_self, and_true, true_and, and_false, false_and, or_true, true_or, or_false, false_or]) (fun a j h1 h2 => by rw [gi_wi, if_neg (by omega)]) m
  obtain ⟨B, b1, b2, b3, b4, b5⟩ := s_codeQ d x _ W C o sA mA hC
  refine ⟨B, ?_, b2, b3, frV_trans (frV_i _ _ (by omega) (frV_refl _ _ _ _ _ _ _ A)) b4, by rw [b5]; simp -implicitDefEqProofs (disch := omega) only [gi_wi, ↓reduceIte, Int.reduceEq, cI_v, cL_v, cV_v, cR_v, wid, wid64, if_pos, if_neg, Nat.add_zero, if_true, if_false, and_self, and_true, true_and, and_false, false_and, or_true, true_or, or_false, false_or]⟩
  have e0 : gi (wi A 190 102 ((b + W.length : Nat) : Int)) 268 (b + W.length) = x := by simp -implicitDefEqProofs (disch := omega) only [gi_wi, ↓reduceIte, Int.reduceEq, cI_v, cL_v, cV_v, cR_v, wid, wid64, if_pos, if_neg, Nat.add_zero, if_true, if_false, and_self, and_true, true_and, and_false, false_and, or_true, true_or, or_false, false_or]; exact s4.1
  have e1 : gi (wi A 190 102 ((b + W.length : Nat) : Int)) 190 102 = ((b + W.length : Nat) : Int) := by simp -implicitDefEqProofs (disch := omega) only [gi_wi, ↓reduceIte, Int.reduceEq, cI_v, cL_v, cV_v, cR_v, wid, wid64, if_pos, if_neg, Nat.add_zero, if_true, if_false, and_self, and_true, true_and, and_false, false_and, or_true, true_or, or_false, false_or]
  rw [r_X12_qDrops, q_X12_qDrops_0, s3, wid (by omega) (by omega), show ((b + (W.length + 1) : Nat) : Int) - 1 = ((b + W.length : Nat) : Int) by omega, q_X12_qDrops_10, e1, if_pos (by omega), Int.toNat_natCast, e0, b1, cV_v]
set_option maxRecDepth 100000 in
theorem s_isOnQ (d : Nat) {b c0 : Nat} (x : Int) (A : AH) (W C : List Int) (o : Nat) (s : STQ b c0 A W C o) (hx : 1 ≤ x ∧ x ≤ 4) (hW : b + W.length < 1600) : runF (d + 1) 264 [vR 21 190 0, vI x] A = some (some (vI (bI (decide (hdI W = x)))), A) := by
  obtain ⟨⟨s1, s2⟩, ⟨s3, s4⟩, s5, s6, s7⟩ := s
  rw [r_X12_qIsOn, q_X12_qIsOn_0, s3]
  cases W with
  | nil =>
    simp only [List.length_nil, Nat.add_zero] at s3 hW ⊢
    have e : decide (hdI [] = x) = false := decide_eq_false (by show (0 : Int) ≠ x; omega)
    rw [e, bI_f]
    by_cases z : 0 < b
    · have := s7 z
      have ew : w32 ((b : Int) - 1) = (b : Int) - 1 := wid (by omega) (by omega)
      simp only [ew]
      rw [if_pos (by omega), if_pos (by omega), show ((b : Int) - 1).toNat = b - 1 by omega, if_neg (by omega), q_X12_qIsOn_26]
    · rw [if_neg (by omega), q_X12_qIsOn_26]
  | cons y r =>
    simp only [List.length_cons] at s3 hW ⊢
    have ew : w32 (((b + (r.length + 1) : Nat) : Int) - 1) = ((b + (r.length + 1) : Nat) : Int) - 1 := wid (by omega) (by omega)
    simp only [ew]
    rw [if_pos (by omega), if_pos (by omega), show (((b + (r.length + 1) : Nat) : Int) - 1).toNat = b + r.length by omega, s4.1]
    show _ = some (some (vI (bI (decide (y = x)))), A)
    by_cases z : y = x
    · rw [if_pos z, decide_eq_true z]; rfl
    · rw [if_neg z, decide_eq_false z, q_X12_qIsOn_26]; rfl
set_option maxRecDepth 100000 in
theorem s_isMarkQ (d : Nat) (x : Int) (A : AH) : runF (d + 1) 266 [vI x] A = some (some (vI (bI (decide (20 ≤ x ∧ x ≤ 24)))), A) := by
  rw [r_X12_qIsBracket, q_X12_qIsBracket_0]
  by_cases h1 : x < 20
  · rw [if_pos h1, q_X12_qIsBracket_16, decide_eq_false (by omega)]; rfl
  · rw [if_neg h1]
    by_cases h2 : 24 < x
    · rw [if_pos h2, q_X12_qIsBracket_16, decide_eq_false (by omega)]; rfl
    · rw [if_neg h2, decide_eq_true (by omega)]; rfl
set_option maxRecDepth 100000 in
theorem l_lastQ (d : Nat) {b : Nat} (A : AH) (s6 : gi A 190 104 = (b : Int)) : ∀ (W : List Int) (n : Nat), stkR A 268 b W → b + W.length < 1600 → 3 * W.length + 10 ≤ n → go true 0 (runF (d + 1)) (runN (d + 1)) pb_X12_qBracket n 7 [vR 21 190 0, vI ((b : Int) + W.length - 1)] [] A = some (some (vI (lmF W)), A)
  | [], n, s4, hW, hn => by
    simp only [List.length_nil] at hn hW ⊢
    obtain ⟨n, rfl⟩ : ∃ e, n = e + 10 := ⟨n - 10, by omega⟩
    rw [q_X12_qBracket_7, s6, if_pos (by omega), q_X12_qBracket_33, s6, if_pos (by omega)]; rfl
  | y :: r, n, s4, hW, hn => by
    simp only [List.length_cons] at hn hW ⊢
    obtain ⟨n, rfl⟩ : ∃ e, n = e + 10 := ⟨n - 10, by omega⟩
    rw [q_X12_qBracket_7, s6, if_neg (by omega), if_pos (by omega), show ((b : Int) + ((r.length + 1 : Nat) : Int) - 1).toNat = b + r.length by omega, s4.1, s_isMarkQ, cI_v]
    show _ = some (some (vI (if 20 ≤ y ∧ y ≤ 24 then y else lmF r)), A)
    by_cases z : 20 ≤ y ∧ y ≤ 24
    · rw [decide_eq_true z, bI_t, if_neg (by omega), if_pos z, q_X12_qBracket_33, s6, if_neg (by omega), if_pos (by omega), show ((b : Int) + ((r.length + 1 : Nat) : Int) - 1).toNat = b + r.length by omega, s4.1]
    · rw [decide_eq_false z, bI_f, if_pos rfl, if_neg z, wid (by omega) (by omega), Nat.add_zero (n + 9)]
      have := l_lastQ d A s6 r (n + 9) s4.2 (by omega) (by omega)
      rw [show (b : Int) + ((r.length + 1 : Nat) : Int) - 1 + -1 = (b : Int) + r.length - 1 by omega]
      exact this
set_option maxRecDepth 100000 in
theorem s_lastQ (d : Nat) {b c0 : Nat} (A : AH) (W C : List Int) (o : Nat) (s : STQ b c0 A W C o) (hW : b + W.length < 1600) : runF (d + 2) 267 [vR 21 190 0] A = some (some (vI (lmF W)), A) := by
  obtain ⟨_, ⟨s3, s4⟩, _, s6, _⟩ := s
  rw [r_X12_qBracket, q_X12_qBracket_0, s3, wid (by omega) (by omega), Nat.add_zero (fu + 199)]
  have := l_lastQ d A s6 W (fu + 199) s4 hW (by have := fu_ge; omega)
  rw [show ((b + W.length : Nat) : Int) - 1 = (b : Int) + W.length - 1 by omega]
  exact this
set_option maxRecDepth 100000 in
theorem l_dtmQ (d : Nat) {T : Nat → Int} {L p : Nat} {t : Bool} {b c0 : Nat} (W : List Int) (mk : Int) (hm : 20 ≤ mk ∧ mk ≤ 24) (o : Nat) : ∀ (pend C : List Int) (n : Nat) (A : AH), (∀ x ∈ pend, 1 ≤ x ∧ x ≤ 4) → STQ b c0 A (pend ++ mk :: W) C o → MdS A T L p t → c0 + C.length + (b + (pend.length + (W.length + 1))) ≤ 1600 → 3 * pend.length + 10 ≤ n → ∃ B, go true 3 (runF (d + 2)) (runN (d + 2)) pb_X12_qDropsToBracket n 0 [vR 21 190 0] [] A = some (none, B) ∧ STQ b c0 B (mk :: W) (C ++ pend) o ∧ MdS B T L p t ∧ fVQ b c0 A B ∧ gi B 190 2 = gi A 190 2
  | [], C, n, A, hp, s, m, hC, hn => by
    obtain ⟨n, rfl⟩ : ∃ e, n = e + 10 := ⟨n - 10, by omega⟩
    have s' := s
    obtain ⟨_, ⟨s3, s4⟩, _, s6, _⟩ := s
    simp only [List.nil_append, List.length_cons] at s3 s4
    simp only [List.length_nil] at hC
    refine ⟨A, ?_, by rw [List.append_nil]; exact s', m, frV_refl _ _ _ _ _ _ _ A, rfl⟩
    rw [q_X12_qDropsToBracket_0, s6, s3, if_pos (by omega), wid (by omega) (by omega), if_pos (by omega), show (((b + (W.length + 1) : Nat) : Int) - 1).toNat = b + W.length by omega, s4.1, s_isMarkQ, cI_v, decide_eq_true hm, bI_t, if_neg (by omega)]
  | x :: pend, C, n, A, hp, s, m, hC, hn => by
    simp only [List.length_cons] at hC hn
    obtain ⟨n, rfl⟩ : ∃ e, n = e + 10 := ⟨n - 10, by omega⟩
    have s' := s
    obtain ⟨_, ⟨s3, s4⟩, _, s6, _⟩ := s
    have el : (pend ++ mk :: W).length = pend.length + (W.length + 1) := by simp
    have e1 : (x :: pend ++ mk :: W).length = pend.length + (W.length + 1) + 1 := by simp
    rw [e1] at s3
    have s41 : gi A 268 (b + (pend.length + (W.length + 1))) = x := by rw [← el]; exact s4.1
    have hx := hp x (by simp)
    obtain ⟨B, b1, b2, b3, b4, b5⟩ := s_dropsQ (d := d) x A (pend ++ mk :: W) C o s' m (by omega) (by omega)
    obtain ⟨D, d1, d2, d3, d4, d5⟩ := l_dtmQ d W mk hm o pend (C ++ [x]) (n + 9) B (fun y hy => hp y (by simp [hy])) b2 b3 (by simp; omega) (by omega)
    refine ⟨D, ?_, by rw [show C ++ x :: pend = C ++ [x] ++ pend by simp]; exact d2, d3, frV_trans b4 d4, d5.trans b5⟩
    rw [q_X12_qDropsToBracket_0, s6, s3, if_pos (by omega), wid (by omega) (by omega), if_pos (by omega), show (((b + (pend.length + (W.length + 1) + 1) : Nat) : Int) - 1).toNat = b + (pend.length + (W.length + 1)) by omega, s41, s_isMarkQ, cI_v, decide_eq_false (by omega), bI_f, if_pos rfl, b1, cV_v]
    exact d1
set_option maxRecDepth 100000 in
theorem s_dtmQ (d : Nat) {T : Nat → Int} {L p : Nat} {t : Bool} {b c0 : Nat} (W : List Int) (mk : Int) (hm : 20 ≤ mk ∧ mk ≤ 24) (o : Nat) (pend C : List Int) (A : AH) (hp : ∀ x ∈ pend, 1 ≤ x ∧ x ≤ 4) (s : STQ b c0 A (pend ++ mk :: W) C o) (m : MdS A T L p t) (hC : c0 + C.length + (b + (pend.length + (W.length + 1))) ≤ 1600) : ∃ B, runF (d + 3) 268 [vR 21 190 0] A = some (none, B) ∧ STQ b c0 B (mk :: W) (C ++ pend) o ∧ MdS B T L p t ∧ fVQ b c0 A B ∧ gi B 190 2 = gi A 190 2 := by
  rw [r_X12_qDropsToBracket]
  exact l_dtmQ d W mk hm o pend C (fu + 200) A hp s m hC (by have := fu_ge; omega)
set_option maxRecDepth 100000 in
theorem s_opensQ (d : Nat) {T : Nat → Int} {L p : Nat} {t : Bool} {b c0 : Nat} (v place : Int) (A : AH) (W C : List Int) (o : Nat) (s : STQ b c0 A W C o) (m : MdS A T L p t) (hW : b + W.length < 1600) : (o < 6 → ∃ B, runF (d + 2) 263 [vR 21 190 0, vI v, vI place] A = some (none, B) ∧ STQ b c0 B (v :: W) C (o + 1) ∧ MdS B T L p t ∧ fVQ b c0 A B ∧ gi B 190 2 = gi A 190 2) ∧ (o = 6 → runF (d + 2) 263 [vR 21 190 0, vI v, vI place] A = some (none, wi (wi A 190 5 4) 190 6 place)) := by
  obtain ⟨⟨s1, s2⟩, ⟨s3, s4⟩, s5, s6, s7⟩ := s
  constructor
  · intro ho
    refine ⟨wi (wi (wi A 190 103 ((o + 1 : Nat) : Int)) 268 (b + W.length) v) 190 102 ((b + W.length + 1 : Nat) : Int), ?_, ⟨⟨by simp -implicitDefEqProofs (disch := omega) only [gi_wi, ↓reduceIte, Int.reduceEq, cI_v, cL_v, cV_v, cR_v, wid, wid64, if_pos, if_neg, Nat.add_zero, if_true, if_false, and_self, and_true, true_and, and_false, false_and, or_true, true_or, or_false, false_or]; exact s1, fun i hi => by simp -implicitDefEqProofs (disch := omega) only [gi_wi, ↓reduceIte, Int.reduceEq, cI_v, cL_v, cV_v, cR_v, wid, wid64, if_pos, if_neg, Nat.add_zero, if_true, if_false, and_self, and_true, true_and, and_false, false_and, or_true, true_or, or_false, false_or]; exact s2 i hi⟩, ⟨by simp -implicitDefEqProofs (disch := omega) only [gi_wi, ↓reduceIte, Int.reduceEq, cI_v, cL_v, cV_v, cR_v, wid, wid64, if_pos, if_neg, Nat.add_zero, if_true, if_false, and_self, and_true, true_and, and_false, false_and, or_true, true_or, or_false, false_or]; simp; omega, ⟨by simp -implicitDefEqProofs (disch := omega) only [gi_wi, ↓reduceIte, Int.reduceEq, cI_v, cL_v, cV_v, cR_v, wid, wid64, if_pos, if_neg, Nat.add_zero, if_true, if_false, and_self, and_true, true_and, and_false, false_and, or_true, true_or, or_false, false_or], stkR_fr (fun j _ _ => by simp -implicitDefEqProofs (disch := omega) only [gi_wi, ↓reduceIte, Int.reduceEq, cI_v, cL_v, cV_v, cR_v, wid, wid64, if_pos, if_neg, Nat.add_zero, if_true, if_false, and_self, and_true, true_and, and_false, false_and, or_true, true_or, or_false, false_or]) s4⟩⟩, by simp -implicitDefEqProofs (disch := omega) only [gi_wi, ↓reduceIte, Int.reduceEq, cI_v, cL_v, cV_v, cR_v, wid, wid64, if_pos, if_neg, Nat.add_zero, if_true, if_false, and_self, and_true, true_and, and_false, false_and, or_true, true_or, or_false, false_or], by simp -implicitDefEqProofs (disch := omega) only [gi_wi, ↓reduceIte, Int.reduceEq, cI_v, cL_v, cV_v, cR_v, wid, wid64, if_pos, if_neg, Nat.add_zero, if_true, if_false, and_self, and_true, true_and, and_false, false_and, or_true, true_or, or_false, false_or]; exact s6, fun hb => by simp -implicitDefEqProofs (disch := omega) only [gi_wi, ↓reduceIte, Int.reduceEq, cI_v, cL_v, cV_v, cR_v, wid, wid64, if_pos, if_neg, Nat.add_zero, if_true, if_false, and_self, and_true, true_and, and_false, false_and, or_true, true_or, or_false, false_or]; exact s7 hb⟩, MdS_fr (by simp -implicitDefEqProofs (disch := omega) only [gi_wi, ↓reduceIte, Int.reduceEq, cI_v, cL_v, cV_v, cR_v, wid, wid64, if_pos, if_neg, Nat.add_zero, if_true, if_false, and_self, and_true, true_and, and_false, false_and, or_true, true_or, or_false, false_or]) (by simp -implicitDefEqProofs (disch := omega) only [gi_wi, ↓reduceIte, Int.reduceEq, cI_v, cL_v, cV_v, cR_v, wid, wid64, if_pos, if_neg, Nat.add_zero, if_true, if_false, and_self, and_true, true_and, and_false, false_and, or_true, true_or, or_false, false_or]) (by simp -implicitDefEqProofs (disch := omega) only [gi_wi, ↓reduceIte, Int.reduceEq, cI_v, cL_v, cV_v, cR_v, wid, wid64, if_pos, if_neg, Nat.add_zero, if_true, if_false, and_self, and_true, true_and, and_false, false_and, or_true, true_or, or_false, false_or]) (by simp -implicitDefEqProofs (disch := omega) only [gi_wi, ↓reduceIte, Int.reduceEq, cI_v, cL_v, cV_v, cR_v, wid, wid64, if_pos, if_neg, Nat.add_zero, if_true, if_false, and_self, and_true, true_and, and_false, false_and, or_true, true_or, or_false, false_or]) (by simp -implicitDefEqProofs (disch := omega) only [gi_wi, ↓reduceIte, Int.reduceEq, cI_v, cL_v, cV_v, cR_v, wid, wid64, if_pos, if_neg, Nat.add_zero, if_true, if_false, and_self, and_true, true_and, and_false, false_and, or_true, true_or, or_false, false_or]) (fun a j h1 h2 => by rw [gi_wi, if_neg (by omega), gi_wi, if_neg (by omega), gi_wi, if_neg (by omega)]) m, frV_i _ _ (by omega) (frV_w _ _ (by omega) (frV_i _ _ (by omega) (frV_refl _ _ _ _ _ _ _ A))), by simp -implicitDefEqProofs (disch := omega) only [gi_wi, ↓reduceIte, Int.reduceEq, cI_v, cL_v, cV_v, cR_v, wid, wid64, if_pos, if_neg, Nat.add_zero, if_true, if_false, and_self, and_true, true_and, and_false, false_and, or_true, true_or, or_false, false_or]⟩
    have x1 : gi (wi A 190 103 ((o + 1 : Nat) : Int)) 190 102 = ((b + W.length : Nat) : Int) := by simp -implicitDefEqProofs (disch := omega) only [gi_wi, ↓reduceIte, Int.reduceEq, cI_v, cL_v, cV_v, cR_v, wid, wid64, if_pos, if_neg, Nat.add_zero, if_true, if_false, and_self, and_true, true_and, and_false, false_and, or_true, true_or, or_false, false_or]; exact s3
    have x2 : gi (wi (wi A 190 103 ((o + 1 : Nat) : Int)) 268 (b + W.length) v) 190 102 = ((b + W.length : Nat) : Int) := by simp -implicitDefEqProofs (disch := omega) only [gi_wi, ↓reduceIte, Int.reduceEq, cI_v, cL_v, cV_v, cR_v, wid, wid64, if_pos, if_neg, Nat.add_zero, if_true, if_false, and_self, and_true, true_and, and_false, false_and, or_true, true_or, or_false, false_or]; exact s3
    rw [r_X12_qOpens, q_X12_qOpens_0, if_pos m.2.2.1, s5, if_neg (by omega), wid (by omega) (by omega), show (o : Int) + 1 = ((o + 1 : Nat) : Int) by omega, q_X12_qOpens_34, x1, if_pos (by omega), Int.toNat_natCast, q_X12_qOpens_44, x2, wid (by omega) (by omega), q_X12_qOpens_54, show ((b + W.length : Nat) : Int) + 1 = ((b + W.length + 1 : Nat) : Int) by omega]
  · intro ho
    rw [r_X12_qOpens, q_X12_qOpens_0, if_pos m.2.2.1, s5, if_pos (by omega), s_failM _ _ _ _ m.2.2.1, cV_v]
