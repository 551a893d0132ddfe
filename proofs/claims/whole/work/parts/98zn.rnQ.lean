/-! the reference's reading of sums in a question: rules for a part -/
def qwF (w : Nat) : Int := if w = 3 then 0 else (if w = 4 then 1 else (if w = 19 then 2 else (if w = 20 then 3 else (if w = 21 then 4 else (if w = 12 then 5 else (if w = 13 then 6 else (if w = 22 then 7 else (if w = 23 then 8 else (if w = 24 then 9 else (if w = 31 then 10 else -1))))))))))
set_option maxRecDepth 100000 in
theorem s_wordHereQ (d : Nat) {T : Nat → Int} {L p : Nat} {t : Bool} (A : AH) (m : MdL A T L p t) : runF (d + 3) 269 [vR 21 190 0] A = some (some (vI (qwF (wrd T L p t))), A) := by
  rw [r_X12_qWordHere, q_X12_qWordHere_0]
  unfold qwF
  rw [s_isHereL d 256 5 3 A m (by omega) (by decide) (by decide), cI_v]
  by_cases c0 : wrd T L p t = 3
  · rw [decide_eq_true c0, bI_t, if_neg (by omega), if_pos c0]
  rw [decide_eq_false c0, bI_f, if_pos rfl, if_neg c0]
  rw [s_isHereL d 257 6 4 A m (by omega) (by decide) (by decide), cI_v]
  by_cases c1 : wrd T L p t = 4
  · rw [decide_eq_true c1, bI_t, if_neg (by omega), if_pos c1]
  rw [decide_eq_false c1, bI_f, if_pos rfl, if_neg c1]
  rw [s_isHereL d 258 4 19 A m (by omega) (by decide) (by decide), cI_v]
  by_cases c2 : wrd T L p t = 19
  · rw [decide_eq_true c2, bI_t, if_neg (by omega), if_pos c2]
  rw [decide_eq_false c2, bI_f, if_pos rfl, if_neg c2]
  rw [s_isHereL d 259 5 20 A m (by omega) (by decide) (by decide), cI_v]
  by_cases c3 : wrd T L p t = 20
  · rw [decide_eq_true c3, bI_t, if_neg (by omega), if_pos c3]
  rw [decide_eq_false c3, bI_f, if_pos rfl, if_neg c3]
  rw [s_isHereL d 260 5 21 A m (by omega) (by decide) (by decide), cI_v]
  by_cases c4 : wrd T L p t = 21
  · rw [decide_eq_true c4, bI_t, if_neg (by omega), if_pos c4]
  rw [decide_eq_false c4, bI_f, if_pos rfl, if_neg c4, q_X12_qWordHere_65]
  rw [s_isHereL d 261 5 12 A m (by omega) (by decide) (by decide), cI_v]
  by_cases c5 : wrd T L p t = 12
  · rw [decide_eq_true c5, bI_t, if_neg (by omega), if_pos c5]
  rw [decide_eq_false c5, bI_f, if_pos rfl, if_neg c5]
  rw [s_isHereL d 262 4 13 A m (by omega) (by decide) (by decide), cI_v]
  by_cases c6 : wrd T L p t = 13
  · rw [decide_eq_true c6, bI_t, if_neg (by omega), if_pos c6]
  rw [decide_eq_false c6, bI_f, if_pos rfl, if_neg c6]
  rw [s_isHereL d 263 6 22 A m (by omega) (by decide) (by decide), cI_v]
  by_cases c7 : wrd T L p t = 22
  · rw [decide_eq_true c7, bI_t, if_neg (by omega), if_pos c7]
  rw [decide_eq_false c7, bI_f, if_pos rfl, if_neg c7]
  rw [s_isHereL d 264 6 23 A m (by omega) (by decide) (by decide), cI_v]
  by_cases c8 : wrd T L p t = 23
  · rw [decide_eq_true c8, bI_t, if_neg (by omega), if_pos c8]
  rw [decide_eq_false c8, bI_f, if_pos rfl, if_neg c8]
  rw [s_isHereL d 265 5 24 A m (by omega) (by decide) (by decide), cI_v]
  by_cases c9 : wrd T L p t = 24
  · rw [decide_eq_true c9, bI_t, if_neg (by omega), if_pos c9]
  rw [decide_eq_false c9, bI_f, if_pos rfl, if_neg c9, q_X12_qWordHere_134]
  rw [s_isHereL d 266 6 31 A m (by omega) (by decide) (by decide), cI_v]
  by_cases c10 : wrd T L p t = 31
  · rw [decide_eq_true c10, bI_t, if_neg (by omega), if_pos c10]
  rw [decide_eq_false c10, bI_f, if_pos rfl, if_neg c10]
set_option maxRecDepth 100000 in
theorem s_wordOfQ (d : Nat) {T : Nat → Int} {L p : Nat} {t : Bool} (A : AH) (x y : Int) (m : MdL A T L p t) : runF (d + 4) 270 [vR 21 190 0, vI x, vI y] A = some (some (vI (if x ≤ qwF (wrd T L p t) ∧ qwF (wrd T L p t) < y then qwF (wrd T L p t) else -1)), A) := by
  rw [r_X12_qWordOf, q_X12_qWordOf_0, s_wordHereQ d A m, cI_v]
  by_cases c : qwF (wrd T L p t) < x
  · rw [if_pos c, if_neg (by omega), q_X12_qWordOf_19]
  · rw [if_neg c]
    by_cases c2 : qwF (wrd T L p t) < y
    · rw [if_pos c2, if_pos (by omega)]
    · rw [if_neg c2, if_neg (by omega), q_X12_qWordOf_19]
set_option maxRecDepth 100000 in
theorem s_asksWordQ (d : Nat) {T : Nat → Int} {L p : Nat} {t : Bool} (A : AH) (m : MdS A T L p t) (h : 0 ≤ qwF (wrd T L p t)) : ∃ B, runF (d + 5) 271 [vR 21 190 0, vI (qwF (wrd T L p t))] A = some (none, B) ∧ MdS B T L (stp T L p) true ∧ frZ A B := by
  have ak : ∀ r len k, (193 ≤ r ∧ r ≤ 223) ∨ (244 ≤ r ∧ r ≤ 266) → (wl (wo r)).length = len → wo r + 1 = k → wrd T L p t = k → ∃ B, runF (d + 4) 158 [vR 21 190 0, vR 32 r len] A = some (none, B) ∧ MdS B T L (stp T L p) true ∧ frZ A B := by
    intro r len k h1 h2 h3 h4
    have ka := s_asks d r len k A m h1 h2 h3
    rw [show tkW T L p t k = .ok (stp T L p, true) by unfold tkW; rw [if_pos h4]] at ka
    exact ka
  by_cases c0 : wrd T L p t = 3
  · obtain ⟨B, b1, b2, b3⟩ := ak 256 5 3 (by omega) (by decide) (by decide) c0
    refine ⟨B, ?_, b2, b3⟩
    rw [show qwF (wrd T L p t) = 0 by rw [c0]; decide, r_X12_qAsksWord, q_X12_qAsksWord_0, if_pos rfl, b1, cV_v]
  by_cases c1 : wrd T L p t = 4
  · obtain ⟨B, b1, b2, b3⟩ := ak 257 6 4 (by omega) (by decide) (by decide) c1
    refine ⟨B, ?_, b2, b3⟩
    rw [show qwF (wrd T L p t) = 1 by rw [c1]; decide, r_X12_qAsksWord, q_X12_qAsksWord_0, if_neg (by omega), if_pos rfl, b1, cV_v]
  by_cases c2 : wrd T L p t = 19
  · obtain ⟨B, b1, b2, b3⟩ := ak 258 4 19 (by omega) (by decide) (by decide) c2
    refine ⟨B, ?_, b2, b3⟩
    rw [show qwF (wrd T L p t) = 2 by rw [c2]; decide, r_X12_qAsksWord, q_X12_qAsksWord_0, if_neg (by omega), if_neg (by omega), if_pos rfl, b1, cV_v]
  by_cases c3 : wrd T L p t = 20
  · obtain ⟨B, b1, b2, b3⟩ := ak 259 5 20 (by omega) (by decide) (by decide) c3
    refine ⟨B, ?_, b2, b3⟩
    rw [show qwF (wrd T L p t) = 3 by rw [c3]; decide, r_X12_qAsksWord, q_X12_qAsksWord_0, if_neg (by omega), if_neg (by omega), if_neg (by omega), if_pos rfl, b1, cV_v]
  by_cases c4 : wrd T L p t = 21
  · obtain ⟨B, b1, b2, b3⟩ := ak 260 5 21 (by omega) (by decide) (by decide) c4
    refine ⟨B, ?_, b2, b3⟩
    rw [show qwF (wrd T L p t) = 4 by rw [c4]; decide, r_X12_qAsksWord, q_X12_qAsksWord_0, if_neg (by omega), if_neg (by omega), if_neg (by omega), if_neg (by omega), if_pos rfl, b1, cV_v]
  by_cases c5 : wrd T L p t = 12
  · obtain ⟨B, b1, b2, b3⟩ := ak 261 5 12 (by omega) (by decide) (by decide) c5
    refine ⟨B, ?_, b2, b3⟩
    rw [show qwF (wrd T L p t) = 5 by rw [c5]; decide, r_X12_qAsksWord, q_X12_qAsksWord_0, if_neg (by omega), if_neg (by omega), if_neg (by omega), if_neg (by omega), if_neg (by omega), if_pos rfl, b1, cV_v]
  by_cases c6 : wrd T L p t = 13
  · obtain ⟨B, b1, b2, b3⟩ := ak 262 4 13 (by omega) (by decide) (by decide) c6
    refine ⟨B, ?_, b2, b3⟩
    rw [show qwF (wrd T L p t) = 6 by rw [c6]; decide, r_X12_qAsksWord, q_X12_qAsksWord_0, if_neg (by omega), if_neg (by omega), if_neg (by omega), if_neg (by omega), if_neg (by omega), if_neg (by omega), if_pos rfl, b1, cV_v]
  by_cases c7 : wrd T L p t = 22
  · obtain ⟨B, b1, b2, b3⟩ := ak 263 6 22 (by omega) (by decide) (by decide) c7
    refine ⟨B, ?_, b2, b3⟩
    rw [show qwF (wrd T L p t) = 7 by rw [c7]; decide, r_X12_qAsksWord, q_X12_qAsksWord_0, if_neg (by omega), if_neg (by omega), if_neg (by omega), if_neg (by omega), if_neg (by omega), if_neg (by omega), if_neg (by omega), if_pos rfl, b1, cV_v]
  by_cases c8 : wrd T L p t = 23
  · obtain ⟨B, b1, b2, b3⟩ := ak 264 6 23 (by omega) (by decide) (by decide) c8
    refine ⟨B, ?_, b2, b3⟩
    rw [show qwF (wrd T L p t) = 8 by rw [c8]; decide, r_X12_qAsksWord, q_X12_qAsksWord_0, if_neg (by omega), if_neg (by omega), if_neg (by omega), if_neg (by omega), if_neg (by omega), if_neg (by omega), if_neg (by omega), if_neg (by omega), if_pos rfl, b1, cV_v]
  by_cases c9 : wrd T L p t = 24
  · obtain ⟨B, b1, b2, b3⟩ := ak 265 5 24 (by omega) (by decide) (by decide) c9
    refine ⟨B, ?_, b2, b3⟩
    rw [show qwF (wrd T L p t) = 9 by rw [c9]; decide, r_X12_qAsksWord, q_X12_qAsksWord_0, if_neg (by omega), if_neg (by omega), if_neg (by omega), if_neg (by omega), if_neg (by omega), if_neg (by omega), if_neg (by omega), if_neg (by omega), if_neg (by omega), if_pos rfl, b1, cV_v]
  by_cases c10 : wrd T L p t = 31
  · obtain ⟨B, b1, b2, b3⟩ := ak 266 6 31 (by omega) (by decide) (by decide) c10
    refine ⟨B, ?_, b2, b3⟩
    rw [show qwF (wrd T L p t) = 10 by rw [c10]; decide, r_X12_qAsksWord, q_X12_qAsksWord_0, if_neg (by omega), if_neg (by omega), if_neg (by omega), if_neg (by omega), if_neg (by omega), if_neg (by omega), if_neg (by omega), if_neg (by omega), if_neg (by omega), if_neg (by omega), b1, cV_v]
  unfold qwF at h
  rw [if_neg c0, if_neg c1, if_neg c2, if_neg c3, if_neg c4, if_neg c5, if_neg c6, if_neg c7, if_neg c8, if_neg c9, if_neg c10] at h
  omega
theorem qw_F : ∀ w, w < 38 → isF true w = decide (0 ≤ qwF w ∧ qwF w < 10) ∧ (isF true w = true → wdf 1 w = qwF w) ∧ (qwF w = 10 ↔ w = 31) ∧ -1 ≤ qwF w ∧ qwF w ≤ 10 := by decide
theorem ST_oQ {b c0 : Nat} {A : AH} {W C : List Int} {o : Nat} (o' : Nat) (s : STQ b c0 A W C o) : STQ b c0 (wi A 190 103 (o' : Int)) W C o' := by
  obtain ⟨⟨s1, s2⟩, ⟨s3, s4⟩, s5, s6, s7⟩ := s
  refine ⟨⟨by rw [gi_wi, if_neg (by omega)]; exact s1, fun i hi => by rw [gi_wi, if_neg (by omega)]; exact s2 i hi⟩, ⟨by rw [gi_wi, if_neg (by omega)]; exact s3, stkR_fr (A := A) (fun j _ _ => by rw [gi_wi, if_neg (by omega)]) s4⟩, by rw [gi_wi, if_pos ⟨rfl, rfl⟩], by rw [gi_wi, if_neg (by omega)]; exact s6, fun h => by rw [gi_wi, if_neg (by omega)]; exact s7 h⟩
def EzQ (d : Nat) (T : Nat → Int) (L b c0 : Nat) (x1 : Int) (Ast : AH) (Φ : RS → Prop) (W C : List Int) (o p : Nat) (t : Bool) : Prop := ∀ (A : AH), RpQ T L b c0 Ast A W C o p t → ∃ B, (∀ n, 3 * o + 10 ≤ n → go true 3 (runF (d + 4)) (runN (d + 4)) pb_X12_qEndsPart n 0 [vR 21 190 0] [] A = some (none, B)) ∧ gi B 190 5 = 0 ∧ ∀ (n1 n2 : Nat), 20 * o + 6000 ≤ n1 → 10 * (L - p) + 6000 ≤ n2 → Φ (cI (go true 2 (runF (d + 5)) (runN (d + 5)) pb_X12_qGoesOn n1 0 [vR 21 190 0, vU] [] B) (kAQ d x1 n2))
theorem Ez_Ep {d : Nat} {T : Nat → Int} {L b c0 : Nat} {x1 : Int} {Ast : AH} {Φ : RS → Prop} {W C : List Int} {o p : Nat} {t : Bool} (h : EzQ d T L b c0 x1 Ast Φ W C o p t) : EpQ d T L b c0 x1 Ast Φ W C o p t := by
  intro A r
  obtain ⟨B, b1, b2, b3⟩ := h A r
  exact ⟨B, by rw [r_X12_qEndsPart]; exact b1 _ (by have := r.2.2.2.2; have := fu_ge; omega), b2, b3⟩
def gW (W : List Int) : Prop := ∀ w ∈ W, w ≤ 60
theorem gW_c {x : Int} {W : List Int} (hx : x ≤ 60) (h : gW W) : gW (x :: W) := fun w hw => by
  rcases List.mem_cons.mp hw with y | y
  · rw [y]; exact hx
  · exact h w y
theorem gW_t {x : Int} {W : List Int} (h : gW (x :: W)) : gW W := fun w hw => h w (List.mem_cons_of_mem _ hw)
theorem gW_a {V W : List Int} (h : gW (V ++ W)) : gW W := fun w hw => h w (List.mem_append_right _ hw)
theorem RlE_Qs (d : Nat) {T : Nat → Int} {L b c0 : Nat} {x1 : Int} {Ast : AH} {Φ : RS → Prop} (tx : TX T L) : (∀ W C o p t, EzQ d T L b c0 x1 Ast Φ W (C ++ [60]) o p t → EzQ d T L b c0 x1 Ast Φ (60 :: W) C (o + 1) p t) ∧ (∀ W C o p t, gW W → hdI W ≠ 60 → ApQ d T L b c0 x1 Ast Φ W C o p t → EzQ d T L b c0 x1 Ast Φ W C o p t) := by
  have tL := tx.1
  refine ⟨fun W C o p t h A r => ?_, fun W C o p t gw hW h A r => ?_⟩
  · have hp := r.1.2.1
    have hl := r.2.2.2.1
    have ho := r.2.2.2.2
    simp only [List.length_cons] at hl
    have s := r.2.1
    have s3 := s.2.1.1
    have s4 := s.2.1.2.1
    have s5 := s.2.2.1
    have s6 := s.2.2.2.1
    simp only [List.length_cons] at s3
    have fo : fVQ b c0 A (wi A 190 103 ((o : Nat) : Int)) := frV_i _ _ (by omega) (frV_refl _ _ _ _ _ _ _ A)
    have mo : MdS (wi A 190 103 ((o : Nat) : Int)) T L p t := MdS_fr (by simp -implicitDefEqProofs (disch := omega) only [gi_wi, ↓reduceIte, Int.reduceEq, cI_v, cL_v, cV_v, cR_v, wid, wid64, if_pos, if_neg, Nat.add_zero, if_true, if_false, and_self, and_true, true_and, and_false, false_and, or_true, true_or, or_false, false_or]) (by simp -implicitDefEqProofs (disch := omega) only [gi_wi, ↓reduceIte, Int.reduceEq, cI_v, cL_v, cV_v, cR_v, wid, wid64, if_pos, if_neg, Nat.add_zero, if_true, if_false, and_self, and_true, true_and, and_false, false_and, or_true, true_or, or_false, false_or]) (by simp -implicitDefEqProofs (disch := omega) only [gi_wi, ↓reduceIte, Int.reduceEq, cI_v, cL_v, cV_v, cR_v, wid, wid64, if_pos, if_neg, Nat.add_zero, if_true, if_false, and_self, and_true, true_and, and_false, false_and, or_true, true_or, or_false, false_or]) (by simp -implicitDefEqProofs (disch := omega) only [gi_wi, ↓reduceIte, Int.reduceEq, cI_v, cL_v, cV_v, cR_v, wid, wid64, if_pos, if_neg, Nat.add_zero, if_true, if_false, and_self, and_true, true_and, and_false, false_and, or_true, true_or, or_false, false_or]) (by simp -implicitDefEqProofs (disch := omega) only [gi_wi, ↓reduceIte, Int.reduceEq, cI_v, cL_v, cV_v, cR_v, wid, wid64, if_pos, if_neg, Nat.add_zero, if_true, if_false, and_self, and_true, true_and, and_false, false_and, or_true, true_or, or_false, false_or]) (fun a j q1 q2 => by simp -implicitDefEqProofs (disch := omega) only [gi_wi, ↓reduceIte, Int.reduceEq, cI_v, cL_v, cV_v, cR_v, wid, wid64, if_pos, if_neg, Nat.add_zero, if_true, if_false, and_self, and_true, true_and, and_false, false_and, or_true, true_or, or_false, false_or]) r.1
    obtain ⟨D, d1, d2, d3, d4, d5⟩ := s_dropsQ (d + 2) 60 (wi A 190 103 ((o : Nat) : Int)) W C o (ST_oQ o s) mo (by omega) (by omega)
    obtain ⟨B, b1, b2, b3⟩ := h D (Rp_oQ r (frV_trans fo d4) d3 d2 (by simp; omega) (by omega))
    refine ⟨B, fun n hn => ?_, b2, fun n1 n2 q1 q2 => b3 n1 n2 (by omega) q2⟩
    obtain ⟨n, rfl⟩ : ∃ e, n = e + 10 := ⟨n - 10, by omega⟩
    have ew : w32 (gi A 190 102 - 1) = ((b + W.length : Nat) : Int) := by rw [s3, wid (by omega) (by omega)]; omega
    have eo : w32 (gi A 190 103 - 1) = ((o : Nat) : Int) := by rw [s5, wid (by omega) (by omega)]; omega
    rw [q_X12_qEndsPart_0, if_pos r.1.2.2.1, s6, if_pos (by rw [s3]; omega)]
    simp only [ew, eo]
    rw [if_pos (by omega), Int.toNat_natCast, s4, if_neg (by omega), q_X12_qEndsPart_44, d1, cV_v]
    exact b1 (n + 8) (by omega)
  · have hp := r.1.2.1
    have hl := r.2.2.2.1
    have s := r.2.1
    have s3 := s.2.1.1
    have s6 := s.2.2.2.1
    refine ⟨A, fun n hn => ?_, r.1.2.2.1, fun n1 n2 q1 q2 => h A n1 n2 r q1 q2⟩
    obtain ⟨n, rfl⟩ : ∃ e, n = e + 10 := ⟨n - 10, by omega⟩
    rw [q_X12_qEndsPart_0, if_pos r.1.2.2.1, s6, s3]
    cases W with
    | nil => rw [if_neg (by simp)]
    | cons x W =>
      simp only [List.length_cons] at s3 hl
      have x60 : x ≠ 60 := hW
      have s4 := s.2.1.2.1
      have ew : w32 (((b + (x :: W).length : Nat) : Int) - 1) = ((b + W.length : Nat) : Int) := by rw [List.length_cons, wid (by omega) (by omega)]; omega
      rw [if_pos (by rw [List.length_cons]; omega)]
      simp only [ew]
      rw [if_pos (by omega), Int.toNat_natCast, s4]
      have := gw x (by simp)
      rw [if_pos (by omega)]
