/-! a hall stands: the class's reader and its sitting begin -/
set_option maxRecDepth 100000 in
theorem s_rbegin (d : Nat) (A : AH) {L : Nat} (l41 : ln A 41 = 1600) (tx : TX (fun j => gi A 41 j) L) : ∃ B, runF (d + 3) 84 [vR 18 42 0, vR 30 41 1600, vI (L : Int)] A = some (none, B) ∧ RdS B (fun j => gi A 41 j) L 0 false ∧ gi B 42 11 = 0 ∧ gi B 42 12 = -1 ∧ (∀ a j, a ≠ 42 → gi B a j = gi A a j) ∧ (∀ a j, a ≠ 42 → gr B a j = gr A a j) ∧ B.2.2 = A.2.2 := by
  have tL := tx.1
  generalize hA1 : wi (wi (wi (wi (wi (wi (wr A 42 0 41) 42 1 (L : Int)) 42 5 0) 42 2 0) 42 6 3) 42 11 0) 42 12 (-1) = A1
  have g1 : ∀ a j, a ≠ 42 → gi A1 a j = gi A a j := fun a j h => by rw [← hA1]; simp -implicitDefEqProofs (disch := omega) only [gi_wi, gi_wr, ↓reduceIte, Int.reduceEq, cI_v, cL_v, cV_v, cR_v, wid, wid64, if_pos, if_neg, Nat.add_zero, if_true, if_false, and_self, and_true, true_and, and_false, false_and, or_true, true_or, or_false, false_or]
  have r1 : ∀ a j, a ≠ 42 → gr A1 a j = gr A a j := fun a j h => by rw [← hA1, gr_wi, gr_wi, gr_wi, gr_wi, gr_wi, gr_wi, gr_wr, if_neg (by omega)]
  have l1 : A1.2.2 = A.2.2 := by rw [← hA1]; rfl
  have rt : RdT A1 (fun j => gi A 41 j) L := ⟨by rw [← hA1, gr_wi, gr_wi, gr_wi, gr_wi, gr_wi, gr_wi, gr_wr, if_pos ⟨rfl, rfl⟩], by rw [← hA1]; exact l41, by rw [← hA1]; simp -implicitDefEqProofs (disch := omega) only [gi_wi, ↓reduceIte, Int.reduceEq, cI_v, cL_v, cV_v, cR_v, wid, wid64, if_pos, if_neg, Nat.add_zero, if_true, if_false, and_self, and_true, true_and, and_false, false_and, or_true, true_or, or_false, false_or], fun j => g1 41 j (by omega), tx⟩
  obtain ⟨B, b1, b2, b3, b4⟩ := s_step d (fun j => gi A 41 j) L 0 3 A1 rt (by omega) (by rw [← hA1]; simp -implicitDefEqProofs (disch := omega) only [gi_wi, ↓reduceIte, Int.reduceEq, cI_v, cL_v, cV_v, cR_v, wid, wid64, if_pos, if_neg, Nat.add_zero, if_true, if_false, and_self, and_true, true_and, and_false, false_and, or_true, true_or, or_false, false_or]; rfl) (by rw [← hA1]; simp -implicitDefEqProofs (disch := omega) only [gi_wi, ↓reduceIte, Int.reduceEq, cI_v, cL_v, cV_v, cR_v, wid, wid64, if_pos, if_neg, Nat.add_zero, if_true, if_false, and_self, and_true, true_and, and_false, false_and, or_true, true_or, or_false, false_or])
  refine ⟨B, ?_, b2, ?_, ?_, fun a j h => ?_, fun a j h => ?_, ?_⟩
  · have em : min (L : Int) ((1600 : Nat) : Int) = L := by omega
    rw [r_X8_begin, q_X8_begin_0 (ha1 := by omega), s_minI, cI_v, em, q_X8_begin_15 (ha1 := by omega), q_X8_begin_25 (ha1 := by omega), q_X8_begin_35 (ha1 := by omega), hA1, b1, cV_v]
  · rw [b4.1 42 11 (by omega), ← hA1]; simp -implicitDefEqProofs (disch := omega) only [gi_wi, ↓reduceIte, Int.reduceEq, cI_v, cL_v, cV_v, cR_v, wid, wid64, if_pos, if_neg, Nat.add_zero, if_true, if_false, and_self, and_true, true_and, and_false, false_and, or_true, true_or, or_false, false_or]
  · rw [b4.1 42 12 (by omega), ← hA1]; simp -implicitDefEqProofs (disch := omega) only [gi_wi, ↓reduceIte, Int.reduceEq, cI_v, cL_v, cV_v, cR_v, wid, wid64, if_pos, if_neg, Nat.add_zero, if_true, if_false, and_self, and_true, true_and, and_false, false_and, or_true, true_or, or_false, false_or]
  · rw [b4.1 a j (by omega)]; exact g1 a j h
  · rw [b4.2.1 a j (by omega)]; exact r1 a j h
  · rw [b4.2.2]; exact l1
def st0 (H : Nat → Nat → Int) (k : Int) : Int := if k < nPe H then H 226 (35 + 4 * k).toNat else -1
def pt0 (H : Nat → Nat → Int) (k : Int) : Int := H 226 (34 + 4 * k).toNat
set_option maxRecDepth 100000 in
theorem l_sb (d h : Nat) {H : Nat → Nat → Int} (hc : cok H) (se : SEA H) (hh : 271 ≤ h) : ∀ (j n : Nat) (k : Int) (A : AH), 0 ≤ k → k + j = nPe H → HR A h H → IV A 68 (nPe H) (st0 H) (pt0 H) k → 3 * j + 10 ≤ n → ∃ B, go true 3 (runF (d + 1)) (runN (d + 1)) pb_X9_begin n 6 [vR 19 68 0, vR 13 h 0, vI k] [] A = some (none, B) ∧ IV B 68 (nPe H) (st0 H) (pt0 H) (nPe H) ∧ (∀ a j, ¬ (69 ≤ a ∧ a ≤ 71) → gi B a j = gi A a j) ∧ (∀ a j, gr B a j = gr A a j) ∧ B.2.2 = A.2.2 := by
  have hc' := hc
  unfold cok at hc'
  intro j
  induction j with
  | zero =>
    intro n k A k0 hk b iv hn
    obtain ⟨n, rfl⟩ : ∃ e, n = e + 10 := ⟨n - 10, by omega⟩
    refine ⟨A, ?_, by rw [show nPe H = k by omega] at iv ⊢; exact iv, fun _ _ _ => rfl, fun _ _ => rfl, rfl⟩
    rw [q_X9_begin_6 (ha0 := by omega) (ha1 := by omega), b.2.1.2.1, if_neg (by omega)]
  | succ j ih =>
    intro n k A k0 hk b iv hn
    obtain ⟨n, rfl⟩ : ∃ e, n = e + 10 := ⟨n - 10, by omega⟩
    have e5 := b.2.2.2.2.1 k k0 (by omega)
    have sb := se.1 k k0 (by omega)
    have es : st0 H k = H 226 (35 + 4 * k).toNat := by unfold st0; rw [if_pos (by omega)]
    have en : numF (nPe H) k = k := by unfold numF; rw [if_pos (by omega)]
    have iv2 := IV_put (K := nMu H) (by omega) (by omega) iv k0 (by omega) (by rw [es]; omega) (by rw [es]; omega) (fun i i0 i1 q => by
      have e2 : st0 H i = H 226 (35 + 4 * i).toNat := by unfold st0; rw [if_pos (by omega)]
      rw [es, e2] at q
      have := se.2 i k i0 (by omega) k0 (by omega) q
      omega)
    rw [en, es] at iv2
    have g1 : ∀ a i, ¬ (69 ≤ a ∧ a ≤ 71) → gi (wi (wi (wi A (68 + 1) k.toNat (H 226 (35 + 4 * k).toNat)) (68 + 2) k.toNat (pt0 H k)) (68 + 3) (H 226 (35 + 4 * k).toNat).toNat k) a i = gi A a i := fun a i h => by simp -implicitDefEqProofs (disch := omega) only [gi_wi, ↓reduceIte, Int.reduceEq, cI_v, cL_v, cV_v, cR_v, wid, wid64, if_pos, if_neg, Nat.add_zero, if_true, if_false, and_self, and_true, true_and, and_false, false_and, or_true, true_or, or_false, false_or]
    obtain ⟨B, b1, b2, b3, b4, b5⟩ := ih (n + 9) (k + 1) _ (by omega) (by omega) (HR_fr (fun a i q => g1 a i (by omega)) (fun _ _ _ => rfl) rfl b) iv2 (by omega)
    refine ⟨B, ?_, b2, fun a i q => (b3 a i q).trans (g1 a i q), b4, b5⟩
    rw [q_X9_begin_6 (ha0 := by omega) (ha1 := by omega), b.2.1.2.1, if_pos (by omega), if_pos (by omega), if_pos (by omega), e5.1, e5.2, s_putP _ _ _ _ _ _ (by omega) k0 (by omega) (by omega) (by omega), cV_v, wid (by omega) (by omega)]
    exact b1
set_option maxRecDepth 100000 in
theorem s_sbegin (d h : Nat) {H : Nat → Nat → Int} (hc : cok H) (se : SEA H) (hh : 271 ≤ h) (A : AH) (b : HR A h H) : ∃ B, runF (d + 3) 96 [vR 19 68 0, vR 13 h 0] A = some (none, B) ∧ IV B 68 (nPe H) (st0 H) (pt0 H) (nPe H + nMu H) ∧ gi B 68 7 = 0 ∧ gi B 68 0 = 0 ∧ gi B 68 1 = 0 ∧ gi B 68 2 = -1 ∧ frW 68 A B := by
  have hc' := hc
  unfold cok at hc'
  obtain ⟨B, b1, b2, b3, b4, b5, b6, b7⟩ := s_clear d 68 (by omega) (nPe H) (st0 H) (pt0 H) A
  obtain ⟨C, c1, c2, c3, c4, c5⟩ := l_sb (d + 1) h hc se hh (nPe H).toNat (fu + 199) 0 B (by omega) (by omega) (HR_fr (fun a i q => b7.1 a i (by omega)) (fun a i _ => b7.2.1 a i) b7.2.2 b) b2 (by have := fu_ge; omega)
  have sk : ∀ j : Nat, (j : Int) ≤ nMu H → IV C 68 (nPe H) (st0 H) (pt0 H) (nPe H + j) := by
    intro j
    induction j with
    | zero => intro _; simpa using c2
    | succ j ih =>
      intro q
      have := IV_skip (K := nMu H) (by omega) (by omega) (ih (by omega)) (by omega) (by omega) (by unfold st0; rw [if_neg (by omega)])
      rw [show nPe H + (j + 1 : Nat) = nPe H + j + 1 by omega]
      exact this
  have k0 := sk (nMu H).toNat (by omega)
  rw [show ((nMu H).toNat : Int) = nMu H by omega] at k0
  refine ⟨C, ?_, k0, ?_, ?_, ?_, ?_, ⟨fun a j q => ?_, fun a j => ?_, ?_⟩⟩
  · rw [r_X9_begin, q_X9_begin_0 (ha0 := by omega) (ha1 := by omega), b1, cV_v]
    exact c1
  · rw [c3 _ _ (by omega)]; exact b3
  · rw [c3 _ _ (by omega)]; exact b4
  · rw [c3 _ _ (by omega)]; exact b5
  · rw [c3 _ _ (by omega)]; exact b6
  · rw [c3 a j (by omega)]; exact b7.1 a j q
  · rw [c4, b7.2.1]
  · rw [c5, b7.2.2]
theorem SK_0 (n : Nat) {B : AH} {H : Nat → Nat → Int} {row : Nat → Int} (hc : cok H) (se : SEA H) (ro : row0 H row) (iv : IV B 68 (nPe H) (st0 H) (pt0 H) (nPe H + nMu H)) (e7 : gi B 68 7 = 0) (e0 : gi B 68 0 = 0) (e1 : gi B 68 1 = 0) (e2 : gi B 68 2 = -1) : SK n B 68 H row := by
  have hc' := hc
  unfold cok at hc'
  obtain ⟨r0, r1, r2, r3, r4, r5⟩ := ro
  have r3' : ∀ k : Int, 0 ≤ k → k < nPe H → row (3 + k).toNat = H 226 (35 + 4 * k).toNat := fun k k0 k1 => by
    have := r3 k.toNat (by omega)
    rw [show (3 + k).toNat = 3 + k.toNat by omega, show (35 + 4 * k).toNat = 35 + 4 * k.toNat by omega]
    exact this
  have es : ∀ k, 0 ≤ k → k < nPe H + nMu H → seatR row (numF (nPe H) k) = st0 H k := fun k k0 k1 => by
    unfold seatR numF st0
    by_cases c : k < nPe H
    · rw [if_pos c, if_pos c]; exact r3' k k0 c
    · rw [if_neg c, if_neg c, show (3 + (10 + (k - nPe H))).toNat = 13 + (k - nPe H).toNat by omega]; exact r4 _ (by omega)
  have ep : ∀ k, 0 ≤ k → k < nPe H + nMu H → st0 H k ≠ -1 → partyF H row (numF (nPe H) k) = pt0 H k := fun k k0 k1 q => by
    have c : k < nPe H := by
      by_cases c : k < nPe H
      · exact c
      · unfold st0 at q; rw [if_neg c] at q; exact absurd rfl q
    unfold partyF numF pt0
    rw [if_pos c, if_pos (by omega)]
  have sb : ∀ k, 0 ≤ k → k < nPe H → st0 H k = H 226 (35 + 4 * k).toNat := fun k k0 k1 => by unfold st0; rw [if_pos k1]
  have sn : ∀ k, ¬ k < nPe H → st0 H k = -1 := fun k k1 => by unfold st0; rw [if_neg k1]
  obtain ⟨sr, dk⟩ := IV_SR (row := row) (by omega) hc iv ⟨by rw [e0, r0], by rw [e1, r1], by rw [e2, r2]⟩ es ep (fun k k0 k1 => by rw [sb k k0 k1]; exact (se.1 k k0 k1).1) (fun k k0 k1 => by
    by_cases c : k < nPe H
    · rw [sb k k0 c]; have := se.1 k k0 c; omega
    · rw [sn k c]; omega) (fun k i i0 i1 k1 q => by
    by_cases c : k < nPe H
    · rw [sb i i0 (by omega), sb k (by omega) c]
      intro y
      have := se.2 i k i0 (by omega) (by omega) c y
      omega
    · exact absurd (sn k c) q)
  have z25 : row 25 = 0 := r5 25 (by omega) (by omega) (by omega) (by omega)
  refine ⟨sr, ⟨by rw [e7]; omega, by rw [z25, e7]; rfl, fun k k0 k1 => by omega⟩, ⟨fun j j1 j2 => ?_, fun j j1 j2 => ?_, by rw [r2]; omega⟩, dk, by rw [r0]; omega, by rw [r1]; omega⟩
  · by_cases c1 : (j : Int) < nPe H + 3
    · have e := r3' (j - 3 : Int) (by omega) (by omega)
      have b := se.1 (j - 3 : Int) (by omega) (by omega)
      rw [show (3 + ((j : Int) - 3)).toNat = j by omega] at e
      rw [e]; omega
    · by_cases c2 : 13 ≤ j
      · have e := r4 (j - 13) (by omega)
        rw [show 13 + (j - 13) = j by omega] at e
        rw [e]; omega
      · rw [r5 j (by omega) (by omega) (by omega) (by omega)]; omega
  · rw [r5 j (by omega) (by omega) (by omega) (by omega)]; exact ⟨by omega, by omega, fun _ => rfl⟩
theorem HR_lt {A B : AH} {z h : Nat} {H : Nat → Nat → Int} (hz : h + 9 < z ∧ gr A h 16 < z ∧ gr A h 17 < z) (g : ∀ a j, a < z → ((48 ≤ a ∧ a ≤ 67) ∨ 271 ≤ a) → gi B a j = gi A a j) (hr : ∀ a j, a < z → ((48 ≤ a ∧ a ≤ 67) ∨ 271 ≤ a) → gr B a j = gr A a j) (l : ∀ a, a < z → ln B a = ln A a) (r : HR A h H) : HR B h H := by
  have hh := r.1
  unfold HR WR at *
  rw [g h 1 (by omega) (by omega), g h 2 (by omega) (by omega), g h 3 (by omega) (by omega), g h 4 (by omega) (by omega), g h 5 (by omega) (by omega), g h 6 (by omega) (by omega), g h 18 (by omega) (by omega), hr h 16 (by omega) (by omega), hr h 17 (by omega) (by omega), l _ hz.2.1, l _ hz.2.2]
  obtain ⟨r1, r2, r3, r4, r5, r6, r7, r8, r9, r10, r11, r12, r13, r14, r15⟩ := r
  refine ⟨r1, r2, fun x hx => ?_, fun x h1 h2 h3 => ?_, fun k h1 h2 => ?_, fun k h1 h2 => ?_, fun k h1 h2 => ?_, fun k h1 h2 => ?_, fun k h1 h2 => ?_, fun k h1 h2 => ?_, fun k h1 h2 => ?_, fun k h1 h2 => ?_, ?_, ?_, r15⟩
  · rw [g _ _ (by omega) (by omega), g _ _ (by omega) (by omega)]; exact r3 x hx
  · rw [g _ _ (by omega) (by omega)]; exact r4 x h1 h2 h3
  · rw [g _ _ (by omega) (by omega), g _ _ (by omega) (by omega)]; exact r5 k h1 h2
  · rw [g _ _ (by omega) (by omega)]; exact r6 k h1 h2
  · rw [g _ _ (by omega) (by omega)]; exact r7 k h1 h2
  · rw [g _ _ (by omega) (by omega)]; exact r8 k h1 h2
  · rw [g _ _ (by omega) (by omega)]; exact r9 k h1 h2
  · rw [g _ _ (by omega) (by omega)]; exact r10 k h1 h2
  · rw [g _ _ (by omega) (by omega)]; exact r11 k h1 h2
  · rw [g _ _ (by omega) (by omega)]; exact r12 k h1 h2
  · rcases r13 with q | ⟨q1, q2, q3, q4⟩
    · exact Or.inl q
    · exact Or.inr ⟨q1, q2, q3, fun k h1 h2 => by rw [g _ _ hz.2.1 (by omega)]; exact q4 k h1 h2⟩
  · rcases r14 with q | ⟨q1, q2, q3, q4⟩
    · exact Or.inl q
    · exact Or.inr ⟨q1, q2, q3, fun k h1 h2 => by rw [g _ _ hz.2.2 (by omega)]; exact q4 k h1 h2⟩
