/-! the reference's reader: names -/
def nameV (T : Nat → Int) (L p : Nat) : Int := hz (dg T (bl T L p) (stp T L p - bl T L p)) (stp T L p - bl T L p)
set_option maxRecDepth 100000 in
theorem l_name (d : Nat) (T : Nat → Int) (L s N : Nat) (hN : rn lP T L s = s + N) (hs : s ≤ L) : ∀ (j n i : Nat) (A : AH), i + j = N → i ≤ 6 → MdT A T L → gi A 190 5 = 0 → gi A 190 2 = ((s + i : Nat) : Int) → gi A 190 42 = s → 5 * j + 20 ≤ n → (N ≤ 6 → ∃ B, go true 1 (runF (d + 1)) (runN (d + 1)) pb_X12_name n 58 [vR 21 190 0, vL (hz (dg T s N) i), vS] [] A = some (some (vL (hz (dg T s N) N)), B) ∧ frZ A B ∧ gi B 190 5 = 0 ∧ gi B 190 2 = ((s + N : Nat) : Int) ∧ gi B 190 4 = ((s + N : Nat) : Int) ∧ gi B 190 42 = s ∧ gi B 190 6 = gi A 190 6) ∧ (6 < N → ∃ B, go true 1 (runF (d + 1)) (runN (d + 1)) pb_X12_name n 58 [vR 21 190 0, vL (hz (dg T s N) i), vS] [] A = some (some (vL 0), B) ∧ MB A B 1 (s + 6)) := by
  have hL := rn_L (P := lP) (T := T) hs
  have hl : ∀ i, i < N → lP (T (s + i)) = true := fun i hi => rn_in (P := lP) (T := T) (L := L) (s := s) (s + i) (by omega) (by omega)
  intro j
  induction j with
  | zero =>
    intro n i A h1 h2 h3 h4 h5 h6 hn
    obtain ⟨n, rfl⟩ : ∃ e, n = e + 20 := ⟨n - 20, by omega⟩
    obtain ⟨t1, t2, t3, t4⟩ := h3
    have tL := t3.1
    have ei : i = N := by omega
    subst ei
    refine ⟨fun _ => ?_, fun q => by omega⟩
    refine ⟨wi A 190 4 ((s + i : Nat) : Int), ?_, frZ_wi _ (by omega) (frZ_refl A), by simp -implicitDefEqProofs (disch := omega) only [gi_wi, ↓reduceIte, Int.reduceEq, cI_v, cL_v, cV_v, cR_v, wid, wid64, if_pos, if_neg, Nat.add_zero, if_true, if_false, and_self, and_true, true_and, and_false, false_and, or_true, true_or, or_false, false_or]; exact h4, by simp -implicitDefEqProofs (disch := omega) only [gi_wi, ↓reduceIte, Int.reduceEq, cI_v, cL_v, cV_v, cR_v, wid, wid64, if_pos, if_neg, Nat.add_zero, if_true, if_false, and_self, and_true, true_and, and_false, false_and, or_true, true_or, or_false, false_or]; exact h5, by simp -implicitDefEqProofs (disch := omega) only [gi_wi, ↓reduceIte, Int.reduceEq, cI_v, cL_v, cV_v, cR_v, wid, wid64, if_pos, if_neg, Nat.add_zero, if_true, if_false, and_self, and_true, true_and, and_false, false_and, or_true, true_or, or_false, false_or], by simp -implicitDefEqProofs (disch := omega) only [gi_wi, ↓reduceIte, Int.reduceEq, cI_v, cL_v, cV_v, cR_v, wid, wid64, if_pos, if_neg, Nat.add_zero, if_true, if_false, and_self, and_true, true_and, and_false, false_and, or_true, true_or, or_false, false_or]; exact h6, by simp -implicitDefEqProofs (disch := omega) only [gi_wi, ↓reduceIte, Int.reduceEq, cI_v, cL_v, cV_v, cR_v, wid, wid64, if_pos, if_neg, Nat.add_zero, if_true, if_false, and_self, and_true, true_and, and_false, false_and, or_true, true_or, or_false, false_or]⟩
    have e1 : go true 1 (runF (d + 1)) (runN (d + 1)) pb_X12_name (n + 19) 145 [vR 21 190 0, vL (hz (dg T s i) i), vS] [] A = some (some (vL (hz (dg T s i) i)), wi A 190 4 ((s + i : Nat) : Int)) := by
      rw [q_X12_name_145, h5]
    rw [q_X12_name_58, h5, t1]
    by_cases c : s + i < L
    · have hb := rn_end (P := lP) (T := T) hs (by omega)
      rw [hN] at hb
      rw [if_pos (by omega), if_pos (by omega), Int.toNat_natCast, t2 _ (by omega), s_isLetter, cI_v, hb, bI_f, if_pos rfl]
      exact e1
    · rw [if_neg (by omega)]
      exact e1
  | succ j ih =>
    intro n i A h1 h2 h3 h4 h5 h6 hn
    obtain ⟨n, rfl⟩ : ∃ e, n = e + 20 := ⟨n - 20, by omega⟩
    have h3' := h3
    obtain ⟨t1, t2, t3, t4⟩ := h3
    have tL := t3.1
    have hb : lP (T (s + i)) = true := hl i (by omega)
    have hbb := lP_t.mp hb
    have e1 : ∀ R, (if i = 6 then (cV (runF (d + 1) 152 [vR 21 190 0, vI 1, vI ((s + i : Nat) : Int)] A) fun A3 => go true 1 (runF (d + 1)) (runN (d + 1)) pb_X12_name (n + 19) 107 [vR 21 190 0, vL (hz (dg T s N) i), vS] [] A3) else go true 1 (runF (d + 1)) (runN (d + 1)) pb_X12_name (n + 19) 109 [vR 21 190 0, vL (hz (dg T s N) i), vS] [] A) = R → go true 1 (runF (d + 1)) (runN (d + 1)) pb_X12_name (n + 20) 58 [vR 21 190 0, vL (hz (dg T s N) i), vS] [] A = R := by
      intro R hR
      rw [q_X12_name_58, h5, t1, if_pos (by omega), if_pos (by omega), Int.toNat_natCast, t2 _ (by omega), s_isLetter, cI_v, hb, bI_t, if_neg (by omega), h5, h6, wid (by omega) (by omega)]
      by_cases c : i = 6
      · rw [if_pos (by omega), ← hR, if_pos c]
      · rw [if_neg (by omega), ← hR, if_neg c]
    by_cases c : i = 6
    · refine ⟨fun q => by omega, fun _ => ⟨wi (wi A 190 5 1) 190 6 (s + 6), e1 _ ?_, MB_f A 1 _ (by decide)⟩⟩
      rw [if_pos c, s_failM _ _ _ _ h4, cV_v, q_X12_name_107, show ((s + i : Nat) : Int) = (s : Int) + 6 by omega]
    · have f1 : frZ A (wi A 190 2 ((s + (i + 1) : Nat) : Int)) := frZ_wi _ (by omega) (frZ_refl A)
      have b := hz_5 (dg_bd hl) i (by omega)
      obtain ⟨i1, i2⟩ := ih (n + 17) (i + 1) (wi A 190 2 ((s + (i + 1) : Nat) : Int)) (by omega) (by omega) (MdT_Z f1 h3') (by simp -implicitDefEqProofs (disch := omega) only [gi_wi, ↓reduceIte, Int.reduceEq, cI_v, cL_v, cV_v, cR_v, wid, wid64, if_pos, if_neg, Nat.add_zero, if_true, if_false, and_self, and_true, true_and, and_false, false_and, or_true, true_or, or_false, false_or]; exact h4) (by simp -implicitDefEqProofs (disch := omega) only [gi_wi, ↓reduceIte, Int.reduceEq, cI_v, cL_v, cV_v, cR_v, wid, wid64, if_pos, if_neg, Nat.add_zero, if_true, if_false, and_self, and_true, true_and, and_false, false_and, or_true, true_or, or_false, false_or]) (by simp -implicitDefEqProofs (disch := omega) only [gi_wi, ↓reduceIte, Int.reduceEq, cI_v, cL_v, cV_v, cR_v, wid, wid64, if_pos, if_neg, Nat.add_zero, if_true, if_false, and_self, and_true, true_and, and_false, false_and, or_true, true_or, or_false, false_or]; exact h6) (by omega)
      have e2 : go true 1 (runF (d + 1)) (runN (d + 1)) pb_X12_name (n + 20) 58 [vR 21 190 0, vL (hz (dg T s N) i), vS] [] A = go true 1 (runF (d + 1)) (runN (d + 1)) pb_X12_name (n + 17) 58 [vR 21 190 0, vL (hz (dg T s N) (i + 1)), vS] [] (wi A 190 2 ((s + (i + 1) : Nat) : Int)) := by
        refine e1 _ ?_
        rw [if_neg c, q_X12_name_109, h5, if_pos (by omega), Int.toNat_natCast, t2 _ (by omega), wid64 (x := 27 * hz (dg T s N) i) (by omega) (by omega), wid64 (x := 27 * hz (dg T s N) i + T (s + i)) (by omega) (by omega), wid64 (x := 27 * hz (dg T s N) i + T (s + i) - 97) (by omega) (by omega), wid64 (by omega) (by omega), wid (by omega) (by omega), q_X12_name_142]
        have ev : hz (dg T s N) (i + 1) = 27 * hz (dg T s N) i + T (s + i) - 97 + 1 := by
          show hz (dg T s N) i * 27 + dg T s N i = _
          unfold dg; rw [if_pos (by omega)]; omega
        rw [ev, show ((s + i : Nat) : Int) + 1 = ((s + (i + 1) : Nat) : Int) by omega]
      refine ⟨fun q => ?_, fun q => ?_⟩
      · obtain ⟨B, g2, g3, g4, g5, g6, g7, g8⟩ := i1 q
        exact ⟨B, e2.trans g2, frZ_trans f1 g3, g4, g5, g6, g7, by rw [g8, gi_wi, if_neg (by omega)]⟩
      · obtain ⟨B, g1, g2⟩ := i2 q
        exact ⟨B, e2.trans g1, MB_t f1 g2⟩
set_option maxRecDepth 100000 in
theorem s_name (d : Nat) {T : Nat → Int} {L p : Nat} {t : Bool} (A : AH) (m : MdS A T L p t) : match tkA T L p t with
    | .ok (p', t') => ∃ B, runF (d + 4) 163 [vR 21 190 0] A = some (some (vL (nameV T L p)), B) ∧ MdS B T L p' t' ∧ frZ A B ∧ gi B 190 42 = bl T L p
    | .error (k, s) => ∃ B, runF (d + 4) 163 [vR 21 190 0] A = some (some (vL 0), B) ∧ MB A B k s := by
  have tx := m.1.2.2.1
  have tL := tx.1
  have hL := m.2.1
  have hb := bl_L (T := T) hL
  obtain ⟨k1, k2, k3⟩ := s_lookM (d + 2) A m
  have bad : ∀ n u1 u2, ∃ B, go true 1 (runF (d + 3)) (runN (d + 3)) pb_X12_name (n + 1) 37 [vR 21 190 0, u1, u2] [] (wi A 190 2 (bl T L p : Int)) = some (some (vL 0), B) ∧ MB A B 1 (bl T L p) := fun n u1 u2 => by
    rw [q_X12_name_37, s_failM _ _ _ _ k2.1.2.2.1, cV_v, k2.2]
    exact ⟨_, rfl, MB_t k3 (MB_f _ 1 _ (by decide))⟩
  rw [r_X12_name, q_X12_name_0, if_pos m.2.2.1, k1, cI_v, s_isLetter, cI_v]
  by_cases c1 : lP (ch T L (bl T L p)) = true
  · rw [c1, bI_t, if_neg (by omega)]
    by_cases c2 : stk T L p t = true
    · rw [if_pos ((at_ended k2).mpr c2)]
      have ek : knd T L p t = 4 := by unfold knd; rw [if_pos c1, if_pos c2]
      rw [show tkA T L p t = .error (1, bl T L p) by unfold tkA; rw [if_neg (fun z => by have := z.1; omega)]]
      exact bad _ _ _
    · rw [if_neg (fun z => c2 ((at_ended k2).mp z)), s_isOwnHere d _ k2, cI_v]
      have ek : knd T L p t = 1 := by unfold knd; rw [if_pos c1, if_neg c2]
      have es : stp T L p = rn lP T L (bl T L p) := by unfold stp; rw [if_pos c1]
      have sl := stp_le T L p
      have sL := stp_L tx hL
      by_cases c3 : 1 ≤ wrd T L p t ∧ wrd T L p t ≤ 31
      · rw [decide_eq_true c3, bI_t, if_neg (by omega), show tkA T L p t = .error (1, bl T L p) by unfold tkA; rw [if_neg (fun z => by have := z.2; omega)]]
        exact bad _ _ _
      · have c3' : wrd T L p t = 0 ∨ 31 < wrd T L p t := by omega
        rw [decide_eq_false c3, bI_f, if_pos rfl, k2.2, Nat.add_zero (fu + 197)]
        have f4 : frZ A (wi (wi A 190 2 (bl T L p : Int)) 190 42 (bl T L p : Int)) := frZ_wi _ (by omega) k3
        obtain ⟨n1, n2⟩ := l_name (d + 2) T L (bl T L p) (stp T L p - bl T L p) (by omega) hb (stp T L p - bl T L p) (fu + 197) 0 (wi (wi A 190 2 (bl T L p : Int)) 190 42 (bl T L p : Int)) (by omega) (by omega) (MdT_Z f4 m.1) (by simp -implicitDefEqProofs (disch := omega) only [gi_wi, ↓reduceIte, Int.reduceEq, cI_v, cL_v, cV_v, cR_v, wid, wid64, if_pos, if_neg, Nat.add_zero, if_true, if_false, and_self, and_true, true_and, and_false, false_and, or_true, true_or, or_false, false_or]; exact m.2.2.1) (by simp -implicitDefEqProofs (disch := omega) only [gi_wi, ↓reduceIte, Int.reduceEq, cI_v, cL_v, cV_v, cR_v, wid, wid64, if_pos, if_neg, Nat.add_zero, if_true, if_false, and_self, and_true, true_and, and_false, false_and, or_true, true_or, or_false, false_or]) (by simp -implicitDefEqProofs (disch := omega) only [gi_wi, ↓reduceIte, Int.reduceEq, cI_v, cL_v, cV_v, cR_v, wid, wid64, if_pos, if_neg, Nat.add_zero, if_true, if_false, and_self, and_true, true_and, and_false, false_and, or_true, true_or, or_false, false_or]) (by have := fu_ge; omega)
        have z0 : vL (0 : Int) = vL (hz (dg T (bl T L p) (stp T L p - bl T L p)) 0) := rfl
        by_cases h4 : 6 < stp T L p - bl T L p
        · rw [show tkA T L p t = .error (1, bl T L p + 6) by unfold tkA; rw [if_pos ⟨ek, c3'⟩, if_pos h4]]
          obtain ⟨B, b1, b2⟩ := n2 h4
          exact ⟨B, b1, MB_t f4 b2⟩
        · rw [show tkA T L p t = .ok (stp T L p, true) by unfold tkA; rw [if_pos ⟨ek, c3'⟩, if_neg h4]]
          obtain ⟨B, b1, b2, b3, b4, b5, b6, b7⟩ := n1 (by omega)
          rw [show bl T L p + (stp T L p - bl T L p) = stp T L p by omega] at b4 b5
          exact ⟨B, b1, MdS_tk m (frZ_trans f4 b2) sL b3 b4 b5 (by rw [b7, gi_wi, if_neg (by omega)]; exact k2.1.2.2.2.2.2.2), frZ_trans f4 b2, b6⟩
  · rw [show lP (ch T L (bl T L p)) = false by simpa using c1, bI_f, if_pos rfl, show tkA T L p t = .error (1, bl T L p) by unfold tkA; rw [if_neg (fun z => c1 (knd1 z.1).1)]]
    exact bad _ _ _
/-- a name's value in six places -/
theorem key_pad {T : Nat → Int} {L p : Nat} {t : Bool} (h : knd T L p t = 1) (h6 : ¬ 6 < stp T L p - bl T L p) : keyV T L p = padN (nameV T L p) ∧ 0 < nameV T L p ∧ nameV T L p < 387420489 := by
  have c1 := (knd1 h).1
  have es : stp T L p = rn lP T L (bl T L p) := by unfold stp; rw [if_pos c1]
  have lt : bl T L p < stp T L p := by
    rw [es]; exact rn_pos (lP_s c1).1 (by rw [← (lP_s c1).2]; exact c1)
  have hl : ∀ i, i < stp T L p - bl T L p → lP (T (bl T L p + i)) = true := fun i hi => rn_in (P := lP) (T := T) (L := L) (s := bl T L p) _ (by omega) (by omega)
  unfold keyV nameV
  generalize bl T L p = s at *
  generalize hn : stp T L p - s = n at *
  have b := hz_b (dg_bd hl)
  have d0 : 1 ≤ dg T s n 0 ∧ dg T s n 0 ≤ 26 := by
    have := lP_t.mp (hl 0 (by omega))
    unfold dg; rw [if_pos (by omega)]; omega
  have dd : ∀ i, 0 ≤ dg T s n i ∧ dg T s n i ≤ 26 := dg_bd hl
  have dz : ∀ i, n ≤ i → dg T s n i = 0 := fun i hi => by unfold dg; rw [if_neg (by omega)]
  generalize dg T s n = f at *
  have e0 : hz f 0 = 0 := rfl
  have e1 : hz f 1 = hz f 0 * 27 + f 0 := rfl
  have e2 : hz f 2 = hz f 1 * 27 + f 1 := rfl
  have e3 : hz f 3 = hz f 2 * 27 + f 2 := rfl
  have e4 : hz f 4 = hz f 3 * 27 + f 3 := rfl
  have e5 : hz f 5 = hz f 4 * 27 + f 4 := rfl
  have e6 : hz f 6 = hz f 5 * 27 + f 5 := rfl
  have q1 := dd 1
  have q2 := dd 2
  have q3 := dd 3
  have q4 := dd 4
  have q5 := dd 5
  have z1 := dz 1
  have z2 := dz 2
  have z3 := dz 3
  have z4 := dz 4
  have z5 := dz 5
  unfold padN
  have hn1 : 1 ≤ n := by omega
  have hn6 : n ≤ 6 := by omega
  match n, hn1, hn6 with
  | 1, _, _ =>
    rw [if_pos (by omega)]
    have := z1 (by omega); have := z2 (by omega); have := z3 (by omega); have := z4 (by omega); have := z5 (by omega)
    omega
  | 2, _, _ =>
    rw [if_neg (by omega), if_pos (by omega)]
    have := z2 (by omega); have := z3 (by omega); have := z4 (by omega); have := z5 (by omega)
    omega
  | 3, _, _ =>
    rw [if_neg (by omega), if_neg (by omega), if_pos (by omega)]
    have := z3 (by omega); have := z4 (by omega); have := z5 (by omega)
    omega
  | 4, _, _ =>
    rw [if_neg (by omega), if_neg (by omega), if_neg (by omega), if_pos (by omega)]
    have := z4 (by omega); have := z5 (by omega)
    omega
  | 5, _, _ =>
    rw [if_neg (by omega), if_neg (by omega), if_neg (by omega), if_neg (by omega), if_pos (by omega)]
    have := z5 (by omega)
    omega
  | 6, _, _ =>
    rw [if_neg (by omega), if_neg (by omega), if_neg (by omega), if_neg (by omega), if_neg (by omega)]
    omega
