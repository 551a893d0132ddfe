/-! the class's reader: a step, and what takes -/
theorem lP_s {T : Nat → Int} {L s : Nat} (h : lP (ch T L s) = true) : s < L ∧ ch T L s = T s := by
  unfold ch at h ⊢
  by_cases c : s < L
  · rw [if_pos c]; exact ⟨c, rfl⟩
  · rw [if_neg c] at h; exact absurd h (by decide)
theorem dP_s {T : Nat → Int} {L s : Nat} (h : dP (ch T L s) = true) : s < L ∧ ch T L s = T s := by
  unfold ch at h ⊢
  by_cases c : s < L
  · rw [if_pos c]; exact ⟨c, rfl⟩
  · rw [if_neg c] at h; exact absurd h (by decide)
theorem bl_le (T : Nat → Int) (L p : Nat) : p ≤ bl T L p := rn_le _ _ _ _
theorem bl_L {T : Nat → Int} {L p : Nat} (h : p ≤ L) : bl T L p ≤ L := rn_L h
theorem ch_m1 {T : Nat → Int} {L s : Nat} (tx : TX T L) : ch T L s = -1 ↔ L ≤ s := by
  have := tx.1
  unfold ch
  by_cases c : s < L
  · rw [if_pos c]; have := tx.2 s (by omega); omega
  · rw [if_neg c]; omega
theorem stp_le (T : Nat → Int) (L p : Nat) : bl T L p ≤ stp T L p := by
  unfold stp
  by_cases c1 : lP (ch T L (bl T L p)) = true
  · rw [if_pos c1]; exact rn_le _ _ _ _
  · rw [if_neg c1]
    by_cases c2 : dP (ch T L (bl T L p)) = true
    · rw [if_pos c2]; exact rn_le _ _ _ _
    · rw [if_neg c2]
      by_cases c3 : ch T L (bl T L p) = -1
      · rw [if_pos c3]; exact Nat.le_refl _
      · rw [if_neg c3]; omega
theorem stp_L {T : Nat → Int} {L p : Nat} (tx : TX T L) (h : p ≤ L) : stp T L p ≤ L := by
  have hb := bl_L (T := T) h
  unfold stp
  by_cases c1 : lP (ch T L (bl T L p)) = true
  · rw [if_pos c1]; exact rn_L hb
  · rw [if_neg c1]
    by_cases c2 : dP (ch T L (bl T L p)) = true
    · rw [if_pos c2]; exact rn_L hb
    · rw [if_neg c2]
      by_cases c3 : ch T L (bl T L p) = -1
      · rw [if_pos c3]; exact hb
      · rw [if_neg c3]
        have := mt (ch_m1 (s := bl T L p) tx).mpr c3
        omega
set_option maxRecDepth 100000 in
theorem s_step (d : Nat) (T : Nat → Int) (L p : Nat) (κ : Int) (A : AH) (r : RdT A T L) (hp : p ≤ L) (h2 : gi A 42 2 = p) (h6 : gi A 42 6 = κ) : ∃ B, runF (d + 2) 86 [vR 18 42 0] A = some (none, B) ∧ RdS B T L p (decide (κ = 1 ∨ κ = 2)) ∧ (gi B 42 8 = gi A 42 5 ∧ gi B 42 9 = gi A 42 3 ∧ gi B 42 10 = gi A 42 4) ∧ frR A B := by
  have tx := r.2.2.2.2
  have tL := tx.1
  have hs1 := bl_le T L p
  have hs2 := bl_L (T := T) hp
  have e0 : ∃ A1, runF (d + 2) 86 [vR 18 42 0] A = go true 3 (runF (d + 1)) (runN (d + 1)) pb_X8_step (fu + 195) 61 [vR 18 42 0, vI (bI (decide (κ = 1 ∨ κ = 2))), vI p, vU] [] A1 ∧ frR A A1 ∧ gi A1 42 8 = gi A 42 5 ∧ gi A1 42 9 = gi A 42 3 ∧ gi A1 42 10 = gi A 42 4 ∧ gr A1 42 7 = 0 ∧ gi A1 42 5 = p := by
    refine ⟨wi (wr (wi (wi (wi A 42 8 (gi A 42 5)) 42 9 (gi A 42 3)) 42 10 (gi A 42 4)) 42 7 0) 42 5 p, ?_, frR_wi _ (by omega) (frR_wr _ (frR_wi _ (by omega) (frR_wi _ (by omega) (frR_wi _ (by omega) (frR_refl A))))), by simp -implicitDefEqProofs (disch := omega) only [gi_wi, gi_wr, ↓reduceIte, Int.reduceEq, cI_v, cL_v, cV_v, cR_v, wid, wid64, if_pos, if_neg, Nat.add_zero, if_true, if_false, and_self, and_true, true_and, and_false, false_and, or_true, true_or, or_false, false_or], by simp -implicitDefEqProofs (disch := omega) only [gi_wi, gi_wr, ↓reduceIte, Int.reduceEq, cI_v, cL_v, cV_v, cR_v, wid, wid64, if_pos, if_neg, Nat.add_zero, if_true, if_false, and_self, and_true, true_and, and_false, false_and, or_true, true_or, or_false, false_or], by simp -implicitDefEqProofs (disch := omega) only [gi_wi, gi_wr, ↓reduceIte, Int.reduceEq, cI_v, cL_v, cV_v, cR_v, wid, wid64, if_pos, if_neg, Nat.add_zero, if_true, if_false, and_self, and_true, true_and, and_false, false_and, or_true, true_or, or_false, false_or], by simp -implicitDefEqProofs (disch := omega) only [gr_wi, gr_wr, ↓reduceIte, Int.reduceEq, cI_v, cL_v, cV_v, cR_v, wid, wid64, if_pos, if_neg, Nat.add_zero, if_true, if_false, and_self, and_true, true_and, and_false, false_and, or_true, true_or, or_false, false_or], by simp -implicitDefEqProofs (disch := omega) only [gi_wi, ↓reduceIte, Int.reduceEq, cI_v, cL_v, cV_v, cR_v, wid, wid64, if_pos, if_neg, Nat.add_zero, if_true, if_false, and_self, and_true, true_and, and_false, false_and, or_true, true_or, or_false, false_or]⟩
    have g1 : ∀ x1, go true 3 (runF (d + 1)) (runN (d + 1)) pb_X8_step (fu + 198) 21 [vR 18 42 0, vU, vU, vU] [vI x1] A = go true 3 (runF (d + 1)) (runN (d + 1)) pb_X8_step (fu + 195) 61 [vR 18 42 0, vI x1, vI p, vU] [] (wi (wr (wi (wi (wi A 42 8 (gi A 42 5)) 42 9 (gi A 42 3)) 42 10 (gi A 42 4)) 42 7 0) 42 5 p) := fun x1 => by
      rw [q_X8_step_21, h2, q_X8_step_35, q_X8_step_51]
      simp -implicitDefEqProofs (disch := omega) only [gi_wi, ↓reduceIte, Int.reduceEq, cI_v, cL_v, cV_v, cR_v, wid, wid64, if_pos, if_neg, Nat.add_zero, if_true, if_false, and_self, and_true, true_and, and_false, false_and, or_true, true_or, or_false, false_or]
    rw [r_X8_step, q_X8_step_0, h6]
    by_cases c1 : κ = 1
    · rw [if_pos c1, decide_eq_true (by omega), bI_t, q_X8_step_16]
      exact g1 1
    · rw [if_neg c1]
      by_cases c2 : κ = 2
      · rw [if_pos c2, decide_eq_true (by omega), bI_t, q_X8_step_16]
        exact g1 1
      · rw [if_neg c2, decide_eq_false (by omega), bI_f]
        exact g1 0
  obtain ⟨A1, e1, f1, a8, a9, a10, a7, a5⟩ := e0
  obtain ⟨n2, A2, b1, b2, b3, b4, b5, b6⟩ := l_skip (d + 1) T L (bl T L p - p) (fu + 195) p (bI (decide (κ = 1 ∨ κ = 2))) p vU A1 (by show bl T L p = _; omega) hp (RdT_R f1 r) a5 (by have := fu_ge; omega)
  rw [show p + (bl T L p - p) = bl T L p by omega] at b3
  have hn2 : 800000 ≤ n2 := by have := fu_ge; omega
  obtain ⟨n2, rfl⟩ : ∃ e, n2 = e + 10 := ⟨n2 - 10, by omega⟩
  have f2 : frR A (wi A2 42 2 (bl T L p : Int)) := frR_wi _ (by omega) (frR_trans f1 b4)
  have r2 := RdT_R f2 r
  obtain ⟨t1, t2, t3, t4, t5⟩ := r2
  have c5 : gi (wi A2 42 2 (bl T L p : Int)) 42 5 = bl T L p := by rw [gi_wi, if_neg (by omega)]; exact b3
  have c2 : gi (wi A2 42 2 (bl T L p : Int)) 42 2 = bl T L p := by rw [gi_wi, if_pos ⟨rfl, rfl⟩]
  have c7 : gr (wi A2 42 2 (bl T L p : Int)) 42 7 = 0 := by rw [gr_wi, b6]; exact a7
  have ck : ∀ k, k ≠ 2 → k ≠ 5 → gi (wi A2 42 2 (bl T L p : Int)) 42 k = gi A1 42 k := fun k q1 q2 => by rw [gi_wi, if_neg (by omega), b5 k q2]
  have e2 : ∃ m, 700000 ≤ m ∧ runF (d + 2) 86 [vR 18 42 0] A = go true 3 (runF (d + 1)) (runN (d + 1)) pb_X8_step m 145 [vR 18 42 0, vI (bI (decide (κ = 1 ∨ κ = 2))), vI p, vU] [vI (ch T L (bl T L p))] (wi A2 42 2 (bl T L p : Int)) := by
    rw [e1, b2, q_X8_step_113, b3, c5, t3, t1]
    unfold ch
    by_cases c : bl T L p < L
    · rw [if_pos (by omega), if_neg (by omega), if_pos (by rw [t2]; omega), Int.toNat_natCast, t4, if_pos c]
      exact ⟨n2 + 9, by omega, rfl⟩
    · rw [if_neg (by omega), if_neg c]
      exact ⟨n2 + 8, by omega, rfl⟩
  obtain ⟨m, hm, e3⟩ := e2
  obtain ⟨m, rfl⟩ : ∃ e, m = e + 20 := ⟨m - 20, by omega⟩
  generalize hA3 : wi A2 42 2 (bl T L p : Int) = A3 at *
  have fin : ∀ (m : Nat) (x3 : Int) (B : AH), gi B 42 5 = bl T L p → go true 3 (runF (d + 1)) (runN (d + 1)) pb_X8_step (m + 4) 220 [vR 18 42 0, vI (bI (decide (κ = 1 ∨ κ = 2))), vI p, vI x3] [] B = some (none, if stk T L p (decide (κ = 1 ∨ κ = 2)) = true ∧ (gi B 42 6 = 1 ∨ gi B 42 6 = 2) then wr (wi B 42 6 4) 42 7 0 else B) := by
    intro m x3 B hB
    rw [q_X8_step_220, hB]
    unfold stk
    by_cases z1 : κ = 1 ∨ κ = 2
    · rw [decide_eq_true z1, bI_t, if_neg (by omega), Bool.true_and]
      by_cases z2 : bl T L p = p
      · rw [if_pos (by omega), decide_eq_true z2]
        by_cases z3 : gi B 42 6 = 1
        · rw [if_pos z3, if_pos ⟨rfl, Or.inl z3⟩, q_X8_step_248]
        · rw [if_neg z3]
          by_cases z4 : gi B 42 6 = 2
          · rw [if_pos z4, if_pos ⟨rfl, Or.inr z4⟩, q_X8_step_248]
          · rw [if_neg z4, if_neg (by omega)]
      · rw [if_neg (by omega), decide_eq_false z2, if_neg (by simp)]
    · rw [decide_eq_false z1, bI_f, if_pos rfl, if_neg (by simp)]
  by_cases l1 : lP (ch T L (bl T L p)) = true
  · have q := lP_t.mp l1
    obtain ⟨z1, z2⟩ := lP_s l1
    have e145 : stp T L p = rn lP T L (bl T L p) := by unfold stp; rw [if_pos l1]
    have ez := stp_le T L p
    have eN : rn lP T L (bl T L p) = bl T L p + (stp T L p - bl T L p) := by omega
    obtain ⟨B, v1, v2, v3, v4, v5, v6, v7⟩ := s_readLetters d T L (bl T L p) (stp T L p - bl T L p) A3 eN hs2 ⟨t1, t2, t3, t4, t5⟩ c5 c2 c7
    have hB5 : gi B 42 5 = bl T L p := by rw [v7 5 (by omega) (by omega) (by omega)]; exact c5
    have e6 : runF (d + 2) 86 [vR 18 42 0] A = some (none, if stk T L p (decide (κ = 1 ∨ κ = 2)) = true ∧ (gi B 42 6 = 1 ∨ gi B 42 6 = 2) then wr (wi B 42 6 4) 42 7 0 else B) := by
      rw [e3, q_X8_step_145, if_neg (by omega), if_neg (by omega), v1, cV_v, Nat.add_zero (m + 19)]
      exact fin (m + 15) (ch T L (bl T L p)) B hB5
    have fB := frR_trans f2 v6
    have wN : bl T L p + (stp T L p - bl T L p) = stp T L p := by omega
    rw [wN] at v3
    by_cases z : stk T L p (decide (κ = 1 ∨ κ = 2)) = true
    · rw [if_pos ⟨z, Or.inl v2⟩] at e6
      have fC : frR A (wr (wi B 42 6 4) 42 7 0) := frR_wr _ (frR_wi _ (by omega) fB)
      obtain ⟨w1, w2, w3, w4, w5⟩ := RdT_R fC r
      have ek : knd T L p (decide (κ = 1 ∨ κ = 2)) = 4 := by unfold knd; rw [if_pos l1, if_pos z]
      refine ⟨_, e6, ⟨⟨w1, w2, w3, w4, w5, hp⟩, by simp -implicitDefEqProofs (disch := omega) only [gi_wr, gi_wi, ↓reduceIte, Int.reduceEq, cI_v, cL_v, cV_v, cR_v, wid, wid64, if_pos, if_neg, Nat.add_zero, if_true, if_false, and_self, and_true, true_and, and_false, false_and, or_true, true_or, or_false, false_or]; exact hB5, by simp -implicitDefEqProofs (disch := omega) only [gi_wr, gi_wi, ↓reduceIte, Int.reduceEq, cI_v, cL_v, cV_v, cR_v, wid, wid64, if_pos, if_neg, Nat.add_zero, if_true, if_false, and_self, and_true, true_and, and_false, false_and, or_true, true_or, or_false, false_or]; exact v3, by simp -implicitDefEqProofs (disch := omega) only [gi_wr, gi_wi, ↓reduceIte, Int.reduceEq, cI_v, cL_v, cV_v, cR_v, wid, wid64, if_pos, if_neg, Nat.add_zero, if_true, if_false, and_self, and_true, true_and, and_false, false_and, or_true, true_or, or_false, false_or]; exact ek.symm, ?_, fun _ q2 => ?_, fun q1 _ => ?_⟩, ⟨?_, ?_, ?_⟩, fC⟩
      · unfold wrd; rw [ek, if_neg (by omega)]; simp -implicitDefEqProofs (disch := omega) only [gr_wr, ↓reduceIte, Int.reduceEq, cI_v, cL_v, cV_v, cR_v, wid, wid64, if_pos, if_neg, Nat.add_zero, if_true, if_false, and_self, and_true, true_and, and_false, false_and, or_true, true_or, or_false, false_or]
      · simp -implicitDefEqProofs (disch := omega) only [gi_wr, gi_wi, ↓reduceIte, Int.reduceEq, cI_v, cL_v, cV_v, cR_v, wid, wid64, if_pos, if_neg, Nat.add_zero, if_true, if_false, and_self, and_true, true_and, and_false, false_and, or_true, true_or, or_false, false_or]; exact (v4 q2).1
      · have := dP_t.mp q1; omega
      · simp -implicitDefEqProofs (disch := omega) only [gi_wr, gi_wi, ↓reduceIte, Int.reduceEq, cI_v, cL_v, cV_v, cR_v, wid, wid64, if_pos, if_neg, Nat.add_zero, if_true, if_false, and_self, and_true, true_and, and_false, false_and, or_true, true_or, or_false, false_or]; rw [v7 8 (by omega) (by omega) (by omega), ck 8 (by omega) (by omega)]; exact a8
      · simp -implicitDefEqProofs (disch := omega) only [gi_wr, gi_wi, ↓reduceIte, Int.reduceEq, cI_v, cL_v, cV_v, cR_v, wid, wid64, if_pos, if_neg, Nat.add_zero, if_true, if_false, and_self, and_true, true_and, and_false, false_and, or_true, true_or, or_false, false_or]; rw [v7 9 (by omega) (by omega) (by omega), ck 9 (by omega) (by omega)]; exact a9
      · simp -implicitDefEqProofs (disch := omega) only [gi_wr, gi_wi, ↓reduceIte, Int.reduceEq, cI_v, cL_v, cV_v, cR_v, wid, wid64, if_pos, if_neg, Nat.add_zero, if_true, if_false, and_self, and_true, true_and, and_false, false_and, or_true, true_or, or_false, false_or]; rw [v7 10 (by omega) (by omega) (by omega), ck 10 (by omega) (by omega)]; exact a10
    · rw [if_neg (fun y => z y.1)] at e6
      obtain ⟨w1, w2, w3, w4, w5⟩ := RdT_R fB r
      have ek : knd T L p (decide (κ = 1 ∨ κ = 2)) = 1 := by unfold knd; rw [if_pos l1, if_neg z]
      refine ⟨_, e6, ⟨⟨w1, w2, w3, w4, w5, hp⟩, hB5, v3, v2.trans ek.symm, ?_, fun _ q2 => (v4 q2).1, fun q1 _ => ?_⟩, ⟨?_, ?_, ?_⟩, fB⟩
      · unfold wrd; rw [ek]
        by_cases y : stp T L p - bl T L p ≤ 6
        · rw [if_pos ⟨rfl, y⟩]; exact (v4 y).2
        · rw [if_neg (by omega)]; exact v5 (by omega)
      · have := dP_t.mp q1; omega
      · rw [v7 8 (by omega) (by omega) (by omega), ck 8 (by omega) (by omega)]; exact a8
      · rw [v7 9 (by omega) (by omega) (by omega), ck 9 (by omega) (by omega)]; exact a9
      · rw [v7 10 (by omega) (by omega) (by omega), ck 10 (by omega) (by omega)]; exact a10
  · have q := (lP_f (x := ch T L (bl T L p))).mp (by simpa using l1)
    have e165 : runF (d + 2) 86 [vR 18 42 0] A = go true 3 (runF (d + 1)) (runN (d + 1)) pb_X8_step (m + 19) 165 [vR 18 42 0, vI (bI (decide (κ = 1 ∨ κ = 2))), vI p, vI (ch T L (bl T L p))] [] A3 := by
      rw [e3, q_X8_step_145]
      by_cases y : ch T L (bl T L p) < 97
      · rw [if_pos y]
      · rw [if_neg y, if_pos (by omega)]
    by_cases l2 : dP (ch T L (bl T L p)) = true
    · have q2 := dP_t.mp l2
      obtain ⟨z1, z2⟩ := dP_s l2
      have e145 : stp T L p = rn dP T L (bl T L p) := by unfold stp; rw [if_neg l1, if_pos l2]
      have ez := stp_le T L p
      have eN : rn dP T L (bl T L p) = bl T L p + (stp T L p - bl T L p) := by omega
      obtain ⟨B, v1, v2, v3, v4, v5, v6, v7⟩ := s_readDigits d T L (bl T L p) (stp T L p - bl T L p) A3 eN hs2 ⟨t1, t2, t3, t4, t5⟩ c5 c2
      have hB5 : gi B 42 5 = bl T L p := by rw [v7 5 (by omega) (by omega) (by omega)]; exact c5
      have e6 : runF (d + 2) 86 [vR 18 42 0] A = some (none, if stk T L p (decide (κ = 1 ∨ κ = 2)) = true ∧ (gi B 42 6 = 1 ∨ gi B 42 6 = 2) then wr (wi B 42 6 4) 42 7 0 else B) := by
        rw [e165, q_X8_step_165, if_neg (by omega), if_neg (by omega), v1, cV_v, Nat.add_zero (m + 18)]
        exact fin (m + 14) (ch T L (bl T L p)) B hB5
      have fB := frR_trans f2 v6
      have wN : bl T L p + (stp T L p - bl T L p) = stp T L p := by omega
      rw [wN] at v3
      have v47 : stp T L p - bl T L p ≤ 4 → gi B 42 4 = vz T (bl T L p) (stp T L p - bl T L p) := fun y => by rw [v4, show min (stp T L p - bl T L p) 4 = stp T L p - bl T L p by omega]
      by_cases z : stk T L p (decide (κ = 1 ∨ κ = 2)) = true
      · rw [if_pos ⟨z, Or.inr v2⟩] at e6
        have fC : frR A (wr (wi B 42 6 4) 42 7 0) := frR_wr _ (frR_wi _ (by omega) fB)
        obtain ⟨w1, w2, w3, w4, w5⟩ := RdT_R fC r
        have ek : knd T L p (decide (κ = 1 ∨ κ = 2)) = 4 := by unfold knd; rw [if_neg l1, if_pos l2, if_pos z]
        refine ⟨_, e6, ⟨⟨w1, w2, w3, w4, w5, hp⟩, by simp -implicitDefEqProofs (disch := omega) only [gi_wr, gi_wi, ↓reduceIte, Int.reduceEq, cI_v, cL_v, cV_v, cR_v, wid, wid64, if_pos, if_neg, Nat.add_zero, if_true, if_false, and_self, and_true, true_and, and_false, false_and, or_true, true_or, or_false, false_or]; exact hB5, by simp -implicitDefEqProofs (disch := omega) only [gi_wr, gi_wi, ↓reduceIte, Int.reduceEq, cI_v, cL_v, cV_v, cR_v, wid, wid64, if_pos, if_neg, Nat.add_zero, if_true, if_false, and_self, and_true, true_and, and_false, false_and, or_true, true_or, or_false, false_or]; exact v3, by simp -implicitDefEqProofs (disch := omega) only [gi_wr, gi_wi, ↓reduceIte, Int.reduceEq, cI_v, cL_v, cV_v, cR_v, wid, wid64, if_pos, if_neg, Nat.add_zero, if_true, if_false, and_self, and_true, true_and, and_false, false_and, or_true, true_or, or_false, false_or]; exact ek.symm, ?_, fun q1 _ => absurd q1 l1, fun _ y => ?_⟩, ⟨?_, ?_, ?_⟩, fC⟩
        · unfold wrd; rw [ek, if_neg (by omega)]; simp -implicitDefEqProofs (disch := omega) only [gr_wr, ↓reduceIte, Int.reduceEq, cI_v, cL_v, cV_v, cR_v, wid, wid64, if_pos, if_neg, Nat.add_zero, if_true, if_false, and_self, and_true, true_and, and_false, false_and, or_true, true_or, or_false, false_or]
        · simp -implicitDefEqProofs (disch := omega) only [gi_wr, gi_wi, ↓reduceIte, Int.reduceEq, cI_v, cL_v, cV_v, cR_v, wid, wid64, if_pos, if_neg, Nat.add_zero, if_true, if_false, and_self, and_true, true_and, and_false, false_and, or_true, true_or, or_false, false_or]; exact v47 y
        · simp -implicitDefEqProofs (disch := omega) only [gi_wr, gi_wi, ↓reduceIte, Int.reduceEq, cI_v, cL_v, cV_v, cR_v, wid, wid64, if_pos, if_neg, Nat.add_zero, if_true, if_false, and_self, and_true, true_and, and_false, false_and, or_true, true_or, or_false, false_or]; rw [v7 8 (by omega) (by omega) (by omega), ck 8 (by omega) (by omega)]; exact a8
        · simp -implicitDefEqProofs (disch := omega) only [gi_wr, gi_wi, ↓reduceIte, Int.reduceEq, cI_v, cL_v, cV_v, cR_v, wid, wid64, if_pos, if_neg, Nat.add_zero, if_true, if_false, and_self, and_true, true_and, and_false, false_and, or_true, true_or, or_false, false_or]; rw [v7 9 (by omega) (by omega) (by omega), ck 9 (by omega) (by omega)]; exact a9
        · simp -implicitDefEqProofs (disch := omega) only [gi_wr, gi_wi, ↓reduceIte, Int.reduceEq, cI_v, cL_v, cV_v, cR_v, wid, wid64, if_pos, if_neg, Nat.add_zero, if_true, if_false, and_self, and_true, true_and, and_false, false_and, or_true, true_or, or_false, false_or]; rw [v7 10 (by omega) (by omega) (by omega), ck 10 (by omega) (by omega)]; exact a10
      · rw [if_neg (fun y => z y.1)] at e6
        obtain ⟨w1, w2, w3, w4, w5⟩ := RdT_R fB r
        have ek : knd T L p (decide (κ = 1 ∨ κ = 2)) = 2 := by unfold knd; rw [if_neg l1, if_pos l2, if_neg z]
        refine ⟨_, e6, ⟨⟨w1, w2, w3, w4, w5, hp⟩, hB5, v3, v2.trans ek.symm, ?_, fun q1 _ => absurd q1 l1, fun _ y => v47 y⟩, ⟨?_, ?_, ?_⟩, fB⟩
        · unfold wrd; rw [ek, if_neg (by omega), v5]; exact c7
        · rw [v7 8 (by omega) (by omega) (by omega), ck 8 (by omega) (by omega)]; exact a8
        · rw [v7 9 (by omega) (by omega) (by omega), ck 9 (by omega) (by omega)]; exact a9
        · rw [v7 10 (by omega) (by omega) (by omega), ck 10 (by omega) (by omega)]; exact a10
    · have q2 := (dP_f (x := ch T L (bl T L p))).mp (by simpa using l2)
      have e184 : runF (d + 2) 86 [vR 18 42 0] A = go true 3 (runF (d + 1)) (runN (d + 1)) pb_X8_step (m + 18) 184 [vR 18 42 0, vI (bI (decide (κ = 1 ∨ κ = 2))), vI p, vI (ch T L (bl T L p))] [] A3 := by
        rw [e165, q_X8_step_165]
        by_cases y : ch T L (bl T L p) < 48
        · rw [if_pos y]
        · rw [if_neg y, if_pos (by omega)]
      have ek : ∀ t, knd T L p t = if ch T L (bl T L p) = -1 then 0 else 3 := fun t => by unfold knd; rw [if_neg l1, if_neg l2]
      have es : stp T L p = if ch T L (bl T L p) = -1 then bl T L p else bl T L p + 1 := by unfold stp; rw [if_neg l1, if_neg l2]
      have e6 : ∃ k, runF (d + 2) 86 [vR 18 42 0] A = go true 3 (runF (d + 1)) (runN (d + 1)) pb_X8_step (k + 4) 220 [vR 18 42 0, vI (bI (decide (κ = 1 ∨ κ = 2))), vI p, vI (ch T L (bl T L p))] [] (wi (wi A3 42 6 (knd T L p true)) 42 2 (stp T L p)) := by
        rw [e184, q_X8_step_184, ek, es]
        by_cases y : ch T L (bl T L p) = -1
        · rw [if_pos y, if_pos y, if_pos y, q_X8_step_195, if_pos y, q_X8_step_217]
          refine ⟨m + 11, ?_⟩
          simp -implicitDefEqProofs (disch := omega) only [gi_wi, c5, ↓reduceIte, Int.reduceEq, cI_v, cL_v, cV_v, cR_v, wid, wid64, if_pos, if_neg, Nat.add_zero, if_true, if_false, and_self, and_true, true_and, and_false, false_and, or_true, true_or, or_false, false_or]
        · rw [if_neg y, if_neg y, if_neg y, q_X8_step_195, if_neg y, q_X8_step_217]
          refine ⟨m + 9, ?_⟩
          simp -implicitDefEqProofs (disch := omega) only [gi_wi, c5, ↓reduceIte, Int.reduceEq, cI_v, cL_v, cV_v, cR_v, wid, wid64, if_pos, if_neg, Nat.add_zero, if_true, if_false, and_self, and_true, true_and, and_false, false_and, or_true, true_or, or_false, false_or]
          rfl
      obtain ⟨k, e6⟩ := e6
      have hk : gi (wi (wi A3 42 6 (knd T L p true)) 42 2 (stp T L p)) 42 6 = knd T L p true := by simp -implicitDefEqProofs (disch := omega) only [gi_wi, ↓reduceIte, Int.reduceEq, cI_v, cL_v, cV_v, cR_v, wid, wid64, if_pos, if_neg, Nat.add_zero, if_true, if_false, and_self, and_true, true_and, and_false, false_and, or_true, true_or, or_false, false_or]
      have kn1 : ¬ (gi (wi (wi A3 42 6 (knd T L p true)) 42 2 (stp T L p)) 42 6 = 1 ∨ gi (wi (wi A3 42 6 (knd T L p true)) 42 2 (stp T L p)) 42 6 = 2) := by
        rw [hk, ek]
        by_cases y : ch T L (bl T L p) = -1
        · rw [if_pos y]; omega
        · rw [if_neg y]; omega
      rw [fin k _ _ (by simp -implicitDefEqProofs (disch := omega) only [gi_wi, ↓reduceIte, Int.reduceEq, cI_v, cL_v, cV_v, cR_v, wid, wid64, if_pos, if_neg, Nat.add_zero, if_true, if_false, and_self, and_true, true_and, and_false, false_and, or_true, true_or, or_false, false_or]; exact c5), if_neg (fun y => kn1 y.2)] at e6
      have fB : frR A (wi (wi A3 42 6 (knd T L p true)) 42 2 (stp T L p)) := frR_wi _ (by omega) (frR_wi _ (by omega) f2)
      obtain ⟨w1, w2, w3, w4, w5⟩ := RdT_R fB r
      refine ⟨_, e6, ⟨⟨w1, w2, w3, w4, w5, hp⟩, by simp -implicitDefEqProofs (disch := omega) only [gi_wi, ↓reduceIte, Int.reduceEq, cI_v, cL_v, cV_v, cR_v, wid, wid64, if_pos, if_neg, Nat.add_zero, if_true, if_false, and_self, and_true, true_and, and_false, false_and, or_true, true_or, or_false, false_or]; exact c5, by simp -implicitDefEqProofs (disch := omega) only [gi_wi, ↓reduceIte, Int.reduceEq, cI_v, cL_v, cV_v, cR_v, wid, wid64, if_pos, if_neg, Nat.add_zero, if_true, if_false, and_self, and_true, true_and, and_false, false_and, or_true, true_or, or_false, false_or], by rw [hk, ek, ek], ?_, fun q1 _ => absurd q1 l1, fun q1 _ => absurd q1 l2⟩, ⟨?_, ?_, ?_⟩, fB⟩
      · have kn : knd T L p (decide (κ = 1 ∨ κ = 2)) ≠ 1 := by
          rw [ek]
          by_cases y : ch T L (bl T L p) = -1
          · rw [if_pos y]; omega
          · rw [if_neg y]; omega
        unfold wrd
        rw [if_neg (fun y => kn y.1)]
        exact c7
      · simp -implicitDefEqProofs (disch := omega) only [gi_wi, ↓reduceIte, Int.reduceEq, cI_v, cL_v, cV_v, cR_v, wid, wid64, if_pos, if_neg, Nat.add_zero, if_true, if_false, and_self, and_true, true_and, and_false, false_and, or_true, true_or, or_false, false_or]; rw [ck 8 (by omega) (by omega)]; exact a8
      · simp -implicitDefEqProofs (disch := omega) only [gi_wi, ↓reduceIte, Int.reduceEq, cI_v, cL_v, cV_v, cR_v, wid, wid64, if_pos, if_neg, Nat.add_zero, if_true, if_false, and_self, and_true, true_and, and_false, false_and, or_true, true_or, or_false, false_or]; rw [ck 9 (by omega) (by omega)]; exact a9
      · simp -implicitDefEqProofs (disch := omega) only [gi_wi, ↓reduceIte, Int.reduceEq, cI_v, cL_v, cV_v, cR_v, wid, wid64, if_pos, if_neg, Nat.add_zero, if_true, if_false, and_self, and_true, true_and, and_false, false_and, or_true, true_or, or_false, false_or]; rw [ck 10 (by omega) (by omega)]; exact a10
