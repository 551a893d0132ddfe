/-! the reference's reader: what takes -/
theorem MdS_tk {A B : AH} {T : Nat → Int} {L p : Nat} {t : Bool} {q : Nat} (m : MdS A T L p t) (f : frZ A B) (hq : q ≤ L) (h5 : gi B 190 5 = 0) (h2 : gi B 190 2 = q) (h4 : gi B 190 4 = q) (h6 : gi B 190 6 = -1) : MdS B T L q true := ⟨MdT_Z f m.1, hq, h5, ⟨q, h2, Nat.le_refl _, bl_le T L q⟩, fun _ => h4, fun h => absurd h (by decide), h6⟩
set_option maxRecDepth 100000 in
theorem s_takes (d : Nat) {T : Nat → Int} {L p : Nat} {t : Bool} (r len k : Nat) (A : AH) (m : MdS A T L p t) (hr : (193 ≤ r ∧ r ≤ 223) ∨ (244 ≤ r ∧ r ≤ 266)) (hl : (wl (wo r)).length = len) (hk : wo r + 1 = k) : (wrd T L p t = k → ∃ B, runF (d + 3) 157 [vR 21 190 0, vR 32 r len] A = some (some (vI 1), B) ∧ MdS B T L (stp T L p) true ∧ frZ A B) ∧ (wrd T L p t ≠ k → runF (d + 3) 157 [vR 21 190 0, vR 32 r len] A = some (some (vI 0), wi A 190 2 (bl T L p : Int))) := by
  have r0 : r ≠ 0 := by omega
  have w37 := wo_37 hr
  have hL := m.2.1
  have tx := m.1.2.2.1
  have tL := tx.1
  have h := s_isHere (d := d) r len k A m hr hl hk
  obtain ⟨k1, k2, k3⟩ := s_lookM d A m
  have sL := stp_L tx hL
  have sl := stp_le T L p
  constructor
  · intro e
    have kn := wrd_k (T := T) (L := L) (p := p) (t := t) (by omega)
    have c1 := (knd1 kn).1
    have es : stp T L p = rn lP T L (bl T L p) := by unfold stp; rw [if_pos c1]
    have hle : ∀ i, i < stp T L p - bl T L p → lP (T (bl T L p + i)) = true := fun i hi => rn_in (P := lP) (T := T) (L := L) (s := bl T L p) _ (by omega) (by omega)
    have eN : stp T L p = bl T L p + len := by
      have e' := e
      unfold wrd at e'
      by_cases c6 : knd T L p t = 1 ∧ stp T L p - bl T L p ≤ 6
      · rw [if_pos c6, ← hk] at e'
        have := ((word_sp w37 c6.2 hle).mp e').1
        omega
      · rw [if_neg c6] at e'; omega
    refine ⟨wi (wi (wi A 190 2 (bl T L p : Int)) 190 2 (stp T L p)) 190 4 (stp T L p), ?_, ?_, ?_⟩
    · rw [r_X12_takes, q_X12_takes_0 (ha1 := r0), h, cI_v, decide_eq_true e, bI_t, if_neg (by omega), q_X12_takes_21 (ha1 := r0)]
      simp -implicitDefEqProofs (disch := omega) only [gi_wi, ↓reduceIte, Int.reduceEq, cI_v, cL_v, cV_v, cR_v, wid, wid64, if_pos, if_neg, Nat.add_zero, if_true, if_false, and_self, and_true, true_and, and_false, false_and, or_true, true_or, or_false, false_or]
      rw [show (bl T L p : Int) + len = (stp T L p : Int) by omega]
    · refine MdS_tk m (frZ_wi _ (by omega) (frZ_wi _ (by omega) k3)) sL ?_ ?_ ?_ ?_
      · simp -implicitDefEqProofs (disch := omega) only [gi_wi, ↓reduceIte, Int.reduceEq, cI_v, cL_v, cV_v, cR_v, wid, wid64, if_pos, if_neg, Nat.add_zero, if_true, if_false, and_self, and_true, true_and, and_false, false_and, or_true, true_or, or_false, false_or]; exact m.2.2.1
      · simp -implicitDefEqProofs (disch := omega) only [gi_wi, ↓reduceIte, Int.reduceEq, cI_v, cL_v, cV_v, cR_v, wid, wid64, if_pos, if_neg, Nat.add_zero, if_true, if_false, and_self, and_true, true_and, and_false, false_and, or_true, true_or, or_false, false_or]
      · simp -implicitDefEqProofs (disch := omega) only [gi_wi, ↓reduceIte, Int.reduceEq, cI_v, cL_v, cV_v, cR_v, wid, wid64, if_pos, if_neg, Nat.add_zero, if_true, if_false, and_self, and_true, true_and, and_false, false_and, or_true, true_or, or_false, false_or]
      · simp -implicitDefEqProofs (disch := omega) only [gi_wi, ↓reduceIte, Int.reduceEq, cI_v, cL_v, cV_v, cR_v, wid, wid64, if_pos, if_neg, Nat.add_zero, if_true, if_false, and_self, and_true, true_and, and_false, false_and, or_true, true_or, or_false, false_or]; exact m.2.2.2.2.2.2
    · exact frZ_wi _ (by omega) (frZ_wi _ (by omega) k3)
  · intro e
    rw [r_X12_takes, q_X12_takes_0 (ha1 := r0), h, cI_v, decide_eq_false e, bI_f, if_pos rfl]
set_option maxRecDepth 100000 in
theorem s_takesB (d : Nat) (r len : Nat) (A : AH) (hr : r ≠ 0) (hb : gi A 190 5 ≠ 0) : runF (d + 2) 157 [vR 21 190 0, vR 32 r len] A = some (some (vI 0), A) := by
  rw [r_X12_takes, q_X12_takes_0 (ha1 := hr), r_X12_isHere, q_X12_isHere_0 (ha1 := hr), if_neg hb, cI_v, if_pos rfl]
set_option maxRecDepth 100000 in
theorem s_isHereB (d : Nat) (r len : Nat) (A : AH) (hr : r ≠ 0) (hb : gi A 190 5 ≠ 0) : runF (d + 1) 156 [vR 21 190 0, vR 32 r len] A = some (some (vI 0), A) := by
  rw [r_X12_isHere, q_X12_isHere_0 (ha1 := hr), if_neg hb]
set_option maxRecDepth 100000 in
theorem s_asksB (d : Nat) (r len : Nat) (A : AH) (hr : r ≠ 0) (hb : gi A 190 5 ≠ 0) : runF (d + 1) 158 [vR 21 190 0, vR 32 r len] A = some (none, A) := by
  rw [r_X12_asks, q_X12_asks_0 (ha1 := hr), if_neg hb]
set_option maxRecDepth 100000 in
theorem s_asksSignB (d : Nat) (c : Int) (A : AH) (hb : gi A 190 5 ≠ 0) : runF (d + 1) 160 [vR 21 190 0, vI c] A = some (none, A) := by
  rw [r_X12_asksSign, q_X12_asksSign_0, if_neg hb]
set_option maxRecDepth 100000 in
theorem s_takesSignB (d : Nat) (c : Int) (A : AH) (hb : gi A 190 5 ≠ 0) : runF (d + 1) 159 [vR 21 190 0, vI c] A = some (some (vI 0), A) := by
  rw [r_X12_takesSign, q_X12_takesSign_0, if_neg hb]
set_option maxRecDepth 100000 in
theorem s_numberB (d : Nat) (x y : Int) (A : AH) (hb : gi A 190 5 ≠ 0) : runF (d + 1) 161 [vR 21 190 0, vI x, vI y] A = some (some (vI 0), A) := by
  rw [r_X12_number, q_X12_number_0, if_neg hb]
set_option maxRecDepth 100000 in
theorem s_nameB (d : Nat) (A : AH) (hb : gi A 190 5 ≠ 0) : runF (d + 1) 163 [vR 21 190 0] A = some (some (vL 0), A) := by
  rw [r_X12_name, q_X12_name_0, if_neg hb]
set_option maxRecDepth 100000 in
theorem s_asks (d : Nat) {T : Nat → Int} {L p : Nat} {t : Bool} (r len k : Nat) (A : AH) (m : MdS A T L p t) (hr : (193 ≤ r ∧ r ≤ 223) ∨ (244 ≤ r ∧ r ≤ 266)) (hl : (wl (wo r)).length = len) (hk : wo r + 1 = k) : MT T L A (runF (d + 4) 158 [vR 21 190 0, vR 32 r len] A) (tkW T L p t k) := by
  have r0 : r ≠ 0 := by omega
  obtain ⟨h1, h2⟩ := s_takes d r len k A m hr hl hk
  obtain ⟨k1, k2, k3⟩ := s_lookM d A m
  unfold MT tkW
  rw [r_X12_asks, q_X12_asks_0 (ha1 := r0), if_pos m.2.2.1]
  by_cases e : wrd T L p t = k
  · obtain ⟨B, b1, b2, b3⟩ := h1 e
    rw [if_pos e, b1, cI_v, if_neg (by omega)]
    exact ⟨B, rfl, b2, b3⟩
  · rw [if_neg e, h2 e, cI_v, if_pos rfl, s_failM _ _ _ _ k2.1.2.2.1, cV_v, k2.2]
    exact ⟨_, rfl, MB_t k3 (MB_f _ 1 _ (by decide))⟩
theorem ch_sgn {T : Nat → Int} {L p : Nat} {t : Bool} {c : Int} (tx : TX T L) (hc : 0 ≤ c) (h1 : lP c = false) (h2 : dP c = false) : ch T L (bl T L p) = c ↔ sgn T L p t = c := by
  unfold sgn knd
  by_cases c1 : lP (ch T L (bl T L p)) = true
  · rw [if_pos c1]
    have ne : ch T L (bl T L p) ≠ c := fun y => by rw [y, h1] at c1; cases c1
    by_cases s : stk T L p t = true
    · rw [if_pos s, if_neg (by omega)]; exact ⟨fun y => absurd y ne, fun y => by omega⟩
    · rw [if_neg s, if_neg (by omega)]; exact ⟨fun y => absurd y ne, fun y => by omega⟩
  · rw [if_neg c1]
    by_cases c2 : dP (ch T L (bl T L p)) = true
    · rw [if_pos c2]
      have ne : ch T L (bl T L p) ≠ c := fun y => by rw [y, h2] at c2; cases c2
      by_cases s : stk T L p t = true
      · rw [if_pos s, if_neg (by omega)]; exact ⟨fun y => absurd y ne, fun y => by omega⟩
      · rw [if_neg s, if_neg (by omega)]; exact ⟨fun y => absurd y ne, fun y => by omega⟩
    · rw [if_neg c2]
      by_cases c3 : ch T L (bl T L p) = -1
      · rw [if_pos c3, if_neg (by omega), c3]
      · rw [if_neg c3, if_pos rfl]
        have lt := mt (ch_m1 (s := bl T L p) tx).mpr c3
        unfold ch
        rw [if_pos (by omega)]
theorem sgn_stp {T : Nat → Int} {L p : Nat} {t : Bool} {c : Int} (h : sgn T L p t = c) (hc : 0 ≤ c) : stp T L p = bl T L p + 1 ∧ knd T L p t = 3 ∧ T (bl T L p) = c := by
  unfold sgn at h
  by_cases k3 : knd T L p t = 3
  · rw [if_pos k3] at h
    refine ⟨?_, k3, h⟩
    unfold knd at k3
    unfold stp
    by_cases c1 : lP (ch T L (bl T L p)) = true
    · rw [if_pos c1] at k3
      by_cases s : stk T L p t = true
      · rw [if_pos s] at k3; omega
      · rw [if_neg s] at k3; omega
    · rw [if_neg c1] at k3 ⊢
      by_cases c2 : dP (ch T L (bl T L p)) = true
      · rw [if_pos c2] at k3
        by_cases s : stk T L p t = true
        · rw [if_pos s] at k3; omega
        · rw [if_neg s] at k3; omega
      · rw [if_neg c2] at k3 ⊢
        by_cases c3 : ch T L (bl T L p) = -1
        · rw [if_pos c3] at k3; omega
        · rw [if_neg c3]
  · rw [if_neg k3] at h; omega
theorem MdS_sg {A B : AH} {T : Nat → Int} {L p : Nat} {t : Bool} (m : MdS A T L p t) (f : frZ A B) (h5 : gi B 190 5 = 0) (h2 : gi B 190 2 = ((bl T L p + 1 : Nat) : Int)) (h4 : gi B 190 4 = gi A 190 4) (h6 : gi B 190 6 = gi A 190 6) (hq : bl T L p < L) : MdS B T L (bl T L p + 1) false := by
  have hb := bl_le T L p
  refine ⟨MdT_Z f m.1, by omega, h5, ⟨bl T L p + 1, h2, Nat.le_refl _, bl_le T L _⟩, fun h => absurd h (by decide), fun _ => ?_, h6.trans m.2.2.2.2.2.2⟩
  rw [h4]
  cases ht : t with
  | true => have := m.2.2.2.2.1 ht; omega
  | false => have := m.2.2.2.2.2.1 ht; omega
set_option maxRecDepth 100000 in
theorem s_takesSign (d : Nat) {T : Nat → Int} {L p : Nat} {t : Bool} (c : Int) (A : AH) (m : MdS A T L p t) (hc : 0 ≤ c) (h1 : lP c = false) (h2 : dP c = false) : (sgn T L p t = c → ∃ B, runF (d + 2) 159 [vR 21 190 0, vI c] A = some (some (vI 1), B) ∧ MdS B T L (stp T L p) false ∧ frZ A B ∧ gi B 190 2 = stp T L p) ∧ (sgn T L p t ≠ c → runF (d + 2) 159 [vR 21 190 0, vI c] A = some (some (vI 0), wi A 190 2 (bl T L p : Int))) := by
  have tx := m.1.2.2.1
  have tL := tx.1
  obtain ⟨k1, k2, k3⟩ := s_lookM d A m
  constructor
  · intro e
    obtain ⟨es, ek, _⟩ := sgn_stp e hc
    have lt := knd3 tx ek
    rw [r_X12_takesSign, q_X12_takesSign_0, if_pos m.2.2.1, k1, cI_v, if_pos ((ch_sgn tx hc h1 h2).mpr e), q_X12_takesSign_27, k2.2, wid (by omega) (by omega), es, show (bl T L p : Int) + 1 = ((bl T L p + 1 : Nat) : Int) by omega]
    refine ⟨_, rfl, MdS_sg m (frZ_wi _ (by omega) k3) ?_ ?_ ?_ ?_ lt, frZ_wi _ (by omega) k3, ?_⟩
    · simp -implicitDefEqProofs (disch := omega) only [gi_wi, ↓reduceIte, Int.reduceEq, cI_v, cL_v, cV_v, cR_v, wid, wid64, if_pos, if_neg, Nat.add_zero, if_true, if_false, and_self, and_true, true_and, and_false, false_and, or_true, true_or, or_false, false_or]; exact m.2.2.1
    · simp -implicitDefEqProofs (disch := omega) only [gi_wi, ↓reduceIte, Int.reduceEq, cI_v, cL_v, cV_v, cR_v, wid, wid64, if_pos, if_neg, Nat.add_zero, if_true, if_false, and_self, and_true, true_and, and_false, false_and, or_true, true_or, or_false, false_or]
    · simp -implicitDefEqProofs (disch := omega) only [gi_wi, ↓reduceIte, Int.reduceEq, cI_v, cL_v, cV_v, cR_v, wid, wid64, if_pos, if_neg, Nat.add_zero, if_true, if_false, and_self, and_true, true_and, and_false, false_and, or_true, true_or, or_false, false_or]
    · simp -implicitDefEqProofs (disch := omega) only [gi_wi, ↓reduceIte, Int.reduceEq, cI_v, cL_v, cV_v, cR_v, wid, wid64, if_pos, if_neg, Nat.add_zero, if_true, if_false, and_self, and_true, true_and, and_false, false_and, or_true, true_or, or_false, false_or]
    · simp -implicitDefEqProofs (disch := omega) only [gi_wi, ↓reduceIte, Int.reduceEq, cI_v, cL_v, cV_v, cR_v, wid, wid64, if_pos, if_neg, Nat.add_zero, if_true, if_false, and_self, and_true, true_and, and_false, false_and, or_true, true_or, or_false, false_or]
  · intro e
    rw [r_X12_takesSign, q_X12_takesSign_0, if_pos m.2.2.1, k1, cI_v, if_neg (fun y => e ((ch_sgn tx hc h1 h2).mp y))]
set_option maxRecDepth 100000 in
theorem s_asksSign (d : Nat) {T : Nat → Int} {L p : Nat} {t : Bool} (c : Int) (A : AH) (m : MdS A T L p t) (hc : 0 ≤ c) (h1 : lP c = false) (h2 : dP c = false) : MT T L A (runF (d + 3) 160 [vR 21 190 0, vI c] A) (tkS T L p t c) := by
  obtain ⟨g1, g2⟩ := s_takesSign d c A m hc h1 h2
  obtain ⟨k1, k2, k3⟩ := s_lookM d A m
  unfold MT tkS
  rw [r_X12_asksSign, q_X12_asksSign_0, if_pos m.2.2.1]
  by_cases e : sgn T L p t = c
  · obtain ⟨B, b1, b2, b3, _⟩ := g1 e
    rw [if_pos e, b1, cI_v, if_neg (by omega)]
    exact ⟨B, rfl, b2, b3⟩
  · rw [if_neg e, g2 e, cI_v, if_pos rfl, s_failM _ _ _ _ k2.1.2.2.1, cV_v, k2.2]
    exact ⟨_, rfl, MB_t k3 (MB_f _ 1 _ (by decide))⟩
set_option maxRecDepth 100000 in
theorem l_num (d : Nat) (T : Nat → Int) (L s N : Nat) (x y : Int) (hN : rn dP T L s = s + N) (hs : s ≤ L) : ∀ (j n i : Nat) (A : AH), i + j = N → i ≤ 4 → MdT A T L → gi A 190 5 = 0 → gi A 190 2 = ((s + i : Nat) : Int) → 5 * j + 20 ≤ n → (N ≤ 4 → ∃ n' B, n ≤ n' + 5 * j + 4 ∧ go true 0 (runF (d + 1)) (runN (d + 1)) pb_X12_number n 49 [vR 21 190 0, vI x, vI y, vI (s : Int), vI (vz T s i)] [] A = go true 0 (runF (d + 1)) (runN (d + 1)) pb_X12_number n' 142 [vR 21 190 0, vI x, vI y, vI (s : Int), vI (vz T s N)] [] B ∧ frZ A B ∧ gi B 190 5 = 0 ∧ gi B 190 2 = ((s + N : Nat) : Int) ∧ gi B 190 4 = ((s + N : Nat) : Int) ∧ gi B 190 10 = s ∧ gi B 190 6 = gi A 190 6) ∧ (4 < N → ∃ B, go true 0 (runF (d + 1)) (runN (d + 1)) pb_X12_number n 49 [vR 21 190 0, vI x, vI y, vI (s : Int), vI (vz T s i)] [] A = some (some (vI 0), B) ∧ MB A B 1 (s + 4)) := by
  have hL := rn_L (P := dP) (T := T) hs
  have hl : ∀ i, i < N → 48 ≤ T (s + i) ∧ T (s + i) ≤ 57 := fun i hi => dP_t.mp (rn_in (P := dP) (T := T) (L := L) (s := s) (s + i) (by omega) (by omega))
  intro j
  induction j with
  | zero =>
    intro n i A h1 h2 h3 h4 h5 hn
    obtain ⟨n, rfl⟩ : ∃ e, n = e + 20 := ⟨n - 20, by omega⟩
    obtain ⟨t1, t2, t3, t4⟩ := h3
    have tL := t3.1
    have ei : i = N := by omega
    subst ei
    refine ⟨fun _ => ?_, fun q => by omega⟩
    refine ⟨n + 18, wi (wi A 190 4 ((s + i : Nat) : Int)) 190 10 s, by omega, ?_, frZ_wi _ (by omega) (frZ_wi _ (by omega) (frZ_refl A)), by simp -implicitDefEqProofs (disch := omega) only [gi_wi, ↓reduceIte, Int.reduceEq, cI_v, cL_v, cV_v, cR_v, wid, wid64, if_pos, if_neg, Nat.add_zero, if_true, if_false, and_self, and_true, true_and, and_false, false_and, or_true, true_or, or_false, false_or]; exact h4, by simp -implicitDefEqProofs (disch := omega) only [gi_wi, ↓reduceIte, Int.reduceEq, cI_v, cL_v, cV_v, cR_v, wid, wid64, if_pos, if_neg, Nat.add_zero, if_true, if_false, and_self, and_true, true_and, and_false, false_and, or_true, true_or, or_false, false_or]; exact h5, by simp -implicitDefEqProofs (disch := omega) only [gi_wi, ↓reduceIte, Int.reduceEq, cI_v, cL_v, cV_v, cR_v, wid, wid64, if_pos, if_neg, Nat.add_zero, if_true, if_false, and_self, and_true, true_and, and_false, false_and, or_true, true_or, or_false, false_or], by simp -implicitDefEqProofs (disch := omega) only [gi_wi, ↓reduceIte, Int.reduceEq, cI_v, cL_v, cV_v, cR_v, wid, wid64, if_pos, if_neg, Nat.add_zero, if_true, if_false, and_self, and_true, true_and, and_false, false_and, or_true, true_or, or_false, false_or], by simp -implicitDefEqProofs (disch := omega) only [gi_wi, ↓reduceIte, Int.reduceEq, cI_v, cL_v, cV_v, cR_v, wid, wid64, if_pos, if_neg, Nat.add_zero, if_true, if_false, and_self, and_true, true_and, and_false, false_and, or_true, true_or, or_false, false_or]⟩
    have e1 : go true 0 (runF (d + 1)) (runN (d + 1)) pb_X12_number (n + 19) 129 [vR 21 190 0, vI x, vI y, vI (s : Int), vI (vz T s i)] [] A = go true 0 (runF (d + 1)) (runN (d + 1)) pb_X12_number (n + 18) 142 [vR 21 190 0, vI x, vI y, vI (s : Int), vI (vz T s i)] [] (wi (wi A 190 4 ((s + i : Nat) : Int)) 190 10 s) := by
      rw [q_X12_number_129, h5]
    rw [q_X12_number_49, h5, t1]
    by_cases c : s + i < L
    · have hb := rn_end (P := dP) (T := T) hs (by omega)
      rw [hN] at hb
      rw [if_pos (by omega), if_pos (by omega), Int.toNat_natCast, t2 _ (by omega), s_isDigit, cI_v, hb, bI_f, if_pos rfl]
      exact e1
    · rw [if_neg (by omega)]
      exact e1
  | succ j ih =>
    intro n i A h1 h2 h3 h4 h5 hn
    obtain ⟨n, rfl⟩ : ∃ e, n = e + 20 := ⟨n - 20, by omega⟩
    have h3' := h3
    obtain ⟨t1, t2, t3, t4⟩ := h3
    have tL := t3.1
    have hb : dP (T (s + i)) = true := rn_in (P := dP) (T := T) (L := L) (s := s) (s + i) (by omega) (by omega)
    have hbb := hl i (by omega)
    have e1 : ∀ R, (if i = 4 then (cV (runF (d + 1) 152 [vR 21 190 0, vI 1, vI ((s + i : Nat) : Int)] A) fun A3 => go true 0 (runF (d + 1)) (runN (d + 1)) pb_X12_number (n + 19) 94 [vR 21 190 0, vI x, vI y, vI (s : Int), vI (vz T s i)] [] A3) else go true 0 (runF (d + 1)) (runN (d + 1)) pb_X12_number (n + 19) 96 [vR 21 190 0, vI x, vI y, vI (s : Int), vI (vz T s i)] [] A) = R → go true 0 (runF (d + 1)) (runN (d + 1)) pb_X12_number (n + 20) 49 [vR 21 190 0, vI x, vI y, vI (s : Int), vI (vz T s i)] [] A = R := by
      intro R hR
      rw [q_X12_number_49, h5, t1, if_pos (by omega), if_pos (by omega), Int.toNat_natCast, t2 _ (by omega), s_isDigit, cI_v, hb, bI_t, if_neg (by omega), h5, wid (by omega) (by omega)]
      by_cases c : i = 4
      · rw [if_pos (by omega), ← hR, if_pos c]
      · rw [if_neg (by omega), ← hR, if_neg c]
    by_cases c : i = 4
    · refine ⟨fun q => by omega, fun _ => ⟨wi (wi A 190 5 1) 190 6 (s + 4), e1 _ ?_, MB_f A 1 _ (by decide)⟩⟩
      rw [if_pos c, s_failM _ _ _ _ h4, cV_v, q_X12_number_94, show ((s + i : Nat) : Int) = (s : Int) + 4 by omega]
    · have f1 : frZ A (wi A 190 2 ((s + (i + 1) : Nat) : Int)) := frZ_wi _ (by omega) (frZ_refl A)
      have b := vz_3 hl i (by omega) (by omega)
      obtain ⟨i1, i2⟩ := ih (n + 17) (i + 1) (wi A 190 2 ((s + (i + 1) : Nat) : Int)) (by omega) (by omega) (MdT_Z f1 h3') (by simp -implicitDefEqProofs (disch := omega) only [gi_wi, ↓reduceIte, Int.reduceEq, cI_v, cL_v, cV_v, cR_v, wid, wid64, if_pos, if_neg, Nat.add_zero, if_true, if_false, and_self, and_true, true_and, and_false, false_and, or_true, true_or, or_false, false_or]; exact h4) (by simp -implicitDefEqProofs (disch := omega) only [gi_wi, ↓reduceIte, Int.reduceEq, cI_v, cL_v, cV_v, cR_v, wid, wid64, if_pos, if_neg, Nat.add_zero, if_true, if_false, and_self, and_true, true_and, and_false, false_and, or_true, true_or, or_false, false_or]) (by omega)
      have e2 : go true 0 (runF (d + 1)) (runN (d + 1)) pb_X12_number (n + 20) 49 [vR 21 190 0, vI x, vI y, vI (s : Int), vI (vz T s i)] [] A = go true 0 (runF (d + 1)) (runN (d + 1)) pb_X12_number (n + 17) 49 [vR 21 190 0, vI x, vI y, vI (s : Int), vI (vz T s (i + 1))] [] (wi A 190 2 ((s + (i + 1) : Nat) : Int)) := by
        refine e1 _ ?_
        rw [if_neg c, q_X12_number_96, h5, if_pos (by omega), Int.toNat_natCast, t2 _ (by omega), wid (x := 10 * vz T s i) (by omega) (by omega), wid (x := 10 * vz T s i + T (s + i)) (by omega) (by omega), wid (x := 10 * vz T s i + T (s + i) - 48) (by omega) (by omega), wid (by omega) (by omega), q_X12_number_126]
        have ev : vz T s (i + 1) = 10 * vz T s i + T (s + i) - 48 := by
          show vz T s i * 10 + (T (s + i) - 48) = _
          omega
        rw [ev, show ((s + i : Nat) : Int) + 1 = ((s + (i + 1) : Nat) : Int) by omega]
      refine ⟨fun q => ?_, fun q => ?_⟩
      · obtain ⟨n', B, g1, g2, g3, g4, g5, g6, g7, g8⟩ := i1 q
        exact ⟨n', B, by omega, e2.trans g2, frZ_trans f1 g3, g4, g5, g6, g7, by rw [g8, gi_wi, if_neg (by omega)]⟩
      · obtain ⟨B, g1, g2⟩ := i2 q
        exact ⟨B, e2.trans g1, MB_t f1 g2⟩
theorem rn_pos {P : Int → Bool} {T : Nat → Int} {L s : Nat} (h : s < L) (hp : P (T s) = true) : s < rn P T L s := by
  rw [rn_y h hp]; exact rn_le _ _ _ _
theorem at_ended {A : AH} {T : Nat → Int} {L p : Nat} {t : Bool} (m : MdL A T L p t) : gi A 190 2 = gi A 190 4 ↔ stk T L p t = true := by
  obtain ⟨⟨m1, m2, m3, _, m7, m8, _⟩, m9⟩ := m
  have hb0 := bl_le T L p
  rw [m9]
  unfold stk
  cases ht : t with
  | true =>
    rw [m7 ht, Bool.true_and, decide_eq_true_iff]; omega
  | false =>
    have := m8 ht
    rw [Bool.false_and]
    exact ⟨fun y => by omega, fun y => absurd y (by decide)⟩
set_option maxRecDepth 100000 in
theorem s_number (d : Nat) {T : Nat → Int} {L p : Nat} {t : Bool} (x y : Int) (A : AH) (m : MdS A T L p t) : match tkN T L p t x y with
    | .ok (p', t') => ∃ B, runF (d + 2) 161 [vR 21 190 0, vI x, vI y] A = some (some (vI (numV T L p)), B) ∧ MdS B T L p' t' ∧ frZ A B ∧ gi B 190 10 = bl T L p
    | .error (k, s) => ∃ v B, runF (d + 2) 161 [vR 21 190 0, vI x, vI y] A = some (some (vI v), B) ∧ MB A B k s := by
  have tx := m.1.2.2.1
  have tL := tx.1
  have hL := m.2.1
  have hb := bl_L (T := T) hL
  obtain ⟨k1, k2, k3⟩ := s_lookM (d + 1) A m
  have bad : ∀ n u3 u4, ∃ v B, go true 0 (runF (d + 1)) (runN (d + 1)) pb_X12_number (n + 1) 30 [vR 21 190 0, vI x, vI y, u3, u4] [] (wi A 190 2 (bl T L p : Int)) = some (some (vI v), B) ∧ MB A B 1 (bl T L p) := fun n u3 u4 => by
    rw [q_X12_number_30, s_failM _ _ _ _ k2.1.2.2.1, cV_v, k2.2]
    exact ⟨0, _, rfl, MB_t k3 (MB_f _ 1 _ (by decide))⟩
  rw [r_X12_number, q_X12_number_0, if_pos m.2.2.1, s_lookM d A m |>.1, cI_v, s_isDigit, cI_v]
  by_cases c1 : dP (ch T L (bl T L p)) = true
  · have c1l : lP (ch T L (bl T L p)) = false := by
      have := dP_t.mp c1
      exact lP_f.mpr (by omega)
    rw [c1, bI_t, if_neg (by omega)]
    by_cases c2 : stk T L p t = true
    · rw [if_pos ((at_ended k2).mpr c2)]
      have ek : knd T L p t = 4 := by unfold knd; rw [if_neg (by rw [c1l]; decide), if_pos c1, if_pos c2]
      rw [show tkN T L p t x y = .error (1, bl T L p) by unfold tkN; rw [if_neg (by omega)]]
      exact bad _ _ _
    · rw [if_neg (fun z => c2 ((at_ended k2).mp z))]
      have ek : knd T L p t = 2 := by unfold knd; rw [if_neg (by rw [c1l]; decide), if_pos c1, if_neg c2]
      have es : stp T L p = rn dP T L (bl T L p) := by unfold stp; rw [if_neg (by rw [c1l]; decide), if_pos c1]
      have sl := stp_le T L p
      have sL := stp_L tx hL
      rw [k2.2, Nat.add_zero (fu + 197)]
      obtain ⟨n1, n2⟩ := l_num d T L (bl T L p) (stp T L p - bl T L p) x y (by omega) hb (stp T L p - bl T L p) (fu + 197) 0 (wi A 190 2 (bl T L p : Int)) (by omega) (by omega) (MdT_Z k3 m.1) k2.1.2.2.1 (by rw [k2.2]; rfl) (by have := fu_ge; omega)
      have z0 : vI (0 : Int) = vI (vz T (bl T L p) 0) := rfl
      rw [z0]
      by_cases h4 : 4 < stp T L p - bl T L p
      · rw [show tkN T L p t x y = .error (1, bl T L p + 4) by unfold tkN; rw [if_pos ek, if_pos h4]]
        obtain ⟨B, b1, b2⟩ := n2 h4
        exact ⟨0, B, b1, MB_t k3 b2⟩
      · obtain ⟨nn, B, b0, b1, b2, b3, b4, b5, b6, b7⟩ := n1 (by omega)
        have hnn : 800000 ≤ nn := by have := fu_ge; omega
        obtain ⟨nn, rfl⟩ : ∃ e, nn = e + 10 := ⟨nn - 10, by omega⟩
        rw [b1, q_X12_number_142, s_isIn, cI_v]
        rw [show bl T L p + (stp T L p - bl T L p) = stp T L p by omega] at b4 b5
        by_cases h5 : numV T L p < x ∨ y < numV T L p
        · rw [show tkN T L p t x y = .error (2, bl T L p) by unfold tkN; rw [if_pos ek, if_neg h4, if_pos h5], decide_eq_false (show ¬ (x ≤ vz T (bl T L p) (stp T L p - bl T L p) ∧ vz T (bl T L p) (stp T L p - bl T L p) ≤ y) from fun z => by unfold numV at h5; omega), bI_f, if_pos rfl, s_failM _ _ _ _ b3, cV_v]
          exact ⟨_, _, rfl, MB_t (frZ_trans k3 b2) (MB_f _ 2 _ (by decide))⟩
        · rw [show tkN T L p t x y = .ok (stp T L p, true) by unfold tkN; rw [if_pos ek, if_neg h4, if_neg h5], decide_eq_true (show x ≤ vz T (bl T L p) (stp T L p - bl T L p) ∧ vz T (bl T L p) (stp T L p - bl T L p) ≤ y by unfold numV at h5; omega), bI_t, if_neg (by omega)]
          exact ⟨B, rfl, MdS_tk m (frZ_trans k3 b2) sL b3 b4 b5 (by rw [b7]; exact k2.1.2.2.2.2.2.2), frZ_trans k3 b2, b6⟩
  · have ek : knd T L p t ≠ 2 := fun z => c1 (knd2 z).1
    rw [show dP (ch T L (bl T L p)) = false by simpa using c1, bI_f, if_pos rfl, show tkN T L p t x y = .error (1, bl T L p) by unfold tkN; rw [if_neg ek]]
    exact bad _ _ _
set_option maxRecDepth 100000 in
theorem s_isOwnHere (d : Nat) {T : Nat → Int} {L p : Nat} {t : Bool} (A : AH) (m : MdL A T L p t) : runF (d + 3) 162 [vR 21 190 0] A = some (some (vI (bI (decide (1 ≤ wrd T L p t ∧ wrd T L p t ≤ 31)))), A) := by
  have hr : ∀ r len k, (193 ≤ r ∧ r ≤ 223) → (wl (wo r)).length = len → wo r + 1 = k → runF (d + 2) 156 [vR 21 190 0, vR 32 r len] A = some (some (vI (bI (decide (wrd T L p t = k)))), A) := fun r len k h1 h2 h3 => s_isHereL d r len k A m (Or.inl h1) h2 h3
  generalize wrd T L p t = w at *
  have g0 : ∀ n, go true 2 (runF (d + 2)) (runN (d + 2)) pb_X12_isOwnHere (n + 2) 0 [vR 21 190 0, vU] [] A = go true 2 (runF (d + 2)) (runN (d + 2)) pb_X12_isOwnHere n 71 [vR 21 190 0, vU] [vI (bI (decide (1 ≤ w ∧ w ≤ 6)))] A := by
    intro n
    rw [q_X12_isOwnHere_0]
    rw [hr 193 4 1 (by omega) (by decide) (by decide), cI_v]
    by_cases c1 : w = 1
    · rw [decide_eq_true c1, bI_t, if_neg (by omega), q_X12_isOwnHere_66, decide_eq_true (p := 1 ≤ w ∧ w ≤ 6) (by omega)]; rfl
    rw [decide_eq_false c1, bI_f, if_pos rfl]
    rw [hr 194 6 2 (by omega) (by decide) (by decide), cI_v]
    by_cases c2 : w = 2
    · rw [decide_eq_true c2, bI_t, if_neg (by omega), q_X12_isOwnHere_66, decide_eq_true (p := 1 ≤ w ∧ w ≤ 6) (by omega)]; rfl
    rw [decide_eq_false c2, bI_f, if_pos rfl]
    rw [hr 195 5 3 (by omega) (by decide) (by decide), cI_v]
    by_cases c3 : w = 3
    · rw [decide_eq_true c3, bI_t, if_neg (by omega), q_X12_isOwnHere_66, decide_eq_true (p := 1 ≤ w ∧ w ≤ 6) (by omega)]; rfl
    rw [decide_eq_false c3, bI_f, if_pos rfl]
    rw [hr 196 6 4 (by omega) (by decide) (by decide), cI_v]
    by_cases c4 : w = 4
    · rw [decide_eq_true c4, bI_t, if_neg (by omega), q_X12_isOwnHere_66, decide_eq_true (p := 1 ≤ w ∧ w ≤ 6) (by omega)]; rfl
    rw [decide_eq_false c4, bI_f, if_pos rfl]
    rw [hr 197 3 5 (by omega) (by decide) (by decide), cI_v]
    by_cases c5 : w = 5
    · rw [decide_eq_true c5, bI_t, if_neg (by omega), q_X12_isOwnHere_66, decide_eq_true (p := 1 ≤ w ∧ w ≤ 6) (by omega)]; rfl
    rw [decide_eq_false c5, bI_f, if_pos rfl]
    rw [hr 198 5 6 (by omega) (by decide) (by decide), cI_v]
    by_cases c6 : w = 6
    · rw [decide_eq_true c6, bI_t, if_neg (by omega), q_X12_isOwnHere_66, decide_eq_true (p := 1 ≤ w ∧ w ≤ 6) (by omega)]; rfl
    rw [decide_eq_false c6, bI_f, if_pos rfl]
    rw [decide_eq_false (p := 1 ≤ w ∧ w ≤ 6) (by omega)]; rfl
  have g1 : ∀ n u, go true 2 (runF (d + 2)) (runN (d + 2)) pb_X12_isOwnHere (n + 2) 71 [vR 21 190 0, u] [vI (bI (decide (1 ≤ w ∧ w ≤ 6)))] A = go true 2 (runF (d + 2)) (runN (d + 2)) pb_X12_isOwnHere n 147 [vR 21 190 0, vI (bI (decide (1 ≤ w ∧ w ≤ 6)))] [vI (bI (decide (1 ≤ w ∧ w ≤ 12)))] A := by
    intro n u
    rw [q_X12_isOwnHere_71]
    by_cases c0 : 1 ≤ w ∧ w ≤ 6
    · rw [decide_eq_true c0, bI_t, if_neg (by omega), q_X12_isOwnHere_142, decide_eq_true (p := 1 ≤ w ∧ w ≤ 12) (by omega)]; rfl
    rw [decide_eq_false c0, bI_f, if_pos rfl]
    rw [hr 199 5 7 (by omega) (by decide) (by decide), cI_v]
    by_cases c7 : w = 7
    · rw [decide_eq_true c7, bI_t, if_neg (by omega), q_X12_isOwnHere_142, decide_eq_true (p := 1 ≤ w ∧ w ≤ 12) (by omega)]; rfl
    rw [decide_eq_false c7, bI_f, if_pos rfl]
    rw [hr 200 6 8 (by omega) (by decide) (by decide), cI_v]
    by_cases c8 : w = 8
    · rw [decide_eq_true c8, bI_t, if_neg (by omega), q_X12_isOwnHere_142, decide_eq_true (p := 1 ≤ w ∧ w ≤ 12) (by omega)]; rfl
    rw [decide_eq_false c8, bI_f, if_pos rfl]
    rw [hr 201 2 9 (by omega) (by decide) (by decide), cI_v]
    by_cases c9 : w = 9
    · rw [decide_eq_true c9, bI_t, if_neg (by omega), q_X12_isOwnHere_142, decide_eq_true (p := 1 ≤ w ∧ w ≤ 12) (by omega)]; rfl
    rw [decide_eq_false c9, bI_f, if_pos rfl]
    rw [hr 202 5 10 (by omega) (by decide) (by decide), cI_v]
    by_cases c10 : w = 10
    · rw [decide_eq_true c10, bI_t, if_neg (by omega), q_X12_isOwnHere_142, decide_eq_true (p := 1 ≤ w ∧ w ≤ 12) (by omega)]; rfl
    rw [decide_eq_false c10, bI_f, if_pos rfl]
    rw [hr 203 5 11 (by omega) (by decide) (by decide), cI_v]
    by_cases c11 : w = 11
    · rw [decide_eq_true c11, bI_t, if_neg (by omega), q_X12_isOwnHere_142, decide_eq_true (p := 1 ≤ w ∧ w ≤ 12) (by omega)]; rfl
    rw [decide_eq_false c11, bI_f, if_pos rfl]
    rw [hr 204 5 12 (by omega) (by decide) (by decide), cI_v]
    by_cases c12 : w = 12
    · rw [decide_eq_true c12, bI_t, if_neg (by omega), q_X12_isOwnHere_142, decide_eq_true (p := 1 ≤ w ∧ w ≤ 12) (by omega)]; rfl
    rw [decide_eq_false c12, bI_f, if_pos rfl]
    rw [decide_eq_false (p := 1 ≤ w ∧ w ≤ 12) (by omega)]; rfl
  have g2 : ∀ n x, go true 2 (runF (d + 2)) (runN (d + 2)) pb_X12_isOwnHere (n + 2) 147 [vR 21 190 0, vI x] [vI (bI (decide (1 ≤ w ∧ w ≤ 12)))] A = go true 2 (runF (d + 2)) (runN (d + 2)) pb_X12_isOwnHere n 223 [vR 21 190 0, vI (bI (decide (1 ≤ w ∧ w ≤ 12)))] [vI (bI (decide (1 ≤ w ∧ w ≤ 18)))] A := by
    intro n x
    rw [q_X12_isOwnHere_147]
    by_cases c0 : 1 ≤ w ∧ w ≤ 12
    · rw [decide_eq_true c0, bI_t, if_neg (by omega), q_X12_isOwnHere_218, decide_eq_true (p := 1 ≤ w ∧ w ≤ 18) (by omega)]; rfl
    rw [decide_eq_false c0, bI_f, if_pos rfl]
    rw [hr 205 4 13 (by omega) (by decide) (by decide), cI_v]
    by_cases c13 : w = 13
    · rw [decide_eq_true c13, bI_t, if_neg (by omega), q_X12_isOwnHere_218, decide_eq_true (p := 1 ≤ w ∧ w ≤ 18) (by omega)]; rfl
    rw [decide_eq_false c13, bI_f, if_pos rfl]
    rw [hr 206 4 14 (by omega) (by decide) (by decide), cI_v]
    by_cases c14 : w = 14
    · rw [decide_eq_true c14, bI_t, if_neg (by omega), q_X12_isOwnHere_218, decide_eq_true (p := 1 ≤ w ∧ w ≤ 18) (by omega)]; rfl
    rw [decide_eq_false c14, bI_f, if_pos rfl]
    rw [hr 207 4 15 (by omega) (by decide) (by decide), cI_v]
    by_cases c15 : w = 15
    · rw [decide_eq_true c15, bI_t, if_neg (by omega), q_X12_isOwnHere_218, decide_eq_true (p := 1 ≤ w ∧ w ≤ 18) (by omega)]; rfl
    rw [decide_eq_false c15, bI_f, if_pos rfl]
    rw [hr 208 5 16 (by omega) (by decide) (by decide), cI_v]
    by_cases c16 : w = 16
    · rw [decide_eq_true c16, bI_t, if_neg (by omega), q_X12_isOwnHere_218, decide_eq_true (p := 1 ≤ w ∧ w ≤ 18) (by omega)]; rfl
    rw [decide_eq_false c16, bI_f, if_pos rfl]
    rw [hr 209 5 17 (by omega) (by decide) (by decide), cI_v]
    by_cases c17 : w = 17
    · rw [decide_eq_true c17, bI_t, if_neg (by omega), q_X12_isOwnHere_218, decide_eq_true (p := 1 ≤ w ∧ w ≤ 18) (by omega)]; rfl
    rw [decide_eq_false c17, bI_f, if_pos rfl]
    rw [hr 210 5 18 (by omega) (by decide) (by decide), cI_v]
    by_cases c18 : w = 18
    · rw [decide_eq_true c18, bI_t, if_neg (by omega), q_X12_isOwnHere_218, decide_eq_true (p := 1 ≤ w ∧ w ≤ 18) (by omega)]; rfl
    rw [decide_eq_false c18, bI_f, if_pos rfl]
    rw [decide_eq_false (p := 1 ≤ w ∧ w ≤ 18) (by omega)]; rfl
  have g3 : ∀ n x, go true 2 (runF (d + 2)) (runN (d + 2)) pb_X12_isOwnHere (n + 2) 223 [vR 21 190 0, vI x] [vI (bI (decide (1 ≤ w ∧ w ≤ 18)))] A = go true 2 (runF (d + 2)) (runN (d + 2)) pb_X12_isOwnHere n 299 [vR 21 190 0, vI (bI (decide (1 ≤ w ∧ w ≤ 18)))] [vI (bI (decide (1 ≤ w ∧ w ≤ 24)))] A := by
    intro n x
    rw [q_X12_isOwnHere_223]
    by_cases c0 : 1 ≤ w ∧ w ≤ 18
    · rw [decide_eq_true c0, bI_t, if_neg (by omega), q_X12_isOwnHere_294, decide_eq_true (p := 1 ≤ w ∧ w ≤ 24) (by omega)]; rfl
    rw [decide_eq_false c0, bI_f, if_pos rfl]
    rw [hr 211 4 19 (by omega) (by decide) (by decide), cI_v]
    by_cases c19 : w = 19
    · rw [decide_eq_true c19, bI_t, if_neg (by omega), q_X12_isOwnHere_294, decide_eq_true (p := 1 ≤ w ∧ w ≤ 24) (by omega)]; rfl
    rw [decide_eq_false c19, bI_f, if_pos rfl]
    rw [hr 212 5 20 (by omega) (by decide) (by decide), cI_v]
    by_cases c20 : w = 20
    · rw [decide_eq_true c20, bI_t, if_neg (by omega), q_X12_isOwnHere_294, decide_eq_true (p := 1 ≤ w ∧ w ≤ 24) (by omega)]; rfl
    rw [decide_eq_false c20, bI_f, if_pos rfl]
    rw [hr 213 5 21 (by omega) (by decide) (by decide), cI_v]
    by_cases c21 : w = 21
    · rw [decide_eq_true c21, bI_t, if_neg (by omega), q_X12_isOwnHere_294, decide_eq_true (p := 1 ≤ w ∧ w ≤ 24) (by omega)]; rfl
    rw [decide_eq_false c21, bI_f, if_pos rfl]
    rw [hr 214 6 22 (by omega) (by decide) (by decide), cI_v]
    by_cases c22 : w = 22
    · rw [decide_eq_true c22, bI_t, if_neg (by omega), q_X12_isOwnHere_294, decide_eq_true (p := 1 ≤ w ∧ w ≤ 24) (by omega)]; rfl
    rw [decide_eq_false c22, bI_f, if_pos rfl]
    rw [hr 215 6 23 (by omega) (by decide) (by decide), cI_v]
    by_cases c23 : w = 23
    · rw [decide_eq_true c23, bI_t, if_neg (by omega), q_X12_isOwnHere_294, decide_eq_true (p := 1 ≤ w ∧ w ≤ 24) (by omega)]; rfl
    rw [decide_eq_false c23, bI_f, if_pos rfl]
    rw [hr 216 5 24 (by omega) (by decide) (by decide), cI_v]
    by_cases c24 : w = 24
    · rw [decide_eq_true c24, bI_t, if_neg (by omega), q_X12_isOwnHere_294, decide_eq_true (p := 1 ≤ w ∧ w ≤ 24) (by omega)]; rfl
    rw [decide_eq_false c24, bI_f, if_pos rfl]
    rw [decide_eq_false (p := 1 ≤ w ∧ w ≤ 24) (by omega)]; rfl
  have g4 : ∀ n x, go true 2 (runF (d + 2)) (runN (d + 2)) pb_X12_isOwnHere (n + 2) 299 [vR 21 190 0, vI x] [vI (bI (decide (1 ≤ w ∧ w ≤ 24)))] A = go true 2 (runF (d + 2)) (runN (d + 2)) pb_X12_isOwnHere n 375 [vR 21 190 0, vI (bI (decide (1 ≤ w ∧ w ≤ 24)))] [vI (bI (decide (1 ≤ w ∧ w ≤ 30)))] A := by
    intro n x
    rw [q_X12_isOwnHere_299]
    by_cases c0 : 1 ≤ w ∧ w ≤ 24
    · rw [decide_eq_true c0, bI_t, if_neg (by omega), q_X12_isOwnHere_370, decide_eq_true (p := 1 ≤ w ∧ w ≤ 30) (by omega)]; rfl
    rw [decide_eq_false c0, bI_f, if_pos rfl]
    rw [hr 217 2 25 (by omega) (by decide) (by decide), cI_v]
    by_cases c25 : w = 25
    · rw [decide_eq_true c25, bI_t, if_neg (by omega), q_X12_isOwnHere_370, decide_eq_true (p := 1 ≤ w ∧ w ≤ 30) (by omega)]; rfl
    rw [decide_eq_false c25, bI_f, if_pos rfl]
    rw [hr 218 3 26 (by omega) (by decide) (by decide), cI_v]
    by_cases c26 : w = 26
    · rw [decide_eq_true c26, bI_t, if_neg (by omega), q_X12_isOwnHere_370, decide_eq_true (p := 1 ≤ w ∧ w ≤ 30) (by omega)]; rfl
    rw [decide_eq_false c26, bI_f, if_pos rfl]
    rw [hr 219 3 27 (by omega) (by decide) (by decide), cI_v]
    by_cases c27 : w = 27
    · rw [decide_eq_true c27, bI_t, if_neg (by omega), q_X12_isOwnHere_370, decide_eq_true (p := 1 ≤ w ∧ w ≤ 30) (by omega)]; rfl
    rw [decide_eq_false c27, bI_f, if_pos rfl]
    rw [hr 220 3 28 (by omega) (by decide) (by decide), cI_v]
    by_cases c28 : w = 28
    · rw [decide_eq_true c28, bI_t, if_neg (by omega), q_X12_isOwnHere_370, decide_eq_true (p := 1 ≤ w ∧ w ≤ 30) (by omega)]; rfl
    rw [decide_eq_false c28, bI_f, if_pos rfl]
    rw [hr 221 3 29 (by omega) (by decide) (by decide), cI_v]
    by_cases c29 : w = 29
    · rw [decide_eq_true c29, bI_t, if_neg (by omega), q_X12_isOwnHere_370, decide_eq_true (p := 1 ≤ w ∧ w ≤ 30) (by omega)]; rfl
    rw [decide_eq_false c29, bI_f, if_pos rfl]
    rw [hr 222 3 30 (by omega) (by decide) (by decide), cI_v]
    by_cases c30 : w = 30
    · rw [decide_eq_true c30, bI_t, if_neg (by omega), q_X12_isOwnHere_370, decide_eq_true (p := 1 ≤ w ∧ w ≤ 30) (by omega)]; rfl
    rw [decide_eq_false c30, bI_f, if_pos rfl]
    rw [decide_eq_false (p := 1 ≤ w ∧ w ≤ 30) (by omega)]; rfl
  rw [r_X12_isOwnHere, g0, g1, g2, g3, g4, q_X12_isOwnHere_375]
  by_cases c0 : 1 ≤ w ∧ w ≤ 30
  · rw [decide_eq_true c0, bI_t, if_neg (by omega), q_X12_isOwnHere_391, decide_eq_true (by omega)]; rfl
  rw [decide_eq_false c0, bI_f, if_pos rfl, hr 223 6 31 (by omega) (by decide) (by decide), cI_v]
  by_cases c31 : w = 31
  · rw [decide_eq_true c31, bI_t, if_neg (by omega), q_X12_isOwnHere_391, decide_eq_true (by omega)]; rfl
  rw [decide_eq_false c31, bI_f, if_pos rfl, decide_eq_false (by omega)]; rfl
