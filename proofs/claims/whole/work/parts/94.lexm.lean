/-! the reference's reader -/
theorem wi_id (A : AH) (a k : Nat) : wi A a k (gi A a k) = A := by
  obtain ⟨x, y, z⟩ := A
  unfold wi gi
  refine Prod.ext ?_ rfl
  funext b j
  show (if b = a ∧ j = k then x a k else x b j) = x b j
  by_cases c : b = a ∧ j = k
  · rw [if_pos c, c.1, c.2]
  · rw [if_neg c]
theorem wi_2 (A : AH) (a k : Nat) (u v : Int) : wi (wi A a k u) a k v = wi A a k v := by
  obtain ⟨x, y, z⟩ := A
  unfold wi
  refine Prod.ext ?_ rfl
  funext b j
  show (if b = a ∧ j = k then v else if b = a ∧ j = k then u else x b j) = if b = a ∧ j = k then v else x b j
  by_cases c : b = a ∧ j = k
  · rw [if_pos c, if_pos c]
  · rw [if_neg c, if_neg c, if_neg c]
def WC (A : AH) : Prop := ∀ r, (193 ≤ r ∧ r ≤ 223) ∨ (244 ≤ r ∧ r ≤ 266) → ∀ i, i < (wl (wo r)).length → gi A r i = 96 + (wl (wo r)).getD i 0
def MdT (A : AH) (T : Nat → Int) (L : Nat) : Prop := gi A 190 3 = L ∧ (∀ j, j < 1600 → gi A 191 j = T j) ∧ TX T L ∧ WC A
/-- the reference reads behind p; t: a word or number ended there -/
def MdS (A : AH) (T : Nat → Int) (L p : Nat) (t : Bool) : Prop := MdT A T L ∧ p ≤ L ∧ gi A 190 5 = 0 ∧ (∃ q : Nat, gi A 190 2 = q ∧ p ≤ q ∧ q ≤ bl T L p) ∧ (t = true → gi A 190 4 = p) ∧ (t = false → gi A 190 4 < p) ∧ gi A 190 6 = -1
def MdL (A : AH) (T : Nat → Int) (L p : Nat) (t : Bool) : Prop := MdS A T L p t ∧ gi A 190 2 = bl T L p
def frZ (A B : AH) : Prop := (∀ a j, ¬ (a = 190 ∧ (j = 2 ∨ j = 4 ∨ j = 5 ∨ j = 6 ∨ j = 10 ∨ j = 42)) → gi B a j = gi A a j) ∧ (∀ a j, gr B a j = gr A a j) ∧ B.2.2 = A.2.2
theorem frZ_refl (A : AH) : frZ A A := ⟨fun _ _ _ => rfl, fun _ _ => rfl, rfl⟩
theorem frZ_trans {A B C : AH} (h1 : frZ A B) (h2 : frZ B C) : frZ A C := ⟨fun a j r => (h2.1 a j r).trans (h1.1 a j r), fun a j => (h2.2.1 a j).trans (h1.2.1 a j), h2.2.2.trans h1.2.2⟩
theorem frZ_wi {A B : AH} {k : Nat} (v : Int) (h : k = 2 ∨ k = 4 ∨ k = 5 ∨ k = 6 ∨ k = 10 ∨ k = 42) (h2 : frZ A B) : frZ A (wi B 190 k v) := frZ_trans h2 ⟨fun b j r => by rw [gi_wi, if_neg (by omega)], fun _ _ => rfl, rfl⟩
theorem WC_fr {A B : AH} (g : ∀ a j, (193 ≤ a ∧ a ≤ 223) ∨ (244 ≤ a ∧ a ≤ 266) → gi B a j = gi A a j) (h : WC A) : WC B := fun r hr i hi => (g r i hr).trans (h r hr i hi)
theorem MdT_Z {A B : AH} {T : Nat → Int} {L : Nat} (f : frZ A B) (r : MdT A T L) : MdT B T L := ⟨(f.1 190 3 (by omega)).trans r.1, fun j hj => (f.1 191 j (by omega)).trans (r.2.1 j hj), r.2.2.1, WC_fr (fun a j h => f.1 a j (by omega)) r.2.2.2⟩
def MB (A B : AH) (k s : Int) : Prop := gi B 190 5 = k ∧ gi B 190 6 = s ∧ k ≠ 0 ∧ frZ A B
def MT (T : Nat → Int) (L : Nat) (A : AH) (x : RS) (e : Except (Int × Int) (Nat × Bool)) : Prop := match e with
  | .ok (p, t) => ∃ B, x = some (none, B) ∧ MdS B T L p t ∧ frZ A B
  | .error (k, s) => ∃ B, x = some (none, B) ∧ MB A B k s
set_option maxRecDepth 100000 in
theorem s_isLetter (d : Nat) (c : Int) (A : AH) : runF (d + 1) 153 [vI c] A = some (some (vI (bI (lP c))), A) := by
  rw [r_X12_isLetter, q_X12_isLetter_0]
  unfold lP
  by_cases h1 : c < 97
  · rw [if_pos h1, q_X12_isLetter_16, decide_eq_false (by omega)]; rfl
  · rw [if_neg h1]
    by_cases h2 : 122 < c
    · rw [if_pos h2, q_X12_isLetter_16, decide_eq_false (by omega)]; rfl
    · rw [if_neg h2, decide_eq_true (by omega)]; rfl
set_option maxRecDepth 100000 in
theorem s_isDigit (d : Nat) (c : Int) (A : AH) : runF (d + 1) 154 [vI c] A = some (some (vI (bI (dP c))), A) := by
  rw [r_X12_isDigit, q_X12_isDigit_0]
  unfold dP
  by_cases h1 : c < 48
  · rw [if_pos h1, q_X12_isDigit_16, decide_eq_false (by omega)]; rfl
  · rw [if_neg h1]
    by_cases h2 : 57 < c
    · rw [if_pos h2, q_X12_isDigit_16, decide_eq_false (by omega)]; rfl
    · rw [if_neg h2, decide_eq_true (by omega)]; rfl
set_option maxRecDepth 100000 in
theorem s_failM (d : Nat) (k s : Int) (A : AH) (h : gi A 190 5 = 0) : runF (d + 1) 152 [vR 21 190 0, vI k, vI s] A = some (none, wi (wi A 190 5 k) 190 6 s) := by
  rw [r_X12_fail, q_X12_fail_0, if_pos h, q_X12_fail_18]
set_option maxRecDepth 100000 in
theorem s_failB (d : Nat) (k s : Int) (A : AH) (h : gi A 190 5 ≠ 0) : runF (d + 1) 152 [vR 21 190 0, vI k, vI s] A = some (none, A) := by
  rw [r_X12_fail, q_X12_fail_0, if_neg h]
theorem MB_f (A : AH) (k s : Int) (hk : k ≠ 0) : MB A (wi (wi A 190 5 k) 190 6 s) k s := ⟨by simp -implicitDefEqProofs (disch := omega) only [gi_wi, ↓reduceIte, Int.reduceEq, cI_v, cL_v, cV_v, cR_v, wid, wid64, if_pos, if_neg, Nat.add_zero, if_true, if_false, and_self, and_true, true_and, and_false, false_and, or_true, true_or, or_false, false_or], by simp -implicitDefEqProofs (disch := omega) only [gi_wi, ↓reduceIte, Int.reduceEq, cI_v, cL_v, cV_v, cR_v, wid, wid64, if_pos, if_neg, Nat.add_zero, if_true, if_false, and_self, and_true, true_and, and_false, false_and, or_true, true_or, or_false, false_or], hk, frZ_wi _ (by omega) (frZ_wi _ (by omega) (frZ_refl A))⟩
theorem MB_t {A B C : AH} {k s : Int} (f : frZ A B) (h : MB B C k s) : MB A C k s := ⟨h.1, h.2.1, h.2.2.1, frZ_trans f h.2.2.2⟩
set_option maxRecDepth 100000 in
theorem l_look (d : Nat) (T : Nat → Int) (L : Nat) : ∀ (j n s : Nat) (A : AH), rn bP T L s = s + j → s ≤ L → MdT A T L → gi A 190 2 = s → 3 * j + 10 ≤ n → go true 0 (runF d) (runN d) pb_X12_look n 0 [vR 21 190 0] [] A = some (some (vI (ch T L (s + j))), wi A 190 2 ((s + j : Nat) : Int)) := by
  intro j
  induction j with
  | zero =>
    intro n s A h1 h2 h3 h4 hn
    obtain ⟨n, rfl⟩ : ∃ e, n = e + 10 := ⟨n - 10, by omega⟩
    obtain ⟨t1, t2, t3, t4⟩ := h3
    have tL := t3.1
    have e52 : go true 0 (runF d) (runN d) pb_X12_look (n + 9) 52 [vR 21 190 0] [] A = some (some (vI (ch T L s)), A) := by
      rw [q_X12_look_52, h4, t1]
      unfold ch
      by_cases c : s < L
      · rw [if_pos (by omega), if_pos (by omega), if_pos c, Int.toNat_natCast, t2 s (by omega)]
      · rw [if_neg (by omega), if_neg c]
    have ew : wi A 190 2 ((s + 0 : Nat) : Int) = A := by rw [Nat.add_zero, ← h4]; exact wi_id A 190 2
    rw [ew, Nat.add_zero s, q_X12_look_0, h4, t1]
    by_cases c : s < L
    · have hb := rn_end (P := bP) (T := T) h2 (by omega)
      rw [h1] at hb
      have hb2 := bP_f.mp hb
      rw [Nat.add_zero] at hb2
      rw [if_pos (by omega), if_pos (by omega), Int.toNat_natCast, t2 s (by omega), if_neg (by omega), if_pos (by omega), if_neg (by omega)]
      exact e52
    · rw [if_neg (by omega)]
      exact e52
  | succ j ih =>
    intro n s A h1 h2 h3 h4 hn
    obtain ⟨n, rfl⟩ : ∃ e, n = e + 10 := ⟨n - 10, by omega⟩
    have hL := rn_L (P := bP) (T := T) h2
    have hb := bP_t.mp (rn_in (P := bP) (T := T) (L := L) (s := s) s (by omega) (by omega))
    have ej : rn bP T L (s + 1) = (s + 1) + j := by rw [rn_idem (s := s) (by omega) (by omega) h2]; omega
    have h3' := h3
    obtain ⟨t1, t2, t3, t4⟩ := h3
    have tL := t3.1
    have f1 : frZ A (wi A 190 2 ((s + 1 : Nat) : Int)) := frZ_wi _ (by omega) (frZ_refl A)
    have e1 : go true 0 (runF d) (runN d) pb_X12_look (n + 9) 39 [vR 21 190 0] [] A = some (some (vI (ch T L (s + (j + 1)))), wi A 190 2 ((s + (j + 1) : Nat) : Int)) := by
      rw [q_X12_look_39, h4, wid (by omega) (by omega), q_X12_look_49, show (s : Int) + 1 = ((s + 1 : Nat) : Int) by omega]
      have := ih (n + 7) (s + 1) (wi A 190 2 ((s + 1 : Nat) : Int)) ej (by omega) (MdT_Z f1 h3') (by rw [gi_wi, if_pos ⟨rfl, rfl⟩]) (by omega)
      rw [wi_2, show s + 1 + j = s + (j + 1) by omega] at this
      exact this
    rw [q_X12_look_0, h4, t1, if_pos (by omega), if_pos (by omega), Int.toNat_natCast, t2 s (by omega)]
    by_cases c : T s = 10
    · rw [if_pos c]; exact e1
    · rw [if_neg c, if_pos (by omega), if_pos (by omega)]; exact e1
set_option maxRecDepth 100000 in
theorem s_lookM (d : Nat) {T : Nat → Int} {L p : Nat} {t : Bool} (A : AH) (m : MdS A T L p t) : runF (d + 1) 155 [vR 21 190 0] A = some (some (vI (ch T L (bl T L p))), wi A 190 2 (bl T L p : Int)) ∧ MdL (wi A 190 2 (bl T L p : Int)) T L p t ∧ frZ A (wi A 190 2 (bl T L p : Int)) := by
  have m' := m
  obtain ⟨m1, m2, m3, ⟨q, m4, m5, m6⟩, m7, m8, mz⟩ := m
  have f : frZ A (wi A 190 2 (bl T L p : Int)) := frZ_wi _ (by omega) (frZ_refl A)
  have hb := bl_L (T := T) m2
  have tL := m1.2.2.1.1
  refine ⟨?_, ⟨⟨MdT_Z f m1, m2, by simp -implicitDefEqProofs (disch := omega) only [gi_wi, ↓reduceIte, Int.reduceEq, cI_v, cL_v, cV_v, cR_v, wid, wid64, if_pos, if_neg, Nat.add_zero, if_true, if_false, and_self, and_true, true_and, and_false, false_and, or_true, true_or, or_false, false_or]; exact m3, ⟨bl T L p, by simp -implicitDefEqProofs (disch := omega) only [gi_wi, ↓reduceIte, Int.reduceEq, cI_v, cL_v, cV_v, cR_v, wid, wid64, if_pos, if_neg, Nat.add_zero, if_true, if_false, and_self, and_true, true_and, and_false, false_and, or_true, true_or, or_false, false_or], bl_le T L p, Nat.le_refl _⟩, fun h => by simp -implicitDefEqProofs (disch := omega) only [gi_wi, ↓reduceIte, Int.reduceEq, cI_v, cL_v, cV_v, cR_v, wid, wid64, if_pos, if_neg, Nat.add_zero, if_true, if_false, and_self, and_true, true_and, and_false, false_and, or_true, true_or, or_false, false_or]; exact m7 h, fun h => by simp -implicitDefEqProofs (disch := omega) only [gi_wi, ↓reduceIte, Int.reduceEq, cI_v, cL_v, cV_v, cR_v, wid, wid64, if_pos, if_neg, Nat.add_zero, if_true, if_false, and_self, and_true, true_and, and_false, false_and, or_true, true_or, or_false, false_or]; exact m8 h, by simp -implicitDefEqProofs (disch := omega) only [gi_wi, ↓reduceIte, Int.reduceEq, cI_v, cL_v, cV_v, cR_v, wid, wid64, if_pos, if_neg, Nat.add_zero, if_true, if_false, and_self, and_true, true_and, and_false, false_and, or_true, true_or, or_false, false_or]; exact mz⟩, by simp -implicitDefEqProofs (disch := omega) only [gi_wi, ↓reduceIte, Int.reduceEq, cI_v, cL_v, cV_v, cR_v, wid, wid64, if_pos, if_neg, Nat.add_zero, if_true, if_false, and_self, and_true, true_and, and_false, false_and, or_true, true_or, or_false, false_or]⟩, f⟩
  have e : rn bP T L q = q + (bl T L p - q) := by rw [rn_idem (s := p) m5 m6 m2]; show bl T L p = _; omega
  rw [r_X12_look]
  have := l_look d T L (bl T L p - q) (fu + 200) q A e (by omega) m1 m4 (by have := fu_ge; omega)
  rw [show q + (bl T L p - q) = bl T L p by omega] at this
  exact this
set_option maxRecDepth 100000 in
theorem s_lookL (d : Nat) {T : Nat → Int} {L p : Nat} {t : Bool} (A : AH) (m : MdL A T L p t) : runF (d + 1) 155 [vR 21 190 0] A = some (some (vI (ch T L (bl T L p))), A) := by
  have := (s_lookM d A m.1).1
  rw [← m.2, wi_id] at this
  exact this
set_option maxRecDepth 100000 in
theorem l_here1 (d : Nat) (T : Nat → Int) (L r len : Nat) (hr : r ≠ 0) : ∀ (j n s : Nat) (u3 : AV) (A : AH), rn lP T L s = s + j → s ≤ L → MdT A T L → 3 * j + 10 ≤ n → ∃ n', n ≤ n' + 3 * j + 3 ∧ go true 2 (runF (d + 1)) (runN (d + 1)) pb_X12_isHere n 35 [vR 21 190 0, vR 32 r len, vI (s : Int), u3] [] A = go true 2 (runF (d + 1)) (runN (d + 1)) pb_X12_isHere n' 61 [vR 21 190 0, vR 32 r len, vI ((s + j : Nat) : Int), u3] [] A := by
  intro j
  induction j with
  | zero =>
    intro n s u3 A h1 h2 h3 hn
    obtain ⟨n, rfl⟩ : ∃ e, n = e + 10 := ⟨n - 10, by omega⟩
    obtain ⟨t1, t2, t3, t4⟩ := h3
    have tL := t3.1
    refine ⟨n + 9, by omega, ?_⟩
    rw [q_X12_isHere_35 (ha1 := hr), t1]
    by_cases c : s < L
    · have hb := rn_end (P := lP) (T := T) h2 (by omega)
      rw [h1] at hb
      rw [Nat.add_zero] at hb
      rw [if_pos (by omega), if_pos (by omega), Int.toNat_natCast, t2 s (by omega), s_isLetter, cI_v, hb, bI_f, if_pos rfl]; rfl
    · rw [if_neg (by omega)]; rfl
  | succ j ih =>
    intro n s u3 A h1 h2 h3 hn
    obtain ⟨n, rfl⟩ : ∃ e, n = e + 10 := ⟨n - 10, by omega⟩
    have hL := rn_L (P := lP) (T := T) h2
    have hb := rn_in (P := lP) (T := T) (L := L) (s := s) s (by omega) (by omega)
    have ej : rn lP T L (s + 1) = (s + 1) + j := by rw [rn_idem (s := s) (by omega) (by omega) h2]; omega
    have h3' := h3
    obtain ⟨t1, t2, t3, t4⟩ := h3
    have tL := t3.1
    obtain ⟨n', e1, e2⟩ := ih (n + 9) (s + 1) u3 A ej (by omega) h3' (by omega)
    refine ⟨n', by omega, ?_⟩
    rw [q_X12_isHere_35 (ha1 := hr), t1, if_pos (by omega), if_pos (by omega), Int.toNat_natCast, t2 s (by omega), s_isLetter, cI_v, hb, bI_t, if_neg (by omega), wid (by omega) (by omega), show (s : Int) + 1 = ((s + 1 : Nat) : Int) by omega, Nat.add_zero (n + 9), e2, show s + 1 + j = s + (j + 1) by omega]
set_option maxRecDepth 100000 in
theorem l_here2 (d : Nat) (T : Nat → Int) (L r len s : Nat) (x2 : Int) (w : Nat → Int) (A : AH) (hr : r ≠ 0) (h2 : s + len ≤ L) (h3 : MdT A T L) (h4 : gi A 190 2 = s) (hw : ∀ i, i < len → gi A r i = w i) : ∀ (j n i : Nat), i + j = len → (∀ k, k < i → T (s + k) = w k) → 3 * j + 10 ≤ n → go true 2 (runF (d + 1)) (runN (d + 1)) pb_X12_isHere n 76 [vR 21 190 0, vR 32 r len, vI x2, vI (i : Int)] [] A = some (some (vI (if (∀ k, k < len → T (s + k) = w k) then 1 else 0)), A) := by
  obtain ⟨t1, t2, t3, t4⟩ := h3
  have tL := t3.1
  intro j
  induction j with
  | zero =>
    intro n i h5 h6 hn
    obtain ⟨n, rfl⟩ : ∃ e, n = e + 10 := ⟨n - 10, by omega⟩
    rw [q_X12_isHere_76 (ha1 := hr), if_neg (by omega), if_pos (fun k hk => h6 k (by omega))]
  | succ j ih =>
    intro n i h5 h6 hn
    obtain ⟨n, rfl⟩ : ∃ e, n = e + 10 := ⟨n - 10, by omega⟩
    rw [q_X12_isHere_76 (ha1 := hr), h4, if_pos (by omega), wid (x := (s : Int) + i) (by omega) (by omega), if_pos (by omega), if_pos (by omega), show (s : Int) + i = ((s + i : Nat) : Int) by omega, Int.toNat_natCast, Int.toNat_natCast, t2 (s + i) (by omega), hw i (by omega)]
    by_cases c : T (s + i) = w i
    · rw [if_pos c, wid (by omega) (by omega), show (i : Int) + 1 = ((i + 1 : Nat) : Int) by omega, Nat.add_zero (n + 8)]
      exact ih (n + 8) (i + 1) (by omega) (fun k hk => by
        by_cases q : k = i
        · rw [q]; exact c
        · exact h6 k (by omega)) (by omega)
    · rw [if_neg c, if_neg (fun z => c (z i (by omega)))]
theorem wo_37 {r : Nat} (h : (193 ≤ r ∧ r ≤ 223) ∨ (244 ≤ r ∧ r ≤ 266)) : wo r < 37 := by
  rcases h with h | h
  · unfold wo; rw [if_pos (by omega)]; omega
  · unfold wo; rw [if_neg (by omega)]
    have : ∀ k, k < 23 → woT.getD k 0 < 37 := by decide
    exact this _ (by omega)
set_option maxRecDepth 100000 in
theorem s_isHereL (d : Nat) {T : Nat → Int} {L p : Nat} {t : Bool} (r len k : Nat) (A : AH) (m : MdL A T L p t) (hr : (193 ≤ r ∧ r ≤ 223) ∨ (244 ≤ r ∧ r ≤ 266)) (hl : (wl (wo r)).length = len) (hk : wo r + 1 = k) : runF (d + 2) 156 [vR 21 190 0, vR 32 r len] A = some (some (vI (bI (decide (wrd T L p t = k)))), A) := by
  have m' := m
  obtain ⟨⟨m1, m2, m3, _, m7, m8, _⟩, m9⟩ := m
  have r0 : r ≠ 0 := by omega
  have tx := m1.2.2.1
  have tL := tx.1
  have hb := bl_L (T := T) m2
  have hb0 := bl_le T L p
  have w37 := wo_37 hr
  have wl6 := wl_len (wo r) w37
  rw [r_X12_isHere, q_X12_isHere_0 (ha1 := r0), if_pos m3, s_lookL d A m', cI_v, s_isLetter, cI_v, m9]
  by_cases c1 : lP (ch T L (bl T L p)) = true
  · rw [c1, bI_t, if_neg (by omega)]
    by_cases c2 : stk T L p t = true
    · have c2' := c2
      unfold stk at c2
      rw [Bool.and_eq_true] at c2
      have e := m7 c2.1
      have z := of_decide_eq_true c2.2
      have wk : wrd T L p t = 0 := by
        unfold wrd
        rw [if_neg]
        intro y
        have := y.1
        unfold knd at this
        rw [if_pos c1, if_pos c2'] at this
        omega
      rw [if_pos (by omega), wk, decide_eq_false (by omega)]; rfl
    · have ne : (bl T L p : Int) ≠ gi A 190 4 := by
        cases ht : t with
        | true =>
          have e := m7 ht
          have : ¬ (bl T L p = p) := fun y => c2 (by unfold stk; rw [ht, decide_eq_true y]; rfl)
          omega
        | false => have e := m8 ht; omega
      rw [if_neg ne]
      have es : stp T L p = rn lP T L (bl T L p) := by unfold stp; rw [if_pos c1]
      have ek : knd T L p t = 1 := by unfold knd; rw [if_pos c1, if_neg c2]
      have sl := stp_le T L p
      have sL := stp_L tx m2
      have lt : bl T L p < stp T L p := by
        rw [es, rn_y (lP_s c1).1 (by rw [← (lP_s c1).2]; exact c1)]
        exact rn_le _ _ _ _
      obtain ⟨nn, e1, e2⟩ := l_here1 d T L r len r0 (stp T L p - bl T L p) (fu + 198) (bl T L p) vU A (by rw [← es]; omega) hb m1 (by have := fu_ge; omega)
      rw [show bl T L p + (stp T L p - bl T L p) = stp T L p by omega] at e2
      have hnn : 800000 ≤ nn := by have := fu_ge; omega
      obtain ⟨nn, rfl⟩ : ∃ e, nn = e + 10 := ⟨nn - 10, by omega⟩
      rw [Nat.add_zero (fu + 198), e2, q_X12_isHere_61 (ha1 := r0), m9, wid (by omega) (by omega)]
      have hle : ∀ i, i < stp T L p - bl T L p → lP (T (bl T L p + i)) = true := fun i hi => rn_in (P := lP) (T := T) (L := L) (s := bl T L p) _ (by omega) (by omega)
      by_cases c3 : stp T L p - bl T L p = len
      · rw [if_pos (by omega)]
        have := l_here2 d T L r len (bl T L p) (stp T L p) (fun i => 96 + (wl (wo r)).getD i 0) A r0 (by omega) m1 m9 (fun i hi => m1.2.2.2 r hr i (by omega)) len (nn + 8 + 0) 0 (by omega) (fun k hk => by omega) (by omega)
        rw [show ((0 : Nat) : Int) = 0 from rfl] at this
        rw [this]
        have sp := word_sp w37 (by omega) hle
        have ew : wrd T L p t = wordOf (hz (dg T (bl T L p) (stp T L p - bl T L p)) 6) := by unfold wrd; rw [if_pos ⟨ek, by omega⟩]
        rw [ew, ← hk]
        by_cases c4 : ∀ k, k < len → T (bl T L p + k) = 96 + (wl (wo r)).getD k 0
        · rw [if_pos c4, decide_eq_true (sp.mpr ⟨by omega, fun i hi => c4 i (by omega)⟩)]; rfl
        · rw [if_neg c4, decide_eq_false (fun y => c4 (fun k hk => (sp.mp y).2 k (by omega)))]; rfl
      · rw [if_neg (by omega), decide_eq_false]
        · rfl
        · intro y
          unfold wrd at y
          by_cases c6 : knd T L p t = 1 ∧ stp T L p - bl T L p ≤ 6
          · rw [if_pos c6, ← hk] at y
            have := ((word_sp w37 c6.2 hle).mp y).1
            omega
          · rw [if_neg c6] at y; omega
  · have wk : wrd T L p t = 0 := by
      unfold wrd
      rw [if_neg]
      intro y
      exact c1 (knd1 y.1).1
    rw [show lP (ch T L (bl T L p)) = false by simpa using c1, bI_f, if_pos rfl, wk, decide_eq_false (by omega)]; rfl
set_option maxRecDepth 100000 in
theorem s_isHere (d : Nat) {T : Nat → Int} {L p : Nat} {t : Bool} (r len k : Nat) (A : AH) (m : MdS A T L p t) (hr : (193 ≤ r ∧ r ≤ 223) ∨ (244 ≤ r ∧ r ≤ 266)) (hl : (wl (wo r)).length = len) (hk : wo r + 1 = k) : runF (d + 2) 156 [vR 21 190 0, vR 32 r len] A = some (some (vI (bI (decide (wrd T L p t = k)))), wi A 190 2 (bl T L p : Int)) := by
  have r0 : r ≠ 0 := by omega
  obtain ⟨k1, k2, k3⟩ := s_lookM d A m
  have h := s_isHereL d r len k _ k2 hr hl hk
  rw [r_X12_isHere, q_X12_isHere_0 (ha1 := r0), if_pos k2.1.2.2.1, s_lookL d _ k2, cI_v] at h
  rw [r_X12_isHere, q_X12_isHere_0 (ha1 := r0), if_pos m.2.2.1, k1, cI_v]
  exact h
