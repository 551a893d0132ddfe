/-! calls: points, loudest -/
/-- the first that is best -/
def bpF (f : Int → Int) : Nat → Int → Int → Int
  | 0, _, b => b
  | n + 1, k, b => bpF f n (k + 1) (if f b < f k then k else b)
theorem bp_rng (f : Int → Int) : ∀ (n : Nat) (k b : Int), 0 ≤ b → b < k + n → 0 ≤ k → 0 ≤ bpF f n k b ∧ bpF f n k b < k + n
  | 0, k, b, h1, h2, h3 => ⟨h1, h2⟩
  | n + 1, k, b, h1, h2, h3 => by
    unfold bpF
    by_cases c : f b < f k
    · rw [if_pos c]
      have := bp_rng f n (k + 1) k (by omega) (by omega) (by omega)
      omega
    · rw [if_neg c]
      have := bp_rng f n (k + 1) b (by omega) (by omega) (by omega)
      omega
/-- what a point asked at that turn is worth to him whose turn it is -/
def tvF (H : Nat → Nat → Int) (row : Nat → Int) (turn p : Int) : Int := if turn % 2 = 0 then mnF H row (row 0 + turn) p (-1) else -mnF H row (row 0 + turn) p (-1)
def bpT (H : Nat → Nat → Int) (row : Nat → Int) (turn : Int) : Int := bpF (tvF H row turn) (nPo H - 1).toNat 1 0
set_option maxRecDepth 100000 in
theorem l_pot (d : Nat) (t : Int) {h s : Nat} {H : Nat → Nat → Int} {row : Nat → Int} (g : gok H row) (hm1 : 0 ≤ row 0) (hm2 : row 0 ≤ 999) (ht1 : 0 ≤ t) (ht2 : t ≤ 3) : ∀ (j n : Nat) (k b m0 a0 q0 : Int) (u7 : AV) (A : AH), BI A h s H row m0 a0 q0 → 1 ≤ k → k + j = nPo H → 0 ≤ b → b < k → 10 * j + 10 ≤ n → ∃ A', go true 0 (runF (d + 6)) (runN (d + 6)) pb_X1_pointOfTurn n 18 [vR 11 185 0, vR 13 h 0, vR 19 s 0, vI t, vI b, vI (tvF H row t b), vI k, u7] [] A = some (some (vI (bpF (tvF H row t) j k b)), A') ∧ (∃ m1 a1 q1, BI A' h s H row m1 a1 q1) ∧ sc A A' := by
  intro j
  induction j with
  | zero =>
    intro n k b m0 a0 q0 u7 A bi h1 h2 h3 h4 hn
    obtain ⟨n, rfl⟩ : ∃ e, n = e + 10 := ⟨n - 10, by omega⟩
    have hs0 : s ≠ 0 := bi.1.2.2.2.1.1
    have hh0 : h ≠ 0 := by have := bi.1.2.2.1.1; omega
    refine ⟨A, ?_, ⟨_, _, _, bi⟩, sc_refl A⟩
    rw [q_X1_pointOfTurn_18 _ _ _ _ _ _ _ _ _ _ _ hh0 hs0, bi.1.2.2.1.2.1.2.2.1, if_neg (by omega), bpF]
  | succ j ih =>
    intro n k b m0 a0 q0 u7 A bi h1 h2 h3 h4 hn
    obtain ⟨n, rfl⟩ : ∃ e, n = e + 10 := ⟨n - 10, by omega⟩
    have hs0 : s ≠ 0 := bi.1.2.2.2.1.1
    have hh0 : h ≠ 0 := by have := bi.1.2.2.1.1; omega
    have hc := g.1
    unfold cok at hc
    obtain ⟨A1, e1, b1, f1⟩ := s_suppose (d + 5) (row 0 + t) k (-1) A bi
    obtain ⟨A2, e2, t2, q2, f2⟩ := s_tally d A1 b1.1 g (by omega) (by omega) (by omega) (by omega) b1.2
    have b2 := BS_frT f2 b1.1
    have e3 := s_meanSwing (d + 4) A2 b2 g t2
    have bd := mn_bd (row := row) g.1 g.2.1 (row 0 + t) k (-1)
    have fc := sc_trans (frL_sc f1) (frT_sc f2)
    have et : t.tmod 2 = t % 2 := Int.tmod_eq_emod_of_nonneg ht1
    have step : ∀ n', go true 0 (runF (d + 6)) (runN (d + 6)) pb_X1_pointOfTurn (n' + 3) 74 [vR 11 185 0, vR 13 h 0, vR 19 s 0, vI t, vI b, vI (tvF H row t b), vI k, u7] [vI (tvF H row t k)] A2 = go true 0 (runF (d + 6)) (runN (d + 6)) pb_X1_pointOfTurn n' 18 [vR 11 185 0, vR 13 h 0, vR 19 s 0, vI t, vI k, vI (tvF H row t k), vI (k + 1), vI (tvF H row t k)] [] A2 ∧ tvF H row t b < tvF H row t k ∨ go true 0 (runF (d + 6)) (runN (d + 6)) pb_X1_pointOfTurn (n' + 3) 74 [vR 11 185 0, vR 13 h 0, vR 19 s 0, vI t, vI b, vI (tvF H row t b), vI k, u7] [vI (tvF H row t k)] A2 = go true 0 (runF (d + 6)) (runN (d + 6)) pb_X1_pointOfTurn (n' + 1) 18 [vR 11 185 0, vR 13 h 0, vR 19 s 0, vI t, vI b, vI (tvF H row t b), vI (k + 1), vI (tvF H row t k)] [] A2 ∧ ¬ tvF H row t b < tvF H row t k := by
      intro n'
      by_cases c : tvF H row t b < tvF H row t k
      · left
        refine ⟨?_, c⟩
        rw [q_X1_pointOfTurn_74 _ _ _ _ _ _ _ _ _ _ _ _ hh0 hs0, if_neg (by omega), if_pos c, q_X1_pointOfTurn_88 _ _ _ _ _ _ _ _ _ _ _ hh0 hs0, q_X1_pointOfTurn_96 _ _ _ _ _ _ _ _ _ _ _ hh0 hs0, wid (by omega) (by omega)]
        rfl
      · right
        refine ⟨?_, c⟩
        rw [q_X1_pointOfTurn_74 _ _ _ _ _ _ _ _ _ _ _ _ hh0 hs0, if_neg (by omega), if_neg c, q_X1_pointOfTurn_96 _ _ _ _ _ _ _ _ _ _ _ hh0 hs0, wid (by omega) (by omega)]
    have key : ∃ n3, n + 4 ≤ n3 ∧ go true 0 (runF (d + 6)) (runN (d + 6)) pb_X1_pointOfTurn (n + 10) 18 [vR 11 185 0, vR 13 h 0, vR 19 s 0, vI t, vI b, vI (tvF H row t b), vI k, u7] [] A = go true 0 (runF (d + 6)) (runN (d + 6)) pb_X1_pointOfTurn n3 18 [vR 11 185 0, vR 13 h 0, vR 19 s 0, vI t, vI (if tvF H row t b < tvF H row t k then k else b), vI (tvF H row t (if tvF H row t b < tvF H row t k then k else b)), vI (k + 1), vI (tvF H row t k)] [] A2 := by
      rw [q_X1_pointOfTurn_18 _ _ _ _ _ _ _ _ _ _ _ hh0 hs0, bi.1.2.2.1.2.1.2.2.1, if_pos (by omega), bi.1.2.2.2.1.2.1.1, wid (by omega) (by omega), e1, cV_v, e2, cV_v, e3, cI_v, cI_v, et]
      by_cases c2 : t % 2 = 0
      · have ev : mnF H row (row 0 + t) k (-1) = tvF H row t k := by unfold tvF; rw [if_pos c2]
        rw [if_pos c2, ev]
        rcases step (n + 6) with ⟨q1, q2⟩ | ⟨q1, q2⟩
        · exact ⟨n + 6, by omega, by rw [if_pos q2]; exact q1⟩
        · exact ⟨n + 7, by omega, by rw [if_neg q2]; exact q1⟩
      · have ev : -mnF H row (row 0 + t) k (-1) = tvF H row t k := by unfold tvF; rw [if_neg c2]
        rw [if_neg c2, wid (by omega) (by omega), ev]
        rcases step (n + 5) with ⟨q1, q2⟩ | ⟨q1, q2⟩
        · exact ⟨n + 5, by omega, by rw [if_pos q2]; exact q1⟩
        · exact ⟨n + 6, by omega, by rw [if_neg q2]; exact q1⟩
    obtain ⟨n3, hn3, kk⟩ := key
    obtain ⟨A', u1, u2, u3⟩ := ih n3 (k + 1) (if tvF H row t b < tvF H row t k then k else b) (row 0 + t) k (-1) (vI (tvF H row t k)) A2 ⟨b2, q2⟩ (by omega) (by omega) (by split <;> omega) (by split <;> omega) (by omega)
    exact ⟨A', by rw [kk, u1, bpF], u2, sc_trans fc u3⟩
set_option maxRecDepth 100000 in
theorem s_pot (d : Nat) (t : Int) {h s : Nat} (A : AH) {H : Nat → Nat → Int} {row : Nat → Int} (b6 : HR A h H) (b7 : SR A s H row) (b8 : s + 4 < 180) (g : gok H row) (hm1 : 0 ≤ row 0) (hm2 : row 0 ≤ 999) (ht1 : 0 ≤ t) (ht2 : t ≤ 3) (hp : 1 ≤ nPo H) : ∃ A', runF (d + 7) 25 [vR 11 185 0, vR 13 h 0, vR 19 s 0, vI t] A = some (some (vI (bpT H row t)), A') ∧ (∃ m1 a1 q1, BI A' h s H row m1 a1 q1) ∧ sc A A' := by
  have hs0 : s ≠ 0 := b7.1
  have hh0 : h ≠ 0 := by have := b6.1; omega
  obtain ⟨A0, e0, bi, f0⟩ := s_look (d + 4) h s A b6 b7 b8
  have hc := g.1
  unfold cok at hc
  obtain ⟨A1, e1, b1, f1⟩ := s_suppose (d + 5) (row 0 + t) 0 (-1) A0 bi
  obtain ⟨A2, e2, t2, q2, f2⟩ := s_tally d A1 b1.1 g (by omega) (by omega) (by omega) (by omega) b1.2
  have b2 := BS_frT f2 b1.1
  have e3 := s_meanSwing (d + 4) A2 b2 g t2
  have bd := mn_bd (row := row) g.1 g.2.1 (row 0 + t) 0 (-1)
  have fc := sc_trans (frL_sc f0) (sc_trans (frL_sc f1) (frT_sc f2))
  have et : t.tmod 2 = t % 2 := Int.tmod_eq_emod_of_nonneg ht1
  have fin : ∀ n, 100 ≤ n → ∃ A', go true 0 (runF (d + 6)) (runN (d + 6)) pb_X1_pointOfTurn n 74 [vR 11 185 0, vR 13 h 0, vR 19 s 0, vI t, vI 0, vI 0, vI 0, vU] [vI (tvF H row t 0)] A2 = some (some (vI (bpT H row t)), A') ∧ (∃ m1 a1 q1, BI A' h s H row m1 a1 q1) ∧ sc A A' := by
    intro n hn
    obtain ⟨n, rfl⟩ : ∃ e, n = e + 3 := ⟨n - 3, by omega⟩
    obtain ⟨A', u1, u2, u3⟩ := l_pot d t g hm1 hm2 ht1 ht2 (nPo H - 1).toNat n 1 0 (row 0 + t) 0 (-1) (vI (tvF H row t 0)) A2 ⟨b2, q2⟩ (by omega) (by omega) (by omega) (by omega) (by omega)
    refine ⟨A', ?_, u2, sc_trans fc u3⟩
    rw [q_X1_pointOfTurn_74 _ _ _ _ _ _ _ _ _ _ _ _ hh0 hs0, if_pos rfl, q_X1_pointOfTurn_88 _ _ _ _ _ _ _ _ _ _ _ hh0 hs0, q_X1_pointOfTurn_96 _ _ _ _ _ _ _ _ _ _ _ hh0 hs0, wid (by omega) (by omega)]
    exact u1
  rw [r_X1_pointOfTurn, q_X1_pointOfTurn_0 _ _ _ _ _ _ _ hh0 hs0, e0, cV_v]
  rw [q_X1_pointOfTurn_18 _ _ _ _ _ _ _ _ _ _ _ hh0 hs0, bi.1.2.2.1.2.1.2.2.1, if_pos (by omega), bi.1.2.2.2.1.2.1.1, wid (by omega) (by omega), e1, cV_v, e2, cV_v, e3, cI_v, cI_v, et]
  by_cases c2 : t % 2 = 0
  · have ev : mnF H row (row 0 + t) 0 (-1) = tvF H row t 0 := by unfold tvF; rw [if_pos c2]
    rw [if_pos c2, ev]
    exact fin _ (by have := fu_ge; omega)
  · have ev : -mnF H row (row 0 + t) 0 (-1) = tvF H row t 0 := by unfold tvF; rw [if_neg c2]
    rw [if_neg c2, wid (by omega) (by omega), ev]
    exact fin _ (by have := fu_ge; omega)
theorem bpT_rng {H : Nat → Nat → Int} (row : Nat → Int) (t : Int) (hp : 1 ≤ nPo H) : 0 ≤ bpT H row t ∧ bpT H row t < nPo H := by
  have := bp_rng (tvF H row t) (nPo H - 1).toNat 1 0 (by omega) (by omega) (by omega)
  unfold bpT
  omega
set_option maxRecDepth 100000 in
theorem l_mbt (d : Nat) (N : Int) {h s : Nat} {H : Nat → Nat → Int} {row : Nat → Int} (g : gok H row) (b8 : s + 4 < 180) (hm1 : 0 ≤ row 0) (hm2 : row 0 ≤ 999) (hN : N ≤ 3) (hp : 1 ≤ nPo H) : ∀ (j n : Nat) (k y : Int) (u7 : AV) (A : AH), HR A h H → SR A s H row → 0 ≤ k → k + j = N → -100000000 - 3196800 * k ≤ y → y ≤ 100000000 + 3196800 * k → 10 * j + 10 ≤ n → ∃ A', go true 1 (runF (d + 7)) (runN (d + 7)) pb_X1_meanByTurns n 14 [vR 11 185 0, vR 13 h 0, vR 19 s 0, vI N, vL y, vS, vI k, u7] [] A = some (some (vL (y + sm (fun t => mnF H row (row 0 + t) (bpT H row t) (-1)) j k)), A') ∧ sc A A' := by
  intro j
  induction j with
  | zero =>
    intro n k y u7 A b6 b7 h1 h2 h3 h4 hn
    obtain ⟨n, rfl⟩ : ∃ e, n = e + 10 := ⟨n - 10, by omega⟩
    have hs0 : s ≠ 0 := b7.1
    have hh0 : h ≠ 0 := by have := b6.1; omega
    refine ⟨A, ?_, sc_refl A⟩
    rw [q_X1_meanByTurns_14 _ _ _ _ _ _ _ _ _ _ hh0 hs0, if_neg (by omega), sm, Int.add_zero]
  | succ j ih =>
    intro n k y u7 A b6 b7 h1 h2 h3 h4 hn
    obtain ⟨n, rfl⟩ : ∃ e, n = e + 10 := ⟨n - 10, by omega⟩
    have hs0 : s ≠ 0 := b7.1
    have hh0 : h ≠ 0 := by have := b6.1; omega
    obtain ⟨A0, e0, ⟨m1, a1, q1, bi⟩, f0⟩ := s_pot d k A b6 b7 b8 g hm1 hm2 h1 (by omega) hp
    have br := bpT_rng row k hp
    obtain ⟨A1, e1, b1, f1⟩ := s_suppose (d + 6) (row 0 + k) (bpT H row k) (-1) A0 bi
    obtain ⟨A2, e2, t2, q2, f2⟩ := s_tally (d + 1) A1 b1.1 g (by omega) (by omega) (by omega) (by omega) b1.2
    have b2 := BS_frT f2 b1.1
    have e3 := s_meanSwing (d + 5) A2 b2 g t2
    have bd := mn_bd (row := row) g.1 g.2.1 (row 0 + k) (bpT H row k) (-1)
    have fc := sc_trans f0 (sc_trans (frL_sc f1) (frT_sc f2))
    obtain ⟨A', u1, u2⟩ := ih (n + 8) (k + 1) (y + mnF H row (row 0 + k) (bpT H row k) (-1)) (vI (bpT H row k)) A2 b2.2.2.1 b2.2.2.2.1 (by omega) (by omega) (by omega) (by omega) (by omega)
    refine ⟨A', ?_, sc_trans fc u2⟩
    rw [q_X1_meanByTurns_14 _ _ _ _ _ _ _ _ _ _ hh0 hs0, if_pos (by omega), e0, cI_v, bi.1.2.2.2.1.2.1.1, wid (by omega) (by omega), e1, cV_v, e2, cV_v, e3, cI_v, q_X1_meanByTurns_67 _ _ _ _ _ _ _ _ _ _ hh0 hs0, wid (by omega) (by omega), wid64 (by omega) (by omega), sm, ← Int.add_assoc]
    exact u1
def pmK (A : AH) (m : Int) (B : AH) (k p : Int) : Prop := ∀ k' p', 0 ≤ k' → 0 ≤ p' → p' < nPo (hv A) → (k' < k ∨ (k' = k ∧ p' < p)) → gi B 242 (4 * k' + p').toNat = mnF (hv A) (nv A) (m + k') p' (gi A 190 65)
set_option maxRecDepth 100000 in
theorem l_layI (d : Nat) (A : AH) (N m a k : Int) (hm : mok A) (hk : 0 ≤ k) (hk2 : k < 3) (hmk : 0 ≤ m + k) (hmk2 : m + k ≤ 1500) : ∀ (j n : Nat) (p : Int) (B : AH), (∃ z, sc (wi (wi A 237 0 (m + k)) 237 2 z) B) → 0 ≤ p → p + j = nPo (hv A) → pmK A m B k p → 10 * j + 10 ≤ n → ∃ A' n', go true 3 (runF (d + 7)) (runN (d + 7)) pb_X12_laysPointMoves n 26 [vR 21 190 0, vI N, vI m, vI a, vI k, vI p] [] B = go true 3 (runF (d + 7)) (runN (d + 7)) pb_X12_laysPointMoves n' 17 [vR 21 190 0, vI N, vI m, vI a, vI (k + 1), vI (nPo (hv A))] [] A' ∧ (∃ z, sc (wi (wi A 237 0 (m + (k + 1))) 237 2 z) A') ∧ pmK A m A' (k + 1) 0 ∧ n - 10 * j - 5 ≤ n' := by
  have hc := hm.1
  unfold cok at hc
  intro j
  induction j with
  | zero =>
    intro n p B f h1 h2 hk3 hn
    obtain ⟨n, rfl⟩ : ∃ e, n = e + 3 := ⟨n - 3, by omega⟩
    obtain ⟨z, f⟩ := f
    have eh : hv B = hv A := by rw [sc_hv f, hv_wi7, hv_wi7]
    have e0 : gi B 237 0 = m + k := by rw [f.1 237 0 (by unfold scr; omega)]; simp -implicitDefEqProofs (disch := omega) only [gi_wi, ↓reduceIte, Int.reduceEq, cI_v, cL_v, cV_v, cR_v, wid, wid64, if_pos, if_neg, Nat.add_zero, if_true, if_false, and_self, and_true, true_and, and_false, false_and, or_true, true_or, or_false, false_or]
    refine ⟨wi B 237 0 (m + (k + 1)), n, ?_, ⟨z, ?_⟩, ?_, by omega⟩
    · rw [q_X12_laysPointMoves_26, s_pointMany, cI_v, eh, if_neg (by omega), e0, wid (by omega) (by omega), q_X12_laysPointMoves_75, wid (by omega) (by omega), show m + k + 1 = m + (k + 1) by omega, show p = nPo (hv A) by omega, Nat.add_zero n]
    · refine ⟨fun b i h => ?_, fun b i h => f.2.1 b i h, f.2.2⟩
      have := f.1 b i h
      rw [gi_wi, gi_wi] at this
      rw [gi_wi, gi_wi, gi_wi, this]
      by_cases c1 : b = 237 ∧ i = 0
      · simp -implicitDefEqProofs (disch := omega) only [c1.1, c1.2, ↓reduceIte, Int.reduceEq, cI_v, cL_v, cV_v, cR_v, wid, wid64, if_pos, if_neg, Nat.add_zero, if_true, if_false, and_self, and_true, true_and, and_false, false_and, or_true, true_or, or_false, false_or]
      · simp -implicitDefEqProofs (disch := omega) only [↓reduceIte, Int.reduceEq, cI_v, cL_v, cV_v, cR_v, wid, wid64, if_pos, if_neg, Nat.add_zero, if_true, if_false, and_self, and_true, true_and, and_false, false_and, or_true, true_or, or_false, false_or]
    · intro k' p' k1 p1 p2 o
      simp -implicitDefEqProofs (disch := omega) only [gi_wi, ↓reduceIte, Int.reduceEq, cI_v, cL_v, cV_v, cR_v, wid, wid64, if_pos, if_neg, Nat.add_zero, if_true, if_false, and_self, and_true, true_and, and_false, false_and, or_true, true_or, or_false, false_or]
      exact hk3 k' p' k1 p1 p2 (by omega)
  | succ j ih =>
    intro n p B f h1 h2 hk3 hn
    obtain ⟨n, rfl⟩ : ∃ e, n = e + 10 := ⟨n - 10, by omega⟩
    obtain ⟨z, f⟩ := f
    have eh : hv B = hv A := by rw [sc_hv f, hv_wi7, hv_wi7]
    have f1 : sc (wi (wi A 237 0 (m + k)) 237 2 p) (wi B 237 2 p) := sc_over f p
    have hB : mok (wi B 237 2 p) := mok_sc f1 (mok_wi2 (mok_wi0 hm hmk (by omega)) (by omega) (by rw [hv_wi7]; omega))
    obtain ⟨B1, e1, g1⟩ := s_meanMove d (wi B 237 2 p) hB
    have q0 : nv (wi B 237 2 p) 0 = m + k := by rw [sc_nv f1, nv_wi7, if_neg (by omega), nv_wi7, if_pos rfl]
    have q2 : nv (wi B 237 2 p) 2 = p := by rw [nv_wi7, if_pos rfl]
    have q5 : gi (wi B 237 2 p) 190 65 = gi A 190 65 := by rw [sc_q f1]; simp -implicitDefEqProofs (disch := omega) only [gi_wi, ↓reduceIte, Int.reduceEq, cI_v, cL_v, cV_v, cR_v, wid, wid64, if_pos, if_neg, Nat.add_zero, if_true, if_false, and_self, and_true, true_and, and_false, false_and, or_true, true_or, or_false, false_or]
    have qh : hv (wi B 237 2 p) = hv A := by rw [sc_hv f1, hv_wi7, hv_wi7]
    have qr : mnF (hv A) (nv (wi B 237 2 p)) (m + k) p (gi A 190 65) = mnF (hv A) (nv A) (m + k) p (gi A 190 65) := by
      rw [sc_nv f1]
      rw [mn_row (row_wi7 _ 2 p (by omega)) hm.1, mn_row (row_wi7 A 0 _ (by omega)) hm.1]
    rw [q0, q2, q5, qh, qr] at e1
    have f2 : sc (wi (wi A 237 0 (m + k)) 237 2 p) (wi B1 242 (4 * k + p).toNat (mnF (hv A) (nv A) (m + k) p (gi A 190 65))) := sc_wi' _ (by unfold scr; omega) (sc_trans f1 (scm_sc g1))
    obtain ⟨A', n', u1, u2, u3, u4⟩ := ih (n + 7) (p + 1) _ ⟨p, f2⟩ (by omega) (by omega) (fun k' p' k1 p1 p2 o => by
      by_cases c : k' = k ∧ p' = p
      · rw [c.1, c.2]
        simp -implicitDefEqProofs (disch := omega) only [gi_wi, ↓reduceIte, Int.reduceEq, cI_v, cL_v, cV_v, cR_v, wid, wid64, if_pos, if_neg, Nat.add_zero, if_true, if_false, and_self, and_true, true_and, and_false, false_and, or_true, true_or, or_false, false_or]
      · have : gi (wi B1 242 (4 * k + p).toNat (mnF (hv A) (nv A) (m + k) p (gi A 190 65))) 242 (4 * k' + p').toNat = gi B1 242 (4 * k' + p').toNat := by
          rw [gi_wi, if_neg (by omega)]
        rw [this, g1.1 242 _ (by unfold scrM; omega)]
        simp -implicitDefEqProofs (disch := omega) only [gi_wi, ↓reduceIte, Int.reduceEq, cI_v, cL_v, cV_v, cR_v, wid, wid64, if_pos, if_neg, Nat.add_zero, if_true, if_false, and_self, and_true, true_and, and_false, false_and, or_true, true_or, or_false, false_or]
        exact hk3 k' p' k1 p1 p2 (by omega)) (by omega)
    refine ⟨A', n', ?_, u2, u3, by omega⟩
    rw [q_X12_laysPointMoves_26, s_pointMany, cI_v, eh, if_pos (by omega), q_X12_laysPointMoves_43, e1, cL_v, wid (x := 4 * k) (by omega) (by omega), wid (x := 4 * k + p) (by omega) (by omega), if_pos (by omega), q_X12_laysPointMoves_59, wid (by omega) (by omega)]
    exact u1
set_option maxRecDepth 100000 in
theorem l_layO (d : Nat) (A : AH) (N : Int) (hm : mok A) (hN : N ≤ 3) (hm2 : nv A 0 ≤ 999) : ∀ (j n : Nat) (k : Int) (u5 : AV) (B : AH), (∃ z, sc (wi (wi A 237 0 (nv A 0 + k)) 237 2 z) B) → 0 ≤ k → k + j = N → pmK A (nv A 0) B k 0 → 100 * j + 10 ≤ n → ∃ A', go true 3 (runF (d + 7)) (runN (d + 7)) pb_X12_laysPointMoves n 17 [vR 21 190 0, vI N, vI (nv A 0), vI (nv A 2), vI k, u5] [] B = some (none, A') ∧ sc A A' ∧ pmK A (nv A 0) A' N 0 := by
  have hc := hm.1
  have hm0 := hm.2.2.2.2.1
  unfold cok at hc
  intro j
  induction j with
  | zero =>
    intro n k u5 B f h1 h2 hk hn
    obtain ⟨n, rfl⟩ : ∃ e, n = e + 10 := ⟨n - 10, by omega⟩
    obtain ⟨z, f⟩ := f
    refine ⟨wi (wi B 237 0 (nv A 0)) 237 2 (nv A 2), ?_, ⟨fun b i h => ?_, fun b i h => f.2.1 b i h, f.2.2⟩, ?_⟩
    · rw [q_X12_laysPointMoves_17, if_neg (by omega), q_X12_laysPointMoves_95]
    · have := f.1 b i h
      rw [gi_wi, gi_wi] at this
      rw [gi_wi, gi_wi, this]
      by_cases c1 : b = 237 ∧ i = 2
      · rw [if_pos c1, c1.1, c1.2]; rfl
      · rw [if_neg c1, if_neg c1]
        by_cases c2 : b = 237 ∧ i = 0
        · rw [if_pos c2, c2.1, c2.2]; rfl
        · rw [if_neg c2, if_neg c2]
    · intro k' p' k1 p1 p2 o
      simp -implicitDefEqProofs (disch := omega) only [gi_wi, ↓reduceIte, Int.reduceEq, cI_v, cL_v, cV_v, cR_v, wid, wid64, if_pos, if_neg, Nat.add_zero, if_true, if_false, and_self, and_true, true_and, and_false, false_and, or_true, true_or, or_false, false_or]
      exact hk k' p' k1 p1 p2 (by omega)
  | succ j ih =>
    intro n k u5 B f h1 h2 hk hn
    obtain ⟨n, rfl⟩ : ∃ e, n = e + 2 := ⟨n - 2, by omega⟩
    obtain ⟨A1, n1, e1, e2, e3, e4⟩ := l_layI d A N (nv A 0) (nv A 2) k hm h1 (by omega) (by omega) (by omega) (nPo (hv A)).toNat (n + 1) 0 B f (by omega) (by omega) hk (by omega)
    obtain ⟨A', u1, u2, u3⟩ := ih n1 (k + 1) (vI (nPo (hv A))) A1 e2 (by omega) (by omega) e3 (by omega)
    refine ⟨A', ?_, u2, u3⟩
    rw [q_X12_laysPointMoves_17, if_pos (by omega), e1]
    exact u1
set_option maxRecDepth 100000 in
theorem s_lays (d : Nat) (A : AH) (N : Int) (hm : mok A) (hN1 : 0 ≤ N) (hN : N ≤ 3) (hm2 : nv A 0 ≤ 999) : ∃ A', runF (d + 8) 243 [vR 21 190 0, vI N] A = some (none, A') ∧ sc A A' ∧ pmK A (nv A 0) A' N 0 := by
  have f0 : sc (wi (wi A 237 0 (nv A 0 + 0)) 237 2 (nv A 2)) A := by
    refine ⟨fun b i h => ?_, fun _ _ _ => rfl, rfl⟩
    rw [gi_wi, gi_wi, Int.add_zero]
    by_cases c1 : b = 237 ∧ i = 2
    · rw [if_pos c1, c1.1, c1.2]; rfl
    · rw [if_neg c1]
      by_cases c2 : b = 237 ∧ i = 0
      · rw [if_pos c2, c2.1, c2.2]; rfl
      · rw [if_neg c2]
  obtain ⟨A', u1, u2, u3⟩ := l_layO d A N hm hN hm2 N.toNat (fu + 199) 0 vU A ⟨_, f0⟩ (by omega) (by omega) (fun k' p' k1 p1 p2 o => by omega) (by have := fu_ge; omega)
  refine ⟨A', ?_, u2, u3⟩
  rw [r_X12_laysPointMoves, q_X12_laysPointMoves_0]
  exact u1
set_option maxRecDepth 100000 in
theorem l_bestP (d : Nat) (t m : Int) (A B : AH) (hm : mok A) (hm' : m = nv A 0) (hq : gi A 190 65 = -1) (hB : hv B = hv A) (ht1 : 0 ≤ t) (ht2 : t < 3) (pk : pmK A m B (t + 1) 0) : ∀ (j n : Nat) (k b : Int) (u4 u5 : AV), 1 ≤ k → k + j = nPo (hv A) → 0 ≤ b → b < k → 10 * j + 10 ≤ n → go true 0 (runF (d + 1)) (runN (d + 1)) pb_X12_bestPoint n 4 [vR 21 190 0, vI t, vI b, vI k, u4, u5] [] B = some (some (vI (bpF (tvF (hv A) (nv A) t) j k b)), B) := by
  have hc := hm.1
  unfold cok at hc
  have et : t.tmod 2 = t % 2 := Int.tmod_eq_emod_of_nonneg ht1
  intro j
  induction j with
  | zero =>
    intro n k b u4 u5 h1 h2 h3 h4 hn
    obtain ⟨n, rfl⟩ : ∃ e, n = e + 10 := ⟨n - 10, by omega⟩
    rw [q_X12_bestPoint_4, s_pointMany, cI_v, hB, if_neg (by omega), bpF]
  | succ j ih =>
    intro n k b u4 u5 h1 h2 h3 h4 hn
    obtain ⟨n, rfl⟩ : ∃ e, n = e + 10 := ⟨n - 10, by omega⟩
    have e1 := pk t k ht1 (by omega) (by omega) (by omega)
    have e2 := pk t b ht1 h3 (by omega) (by omega)
    rw [hq, hm'] at e1 e2
    have b1 := mn_bd (row := nv A) hm.1 hm.2.1 (nv A 0 + t) k (-1)
    have b2 := mn_bd (row := nv A) hm.1 hm.2.1 (nv A 0 + t) b (-1)
    rw [q_X12_bestPoint_4, s_pointMany, cI_v, hB, if_pos (by omega), wid (x := 4 * t) (by omega) (by omega), wid (x := 4 * t + k) (by omega) (by omega), wid (x := 4 * t + b) (by omega) (by omega), if_pos (by omega), if_pos (by omega), e1, e2, wid64 (by omega) (by omega), q_X12_bestPoint_35, et, bpF]
    simp only [lcp_gt, lcp_lt]
    by_cases c2 : t % 2 = 0
    · have v1 : tvF (hv A) (nv A) t k = mnF (hv A) (nv A) (nv A 0 + t) k (-1) := by unfold tvF; rw [if_pos c2]
      have v2 : tvF (hv A) (nv A) t b = mnF (hv A) (nv A) (nv A 0 + t) b (-1) := by unfold tvF; rw [if_pos c2]
      rw [if_pos c2, v1, v2]
      by_cases c3 : 0 < mnF (hv A) (nv A) (nv A 0 + t) k (-1) - mnF (hv A) (nv A) (nv A 0 + t) b (-1)
      · rw [if_pos c3, if_pos (by omega), q_X12_bestPoint_58, q_X12_bestPoint_60, wid (by omega) (by omega)]
        exact ih _ _ _ _ _ (by omega) (by omega) (by omega) (by omega) (by omega)
      · rw [if_neg c3, if_neg (by omega), q_X12_bestPoint_60, wid (by omega) (by omega)]
        exact ih _ _ _ _ _ (by omega) (by omega) (by omega) (by omega) (by omega)
    · have v1 : tvF (hv A) (nv A) t k = -mnF (hv A) (nv A) (nv A 0 + t) k (-1) := by unfold tvF; rw [if_neg c2]
      have v2 : tvF (hv A) (nv A) t b = -mnF (hv A) (nv A) (nv A 0 + t) b (-1) := by unfold tvF; rw [if_neg c2]
      rw [if_neg c2, v1, v2]
      by_cases c3 : mnF (hv A) (nv A) (nv A 0 + t) k (-1) - mnF (hv A) (nv A) (nv A 0 + t) b (-1) < 0
      · rw [if_pos c3, if_pos (by omega), q_X12_bestPoint_58, q_X12_bestPoint_60, wid (by omega) (by omega)]
        exact ih _ _ _ _ _ (by omega) (by omega) (by omega) (by omega) (by omega)
      · rw [if_neg c3, if_neg (by omega), q_X12_bestPoint_60, wid (by omega) (by omega)]
        exact ih _ _ _ _ _ (by omega) (by omega) (by omega) (by omega) (by omega)
set_option maxRecDepth 100000 in
theorem s_bestP (d : Nat) (t m : Int) (A B : AH) (hm : mok A) (hm' : m = nv A 0) (hq : gi A 190 65 = -1) (hB : hv B = hv A) (ht1 : 0 ≤ t) (ht2 : t < 3) (pk : pmK A m B (t + 1) 0) (hp : 1 ≤ nPo (hv A)) : runF (d + 2) 244 [vR 21 190 0, vI t] B = some (some (vI (bpT (hv A) (nv A) t)), B) := by
  have hc := hm.1
  unfold cok at hc
  rw [r_X12_bestPoint, q_X12_bestPoint_0, l_bestP d t m A B hm hm' hq hB ht1 ht2 pk (nPo (hv A) - 1).toNat _ 1 0 _ _ (by omega) (by omega) (by omega) (by omega) (by have := fu_ge; omega)]; rfl
set_option maxRecDepth 100000 in
theorem l_ptsM (d : Nat) (N y2 : Int) (A B : AH) (hm : mok A) (hq : gi A 190 65 = -1) (hB : hv B = hv A) (hN : N ≤ 3) (pk : pmK A (nv A 0) B N 0) (hp : 1 ≤ nPo (hv A)) : ∀ (j n : Nat) (k y : Int), 0 ≤ k → k + j = N → -100000000 - 3196800 * k ≤ y → y ≤ 100000000 + 3196800 * k → 10 * j + 10 ≤ n → go true 1 (runF (d + 2)) (runN (d + 2)) pb_X12_points n 71 [vR 21 190 0, vI N, vI y2, vL y, vS, vI k] [] B = some (some (vL (y + sm (fun t => mnF (hv A) (nv A) (nv A 0 + t) (bpT (hv A) (nv A) t) (-1)) j k)), B) := by
  have hc := hm.1
  unfold cok at hc
  intro j
  induction j with
  | zero =>
    intro n k y h1 h2 h3 h4 hn
    obtain ⟨n, rfl⟩ : ∃ e, n = e + 10 := ⟨n - 10, by omega⟩
    rw [q_X12_points_71, if_neg (by omega), sm, Int.add_zero]
  | succ j ih =>
    intro n k y h1 h2 h3 h4 hn
    obtain ⟨n, rfl⟩ : ∃ e, n = e + 10 := ⟨n - 10, by omega⟩
    have br := bpT_rng (nv A) k hp
    have e1 := pk k (bpT (hv A) (nv A) k) h1 br.1 br.2 (by omega)
    rw [hq] at e1
    have b1 := mn_bd (row := nv A) hm.1 hm.2.1 (nv A 0 + k) (bpT (hv A) (nv A) k) (-1)
    rw [q_X12_points_71, if_pos (by omega), s_bestP d k (nv A 0) A B hm rfl hq hB h1 (by omega) (fun k' p' a1 a2 a3 a4 => pk k' p' a1 a2 a3 (by omega)) hp, cI_v, wid (x := 4 * k) (by omega) (by omega), wid (x := 4 * k + bpT (hv A) (nv A) k) (by omega) (by omega), if_pos (by omega), e1, wid64 (by omega) (by omega), wid (by omega) (by omega), sm, ← Int.add_assoc]
    exact ih _ _ _ (by omega) (by omega) (by omega) (by omega) (by omega)
theorem c_points (d n : Nat) (x y : Int) (A : AH) (r : REL n A) : CP (d + 10) n 125 245 [vI x, vI y] A := by
  have g := REL_g r
  have b6 := r.2.2.1
  have b7 := r.2.1.1
  have hm := r.2.1.2.2.2.2.1
  have hs := r.2.1.2.2.2.2.2
  have hc := g.1
  unfold cok at hc
  have hh0 : gr A 40 5 ≠ 0 := by have := b6.1; omega
  by_cases c : 1 ≤ nPo (hv A) ∧ (1 ≤ x ∧ x ≤ 3 ∧ nv A 0 + x ≤ 999) ∧ (y = -1 ∨ (0 ≤ y ∧ y < x))
  · have mod : ∀ A3, sc A A3 → ∃ A4, runF (d + 9) 243 [vR 21 190 0, vI x] A3 = some (none, A4) ∧ sc A3 A4 ∧ pmK A3 (nv A3 0) A4 x 0 := fun A3 f => s_lays (d + 1) A3 x (mok_sc f (REL_mok r)) (by omega) (by omega) (by rw [sc_nv f]; omega)
    have pre : ∀ A3, sc A A3 → ∀ u3 u4 u5, runF (d + 10) 245 [vR 21 190 0, vI x, vI y] A3 = go true 1 (runF (d + 9)) (runN (d + 9)) pb_X12_points (fu + 199) 39 [vR 21 190 0, vI x, vI y, vU, vU, vU] [] A3 ∨ u3 ≠ vU ∨ u4 ≠ vU ∨ u5 ≠ vU := by
      intro A3 f u3 u4 u5
      left
      rw [r_X12_points, q_X12_points_0, s_pointMany, cI_v, sc_hv f, if_neg (by omega), s_isAhead _ x 1 3 A3 (by rw [sc_nv f]; omega) (by rw [sc_nv f]; omega) (by omega) (by omega), cI_v, sc_nv f, decide_eq_true (by omega), bI_t, if_neg (by omega)]
      rcases c.2.2 with c3 | c3
      · rw [if_pos c3]
      · rw [if_neg (by omega), s_isIn, cI_v, wid (by omega) (by omega), decide_eq_true (by omega), bI_t, if_neg (by omega)]
    rcases c.2.2 with c3 | c3
    · obtain ⟨A2, u1, u2⟩ := l_mbt (d + 1) x g (s := 68) (by omega) hm.1 hm.2 (by omega) c.1 x.toNat (fu + 199) 0 (100 * nv A 1) vU A b6 b7 (by omega) (by omega) (by omega) (by omega) (by have := fu_ge; omega)
      refine CP_q r (vL (100 * nv A 1 + sm (fun t => mnF (hv A) (nv A) (nv A 0 + t) (bpT (hv A) (nv A) t) (-1)) x.toNat 0)) ⟨A2, ?_, u2⟩ (fun A3 f => ?_)
      · rw [r_X11_points, q_X11_points_0, if_neg hh0, b6.2.1.2.2.1, if_neg (by omega), if_neg (by omega), if_neg (by omega), b7.2.1.1, wid (by omega) (by omega), if_neg (by omega), if_neg (by omega), if_pos (by omega), if_pos c3, r_X1_meanByTurns, q_X1_meanByTurns_0 _ _ _ _ _ _ _ hh0 (by omega), b7.2.1.2.1, wid64 (by omega) (by omega), Nat.add_zero, u1, cL_v]
      · obtain ⟨A4, w1, w2, w3⟩ := mod A3 f
        refine ⟨A4, ?_, w2⟩
        have p0 := (pre A3 f vU vU vU).resolve_right (by simp)
        have m3 := mok_sc f (REL_mok r)
        have e1 : gi A4 237 1 = nv A 1 := by rw [w2.1 237 1 (by unfold scr; omega), f.1 237 1 (by unfold scr; omega)]; rfl
        have l := l_ptsM (d + 7) x y A3 A4 m3 (by rw [sc_q f]; exact r.2.2.2.1) (sc_hv w2) (by omega) w3 (by rw [sc_hv f]; omega) x.toNat (fu + 197) 0 (100 * nv A 1) (by omega) (by omega) (by omega) (by omega) (by have := fu_ge; omega)
        rw [p0, q_X12_points_39, w1, cV_v, if_pos c3, e1, wid64 (by omega) (by omega)]
        rw [sc_hv f, sc_nv f] at l
        exact l
    · obtain ⟨A2, u1, u2, u3⟩ := s_pot (d + 2) y A b6 b7 (by omega) g hm.1 hm.2 c3.1 (by omega) c.1
      refine CP_q r (vL (bpT (hv A) (nv A) y)) ⟨A2, ?_, u3⟩ (fun A3 f => ?_)
      · rw [r_X11_points, q_X11_points_0, if_neg hh0, b6.2.1.2.2.1, if_neg (by omega), if_neg (by omega), if_neg (by omega), b7.2.1.1, wid (by omega) (by omega), if_neg (by omega), if_neg (by omega), if_pos (by omega), if_neg (by omega), q_X11_points_73, u1, cI_v]
      · obtain ⟨A4, w1, w2, w3⟩ := mod A3 f
        refine ⟨A4, ?_, w2⟩
        have p0 := (pre A3 f vU vU vU).resolve_right (by simp)
        have m3 := mok_sc f (REL_mok r)
        have l := s_bestP (d + 7) y (nv A3 0) A3 A4 m3 rfl (by rw [sc_q f]; exact r.2.2.2.1) (sc_hv w2) c3.1 (by omega) (fun k' p' a1 a2 a3 a4 => w3 k' p' a1 a2 a3 (by omega)) (by rw [sc_hv f]; omega)
        rw [sc_hv f, sc_nv f] at l
        rw [p0, q_X12_points_39, w1, cV_v, if_neg (by omega), l, cI_v]
  · refine CP_q r (vL (-1000000000000000)) ⟨A, ?_, sc_refl A⟩ (fun A1 f => ⟨A1, ?_, sc_refl A1⟩)
    · rw [r_X11_points, q_X11_points_0, if_neg hh0, b6.2.1.2.2.1, b7.2.1.1]
      by_cases c0 : nPo (hv A) = 0
      · rw [if_pos c0]
      · rw [if_neg c0]
        by_cases c1 : x < 1
        · rw [if_pos c1]
        · rw [if_neg c1]
          by_cases c2 : 3 < x
          · rw [if_pos c2]
          · rw [if_neg c2, wid (by omega) (by omega)]
            by_cases c3 : 999 < nv A 0 + x
            · rw [if_pos c3]
            · rw [if_neg c3]
              by_cases c4 : y < -1
              · rw [if_pos c4]
              · rw [if_neg c4, if_neg (by omega)]
    · rw [r_X12_points, q_X12_points_0, s_pointMany, cI_v, sc_hv f]
      by_cases c0 : nPo (hv A) = 0
      · rw [if_pos c0]
      · rw [if_neg c0, s_isAhead _ x 1 3 A1 (by rw [sc_nv f]; omega) (by rw [sc_nv f]; omega) (by omega) (by omega), cI_v, sc_nv f]
        by_cases c1 : 1 ≤ x ∧ x ≤ 3 ∧ nv A 0 + x ≤ 999
        · rw [decide_eq_true c1, bI_t, if_neg (by omega), if_neg (by omega), s_isIn, cI_v, wid (by omega) (by omega), decide_eq_false (by omega), bI_f, if_pos rfl]
        · rw [decide_eq_false c1, bI_f, if_pos rfl]
