/-! the reference's reading of sums in a question: the lesser and the greater of two; a whole sum -/
theorem part101Q (d : Nat) {T : Nat → Int} {L p : Nat} {t : Bool} (A : AH) (m : MdS A T L p t) (n : Nat) (u2 u3 u4 u5 : AV) (hw : wrd T L p t = 29 ∨ wrd T L p t = 30) : ∃ B n' x3, n ≤ n' ∧ go true 3 (runF (d + 5)) (runN (d + 5)) pb_X12_qPartTold (n + 10) 2 [vR 21 190 0, vI 1, u2, u3, u4, u5] [] A = go true 3 (runF (d + 5)) (runN (d + 5)) pb_X12_qPartTold n' 101 [vR 21 190 0, vI 1, vI (ch T L (bl T L p)), vI (-1), vI x3, u5] [] B ∧ MdS B T L (stp T L p) true ∧ frZ A B ∧ ((wrd T L p t = 29 ∧ x3 = 1) ∨ (wrd T L p t ≠ 29 ∧ x3 = 0)) := by
  obtain ⟨k1, k2, k3⟩ := s_lookM (d + 4) A m
  have kk := wrd_k (T := T) (L := L) (p := p) (t := t) (by omega)
  have hc : ch T L (bl T L p) ≠ 40 := fun y => by
    have := (ch_sgn (t := t) m.1.2.2.1 (by decide) (by decide) (by decide)).mp y
    have := (sgn_stp this (by decide)).2.1
    omega
  have ew := s_wordOfQ (d + 1) _ 10 11 k2
  rw [if_neg (by have := (qw_F _ (show wrd T L p t < 38 by have := wrd_le T L p t; omega)).2.2.1; omega)] at ew
  have tks := s_takes (d + 2) 254 3 29 _ k2.1 (by omega) (by decide) (by decide)
  have e0 : ∀ R, go true 3 (runF (d + 5)) (runN (d + 5)) pb_X12_qPartTold (n + 8) 78 [vR 21 190 0, vI 1, vI (ch T L (bl T L p)), vI (-1), u4, u5] [] (wi A 190 2 (bl T L p : Int)) = R → go true 3 (runF (d + 5)) (runN (d + 5)) pb_X12_qPartTold (n + 10) 2 [vR 21 190 0, vI 1, u2, u3, u4, u5] [] A = R := by
    intro R hR
    rw [q_X12_qPartTold_2, if_neg (by omega), if_pos m.2.2.1, k1, cI_v, ew, cI_v, if_neg hc, s_isHereL (d + 3) 254 3 29 _ k2 (by omega) (by decide) (by decide), cI_v]
    by_cases z : wrd T L p t = 29
    · rw [decide_eq_true z, bI_t, if_neg (by omega)]; exact hR
    · rw [decide_eq_false z, bI_f, if_pos rfl, s_isHereL (d + 3) 255 3 30 _ k2 (by omega) (by decide) (by decide), cI_v, decide_eq_true (by omega), bI_t, if_neg (by omega)]; exact hR
  by_cases z : wrd T L p t = 29
  · obtain ⟨B, b1, b2, b3⟩ := tks.1 z
    refine ⟨B, n + 7, 1, by omega, e0 _ ?_, b2, frZ_trans k3 b3, Or.inl ⟨z, rfl⟩⟩
    rw [q_X12_qPartTold_78, b1, cI_v, if_neg (by omega)]
  · have t0 := tks.2 z
    rw [wi_2] at t0
    have ka := s_asks (d + 1) 255 3 30 _ k2.1 (by omega) (by decide) (by decide)
    rw [show tkW T L p t 30 = .ok (stp T L p, true) by unfold tkW; rw [if_pos (by omega)]] at ka
    obtain ⟨B, b1, b2, b3⟩ := ka
    refine ⟨B, n + 7, 0, by omega, e0 _ ?_, b2, frZ_trans k3 b3, Or.inr ⟨z, rfl⟩⟩
    rw [q_X12_qPartTold_78, t0, cI_v, if_pos rfl, b1, cV_v]
theorem RlN_mmQ (d : Nat) {T : Nat → Int} {L : Nat} (b c0 : Nat) (x1 : Int) (Ast : AH) (Φ : RS → Prop) (tx : TX T L) : (∀ W C o p t, p ≤ L → o < 6 → wrd T L p t = 29 ∨ wrd T L p t = 30 → sgn T L (stp T L p) true = 40 → NpQ d T L b c0 x1 Ast Φ ((if wrd T L p t = 29 then 21 else 22) :: W) C (o + 1) (stp T L (stp T L p)) false → NpQ d T L b c0 x1 Ast Φ W C o p t) ∧ (∀ W C p t, p ≤ L → wrd T L p t = 29 ∨ wrd T L p t = 30 → sgn T L (stp T L p) true = 40 → BdQ b c0 x1 Ast Φ 4 (bl T L (stp T L p)) → NpQ d T L b c0 x1 Ast Φ W C 6 p t) ∧ (∀ W C o p t, p ≤ L → o ≤ 6 → wrd T L p t = 29 ∨ wrd T L p t = 30 → sgn T L (stp T L p) true ≠ 40 → BdQ b c0 x1 Ast Φ 1 (bl T L (stp T L p)) → NpQ d T L b c0 x1 Ast Φ W C o p t) := by
  have tL := tx.1
  refine ⟨?_, ?_, ?_⟩
  · intro W C o p t hp ho hw hs hN A n1 n2 u2 u3 u4 u5 r hn1 hn2
    obtain ⟨n1, rfl⟩ : ∃ e, n1 = e + 10 := ⟨n1 - 10, by omega⟩
    obtain ⟨B, nn, x3, b0, b1, b2, b3, b4⟩ := part101Q d A r.1 n1 u2 u3 u4 u5 hw
    obtain ⟨nn, rfl⟩ : ∃ e, nn = e + 20 := ⟨nn - 20, by omega⟩
    have hl := r.2.2.2.1
    have w1 := wrd_1 (T := T) (L := L) (p := p) (t := t) (by omega) tx
    have sL := stp_L tx hp
    obtain ⟨es, ek, eT⟩ := sgn_stp hs (by decide)
    have lt := knd3 tx ek
    have hbl := bl_le T L (stp T L p)
    obtain ⟨k1, k2, k3⟩ := s_lookM (d + 4) B b2
    have sB := StR_Z (by omega) (frZ_trans b3 k3) r.2.1
    obtain ⟨D, d1, d2, d3, d4, d5⟩ := (s_opensQ (d + 3) (if wrd T L p t = 29 then 21 else 22) (bl T L (stp T L p) : Int) _ W C o sB k2.1 (by omega)).1 ho
    have ka := s_asksSign (d + 2) 40 D d3 (by decide) (by decide) (by decide)
    rw [show tkS T L (stp T L p) true 40 = .ok (stp T L (stp T L p), false) by unfold tkS; rw [if_pos hs]] at ka
    obtain ⟨F, f1, f2, f3⟩ := ka
    have e132 : ∀ n v, v = (if wrd T L p t = 29 then (21 : Int) else 22) → go true 3 (runF (d + 5)) (runN (d + 5)) pb_X12_qPartTold (n + 3) 139 [vR 21 190 0, vI 1, vI (ch T L (bl T L p)), vI (-1), vI x3, vI (bl T L (stp T L p) : Int)] [vI v, vR 21 190 0] (wi B 190 2 (bl T L (stp T L p) : Int)) = go true 3 (runF (d + 5)) (runN (d + 5)) pb_X12_qPartTold n 2 [vR 21 190 0, vI 1, vI (ch T L (bl T L p)), vI (-1), vI x3, vI (bl T L (stp T L p) : Int)] [] F := by
      intro n v hv
      rw [q_X12_qPartTold_139, hv, d1, cV_v, q_X12_qPartTold_144, f1, cV_v, q_X12_qPartTold_183, Nat.add_zero n]
    have e2 : ∃ n', nn + 14 ≤ n' ∧ go true 3 (runF (d + 5)) (runN (d + 5)) pb_X12_qPartTold (n1 + 10) 2 [vR 21 190 0, vI 1, u2, u3, u4, u5] [] A = go true 3 (runF (d + 5)) (runN (d + 5)) pb_X12_qPartTold n' 2 [vR 21 190 0, vI 1, vI (ch T L (bl T L p)), vI (-1), vI x3, vI (bl T L (stp T L p) : Int)] [] F := by
      rw [b1, q_X12_qPartTold_101, k1, cI_v, if_pos ((ch_sgn tx (by decide) (by decide) (by decide)).mpr hs), k2.2, q_X12_qPartTold_118, if_neg (by omega)]
      rcases b4 with ⟨z, y⟩ | ⟨z, y⟩
      · rw [if_neg (by omega)]
        exact ⟨nn + 15, by omega, e132 (nn + 15) 21 (by rw [if_pos z])⟩
      · rw [if_pos y]
        exact ⟨nn + 14, by omega, e132 (nn + 14) 22 (by rw [if_neg z])⟩
    obtain ⟨n', h1, h2⟩ := e2
    rw [h2]
    exact hN F n' n2 _ _ _ _ (Rp_oQ r (frV_trans (frZ_V (frZ_trans b3 k3)) (frV_trans d4 (frZ_V f3))) f2 (StR_Z (by omega) f3 d2) (by simp; omega) (by omega)) (by omega) (by omega)
  · intro W C p t hp hw hs hB A n1 n2 u2 u3 u4 u5 r hn1 hn2
    obtain ⟨n1, rfl⟩ : ∃ e, n1 = e + 10 := ⟨n1 - 10, by omega⟩
    obtain ⟨B, nn, x3, b0, b1, b2, b3, b4⟩ := part101Q d A r.1 n1 u2 u3 u4 u5 hw
    obtain ⟨nn, rfl⟩ : ∃ e, nn = e + 20 := ⟨nn - 20, by omega⟩
    have hl := r.2.2.2.1
    have sL := stp_L tx hp
    obtain ⟨k1, k2, k3⟩ := s_lookM (d + 4) B b2
    have sB := StR_Z (by omega) (frZ_trans b3 k3) r.2.1
    have d1 := (s_opensQ (d + 3) (if wrd T L p t = 29 then 21 else 22) (bl T L (stp T L p) : Int) _ W C 6 sB k2.1 (by omega)).2 rfl
    generalize hD : wi (wi (wi B 190 2 (bl T L (stp T L p) : Int)) 190 5 4) 190 6 (bl T L (stp T L p) : Int) = D at d1
    have D5 : gi D 190 5 = 4 := by rw [← hD]; simp -implicitDefEqProofs (disch := omega) only [gi_wi, ↓reduceIte, Int.reduceEq, cI_v, cL_v, cV_v, cR_v, wid, wid64, if_pos, if_neg, Nat.add_zero, if_true, if_false, and_self, and_true, true_and, and_false, false_and, or_true, true_or, or_false, false_or]
    have D6 : gi D 190 6 = bl T L (stp T L p) := by rw [← hD]; simp -implicitDefEqProofs (disch := omega) only [gi_wi, ↓reduceIte, Int.reduceEq, cI_v, cL_v, cV_v, cR_v, wid, wid64, if_pos, if_neg, Nat.add_zero, if_true, if_false, and_self, and_true, true_and, and_false, false_and, or_true, true_or, or_false, false_or]
    have Dq : 0 ≤ gi D 190 100 ∧ gi D 190 100 < 1700 := by rw [← hD]; simp -implicitDefEqProofs (disch := omega) only [gi_wi, ↓reduceIte, Int.reduceEq, cI_v, cL_v, cV_v, cR_v, wid, wid64, if_pos, if_neg, Nat.add_zero, if_true, if_false, and_self, and_true, true_and, and_false, false_and, or_true, true_or, or_false, false_or]; exact cdQ b3 r
    have fD : fVQ b c0 A D := by rw [← hD]; exact frV_i _ _ (by omega) (frV_i _ _ (by omega) (frZ_V (frZ_trans b3 k3)))
    have e132 : ∀ n v, v = (if wrd T L p t = 29 then (21 : Int) else 22) → go true 3 (runF (d + 5)) (runN (d + 5)) pb_X12_qPartTold (n + 13) 139 [vR 21 190 0, vI 1, vI (ch T L (bl T L p)), vI (-1), vI x3, vI (bl T L (stp T L p) : Int)] [vI v, vR 21 190 0] (wi B 190 2 (bl T L (stp T L p) : Int)) = some (none, D) := by
      intro n v hv
      rw [q_X12_qPartTold_139, hv, d1, cV_v, q_X12_qPartTold_144, s_asksSignB _ _ _ (by rw [D5]; omega), cV_v, q_X12_qPartTold_183]
      exact part_badQ d D (by rw [D5]; omega) n 1 _ _ _ _
    have e2 : go true 3 (runF (d + 5)) (runN (d + 5)) pb_X12_qPartTold (n1 + 10) 2 [vR 21 190 0, vI 1, u2, u3, u4, u5] [] A = some (none, D) := by
      rw [b1, q_X12_qPartTold_101, k1, cI_v, if_pos ((ch_sgn tx (by decide) (by decide) (by decide)).mpr hs), k2.2, q_X12_qPartTold_118, if_neg (by omega)]
      rcases b4 with ⟨z, y⟩ | ⟨z, y⟩
      · rw [if_neg (by omega)]
        exact e132 (nn + 5) 21 (by rw [if_pos z])
      · rw [if_pos y]
        exact e132 (nn + 4) 22 (by rw [if_neg z])
    rw [e2, cV_v]
    exact (A_badQ (d := d) hB r D fD D5 D6 (by omega) Dq n2 (by omega)).2
  · intro W C o p t hp ho hw hs hB A n1 n2 u2 u3 u4 u5 r hn1 hn2
    obtain ⟨n1, rfl⟩ : ∃ e, n1 = e + 10 := ⟨n1 - 10, by omega⟩
    obtain ⟨B, nn, x3, b0, b1, b2, b3, b4⟩ := part101Q d A r.1 n1 u2 u3 u4 u5 hw
    obtain ⟨nn, rfl⟩ : ∃ e, nn = e + 20 := ⟨nn - 20, by omega⟩
    obtain ⟨k1, k2, k3⟩ := s_lookM (d + 4) B b2
    have ka := s_asksSign (d + 2) 40 _ k2.1 (by decide) (by decide) (by decide)
    rw [show tkS T L (stp T L p) true 40 = .error (1, bl T L (stp T L p)) by unfold tkS; rw [if_neg hs]] at ka
    obtain ⟨D, d1, d2⟩ := ka
    rw [b1, q_X12_qPartTold_101, k1, cI_v, if_neg (fun y => hs ((ch_sgn tx (by decide) (by decide) (by decide)).mp y)), q_X12_qPartTold_118, if_pos rfl, q_X12_qPartTold_144, d1, cV_v, q_X12_qPartTold_183, show nn + 15 + 0 = (nn + 5) + 10 from rfl, part_badQ d D (by rw [d2.1]; omega), cV_v]
    exact (A_badQ (d := d) hB r D (frZ_V (frZ_trans b3 (frZ_trans k3 d2.2.2.2))) d2.1 d2.2.1 d2.2.2.1 (cdQ (frZ_trans b3 (frZ_trans k3 d2.2.2.2)) r) n2 (by omega)).2
def NgQ (d : Nat) (T : Nat → Int) (L b c0 : Nat) (x1 : Int) (Ast : AH) (Φ : RS → Prop) : SP := fun W C o p t => gW W → NpQ d T L b c0 x1 Ast Φ W C o p t
def AgQ (d : Nat) (T : Nat → Int) (L b c0 : Nat) (x1 : Int) (Ast : AH) (Φ : RS → Prop) : SP := fun W C o p t => gW W → ApQ d T L b c0 x1 Ast Φ W C o p t
def EgQ (d : Nat) (T : Nat → Int) (L b c0 : Nat) (x1 : Int) (Ast : AH) (Φ : RS → Prop) : SP := fun W C o p t => gW W → EzQ d T L b c0 x1 Ast Φ W C o p t
theorem RlN_Q (d : Nat) {T : Nat → Int} {L : Nat} (b c0 : Nat) (x1 : Int) (Ast : AH) (Φ : RS → Prop) (tx : TX T L) : RlN T L true (NgQ d T L b c0 x1 Ast Φ) (EgQ d T L b c0 x1 Ast Φ) (BdQ b c0 x1 Ast Φ) := by
  refine ⟨fun W C o p t p' t' h1 h2 h3 h4 g => (RlN_numQ d b c0 x1 Ast Φ tx).1 W C o p t p' t' h1 h2 h3 (h4 g), fun W C o p t k s h1 h2 h3 h4 h5 h6 h7 h8 _ => (RlN_numQ d b c0 x1 Ast Φ tx).2 W C o p t k s h1 h2 h3 h4 h5 h6 h7 h8, fun W C o p t h1 h2 h3 h4 g => (RlN_openQ d b c0 x1 Ast Φ tx).1 W C o p t h1 h2 h3 (h4 (gW_c (by omega) g)), fun W C p t h1 h2 h3 _ => (RlN_openQ d b c0 x1 Ast Φ tx).2 W C p t h1 h2 h3, fun W C o p t h1 h2 h3 h4 h5 g => (RlN_mmQ d b c0 x1 Ast Φ tx).1 W C o p t h1 h2 h3 h4 (h5 (gW_c ?_ g)), fun W C p t h1 h2 h3 h4 _ => (RlN_mmQ d b c0 x1 Ast Φ tx).2.1 W C p t h1 h2 h3 h4, fun W C o p t h1 h2 h3 h4 h5 _ => (RlN_mmQ d b c0 x1 Ast Φ tx).2.2 W C o p t h1 h2 h3 h4 h5, fun W C o p t h1 h2 h3 h4 h5 g => (RlN_besQ d b c0 x1 Ast Φ tx).1 W C o p t h1 h2 h3 h4 (h5 (gW_c (by omega) g)), fun W C p t h1 h2 h3 h4 _ => (RlN_besQ d b c0 x1 Ast Φ tx).2 W C p t h1 h2 h3 h4, fun W C o p t h1 h2 h3 h4 g => RlN_factQ d b c0 x1 Ast Φ tx W C o p t h1 h2 h3 (h4 g)⟩
  by_cases z : wrd T L p t = 29
  · rw [if_pos z]; decide
  · rw [if_neg z]; decide
theorem RlE_Q (d : Nat) {T : Nat → Int} {L : Nat} (b c0 : Nat) (x1 : Int) (Ast : AH) (Φ : RS → Prop) (tx : TX T L) : RlE (EgQ d T L b c0 x1 Ast Φ) (AgQ d T L b c0 x1 Ast Φ) := ⟨fun W C o p t h g => (RlE_Qs d tx).1 W C o p t (h (gW_t g)), fun W C o p t h1 h2 g => (RlE_Qs d tx).2 W C o p t g h1 (h2 g)⟩
theorem RlA_Qg (d : Nat) {T : Nat → Int} {L : Nat} (b c0 : Nat) (x1 : Int) (Ast : AH) (Φ : RS → Prop) (tx : TX T L) : RlA T L (NgQ d T L b c0 x1 Ast Φ) (EgQ d T L b c0 x1 Ast Φ) (AgQ d T L b c0 x1 Ast Φ) (BdQ b c0 x1 Ast Φ) := by
  obtain ⟨r1, r2, r3, r4, r5, r6⟩ := RlA_Q d b c0 x1 Ast Φ tx
  refine ⟨fun W C o p t pend m h1 h2 h3 h4 h5 g => r1 W C o p t pend m h1 h2 h3 h4 (Ez_Ep (h5 (gW_t (gW_a g)))), fun W C o p t pend op h1 h2 h3 h4 h5 g => r2 W C o p t pend op h1 h2 h3 h4 (h5 (gW_c (by omega) (gW_a g))), fun W C o p t pend op h1 h2 h3 h4 h5 g => r3 W C o p t pend op h1 h2 h3 h4 (h5 (gW_c (by omega) (gW_a g))), fun W C o p t pend m h1 h2 h3 h4 h5 g => r4 W C o p t pend m h1 h2 h3 h4 (h5 (gW_c (by omega) (gW_t (gW_a g)))), fun W C o p t pend m h1 h2 h3 h4 h5 h6 h7 _ => r5 W C o p t pend m h1 h2 h3 h4 h5 h6 h7, fun W C o p t pend m h1 h2 h3 h4 h5 h6 h7 _ => r6 W C o p t pend m h1 h2 h3 h4 h5 h6 h7⟩
theorem gW_n : gW [] := fun w h => by simp at h
set_option maxRecDepth 100000 in
theorem s_qSums (d : Nat) {T : Nat → Int} {L p : Nat} {t : Bool} (tx : TX T L) (b c0 o : Nat) (A : AH) (m : MdS A T L p t) (h100 : gi A 190 100 = c0) (h102 : gi A 190 102 = b) (h103 : gi A 190 103 = o) (hb : 0 < b → ¬ (1 ≤ gi A 268 (b - 1) ∧ gi A 268 (b - 1) ≤ 4)) (hc : c0 + b < p) (ho : o ≤ 6) : (∀ k s, sumG T L (partG T L true (6 - o)) p t = .error (k, s) → ∃ B, runF (d + 7) 275 [vR 21 190 0] A = some (none, B) ∧ gi B 190 5 = k ∧ gi B 190 6 = s ∧ k ≠ 0 ∧ fVQ b c0 A B ∧ 0 ≤ gi B 190 100 ∧ gi B 190 100 < 1700) ∧ (∀ cs p' t', sumG T L (partG T L true (6 - o)) p t = .ok (cs, p', t') → ∃ B, runF (d + 7) 275 [vR 21 190 0] A = some (none, B) ∧ MdS B T L p' t' ∧ gi B 190 100 = ((c0 + cs.length : Nat) : Int) ∧ (∀ i, i < cs.length → gi B 267 (c0 + i) = (cs.map (mcF true)).getD i 0) ∧ gi B 190 102 = b ∧ gi B 190 103 = o ∧ fVQ b c0 A B) := by
  have tL := tx.1
  have hp := m.2.1
  generalize hA : wi A 190 104 (b : Int) = A'
  have gA : ∀ a j, ¬ (a = 190 ∧ j = 104) → gi A' a j = gi A a j := fun a j h => by rw [← hA, gi_wi, if_neg h]
  have g104 : gi A' 190 104 = b := by rw [← hA, gi_wi, if_pos ⟨rfl, rfl⟩]
  have m' : MdS A' T L p t := MdS_fr (gA _ _ (by omega)) (gA _ _ (by omega)) (gA _ _ (by omega)) (gA _ _ (by omega)) (gA _ _ (by omega)) (fun a j q1 q2 => gA a j (by omega)) m
  have r0 : RpQ T L b c0 A' A' [] [] o p t := ⟨m', ⟨⟨by rw [gA _ _ (by omega), h100]; simp, fun i hi => by simp at hi⟩, ⟨by rw [gA _ _ (by omega), h102]; simp, trivial⟩, by rw [gA _ _ (by omega), h103], g104, fun h => by rw [gA _ _ (by omega)]; exact hb h⟩, frV_refl _ _ _ _ _ _ _ A', by simp; omega, ho⟩
  obtain ⟨x1, hx1⟩ : ∃ x, x = gi A 190 104 := ⟨_, rfl⟩
  have e0 : runF (d + 7) 275 [vR 21 190 0] A = cV (go true 3 (runF (d + 5)) (runN (d + 5)) pb_X12_qPartTold (fu + 199) 2 [vR 21 190 0, vI 1, vU, vU, vU, vU] [] A') (kNQ d x1 (fu + 197)) := by
    rw [r_X12_qSums, q_X12_qSums_0, h102, hA, ← hx1, q_X12_qSums_13, q_X12_qSums_15, if_neg (by omega), if_pos m'.2.2.1, r_X12_qPartTold, q_X12_qPartTold_0]
    rfl
  have S : ∀ Φ : RS → Prop, SimS L true (NgQ d T L b c0 x1 A' Φ) (AgQ d T L b c0 x1 A' Φ) (BdQ b c0 x1 A' Φ) (sumG T L (partG T L true (6 - o))) o := fun Φ => by
    have := sim_sum tx (RlE_Q d b c0 x1 A' Φ tx) (RlA_Qg d b c0 x1 A' Φ tx) (GP_partG tx true (6 - o)) (sim_part tx (RlN_Q d b c0 x1 A' Φ tx) (RlE_Q d b c0 x1 A' Φ tx) (RlA_Qg d b c0 x1 A' Φ tx) (6 - o) (by omega))
    rw [show 6 - (6 - o) = o by omega] at this
    exact this
  have fE : ∀ B, fVQ b c0 A' B → fVQ b c0 A (wi B 190 104 x1) := fun B f => ⟨fun a j q1 q2 q3 => by
    rw [gi_wi]
    by_cases z : a = 190 ∧ j = 104
    · rw [if_pos z, hx1, z.1, z.2]
    · rw [if_neg z, f.1 a j q1 q2 q3, gA a j z], fun a j => by rw [gr_wi, f.2.1, ← hA]; rfl, by show B.2.2 = _; rw [f.2.2, ← hA]; rfl⟩
  refine ⟨fun k s e => ?_, fun cs p' t' e => ?_⟩
  · have := (S (fun R => ∃ B, R = some (none, B) ∧ gi B 190 5 = k ∧ gi B 190 6 = s ∧ k ≠ 0 ∧ fVQ b c0 A B ∧ 0 ≤ gi B 190 100 ∧ gi B 190 100 < 1700) [] [] p t hp (by show ¬ ((1 ≤ (0 : Int) ∧ (0 : Int) ≤ 4) ∨ (0 : Int) = 60); omega)).2 k s e (by
      intro B b1 b2 b3 b4 b5
      exact ⟨_, rfl, by rw [gi_wi, if_neg (by omega)]; exact b1, by rw [gi_wi, if_neg (by omega)]; exact b2, b3, fE B b4, by rw [gi_wi, if_neg (by omega)]; exact b5⟩) gW_n A' (fu + 199) (fu + 197) vU vU vU vU r0 (by have := fu_ge; omega) (by have := fu_ge; omega)
    rw [e0]; exact this
  · have g := GP_sum tx (GP_partG tx true (6 - o)) p t cs p' t' hp e
    obtain ⟨j4, j3⟩ := sum_end tx (GP_partG tx true (6 - o)) hp e
    have := (S (fun R => ∃ B, R = some (none, B) ∧ MdS B T L p' t' ∧ gi B 190 100 = ((c0 + cs.length : Nat) : Int) ∧ (∀ i, i < cs.length → gi B 267 (c0 + i) = (cs.map (mcF true)).getD i 0) ∧ gi B 190 102 = b ∧ gi B 190 103 = o ∧ fVQ b c0 A B) [] [] p t hp (by show ¬ ((1 ≤ (0 : Int) ∧ (0 : Int) ≤ 4) ∨ (0 : Int) = 60); omega)).1 cs p' t' e (by
      intro C' q e1 e2
      rw [List.append_nil]
      intro _ X n1 n2 rX hn1 hn2
      refine RlA_endQ d b c0 x1 A' (fun R => ∃ B, R = some (none, B) ∧ MdS B T L p' t' ∧ gi B 190 100 = ((c0 + cs.length : Nat) : Int) ∧ (∀ i, i < cs.length → gi B 267 (c0 + i) = (cs.map (mcF true)).getD i 0) ∧ gi B 190 102 = b ∧ gi B 190 103 = o ∧ fVQ b c0 A B) tx C' o p' t' q g.2.2 j4 j3 e2 (fun B rB => ?_) X n1 n2 rX hn1 (by omega)
      have e1' : cs.map (mcF true) = C' ++ q := by rw [← e1]; rfl
      obtain ⟨⟨z1, z2⟩, z3, z4, z5, _⟩ := rB.2.1
      refine ⟨_, rfl, MdS_fr (by rw [gi_wi, if_neg (by omega)]) (by rw [gi_wi, if_neg (by omega)]) (by rw [gi_wi, if_neg (by omega)]) (by rw [gi_wi, if_neg (by omega)]) (by rw [gi_wi, if_neg (by omega)]) (fun a j q1 q2 => by rw [gi_wi, if_neg (by omega)]) rB.1, by rw [gi_wi, if_neg (by omega), z1, ← e1', List.length_map], fun i hi => ?_, by rw [gi_wi, if_neg (by omega), z3.1]; simp, by rw [gi_wi, if_neg (by omega), z4], fE B rB.2.2.1⟩
      rw [gi_wi, if_neg (by omega), e1']
      exact z2 i (by rw [← e1', List.length_map]; exact hi)) gW_n A' (fu + 199) (fu + 197) vU vU vU vU r0 (by have := fu_ge; omega) (by have := fu_ge; omega)
    rw [e0]; exact this
