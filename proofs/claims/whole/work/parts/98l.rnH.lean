/-! the reference's reading of sums in a hall: rules for a part -/
theorem RlE_H (d : Nat) (T : Nat → Int) (L b c0 : Nat) (x1 : Int) (Ast : AH) (Φ : RS → Prop) : RlE (EpH d T L b c0 x1 Ast Φ) (ApH d T L b c0 x1 Ast Φ) := by
  refine ⟨fun W C o p t _ A n1 n2 r _ _ => ?_, fun W C o p t _ h => h⟩
  exact absurd rfl (r.2.2.2.2.2 60 (by simp))
theorem kN_A (d : Nat) {T : Nat → Int} {L b c0 : Nat} {x1 : Int} {Ast : AH} {Φ : RS → Prop} {W C : List Int} {o p : Nat} {t : Bool} (h : ApH d T L b c0 x1 Ast Φ W C o p t) (B : AH) (r : RpH T L b c0 Ast B W C o p t) (n2 : Nat) (hn : 10 * (L - p) + 6000 ≤ n2) : Φ (kNH d x1 n2 B) := by
  unfold kNH
  rw [if_pos r.1.2.2.1, r_X12_goesOn]
  exact h B (fu + 200) n2 r (by have := r.2.2.2.2.1; have := fu_ge; omega) hn
theorem part146 (d : Nat) {T : Nat → Int} {L p : Nat} {t : Bool} (A : AH) (m : MdS A T L p t) (n : Nat) (u2 u3 u4 : AV) (h1 : sgn T L p t ≠ 40) (h2 : ¬ (wrd T L p t = 29 ∨ wrd T L p t = 30)) : go true 3 (runF (d + 5)) (runN (d + 5)) pb_X12_onePart (n + 10) 2 [vR 21 190 0, vI 1, u2, u3, u4] [] A = go true 3 (runF (d + 5)) (runN (d + 5)) pb_X12_onePart (n + 5) 146 [vR 21 190 0, vI 0, vI (ch T L (bl T L p)), u3, u4] [] (wi A 190 2 (bl T L p : Int)) := by
  obtain ⟨k1, k2, k3⟩ := s_lookM (d + 4) A m
  have hc : ch T L (bl T L p) ≠ 40 := fun y => h1 ((ch_sgn m.1.2.2.1 (by decide) (by decide) (by decide)).mp y)
  rw [q_X12_onePart_2, if_neg (by omega), if_pos m.2.2.1, k1, cI_v, if_neg hc, s_isHereL (d + 3) 221 3 29 _ k2 (by omega) (by decide) (by decide), cI_v, decide_eq_false (by omega), bI_f, if_pos rfl, s_isHereL (d + 3) 222 3 30 _ k2 (by omega) (by decide) (by decide), cI_v, decide_eq_false (by omega), bI_f, if_pos rfl, q_X12_onePart_143, q_X12_onePart_2, if_pos rfl]
theorem isF_8 : ∀ w, w < 38 → isF false w = decide (w = 3 ∨ w = 4 ∨ w = 19 ∨ w = 20 ∨ w = 21 ∨ w = 12 ∨ w = 13 ∨ w = 22) := by decide
theorem wdf_8 : wdf 1 3 = 0 ∧ wdf 1 4 = 1 ∧ wdf 1 19 = 2 ∧ wdf 1 20 = 3 ∧ wdf 1 21 = 4 ∧ wdf 1 12 = 5 ∧ wdf 1 13 = 6 ∧ wdf 1 22 = 7 := by decide
theorem part283 (d : Nat) {T : Nat → Int} {L p : Nat} {t : Bool} (A : AH) (m : MdL A T L p t) (n : Nat) (x1 : Int) (u2 u3 u4 : AV) : (isF false (wrd T L p t) = true → ∃ B n', n ≤ n' ∧ go true 3 (runF (d + 5)) (runN (d + 5)) pb_X12_onePart (n + 10) 146 [vR 21 190 0, vI x1, u2, u3, u4] [] A = go true 3 (runF (d + 5)) (runN (d + 5)) pb_X12_onePart n' 283 [vR 21 190 0, vI x1, u2, u3, u4] [vI (7 + wdf 1 (wrd T L p t))] B ∧ MdS B T L (stp T L p) true ∧ frZ A B) ∧ (isF false (wrd T L p t) = false → go true 3 (runF (d + 5)) (runN (d + 5)) pb_X12_onePart (n + 10) 146 [vR 21 190 0, vI x1, u2, u3, u4] [] A = go true 3 (runF (d + 5)) (runN (d + 5)) pb_X12_onePart n 283 [vR 21 190 0, vI x1, u2, u3, u4] [vI (-1)] A) := by
  have tkn : ∀ r len k, (193 ≤ r ∧ r ≤ 223) → (wl (wo r)).length = len → wo r + 1 = k → wrd T L p t ≠ k → runF (d + 5) 157 [vR 21 190 0, vR 32 r len] A = some (some (vI 0), A) := by
    intro r len k h1 h2 h3 h4
    have := (s_takes (d + 2) r len k A m.1 (Or.inl h1) h2 h3).2 h4
    rw [← m.2, wi_id] at this
    exact this
  have tky : ∀ r len k, (193 ≤ r ∧ r ≤ 223) → (wl (wo r)).length = len → wo r + 1 = k → wrd T L p t = k → ∃ B, runF (d + 5) 157 [vR 21 190 0, vR 32 r len] A = some (some (vI 1), B) ∧ MdS B T L (stp T L p) true ∧ frZ A B := fun r len k h1 h2 h3 h4 => (s_takes (d + 2) r len k A m.1 (Or.inl h1) h2 h3).1 h4
  obtain ⟨v1, v2, v3, v4, v5, v6, v7, v8⟩ := wdf_8
  rw [isF_8 _ (by have := wrd_le T L p t; omega)]
  rw [show n + 10 = (n + 5) + 5 from rfl, q_X12_onePart_146, if_pos m.1.2.2.1]
  by_cases c1 : wrd T L p t = 3
  · obtain ⟨B, b1, b2, b3⟩ := tky 195 5 3 (by omega) (by decide) (by decide) c1
    rw [b1, cI_v, if_neg (by omega), c1, v1]
    exact ⟨fun _ => ⟨B, n + 8, by omega, rfl, b2, b3⟩, fun h => absurd h (by decide)⟩
  rw [tkn 195 5 3 (by omega) (by decide) (by decide) c1, cI_v, if_pos rfl]
  by_cases c2 : wrd T L p t = 4
  · obtain ⟨B, b1, b2, b3⟩ := tky 196 6 4 (by omega) (by decide) (by decide) c2
    rw [b1, cI_v, if_neg (by omega), c2, v2]
    exact ⟨fun _ => ⟨B, n + 7, by omega, rfl, b2, b3⟩, fun h => absurd h (by decide)⟩
  rw [tkn 196 6 4 (by omega) (by decide) (by decide) c2, cI_v, if_pos rfl]
  by_cases c3 : wrd T L p t = 19
  · obtain ⟨B, b1, b2, b3⟩ := tky 211 4 19 (by omega) (by decide) (by decide) c3
    rw [b1, cI_v, if_neg (by omega), c3, v3]
    exact ⟨fun _ => ⟨B, n + 6, by omega, rfl, b2, b3⟩, fun h => absurd h (by decide)⟩
  rw [tkn 211 4 19 (by omega) (by decide) (by decide) c3, cI_v, if_pos rfl]
  by_cases c4 : wrd T L p t = 20
  · obtain ⟨B, b1, b2, b3⟩ := tky 212 5 20 (by omega) (by decide) (by decide) c4
    rw [b1, cI_v, if_neg (by omega), c4, v4]
    exact ⟨fun _ => ⟨B, n + 5, by omega, rfl, b2, b3⟩, fun h => absurd h (by decide)⟩
  rw [tkn 212 5 20 (by omega) (by decide) (by decide) c4, cI_v, if_pos rfl, q_X12_onePart_218]
  by_cases c5 : wrd T L p t = 21
  · obtain ⟨B, b1, b2, b3⟩ := tky 213 5 21 (by omega) (by decide) (by decide) c5
    rw [b1, cI_v, if_neg (by omega), c5, v5]
    exact ⟨fun _ => ⟨B, n + 4, by omega, rfl, b2, b3⟩, fun h => absurd h (by decide)⟩
  rw [tkn 213 5 21 (by omega) (by decide) (by decide) c5, cI_v, if_pos rfl]
  by_cases c6 : wrd T L p t = 12
  · obtain ⟨B, b1, b2, b3⟩ := tky 204 5 12 (by omega) (by decide) (by decide) c6
    rw [b1, cI_v, if_neg (by omega), c6, v6]
    exact ⟨fun _ => ⟨B, n + 3, by omega, rfl, b2, b3⟩, fun h => absurd h (by decide)⟩
  rw [tkn 204 5 12 (by omega) (by decide) (by decide) c6, cI_v, if_pos rfl]
  by_cases c7 : wrd T L p t = 13
  · obtain ⟨B, b1, b2, b3⟩ := tky 205 4 13 (by omega) (by decide) (by decide) c7
    rw [b1, cI_v, if_neg (by omega), c7, v7]
    exact ⟨fun _ => ⟨B, n + 2, by omega, rfl, b2, b3⟩, fun h => absurd h (by decide)⟩
  rw [tkn 205 4 13 (by omega) (by decide) (by decide) c7, cI_v, if_pos rfl]
  by_cases c8 : wrd T L p t = 22
  · obtain ⟨B, b1, b2, b3⟩ := tky 214 6 22 (by omega) (by decide) (by decide) c8
    rw [b1, cI_v, if_neg (by omega), c8, v8]
    exact ⟨fun _ => ⟨B, n + 1, by omega, rfl, b2, b3⟩, fun h => absurd h (by decide)⟩
  rw [tkn 214 6 22 (by omega) (by decide) (by decide) c8, cI_v, if_pos rfl]
  exact ⟨fun h => absurd (of_decide_eq_true h) (by omega), fun _ => rfl⟩
set_option maxRecDepth 100000 in
theorem s_codeBH (d : Nat) {b c0 : Nat} (v : Int) (A : AH) (W C : List Int) (o : Nat) (s : STH b c0 A W C o) (hC : c0 + C.length < 1600) : ∃ B, runF (d + 1) 179 [vR 21 190 0, vI v] A = some (none, B) ∧ fVH b c0 A B ∧ gi B 190 5 = gi A 190 5 ∧ gi B 190 6 = gi A 190 6 := by
  obtain ⟨⟨s1, s2⟩, _⟩ := s
  refine ⟨wi (wi A 233 (c0 + C.length) v) 190 55 ((c0 + C.length + 1 : Nat) : Int), ?_, frV_i _ _ (by omega) (frV_c _ _ (by omega) (frV_refl _ _ _ _ _ _ _ A)), by simp -implicitDefEqProofs (disch := omega) only [gi_wi, ↓reduceIte, Int.reduceEq, cI_v, cL_v, cV_v, cR_v, wid, wid64, if_pos, if_neg, Nat.add_zero, if_true, if_false, and_self, and_true, true_and, and_false, false_and, or_true, true_or, or_false, false_or], by simp -implicitDefEqProofs (disch := omega) only [gi_wi, ↓reduceIte, Int.reduceEq, cI_v, cL_v, cV_v, cR_v, wid, wid64, if_pos, if_neg, Nat.add_zero, if_true, if_false, and_self, and_true, true_and, and_false, false_and, or_true, true_or, or_false, false_or]⟩
  rw [r_X12_code, q_X12_code_0, show (0 : Int) + gi A 190 55 = gi A 190 55 by omega, s1, wid (by omega) (by omega), if_pos (by omega), Int.toNat_natCast, q_X12_code_12, gi_wi, if_neg (by omega), s1, wid (by omega) (by omega), q_X12_code_22, show ((c0 + C.length : Nat) : Int) + 1 = ((c0 + C.length + 1 : Nat) : Int) by omega]
theorem RlN_numH (d : Nat) {T : Nat → Int} {L : Nat} (b c0 : Nat) (x1 : Int) (Ast : AH) (Φ : RS → Prop) (tx : TX T L) : (∀ W C o p t p' t', p ≤ L → o ≤ 6 → tkN T L p t 0 9999 = .ok (p', t') → EpH d T L b c0 x1 Ast Φ W (C ++ [1000 + numV T L p]) o p' t' → NpH d T L b c0 x1 Ast Φ W C o p t) ∧ (∀ W C o p t k s, p ≤ L → o ≤ 6 → sgn T L p t ≠ 40 → ¬ (wrd T L p t = 29 ∨ wrd T L p t = 30) → ¬ (false = true ∧ wrd T L p t = 31) → isF false (wrd T L p t) = false → tkN T L p t 0 9999 = .error (k, s) → BdH b c0 x1 Ast Φ k s → NpH d T L b c0 x1 Ast Φ W C o p t) := by
  have tL := tx.1
  constructor
  · intro W C o p t p' t' hp ho hT hE A n1 n2 u2 u3 u4 r hn1 hn2
    obtain ⟨n1, rfl⟩ : ∃ e, n1 = e + 20 := ⟨n1 - 20, by omega⟩
    obtain ⟨kk, e1, e2, e3, e4⟩ := tkN_ok hT
    have hs : sgn T L p t ≠ 40 := fun y => by have := (sgn_stp y (by decide)).2.1; omega
    have hw : wrd T L p t = 0 := by
      by_cases z : wrd T L p t = 0
      · exact z
      · have := wrd_k z; omega
    obtain ⟨k1, k2, k3⟩ := s_lookM (d + 4) A r.1
    have hl := r.2.2.2.1
    have b1' := stp_1 (t := t) (Or.inr (Or.inl kk)) tx
    rw [show n1 + 20 = (n1 + 10) + 10 from rfl, part146 d A r.1 (n1 + 10) u2 u3 u4 hs (by omega), show n1 + 10 + 5 = (n1 + 5) + 10 from rfl, (part283 d _ k2 (n1 + 5) 0 _ u3 u4).2 (by rw [hw]; decide), q_X12_onePart_283, if_pos rfl]
    have kn := s_number (d + 3) 0 9999 _ k2.1
    rw [hT] at kn
    obtain ⟨B, b1, b2, b3, _⟩ := kn
    have sB := StR_Z (by omega) (frZ_trans k3 b3) r.2.1
    obtain ⟨D, d1, d2, d3, d4, d5⟩ := s_codeH (d + 4) (1000 + numV T L p) B W C o sB b2 (by omega)
    rw [b1, cI_v, wid (by omega) (by omega), q_X12_onePart_306, d1, cV_v, cV_v]
    exact kN_A d hE D (Rp_oH r (frV_trans (frZ_V (frZ_trans k3 b3)) d4) d3 d2 (by simp; omega) ho r.2.2.2.2.2) n2 (by omega)
  · intro W C o p t k s hp ho hs hw _ hF hT hB A n1 n2 u2 u3 u4 r hn1 hn2
    obtain ⟨n1, rfl⟩ : ∃ e, n1 = e + 20 := ⟨n1 - 20, by omega⟩
    obtain ⟨k1, k2, k3⟩ := s_lookM (d + 4) A r.1
    have hl := r.2.2.2.1
    rw [show n1 + 20 = (n1 + 10) + 10 from rfl, part146 d A r.1 (n1 + 10) u2 u3 u4 hs hw, show n1 + 10 + 5 = (n1 + 5) + 10 from rfl, (part283 d _ k2 (n1 + 5) 0 _ u3 u4).2 hF, q_X12_onePart_283, if_pos rfl]
    have kn := s_number (d + 3) 0 9999 _ k2.1
    rw [hT] at kn
    obtain ⟨v, B, b1, b2⟩ := kn
    have fB := frZ_trans k3 b2.2.2.2
    have sB := StR_Z (by omega) fB r.2.1
    obtain ⟨D, d1, d2, d3, d4⟩ := s_codeBH (d + 4) (w32 (1000 + v)) B W C o sB (by omega)
    rw [b1, cI_v, q_X12_onePart_306, d1, cV_v, cV_v]
    exact (A_badH (d := d) hB r D (frV_trans (frZ_V fB) d2) (d3.trans b2.1) (d4.trans b2.2.1) b2.2.2.1 n2 (by omega)).2
theorem RlN_factH (d : Nat) {T : Nat → Int} {L : Nat} (b c0 : Nat) (x1 : Int) (Ast : AH) (Φ : RS → Prop) (tx : TX T L) : ∀ W C o p t, p ≤ L → o ≤ 6 → isF false (wrd T L p t) = true → EpH d T L b c0 x1 Ast Φ W (C ++ [mcF false (wdf 1 (wrd T L p t))]) o (stp T L p) true → NpH d T L b c0 x1 Ast Φ W C o p t := by
  intro W C o p t hp ho hF hE A n1 n2 u2 u3 u4 r hn1 hn2
  have tL := tx.1
  obtain ⟨n1, rfl⟩ : ∃ e, n1 = e + 20 := ⟨n1 - 20, by omega⟩
  have w37 := wrd_le T L p t
  have hF8 := hF
  rw [isF_8 _ (by omega)] at hF8
  have h8 := of_decide_eq_true hF8
  have w0 : wrd T L p t ≠ 0 := by omega
  have kk := wrd_k w0
  have hs : sgn T L p t ≠ 40 := fun y => by have := (sgn_stp y (by decide)).2.1; omega
  obtain ⟨k1, k2, k3⟩ := s_lookM (d + 4) A r.1
  have hl := r.2.2.2.1
  have b1' := wrd_1 w0 tx
  have sLL := stp_L tx hp
  obtain ⟨f0, f1, f2⟩ := of_decide_eq_true hF
  have f3 : 0 ≤ wdf 1 (wrd T L p t) := by
    obtain ⟨v1, v2, v3, v4, v5, v6, v7, v8⟩ := wdf_8
    rcases h8 with h | h | h | h | h | h | h | h <;> rw [h] <;> omega
  have f4 : wdf 1 (wrd T L p t) < 8 := by
    rcases f2 with y | y
    · cases y
    · exact y
  obtain ⟨B, nn, b0, b1, b2, b3⟩ := (part283 d _ k2 (n1 + 5) 0 (vI (ch T L (bl T L p))) u3 u4).1 hF
  obtain ⟨nn, rfl⟩ : ∃ e, nn = e + 2 := ⟨nn - 2, by omega⟩
  rw [show n1 + 20 = (n1 + 10) + 10 from rfl, part146 d A r.1 (n1 + 10) u2 u3 u4 hs (by omega), show n1 + 10 + 5 = (n1 + 5) + 10 from rfl, b1, q_X12_onePart_283, if_neg (by omega)]
  have sB := StR_Z (by omega) (frZ_trans k3 b3) r.2.1
  obtain ⟨D, d1, d2, d3, d4, d5⟩ := s_codeH (d + 4) (7 + wdf 1 (wrd T L p t)) B W C o sB b2 (by omega)
  rw [q_X12_onePart_306, d1, cV_v, cV_v]
  have em : mcF false (wdf 1 (wrd T L p t)) = 7 + wdf 1 (wrd T L p t) := by
    unfold mcF
    rw [if_neg (by omega), if_pos (by omega), if_neg (by decide)]; omega
  rw [em] at hE
  exact kN_A d hE D (Rp_oH r (frV_trans (frZ_V (frZ_trans k3 b3)) d4) d3 d2 (by simp; omega) ho r.2.2.2.2.2) n2 (by omega)
theorem part_badH (d : Nat) (A : AH) (hb : gi A 190 5 ≠ 0) (n : Nat) (x1 : Int) (u2 u3 u4 : AV) : go true 3 (runF (d + 5)) (runN (d + 5)) pb_X12_onePart (n + 10) 2 [vR 21 190 0, vI x1, u2, u3, u4] [] A = some (none, A) := by
  have e : go true 3 (runF (d + 5)) (runN (d + 5)) pb_X12_onePart (n + 9) 146 [vR 21 190 0, vI x1, u2, u3, u4] [] A = some (none, A) := by rw [q_X12_onePart_146, if_neg hb]
  rw [q_X12_onePart_2]
  by_cases z : x1 = 0
  · rw [if_pos z]; exact e
  · rw [if_neg z, if_neg hb]; exact e
theorem RlN_openH (d : Nat) {T : Nat → Int} {L : Nat} (b c0 : Nat) (x1 : Int) (Ast : AH) (Φ : RS → Prop) (tx : TX T L) : (∀ W C o p t, p ≤ L → o < 6 → sgn T L p t = 40 → NpH d T L b c0 x1 Ast Φ (20 :: W) C (o + 1) (stp T L p) false → NpH d T L b c0 x1 Ast Φ W C o p t) ∧ (∀ W C p t, p ≤ L → sgn T L p t = 40 → BdH b c0 x1 Ast Φ 4 (bl T L p) → NpH d T L b c0 x1 Ast Φ W C 6 p t) := by
  have tL := tx.1
  constructor
  · intro W C o p t hp ho hs hN A n1 n2 u2 u3 u4 r hn1 hn2
    obtain ⟨n1, rfl⟩ : ∃ e, n1 = e + 10 := ⟨n1 - 10, by omega⟩
    obtain ⟨es, ek, eT⟩ := sgn_stp hs (by decide)
    have lt := knd3 tx ek
    have hbl := bl_le T L p
    obtain ⟨k1, k2, k3⟩ := s_lookM (d + 4) A r.1
    have hl := r.2.2.2.1
    obtain ⟨B, b1, b2, b3, b4, b5⟩ := (s_opensH (d + 3) 20 (bl T L p : Int) _ W C o (StR_Z (by omega) k3 r.2.1) k2.1 (by omega)).1 ho
    have b2e : gi B 190 2 = (bl T L p : Int) := b5.trans k2.2
    have fW : frZ B (wi B 190 2 ((bl T L p + 1 : Nat) : Int)) := frZ_wi _ (by omega) (frZ_refl B)
    have mW : MdS (wi B 190 2 ((bl T L p + 1 : Nat) : Int)) T L (bl T L p + 1) false := MdS_sg b3 fW (by simp -implicitDefEqProofs (disch := omega) only [gi_wi, ↓reduceIte, Int.reduceEq, cI_v, cL_v, cV_v, cR_v, wid, wid64, if_pos, if_neg, Nat.add_zero, if_true, if_false, and_self, and_true, true_and, and_false, false_and, or_true, true_or, or_false, false_or]; exact b3.2.2.1) (by simp -implicitDefEqProofs (disch := omega) only [gi_wi, ↓reduceIte, Int.reduceEq, cI_v, cL_v, cV_v, cR_v, wid, wid64, if_pos, if_neg, Nat.add_zero, if_true, if_false, and_self, and_true, true_and, and_false, false_and, or_true, true_or, or_false, false_or]) (by simp -implicitDefEqProofs (disch := omega) only [gi_wi, ↓reduceIte, Int.reduceEq, cI_v, cL_v, cV_v, cR_v, wid, wid64, if_pos, if_neg, Nat.add_zero, if_true, if_false, and_self, and_true, true_and, and_false, false_and, or_true, true_or, or_false, false_or]) (by simp -implicitDefEqProofs (disch := omega) only [gi_wi, ↓reduceIte, Int.reduceEq, cI_v, cL_v, cV_v, cR_v, wid, wid64, if_pos, if_neg, Nat.add_zero, if_true, if_false, and_self, and_true, true_and, and_false, false_and, or_true, true_or, or_false, false_or]) lt
    rw [q_X12_onePart_2, if_neg (by omega), if_pos r.1.2.2.1, k1, cI_v, if_pos ((ch_sgn tx (by decide) (by decide) (by decide)).mpr hs), k2.2, b1, cV_v, b2e, wid (by omega) (by omega), show (bl T L p : Int) + 1 = ((bl T L p + 1 : Nat) : Int) by omega, q_X12_onePart_44, q_X12_onePart_143]
    rw [es] at hN
    refine hN _ (n1 + 7) n2 _ u3 u4 (Rp_oH r (frV_trans (frZ_V k3) (frV_trans b4 (frZ_V fW))) mW (StR_Z (by omega) fW b2) (by simp; omega) (by omega) ?_) (by omega) (by omega)
    intro w hw
    rcases List.mem_cons.mp hw with y | y
    · omega
    · exact r.2.2.2.2.2 w y
  · intro W C p t hp hs hB A n1 n2 u2 u3 u4 r hn1 hn2
    obtain ⟨n1, rfl⟩ : ∃ e, n1 = e + 20 := ⟨n1 - 20, by omega⟩
    obtain ⟨es, ek, eT⟩ := sgn_stp hs (by decide)
    have lt := knd3 tx ek
    have hbl := bl_le T L p
    obtain ⟨k1, k2, k3⟩ := s_lookM (d + 4) A r.1
    have hl := r.2.2.2.1
    have b1 := (s_opensH (d + 3) 20 (bl T L p : Int) _ W C 6 (StR_Z (by omega) k3 r.2.1) k2.1 (by omega)).2 rfl
    rw [q_X12_onePart_2, if_neg (by omega), if_pos r.1.2.2.1, k1, cI_v, if_pos ((ch_sgn tx (by decide) (by decide) (by decide)).mpr hs), k2.2, b1, cV_v, q_X12_onePart_44, q_X12_onePart_143]
    generalize hD : wi (wi (wi (wi A 190 2 (bl T L p : Int)) 190 5 4) 190 6 (bl T L p : Int)) 190 2 _ = D
    have D5 : gi D 190 5 = 4 := by rw [← hD]; simp -implicitDefEqProofs (disch := omega) only [gi_wi, ↓reduceIte, Int.reduceEq, cI_v, cL_v, cV_v, cR_v, wid, wid64, if_pos, if_neg, Nat.add_zero, if_true, if_false, and_self, and_true, true_and, and_false, false_and, or_true, true_or, or_false, false_or]
    have D6 : gi D 190 6 = bl T L p := by rw [← hD]; simp -implicitDefEqProofs (disch := omega) only [gi_wi, ↓reduceIte, Int.reduceEq, cI_v, cL_v, cV_v, cR_v, wid, wid64, if_pos, if_neg, Nat.add_zero, if_true, if_false, and_self, and_true, true_and, and_false, false_and, or_true, true_or, or_false, false_or]
    have fD : fVH b c0 A D := by rw [← hD]; exact frV_i _ _ (by omega) (frV_i _ _ (by omega) (frV_i _ _ (by omega) (frZ_V k3)))
    rw [show n1 + 17 + 0 = (n1 + 7) + 10 from rfl, part_badH d D (by rw [D5]; omega), cV_v]
    exact (A_badH (d := d) hB r D fD D5 D6 (by omega) n2 (by omega)).2
