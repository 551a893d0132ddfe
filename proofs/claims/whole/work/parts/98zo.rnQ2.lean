/-! the reference's reading of sums in a question: a number, a fact, a bracket, beside -/
theorem kN_EQ {d : Nat} {T : Nat → Int} {L b c0 : Nat} {x1 : Int} {Ast : AH} {Φ : RS → Prop} {W C : List Int} {o p : Nat} {t : Bool} (h : EzQ d T L b c0 x1 Ast Φ W C o p t) (B : AH) (r : RpQ T L b c0 Ast B W C o p t) (n2 : Nat) (hn : 10 * (L - p) + 6000 ≤ n2) : Φ (cV (cV (runF (d + 5) 272 [vR 21 190 0] B) fun A2 => some (none, A2)) (kNQ d x1 n2)) := by
  obtain ⟨D, d1, d2, d3⟩ := h B r
  have ho := r.2.2.2.2
  rw [r_X12_qEndsPart, d1 _ (by have := fu_ge; omega), cV_v, cV_v]
  unfold kNQ
  rw [if_pos d2, r_X12_qGoesOn]
  exact d3 (fu + 200) n2 (by have := fu_ge; omega) hn
theorem part186Q (d : Nat) {T : Nat → Int} {L p : Nat} {t : Bool} (A : AH) (m : MdS A T L p t) (n : Nat) (u2 u3 u4 u5 : AV) (h1 : sgn T L p t ≠ 40) (h2 : ¬ (wrd T L p t = 29 ∨ wrd T L p t = 30)) (h3 : wrd T L p t ≠ 31) : go true 3 (runF (d + 5)) (runN (d + 5)) pb_X12_qPartTold (n + 10) 2 [vR 21 190 0, vI 1, u2, u3, u4, u5] [] A = go true 3 (runF (d + 5)) (runN (d + 5)) pb_X12_qPartTold (n + 4) 186 [vR 21 190 0, vI 0, vI (ch T L (bl T L p)), vI (-1), u4, u5] [] (wi A 190 2 (bl T L p : Int)) := by
  obtain ⟨k1, k2, k3⟩ := s_lookM (d + 4) A m
  have hc : ch T L (bl T L p) ≠ 40 := fun y => h1 ((ch_sgn m.1.2.2.1 (by decide) (by decide) (by decide)).mp y)
  have q := (qw_F _ (show wrd T L p t < 38 by have := wrd_le T L p t; omega)).2.2
  have ew := s_wordOfQ (d + 1) _ 10 11 k2
  rw [if_neg (fun y => h3 (q.1.mp (by omega)))] at ew
  rw [q_X12_qPartTold_2, if_neg (by omega), if_pos m.2.2.1, k1, cI_v, ew, cI_v, if_neg hc, s_isHereL (d + 3) 254 3 29 _ k2 (by omega) (by decide) (by decide), cI_v, decide_eq_false (by omega), bI_f, if_pos rfl, s_isHereL (d + 3) 255 3 30 _ k2 (by omega) (by decide) (by decide), cI_v, decide_eq_false (by omega), bI_f, if_pos rfl, q_X12_qPartTold_153, if_pos rfl, q_X12_qPartTold_183, q_X12_qPartTold_2, if_pos rfl]
set_option maxRecDepth 100000 in
theorem s_codeBQ (d : Nat) {b c0 : Nat} (v : Int) (A : AH) (W C : List Int) (o : Nat) (s : STQ b c0 A W C o) (hC : c0 + C.length < 1600) : ∃ B, runF (d + 1) 262 [vR 21 190 0, vI v] A = some (none, B) ∧ fVQ b c0 A B ∧ gi B 190 5 = gi A 190 5 ∧ gi B 190 6 = gi A 190 6 ∧ 0 ≤ gi B 190 100 ∧ gi B 190 100 < 1700 := by
  obtain ⟨⟨s1, s2⟩, _⟩ := s
  refine ⟨wi (wi A 267 (c0 + C.length) v) 190 100 ((c0 + C.length + 1 : Nat) : Int), ?_, frV_i _ _ (by omega) (frV_c _ _ (by omega) (frV_refl _ _ _ _ _ _ _ A)), by simp -implicitDefEqProofs (disch := omega) only [gi_wi, ↓reduceIte, Int.reduceEq, cI_v, cL_v, cV_v, cR_v, wid, wid64, if_pos, if_neg, Nat.add_zero, if_true, if_false, and_self, and_true, true_and, and_false, false_and, or_true, true_or, or_false, false_or], by simp -implicitDefEqProofs (disch := omega) only [gi_wi, ↓reduceIte, Int.reduceEq, cI_v, cL_v, cV_v, cR_v, wid, wid64, if_pos, if_neg, Nat.add_zero, if_true, if_false, and_self, and_true, true_and, and_false, false_and, or_true, true_or, or_false, false_or], by simp -implicitDefEqProofs (disch := omega) only [gi_wi, ↓reduceIte, Int.reduceEq, cI_v, cL_v, cV_v, cR_v, wid, wid64, if_pos, if_neg, Nat.add_zero, if_true, if_false, and_self, and_true, true_and, and_false, false_and, or_true, true_or, or_false, false_or]; omega, by simp -implicitDefEqProofs (disch := omega) only [gi_wi, ↓reduceIte, Int.reduceEq, cI_v, cL_v, cV_v, cR_v, wid, wid64, if_pos, if_neg, Nat.add_zero, if_true, if_false, and_self, and_true, true_and, and_false, false_and, or_true, true_or, or_false, false_or]; omega⟩
  rw [r_X12_qCode, q_X12_qCode_0, s1, if_pos (by omega), Int.toNat_natCast, q_X12_qCode_10, gi_wi, if_neg (by omega), s1, wid (by omega) (by omega), q_X12_qCode_20, show ((c0 + C.length : Nat) : Int) + 1 = ((c0 + C.length + 1 : Nat) : Int) by omega]
theorem RlN_numQ (d : Nat) {T : Nat → Int} {L : Nat} (b c0 : Nat) (x1 : Int) (Ast : AH) (Φ : RS → Prop) (tx : TX T L) : (∀ W C o p t p' t', p ≤ L → o ≤ 6 → tkN T L p t 0 9999 = .ok (p', t') → EzQ d T L b c0 x1 Ast Φ W (C ++ [1000 + numV T L p]) o p' t' → NpQ d T L b c0 x1 Ast Φ W C o p t) ∧ (∀ W C o p t k s, p ≤ L → o ≤ 6 → sgn T L p t ≠ 40 → ¬ (wrd T L p t = 29 ∨ wrd T L p t = 30) → ¬ (true = true ∧ wrd T L p t = 31) → isF true (wrd T L p t) = false → tkN T L p t 0 9999 = .error (k, s) → BdQ b c0 x1 Ast Φ k s → NpQ d T L b c0 x1 Ast Φ W C o p t) := by
  have tL := tx.1
  constructor
  · intro W C o p t p' t' hp ho hT hE A n1 n2 u2 u3 u4 u5 r hn1 hn2
    obtain ⟨n1, rfl⟩ : ∃ e, n1 = e + 20 := ⟨n1 - 20, by omega⟩
    obtain ⟨kk, e1, e2, e3, e4⟩ := tkN_ok hT
    have hs : sgn T L p t ≠ 40 := fun y => by have := (sgn_stp y (by decide)).2.1; omega
    have hw : wrd T L p t = 0 := by
      by_cases z : wrd T L p t = 0
      · exact z
      · have := wrd_k z; omega
    obtain ⟨k1, k2, k3⟩ := s_lookM (d + 4) A r.1
    have hl := r.2.2.2.1
    have b1' := stp_1 (t := t) (Or.inr (Or.inl kk)) tx
    have ew := s_wordOfQ (d + 1) _ 0 10 k2
    rw [hw, show (if 0 ≤ qwF 0 ∧ qwF 0 < 10 then qwF 0 else -1) = -1 by decide] at ew
    rw [show n1 + 20 = (n1 + 10) + 10 from rfl, part186Q d A r.1 (n1 + 10) u2 u3 u4 u5 hs (by omega) (by omega), q_X12_qPartTold_186, if_pos k2.1.2.2.1, ew, cI_v, if_pos rfl, q_X12_qPartTold_212, if_pos rfl]
    have kn := s_number (d + 3) 0 9999 _ k2.1
    rw [hT] at kn
    obtain ⟨B, b1, b2, b3, _⟩ := kn
    have sB := StR_Z (by omega) (frZ_trans k3 b3) r.2.1
    obtain ⟨D, d1, d2, d3, d4, d5⟩ := s_codeQ (d + 4) (1000 + numV T L p) B W C o sB b2 (by omega)
    rw [b1, cI_v, wid (by omega) (by omega), q_X12_qPartTold_237, d1, cV_v]
    exact kN_EQ hE D (Rp_oQ r (frV_trans (frZ_V (frZ_trans k3 b3)) d4) d3 d2 (by simp; omega) ho) n2 (by omega)
  · intro W C o p t k s hp ho hs hw h31 hF hT hB A n1 n2 u2 u3 u4 u5 r hn1 hn2
    obtain ⟨n1, rfl⟩ : ∃ e, n1 = e + 20 := ⟨n1 - 20, by omega⟩
    obtain ⟨k1, k2, k3⟩ := s_lookM (d + 4) A r.1
    have hl := r.2.2.2.1
    have q := qw_F _ (show wrd T L p t < 38 by have := wrd_le T L p t; omega)
    have ew := s_wordOfQ (d + 1) _ 0 10 k2
    rw [hF] at q
    rw [if_neg (of_decide_eq_false q.1.symm)] at ew
    rw [show n1 + 20 = (n1 + 10) + 10 from rfl, part186Q d A r.1 (n1 + 10) u2 u3 u4 u5 hs hw (fun y => h31 ⟨rfl, y⟩), q_X12_qPartTold_186, if_pos k2.1.2.2.1, ew, cI_v, if_pos rfl, q_X12_qPartTold_212, if_pos rfl]
    have kn := s_number (d + 3) 0 9999 _ k2.1
    rw [hT] at kn
    obtain ⟨v, B, b1, b2⟩ := kn
    have fB := frZ_trans k3 b2.2.2.2
    have sB := StR_Z (by omega) fB r.2.1
    obtain ⟨D, d1, d2, d3, d4, d5⟩ := s_codeBQ (d + 4) (w32 (1000 + v)) B W C o sB (by omega)
    have D5 : gi D 190 5 ≠ 0 := by rw [d3, b2.1]; exact b2.2.2.1
    rw [b1, cI_v, q_X12_qPartTold_237, d1, cV_v, r_X12_qEndsPart, q_X12_qEndsPart_0, if_neg D5, cV_v, cV_v]
    exact (A_badQ (d := d) hB r D (frV_trans (frZ_V fB) d2) (d3.trans b2.1) (d4.trans b2.2.1) b2.2.2.1 d5 n2 (by omega)).2
theorem RlN_factQ (d : Nat) {T : Nat → Int} {L : Nat} (b c0 : Nat) (x1 : Int) (Ast : AH) (Φ : RS → Prop) (tx : TX T L) : ∀ W C o p t, p ≤ L → o ≤ 6 → isF true (wrd T L p t) = true → EzQ d T L b c0 x1 Ast Φ W (C ++ [mcF true (wdf 1 (wrd T L p t))]) o (stp T L p) true → NpQ d T L b c0 x1 Ast Φ W C o p t := by
  intro W C o p t hp ho hF hE A n1 n2 u2 u3 u4 u5 r hn1 hn2
  have tL := tx.1
  obtain ⟨n1, rfl⟩ : ∃ e, n1 = e + 20 := ⟨n1 - 20, by omega⟩
  have w37 := wrd_le T L p t
  obtain ⟨q1, q2, q3, q4, q5⟩ := qw_F _ (show wrd T L p t < 38 by omega)
  have hq := q2 hF
  rw [hF] at q1
  have qb := of_decide_eq_true q1.symm
  have w0 : wrd T L p t ≠ 0 := (of_decide_eq_true hF).1
  have n29 : ¬ (wrd T L p t = 29 ∨ wrd T L p t = 30) := fun y => by
    rcases y with y | y <;> rw [y] at hF <;> revert hF <;> decide
  have kk := wrd_k w0
  have hs : sgn T L p t ≠ 40 := fun y => by have := (sgn_stp y (by decide)).2.1; omega
  obtain ⟨k1, k2, k3⟩ := s_lookM (d + 4) A r.1
  have hl := r.2.2.2.1
  have b1' := wrd_1 w0 tx
  have sLL := stp_L tx hp
  have ew := s_wordOfQ (d + 1) _ 0 10 k2
  rw [if_pos qb] at ew
  obtain ⟨B, b1, b2, b3⟩ := s_asksWordQ d _ k2.1 qb.1
  rw [show n1 + 20 = (n1 + 10) + 10 from rfl, part186Q d A r.1 (n1 + 10) u2 u3 u4 u5 hs n29 (fun y => by have := q3.mpr y; omega), q_X12_qPartTold_186, if_pos k2.1.2.2.1, ew, cI_v, if_neg (by omega), b1, cV_v, q_X12_qPartTold_212, if_neg (by omega)]
  have sB := StR_Z (by omega) (frZ_trans k3 b3) r.2.1
  obtain ⟨D, d1, d2, d3, d4, d5⟩ := s_codeQ (d + 4) (40 + qwF (wrd T L p t)) B W C o sB b2 (by omega)
  rw [wid (by omega) (by omega), q_X12_qPartTold_237, d1, cV_v]
  have em : mcF true (wdf 1 (wrd T L p t)) = 40 + qwF (wrd T L p t) := by
    rw [hq]
    unfold mcF
    rw [if_neg (by omega), if_pos (by omega), if_pos rfl]; omega
  rw [em] at hE
  exact kN_EQ hE D (Rp_oQ r (frV_trans (frZ_V (frZ_trans k3 b3)) d4) d3 d2 (by simp; omega) ho) n2 (by omega)
theorem part_badQ (d : Nat) (A : AH) (hb : gi A 190 5 ≠ 0) (n : Nat) (x1 : Int) (u2 u3 u4 u5 : AV) : go true 3 (runF (d + 5)) (runN (d + 5)) pb_X12_qPartTold (n + 10) 2 [vR 21 190 0, vI x1, u2, u3, u4, u5] [] A = some (none, A) := by
  have e : go true 3 (runF (d + 5)) (runN (d + 5)) pb_X12_qPartTold (n + 9) 186 [vR 21 190 0, vI x1, u2, u3, u4, u5] [] A = some (none, A) := by rw [q_X12_qPartTold_186, if_neg hb]
  rw [q_X12_qPartTold_2]
  by_cases z : x1 = 0
  · rw [if_pos z]; exact e
  · rw [if_neg z, if_neg hb]; exact e
theorem RlN_openQ (d : Nat) {T : Nat → Int} {L : Nat} (b c0 : Nat) (x1 : Int) (Ast : AH) (Φ : RS → Prop) (tx : TX T L) : (∀ W C o p t, p ≤ L → o < 6 → sgn T L p t = 40 → NpQ d T L b c0 x1 Ast Φ (20 :: W) C (o + 1) (stp T L p) false → NpQ d T L b c0 x1 Ast Φ W C o p t) ∧ (∀ W C p t, p ≤ L → sgn T L p t = 40 → BdQ b c0 x1 Ast Φ 4 (bl T L p) → NpQ d T L b c0 x1 Ast Φ W C 6 p t) := by
  have tL := tx.1
  constructor
  · intro W C o p t hp ho hs hN A n1 n2 u2 u3 u4 u5 r hn1 hn2
    obtain ⟨n1, rfl⟩ : ∃ e, n1 = e + 10 := ⟨n1 - 10, by omega⟩
    obtain ⟨es, ek, eT⟩ := sgn_stp hs (by decide)
    have lt := knd3 tx ek
    have hbl := bl_le T L p
    obtain ⟨k1, k2, k3⟩ := s_lookM (d + 4) A r.1
    have hl := r.2.2.2.1
    obtain ⟨B, b1, b2, b3, b4, b5⟩ := (s_opensQ (d + 3) 20 (bl T L p : Int) _ W C o (StR_Z (by omega) k3 r.2.1) k2.1 (by omega)).1 ho
    have b2e : gi B 190 2 = (bl T L p : Int) := b5.trans k2.2
    have fW : frZ B (wi B 190 2 ((bl T L p + 1 : Nat) : Int)) := frZ_wi _ (by omega) (frZ_refl B)
    have mW : MdS (wi B 190 2 ((bl T L p + 1 : Nat) : Int)) T L (bl T L p + 1) false := MdS_sg b3 fW (by simp -implicitDefEqProofs (disch := omega) only [gi_wi, ↓reduceIte, Int.reduceEq, cI_v, cL_v, cV_v, cR_v, wid, wid64, if_pos, if_neg, Nat.add_zero, if_true, if_false, and_self, and_true, true_and, and_false, false_and, or_true, true_or, or_false, false_or]; exact b3.2.2.1) (by simp -implicitDefEqProofs (disch := omega) only [gi_wi, ↓reduceIte, Int.reduceEq, cI_v, cL_v, cV_v, cR_v, wid, wid64, if_pos, if_neg, Nat.add_zero, if_true, if_false, and_self, and_true, true_and, and_false, false_and, or_true, true_or, or_false, false_or]) (by simp -implicitDefEqProofs (disch := omega) only [gi_wi, ↓reduceIte, Int.reduceEq, cI_v, cL_v, cV_v, cR_v, wid, wid64, if_pos, if_neg, Nat.add_zero, if_true, if_false, and_self, and_true, true_and, and_false, false_and, or_true, true_or, or_false, false_or]) (by simp -implicitDefEqProofs (disch := omega) only [gi_wi, ↓reduceIte, Int.reduceEq, cI_v, cL_v, cV_v, cR_v, wid, wid64, if_pos, if_neg, Nat.add_zero, if_true, if_false, and_self, and_true, true_and, and_false, false_and, or_true, true_or, or_false, false_or]) lt
    rw [q_X12_qPartTold_2, if_neg (by omega), if_pos r.1.2.2.1, k1, cI_v, s_wordOfQ (d + 1) _ 10 11 k2, cI_v, if_pos ((ch_sgn tx (by decide) (by decide) (by decide)).mpr hs), k2.2, b1, cV_v, b2e, wid (by omega) (by omega), show (bl T L p : Int) + 1 = ((bl T L p + 1 : Nat) : Int) by omega, q_X12_qPartTold_53, q_X12_qPartTold_183]
    rw [es] at hN
    exact hN _ (n1 + 7) n2 _ _ u4 u5 (Rp_oQ r (frV_trans (frZ_V k3) (frV_trans b4 (frZ_V fW))) mW (StR_Z (by omega) fW b2) (by simp; omega) (by omega)) (by omega) (by omega)
  · intro W C p t hp hs hB A n1 n2 u2 u3 u4 u5 r hn1 hn2
    obtain ⟨n1, rfl⟩ : ∃ e, n1 = e + 20 := ⟨n1 - 20, by omega⟩
    obtain ⟨es, ek, eT⟩ := sgn_stp hs (by decide)
    have lt := knd3 tx ek
    have hbl := bl_le T L p
    obtain ⟨k1, k2, k3⟩ := s_lookM (d + 4) A r.1
    have hl := r.2.2.2.1
    have b1 := (s_opensQ (d + 3) 20 (bl T L p : Int) _ W C 6 (StR_Z (by omega) k3 r.2.1) k2.1 (by omega)).2 rfl
    rw [q_X12_qPartTold_2, if_neg (by omega), if_pos r.1.2.2.1, k1, cI_v, s_wordOfQ (d + 1) _ 10 11 k2, cI_v, if_pos ((ch_sgn tx (by decide) (by decide) (by decide)).mpr hs), k2.2, b1, cV_v, q_X12_qPartTold_53, q_X12_qPartTold_183]
    generalize hD : wi (wi (wi (wi A 190 2 (bl T L p : Int)) 190 5 4) 190 6 (bl T L p : Int)) 190 2 _ = D
    have D5 : gi D 190 5 = 4 := by rw [← hD]; simp -implicitDefEqProofs (disch := omega) only [gi_wi, ↓reduceIte, Int.reduceEq, cI_v, cL_v, cV_v, cR_v, wid, wid64, if_pos, if_neg, Nat.add_zero, if_true, if_false, and_self, and_true, true_and, and_false, false_and, or_true, true_or, or_false, false_or]
    have D6 : gi D 190 6 = bl T L p := by rw [← hD]; simp -implicitDefEqProofs (disch := omega) only [gi_wi, ↓reduceIte, Int.reduceEq, cI_v, cL_v, cV_v, cR_v, wid, wid64, if_pos, if_neg, Nat.add_zero, if_true, if_false, and_self, and_true, true_and, and_false, false_and, or_true, true_or, or_false, false_or]
    have Dq : 0 ≤ gi D 190 100 ∧ gi D 190 100 < 1700 := by rw [← hD]; simp -implicitDefEqProofs (disch := omega) only [gi_wi, ↓reduceIte, Int.reduceEq, cI_v, cL_v, cV_v, cR_v, wid, wid64, if_pos, if_neg, Nat.add_zero, if_true, if_false, and_self, and_true, true_and, and_false, false_and, or_true, true_or, or_false, false_or]; exact cdQ (frZ_refl A) r
    have fD : fVQ b c0 A D := by rw [← hD]; exact frV_i _ _ (by omega) (frV_i _ _ (by omega) (frV_i _ _ (by omega) (frZ_V k3)))
    rw [show n1 + 17 + 0 = (n1 + 7) + 10 from rfl, part_badQ d D (by rw [D5]; omega), cV_v]
    exact (A_badQ (d := d) hB r D fD D5 D6 (by omega) Dq n2 (by omega)).2
theorem RlN_besQ (d : Nat) {T : Nat → Int} {L : Nat} (b c0 : Nat) (x1 : Int) (Ast : AH) (Φ : RS → Prop) (tx : TX T L) : (∀ W C o p t, p ≤ L → o < 6 → true = true → wrd T L p t = 31 → NpQ d T L b c0 x1 Ast Φ (60 :: W) C (o + 1) (stp T L p) true → NpQ d T L b c0 x1 Ast Φ W C o p t) ∧ (∀ W C p t, p ≤ L → true = true → wrd T L p t = 31 → BdQ b c0 x1 Ast Φ 4 (bl T L p) → NpQ d T L b c0 x1 Ast Φ W C 6 p t) := by
  have tL := tx.1
  have pre : ∀ (A : AH) (p : Nat) (t : Bool) (n : Nat) (u2 u3 u4 u5 : AV), MdS A T L p t → wrd T L p t = 31 → go true 3 (runF (d + 5)) (runN (d + 5)) pb_X12_qPartTold (n + 10) 2 [vR 21 190 0, vI 1, u2, u3, u4, u5] [] A = (cV (runF (d + 5) 263 [vR 21 190 0, vI 60, vI (bl T L p : Int)] (wi A 190 2 (bl T L p : Int))) fun A1 =>
      cV (runF (d + 5) 271 [vR 21 190 0, vI 10] A1) fun A2 =>
      go true 3 (runF (d + 5)) (runN (d + 5)) pb_X12_qPartTold (n + 7) 183 [vR 21 190 0, vI 1, vI (ch T L (bl T L p)), vI 10, u4, u5] [] A2) := by
    intro A p t n u2 u3 u4 u5 m hw
    obtain ⟨k1, k2, k3⟩ := s_lookM (d + 4) A m
    have kk := wrd_k (T := T) (L := L) (p := p) (t := t) (by omega)
    have hs : sgn T L p t ≠ 40 := fun y => by have := (sgn_stp y (by decide)).2.1; omega
    have hc : ch T L (bl T L p) ≠ 40 := fun y => hs ((ch_sgn m.1.2.2.1 (by decide) (by decide) (by decide)).mp y)
    have ew := s_wordOfQ (d + 1) _ 10 11 k2
    rw [hw, show (if 10 ≤ qwF 31 ∧ qwF 31 < 11 then qwF 31 else -1) = 10 by decide] at ew
    rw [q_X12_qPartTold_2, if_neg (by omega), if_pos m.2.2.1, k1, cI_v, ew, cI_v, if_neg hc, s_isHereL (d + 3) 254 3 29 _ k2 (by omega) (by decide) (by decide), cI_v, decide_eq_false (by omega), bI_f, if_pos rfl, s_isHereL (d + 3) 255 3 30 _ k2 (by omega) (by decide) (by decide), cI_v, decide_eq_false (by omega), bI_f, if_pos rfl, q_X12_qPartTold_153, if_neg (by omega), wid (x := 60 + 10) (by omega) (by omega), wid (by omega) (by omega), k2.2]
    rfl
  constructor
  · intro W C o p t hp ho _ hw hN A n1 n2 u2 u3 u4 u5 r hn1 hn2
    obtain ⟨n1, rfl⟩ : ∃ e, n1 = e + 10 := ⟨n1 - 10, by omega⟩
    obtain ⟨k1, k2, k3⟩ := s_lookM (d + 4) A r.1
    have hl := r.2.2.2.1
    have w1 := wrd_1 (T := T) (L := L) (p := p) (t := t) (by omega) tx
    have sL := stp_L tx hp
    obtain ⟨B, b1, b2, b3, b4, b5⟩ := (s_opensQ (d + 3) 60 (bl T L p : Int) _ W C o (StR_Z (by omega) k3 r.2.1) k2.1 (by omega)).1 ho
    obtain ⟨D, d1, d2, d3⟩ := s_asksWordQ d B b3 (by rw [hw]; decide)
    rw [hw, show qwF 31 = 10 by decide] at d1
    rw [pre A p t n1 u2 u3 u4 u5 r.1 hw, b1, cV_v, d1, cV_v, q_X12_qPartTold_183]
    exact hN D (n1 + 6) n2 _ _ u4 u5 (Rp_oQ r (frV_trans (frZ_V k3) (frV_trans b4 (frZ_V d3))) d2 (StR_Z (by omega) d3 b2) (by simp; omega) (by omega)) (by omega) (by omega)
  · intro W C p t hp _ hw hB A n1 n2 u2 u3 u4 u5 r hn1 hn2
    obtain ⟨n1, rfl⟩ : ∃ e, n1 = e + 20 := ⟨n1 - 20, by omega⟩
    obtain ⟨k1, k2, k3⟩ := s_lookM (d + 4) A r.1
    have hl := r.2.2.2.1
    have b1 := (s_opensQ (d + 3) 60 (bl T L p : Int) _ W C 6 (StR_Z (by omega) k3 r.2.1) k2.1 (by omega)).2 rfl
    generalize hD : wi (wi (wi A 190 2 (bl T L p : Int)) 190 5 4) 190 6 (bl T L p : Int) = D at b1
    have D5 : gi D 190 5 = 4 := by rw [← hD]; simp -implicitDefEqProofs (disch := omega) only [gi_wi, ↓reduceIte, Int.reduceEq, cI_v, cL_v, cV_v, cR_v, wid, wid64, if_pos, if_neg, Nat.add_zero, if_true, if_false, and_self, and_true, true_and, and_false, false_and, or_true, true_or, or_false, false_or]
    have D6 : gi D 190 6 = bl T L p := by rw [← hD]; simp -implicitDefEqProofs (disch := omega) only [gi_wi, ↓reduceIte, Int.reduceEq, cI_v, cL_v, cV_v, cR_v, wid, wid64, if_pos, if_neg, Nat.add_zero, if_true, if_false, and_self, and_true, true_and, and_false, false_and, or_true, true_or, or_false, false_or]
    have Dq : 0 ≤ gi D 190 100 ∧ gi D 190 100 < 1700 := by rw [← hD]; simp -implicitDefEqProofs (disch := omega) only [gi_wi, ↓reduceIte, Int.reduceEq, cI_v, cL_v, cV_v, cR_v, wid, wid64, if_pos, if_neg, Nat.add_zero, if_true, if_false, and_self, and_true, true_and, and_false, false_and, or_true, true_or, or_false, false_or]; exact cdQ (frZ_refl A) r
    have fD : fVQ b c0 A D := by rw [← hD]; exact frV_i _ _ (by omega) (frV_i _ _ (by omega) (frZ_V k3))
    have kb : runF (d + 5) 271 [vR 21 190 0, vI 10] D = some (none, D) := by
      rw [r_X12_qAsksWord, q_X12_qAsksWord_0, if_neg (by omega), if_neg (by omega), if_neg (by omega), if_neg (by omega), if_neg (by omega), if_neg (by omega), if_neg (by omega), if_neg (by omega), if_neg (by omega), if_neg (by omega), s_asksB _ _ _ _ (by omega) (by rw [D5]; omega), cV_v]
    rw [show n1 + 20 = (n1 + 10) + 10 from rfl, pre A p t (n1 + 10) u2 u3 u4 u5 r.1 hw, b1, cV_v, kb, cV_v, q_X12_qPartTold_183, show n1 + 10 + 6 + 0 = (n1 + 6) + 10 from rfl, part_badQ d D (by rw [D5]; omega), cV_v]
    exact (A_badQ (d := d) hB r D fD D5 D6 (by omega) Dq n2 (by omega)).2
