/-! the reference's reading of sums in a hall: the lesser and the greater of two; a whole sum -/
theorem part90H (d : Nat) {T : Nat → Int} {L p : Nat} {t : Bool} (A : AH) (m : MdS A T L p t) (n : Nat) (u2 u3 u4 : AV) (hw : wrd T L p t = 29 ∨ wrd T L p t = 30) : ∃ B n' x3, n ≤ n' ∧ go true 3 (runF (d + 5)) (runN (d + 5)) pb_X12_onePart (n + 10) 2 [vR 21 190 0, vI 1, u2, u3, u4] [] A = go true 3 (runF (d + 5)) (runN (d + 5)) pb_X12_onePart n' 90 [vR 21 190 0, vI 1, vI (ch T L (bl T L p)), vI x3, u4] [] B ∧ MdS B T L (stp T L p) true ∧ frZ A B ∧ ((wrd T L p t = 29 ∧ x3 = 1) ∨ (wrd T L p t ≠ 29 ∧ x3 = 0)) := by
  obtain ⟨k1, k2, k3⟩ := s_lookM (d + 4) A m
  have kk := wrd_k (T := T) (L := L) (p := p) (t := t) (by omega)
  have hc : ch T L (bl T L p) ≠ 40 := fun y => by
    have := (ch_sgn (t := t) m.1.2.2.1 (by decide) (by decide) (by decide)).mp y
    have := (sgn_stp this (by decide)).2.1
    omega
  have tks := s_takes (d + 2) 221 3 29 _ k2.1 (by omega) (by decide) (by decide)
  have e0 : ∀ R, go true 3 (runF (d + 5)) (runN (d + 5)) pb_X12_onePart (n + 8) 69 [vR 21 190 0, vI 1, vI (ch T L (bl T L p)), u3, u4] [] (wi A 190 2 (bl T L p : Int)) = R → go true 3 (runF (d + 5)) (runN (d + 5)) pb_X12_onePart (n + 10) 2 [vR 21 190 0, vI 1, u2, u3, u4] [] A = R := by
    intro R hR
    rw [q_X12_onePart_2, if_neg (by omega), if_pos m.2.2.1, k1, cI_v, if_neg hc, s_isHereL (d + 3) 221 3 29 _ k2 (by omega) (by decide) (by decide), cI_v]
    by_cases z : wrd T L p t = 29
    · rw [decide_eq_true z, bI_t, if_neg (by omega)]; exact hR
    · rw [decide_eq_false z, bI_f, if_pos rfl, s_isHereL (d + 3) 222 3 30 _ k2 (by omega) (by decide) (by decide), cI_v, decide_eq_true (by omega), bI_t, if_neg (by omega)]; exact hR
  by_cases z : wrd T L p t = 29
  · obtain ⟨B, b1, b2, b3⟩ := tks.1 z
    refine ⟨B, n + 7, 1, by omega, e0 _ ?_, b2, frZ_trans k3 b3, Or.inl ⟨z, rfl⟩⟩
    rw [q_X12_onePart_69, b1, cI_v, if_neg (by omega)]
  · have t0 := tks.2 z
    rw [wi_2] at t0
    have ka := s_asks (d + 1) 222 3 30 _ k2.1 (by omega) (by decide) (by decide)
    rw [show tkW T L p t 30 = .ok (stp T L p, true) by unfold tkW; rw [if_pos (by omega)]] at ka
    obtain ⟨B, b1, b2, b3⟩ := ka
    refine ⟨B, n + 7, 0, by omega, e0 _ ?_, b2, frZ_trans k3 b3, Or.inr ⟨z, rfl⟩⟩
    rw [q_X12_onePart_69, t0, cI_v, if_pos rfl, b1, cV_v]
theorem RlN_mmH (d : Nat) {T : Nat → Int} {L : Nat} (b c0 : Nat) (x1 : Int) (Ast : AH) (Φ : RS → Prop) (tx : TX T L) : (∀ W C o p t, p ≤ L → o < 6 → wrd T L p t = 29 ∨ wrd T L p t = 30 → sgn T L (stp T L p) true = 40 → NpH d T L b c0 x1 Ast Φ ((if wrd T L p t = 29 then 21 else 22) :: W) C (o + 1) (stp T L (stp T L p)) false → NpH d T L b c0 x1 Ast Φ W C o p t) ∧ (∀ W C p t, p ≤ L → wrd T L p t = 29 ∨ wrd T L p t = 30 → sgn T L (stp T L p) true = 40 → BdH b c0 x1 Ast Φ 4 (bl T L (stp T L p)) → NpH d T L b c0 x1 Ast Φ W C 6 p t) ∧ (∀ W C o p t, p ≤ L → o ≤ 6 → wrd T L p t = 29 ∨ wrd T L p t = 30 → sgn T L (stp T L p) true ≠ 40 → BdH b c0 x1 Ast Φ 1 (bl T L (stp T L p)) → NpH d T L b c0 x1 Ast Φ W C o p t) := by
  have tL := tx.1
  refine ⟨?_, ?_, ?_⟩
  · intro W C o p t hp ho hw hs hN A n1 n2 u2 u3 u4 r hn1 hn2
    obtain ⟨n1, rfl⟩ : ∃ e, n1 = e + 10 := ⟨n1 - 10, by omega⟩
    obtain ⟨B, nn, x3, b0, b1, b2, b3, b4⟩ := part90H d A r.1 n1 u2 u3 u4 hw
    obtain ⟨nn, rfl⟩ : ∃ e, nn = e + 20 := ⟨nn - 20, by omega⟩
    have hl := r.2.2.2.1
    have w1 := wrd_1 (T := T) (L := L) (p := p) (t := t) (by omega) tx
    have sL := stp_L tx hp
    obtain ⟨es, ek, eT⟩ := sgn_stp hs (by decide)
    have lt := knd3 tx ek
    have hbl := bl_le T L (stp T L p)
    obtain ⟨k1, k2, k3⟩ := s_lookM (d + 4) B b2
    have sB := StR_Z (by omega) (frZ_trans b3 k3) r.2.1
    obtain ⟨D, d1, d2, d3, d4, d5⟩ := (s_opensH (d + 3) (if wrd T L p t = 29 then 21 else 22) (bl T L (stp T L p) : Int) _ W C o sB k2.1 (by omega)).1 ho
    have ka := s_asksSign (d + 2) 40 D d3 (by decide) (by decide) (by decide)
    rw [show tkS T L (stp T L p) true 40 = .ok (stp T L (stp T L p), false) by unfold tkS; rw [if_pos hs]] at ka
    obtain ⟨F, f1, f2, f3⟩ := ka
    have e132 : ∀ n v, v = (if wrd T L p t = 29 then (21 : Int) else 22) → go true 3 (runF (d + 5)) (runN (d + 5)) pb_X12_onePart (n + 3) 127 [vR 21 190 0, vI 1, vI (ch T L (bl T L p)), vI x3, vI (bl T L (stp T L p) : Int)] [vI v, vR 21 190 0] (wi B 190 2 (bl T L (stp T L p) : Int)) = go true 3 (runF (d + 5)) (runN (d + 5)) pb_X12_onePart n 2 [vR 21 190 0, vI 1, vI (ch T L (bl T L p)), vI x3, vI (bl T L (stp T L p) : Int)] [] F := by
      intro n v hv
      rw [q_X12_onePart_127, hv, d1, cV_v, q_X12_onePart_132, f1, cV_v, q_X12_onePart_143, Nat.add_zero n]
    have e2 : ∃ n', nn + 14 ≤ n' ∧ go true 3 (runF (d + 5)) (runN (d + 5)) pb_X12_onePart (n1 + 10) 2 [vR 21 190 0, vI 1, u2, u3, u4] [] A = go true 3 (runF (d + 5)) (runN (d + 5)) pb_X12_onePart n' 2 [vR 21 190 0, vI 1, vI (ch T L (bl T L p)), vI x3, vI (bl T L (stp T L p) : Int)] [] F := by
      rw [b1, q_X12_onePart_90, k1, cI_v, if_pos ((ch_sgn tx (by decide) (by decide) (by decide)).mpr hs), k2.2, q_X12_onePart_107, if_neg (by omega)]
      rcases b4 with ⟨z, y⟩ | ⟨z, y⟩
      · rw [if_neg (by omega)]
        exact ⟨nn + 15, by omega, e132 (nn + 15) 21 (by rw [if_pos z])⟩
      · rw [if_pos y]
        exact ⟨nn + 14, by omega, e132 (nn + 14) 22 (by rw [if_neg z])⟩
    obtain ⟨n', h1, h2⟩ := e2
    rw [h2]
    refine hN F n' n2 _ _ _ (Rp_oH r (frV_trans (frZ_V (frZ_trans b3 k3)) (frV_trans d4 (frZ_V f3))) f2 (StR_Z (by omega) f3 d2) (by simp; omega) (by omega) ?_) (by omega) (by omega)
    intro w hw'
    rcases List.mem_cons.mp hw' with y | y
    · rw [y]
      by_cases z : wrd T L p t = 29
      · rw [if_pos z]; decide
      · rw [if_neg z]; decide
    · exact r.2.2.2.2.2 w y
  · intro W C p t hp hw hs hB A n1 n2 u2 u3 u4 r hn1 hn2
    obtain ⟨n1, rfl⟩ : ∃ e, n1 = e + 10 := ⟨n1 - 10, by omega⟩
    obtain ⟨B, nn, x3, b0, b1, b2, b3, b4⟩ := part90H d A r.1 n1 u2 u3 u4 hw
    obtain ⟨nn, rfl⟩ : ∃ e, nn = e + 20 := ⟨nn - 20, by omega⟩
    have hl := r.2.2.2.1
    have sL := stp_L tx hp
    obtain ⟨k1, k2, k3⟩ := s_lookM (d + 4) B b2
    have sB := StR_Z (by omega) (frZ_trans b3 k3) r.2.1
    have d1 := (s_opensH (d + 3) (if wrd T L p t = 29 then 21 else 22) (bl T L (stp T L p) : Int) _ W C 6 sB k2.1 (by omega)).2 rfl
    generalize hD : wi (wi (wi B 190 2 (bl T L (stp T L p) : Int)) 190 5 4) 190 6 (bl T L (stp T L p) : Int) = D at d1
    have D5 : gi D 190 5 = 4 := by rw [← hD]; simp -implicitDefEqProofs (disch := omega) only [gi_wi, ↓reduceIte, Int.reduceEq, cI_v, cL_v, cV_v, cR_v, wid, wid64, if_pos, if_neg, Nat.add_zero, if_true, if_false, and_self, and_true, true_and, and_false, false_and, or_true, true_or, or_false, false_or]
    have D6 : gi D 190 6 = bl T L (stp T L p) := by rw [← hD]; simp -implicitDefEqProofs (disch := omega) only [gi_wi, ↓reduceIte, Int.reduceEq, cI_v, cL_v, cV_v, cR_v, wid, wid64, if_pos, if_neg, Nat.add_zero, if_true, if_false, and_self, and_true, true_and, and_false, false_and, or_true, true_or, or_false, false_or]
    have fD : fVH b c0 A D := by rw [← hD]; exact frV_i _ _ (by omega) (frV_i _ _ (by omega) (frZ_V (frZ_trans b3 k3)))
    have e132 : ∀ n v, v = (if wrd T L p t = 29 then (21 : Int) else 22) → go true 3 (runF (d + 5)) (runN (d + 5)) pb_X12_onePart (n + 13) 127 [vR 21 190 0, vI 1, vI (ch T L (bl T L p)), vI x3, vI (bl T L (stp T L p) : Int)] [vI v, vR 21 190 0] (wi B 190 2 (bl T L (stp T L p) : Int)) = some (none, D) := by
      intro n v hv
      rw [q_X12_onePart_127, hv, d1, cV_v, q_X12_onePart_132, s_asksSignB _ _ _ (by rw [D5]; omega), cV_v, q_X12_onePart_143]
      exact part_badH d D (by rw [D5]; omega) n 1 _ _ _
    have e2 : go true 3 (runF (d + 5)) (runN (d + 5)) pb_X12_onePart (n1 + 10) 2 [vR 21 190 0, vI 1, u2, u3, u4] [] A = some (none, D) := by
      rw [b1, q_X12_onePart_90, k1, cI_v, if_pos ((ch_sgn tx (by decide) (by decide) (by decide)).mpr hs), k2.2, q_X12_onePart_107, if_neg (by omega)]
      rcases b4 with ⟨z, y⟩ | ⟨z, y⟩
      · rw [if_neg (by omega)]
        exact e132 (nn + 5) 21 (by rw [if_pos z])
      · rw [if_pos y]
        exact e132 (nn + 4) 22 (by rw [if_neg z])
    rw [e2, cV_v]
    exact (A_badH (d := d) hB r D fD D5 D6 (by omega) n2 (by omega)).2
  · intro W C o p t hp ho hw hs hB A n1 n2 u2 u3 u4 r hn1 hn2
    obtain ⟨n1, rfl⟩ : ∃ e, n1 = e + 10 := ⟨n1 - 10, by omega⟩
    obtain ⟨B, nn, x3, b0, b1, b2, b3, b4⟩ := part90H d A r.1 n1 u2 u3 u4 hw
    obtain ⟨nn, rfl⟩ : ∃ e, nn = e + 20 := ⟨nn - 20, by omega⟩
    obtain ⟨k1, k2, k3⟩ := s_lookM (d + 4) B b2
    have ka := s_asksSign (d + 2) 40 _ k2.1 (by decide) (by decide) (by decide)
    rw [show tkS T L (stp T L p) true 40 = .error (1, bl T L (stp T L p)) by unfold tkS; rw [if_neg hs]] at ka
    obtain ⟨D, d1, d2⟩ := ka
    rw [b1, q_X12_onePart_90, k1, cI_v, if_neg (fun y => hs ((ch_sgn tx (by decide) (by decide) (by decide)).mp y)), q_X12_onePart_107, if_pos rfl, q_X12_onePart_132, d1, cV_v, q_X12_onePart_143, show nn + 15 + 0 = (nn + 5) + 10 from rfl, part_badH d D (by rw [d2.1]; omega), cV_v]
    exact (A_badH (d := d) hB r D (frZ_V (frZ_trans b3 (frZ_trans k3 d2.2.2.2))) d2.1 d2.2.1 d2.2.2.1 n2 (by omega)).2
theorem RlN_H (d : Nat) {T : Nat → Int} {L : Nat} (b c0 : Nat) (x1 : Int) (Ast : AH) (Φ : RS → Prop) (tx : TX T L) : RlN T L false (NpH d T L b c0 x1 Ast Φ) (EpH d T L b c0 x1 Ast Φ) (BdH b c0 x1 Ast Φ) := ⟨(RlN_numH d b c0 x1 Ast Φ tx).1, (RlN_numH d b c0 x1 Ast Φ tx).2, (RlN_openH d b c0 x1 Ast Φ tx).1, (RlN_openH d b c0 x1 Ast Φ tx).2, (RlN_mmH d b c0 x1 Ast Φ tx).1, (RlN_mmH d b c0 x1 Ast Φ tx).2.1, (RlN_mmH d b c0 x1 Ast Φ tx).2.2, (fun _ _ _ _ _ _ _ h => by cases h), (fun _ _ _ _ _ h => by cases h), RlN_factH d b c0 x1 Ast Φ tx⟩
set_option maxRecDepth 100000 in
theorem s_sumsTold (d : Nat) {T : Nat → Int} {L p : Nat} {t : Bool} (tx : TX T L) (c0 : Nat) (A : AH) (m : MdS A T L p t) (h55 : gi A 190 55 = c0) (h57 : gi A 190 57 = 0) (h58 : gi A 190 58 = 0) (h59 : gi A 190 59 = 0) (hc : c0 < p) : (∀ k s, sumG T L (partG T L false 6) p t = .error (k, s) → k ≠ 0 → ∃ B, runF (d + 7) 188 [vR 21 190 0] A = some (none, B) ∧ gi B 190 5 = k ∧ gi B 190 6 = s ∧ fVH 0 c0 A B) ∧ (∀ cs p' t', sumG T L (partG T L false 6) p t = .ok (cs, p', t') → ∃ B, runF (d + 7) 188 [vR 21 190 0] A = some (none, B) ∧ MdS B T L p' t' ∧ gi B 190 55 = ((c0 + cs.length : Nat) : Int) ∧ (∀ i, i < cs.length → gi B 233 (c0 + i) = (cs.map (mcF false)).getD i 0) ∧ fVH 0 c0 A B) := by
  have tL := tx.1
  have hp := m.2.1
  have eA : wi A 190 59 (gi A 190 57) = A := by rw [h57, ← h59]; exact wi_id A 190 59
  have r0 : RpH T L 0 c0 A A [] [] 0 p t := ⟨m, ⟨⟨by rw [h55]; simp, fun i hi => by simp at hi⟩, ⟨by rw [h57]; simp, trivial⟩, by rw [h58]; rfl, by rw [h59]; rfl, fun h => by omega⟩, frV_refl _ _ _ _ _ _ _ A, by simp; omega, by omega, fun w hw => by simp at hw⟩
  have e0 : runF (d + 7) 188 [vR 21 190 0] A = cV (go true 3 (runF (d + 5)) (runN (d + 5)) pb_X12_onePart (fu + 199) 2 [vR 21 190 0, vI 1, vU, vU, vU] [] A) (kNH d 0 (fu + 197)) := by
    rw [r_X12_sumsTold, q_X12_sumsTold_0, eA, h59, q_X12_sumsTold_13, q_X12_sumsTold_15, if_neg (by omega), if_pos m.2.2.1, r_X12_onePart, q_X12_onePart_0]
    rfl
  have S : ∀ Φ : RS → Prop, SimS L false (NpH d T L 0 c0 0 A Φ) (ApH d T L 0 c0 0 A Φ) (BdH 0 c0 0 A Φ) (sumG T L (partG T L false 6)) 0 := fun Φ => sim_sum tx (RlE_H d T L 0 c0 0 A Φ) (RlA_H d 0 c0 0 A Φ tx) (GP_partG tx false 6) (sim_part tx (RlN_H d 0 c0 0 A Φ tx) (RlE_H d T L 0 c0 0 A Φ) (RlA_H d 0 c0 0 A Φ tx) 6 (by omega))
  have w59 : ∀ B : AH, gi B 190 59 = 0 → wi B 190 59 0 = B := fun B hB => by rw [← hB]; exact wi_id B 190 59
  refine ⟨fun k s e hk => ?_, fun cs p' t' e => ?_⟩
  · have := (S (fun R => ∃ B, R = some (none, B) ∧ gi B 190 5 = k ∧ gi B 190 6 = s ∧ fVH 0 c0 A B) [] [] p t hp (by show ¬ ((1 ≤ (0 : Int) ∧ (0 : Int) ≤ 4) ∨ (0 : Int) = 60); omega)).2 k s e (by
      intro B b1 b2 _ b4
      have z : gi B 190 59 = 0 := (b4.1 190 59 (by omega) (by omega) (by omega)).trans h59
      rw [w59 B z]
      exact ⟨B, rfl, b1, b2, b4⟩) A (fu + 199) (fu + 197) vU vU vU r0 (by have := fu_ge; omega) (by have := fu_ge; omega)
    rw [e0]; exact this
  · have g := GP_sum tx (GP_partG tx false 6) p t cs p' t' hp e
    obtain ⟨j4, j3⟩ := sum_end tx (GP_partG tx false 6) hp e
    have := (S (fun R => ∃ B, R = some (none, B) ∧ MdS B T L p' t' ∧ gi B 190 55 = ((c0 + cs.length : Nat) : Int) ∧ (∀ i, i < cs.length → gi B 233 (c0 + i) = (cs.map (mcF false)).getD i 0) ∧ fVH 0 c0 A B) [] [] p t hp (by show ¬ ((1 ≤ (0 : Int) ∧ (0 : Int) ≤ 4) ∨ (0 : Int) = 60); omega)).1 cs p' t' e (by
      intro C' q e1 e2
      rw [List.append_nil]
      intro X n1 n2 rX hn1 hn2
      refine RlA_endH d 0 c0 0 A (fun R => ∃ B, R = some (none, B) ∧ MdS B T L p' t' ∧ gi B 190 55 = ((c0 + cs.length : Nat) : Int) ∧ (∀ i, i < cs.length → gi B 233 (c0 + i) = (cs.map (mcF false)).getD i 0) ∧ fVH 0 c0 A B) tx C' 0 p' t' q g.2.2 j4 j3 e2 (fun B rB => ?_) X n1 n2 rX hn1 (by omega)
      have e1' : cs.map (mcF false) = C' ++ q := by rw [← e1]; rfl
      obtain ⟨⟨z1, z2⟩, _, _, z4, _⟩ := rB.2.1
      rw [w59 B z4]
      refine ⟨B, rfl, rB.1, by rw [z1, ← e1', List.length_map], fun i hi => ?_, rB.2.2.1⟩
      rw [e1']
      exact z2 i (by rw [← e1', List.length_map]; exact hi)) A (fu + 199) (fu + 197) vU vU vU r0 (by have := fu_ge; omega) (by have := fu_ge; omega)
    rw [e0]; exact this
