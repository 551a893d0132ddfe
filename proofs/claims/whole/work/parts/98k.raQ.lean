/-! the reference's reading of sums: rules behind a part: Q -/
theorem RlA_closeQ (d : Nat) {T : Nat → Int} {L : Nat} (b c0 : Nat) (x1 : Int) (Ast : AH) (Φ : RS → Prop) (tx : TX T L) : ∀ W C o p t pend m, p ≤ L → sgn T L p t = 41 → (∀ x ∈ pend, 1 ≤ x ∧ x ≤ 4) → (m = 20 ∨ m = 23 ∨ m = 24) → EpQ d T L b c0 x1 Ast Φ W (C ++ pend ++ (if m = 20 then [] else if m = 23 then [5] else [6])) o (stp T L p) false → ApQ d T L b c0 x1 Ast Φ (pend ++ m :: W) C (o + 1) p t := by
  intro W C o p t pend m hp hs hpd hm hE A n1 n2 r hn1 hn2
  have hm2 : 20 ≤ m ∧ m ≤ 24 := by omega
  obtain ⟨n1, rfl⟩ : ∃ e, n1 = e + 20 := ⟨n1 - 20, by omega⟩
  have tL := tx.1
  have hl := r.2.2.2.1
  have ho6 := r.2.2.2.2
  have hbl := bl_le T L p
  have sLL := stp_L tx hp
  have eW : (pend ++ m :: W).length = pend.length + (W.length + 1) := by simp
  rw [eW] at hl
  obtain ⟨es, ek, _⟩ := sgn_stp hs (by decide)
  have lt := knd3 tx ek
  obtain ⟨k1, k2, k3⟩ := s_lookM (d + 4) A r.1
  have sA := StR_Z (by omega) k3 r.2.1
  have slm := s_lastQ (d + 3) (wi A 190 2 (bl T L p : Int)) (pend ++ m :: W) C (o + 1) sA (by omega)
  rw [lmF_p hm2 hpd] at slm
  have e43 : go true 2 (runF (d + 5)) (runN (d + 5)) pb_X12_qGoesOn (n1 + 20) 0 [vR 21 190 0, vU] [] A = go true 2 (runF (d + 5)) (runN (d + 5)) pb_X12_qGoesOn (n1 + 19) 43 [vR 21 190 0, vU] [] (wi A 190 2 (bl T L p : Int)) := by
    rw [q_X12_qGoesOn_0, if_pos r.1.2.2.1, k1, cI_v, if_pos ((ch41 tx (t := t) 41).mpr hs), slm, cI_v]
    by_cases z1 : m = 20
    · rw [if_pos z1]
    · rw [if_neg z1, slm, cI_v]
      by_cases z2 : m = 23
      · rw [if_pos z2]
      · rw [if_neg z2, slm, cI_v, if_pos (by omega)]
  have m2 : MdS (wi (wi A 190 2 (bl T L p : Int)) 190 2 ((bl T L p + 1 : Nat) : Int)) T L (bl T L p + 1) false := MdS_sg r.1 (frZ_wi _ (by omega) k3) (by simp -implicitDefEqProofs (disch := omega) only [gi_wi, ↓reduceIte, Int.reduceEq, cI_v, cL_v, cV_v, cR_v, wid, wid64, if_pos, if_neg, Nat.add_zero, if_true, if_false, and_self, and_true, true_and, and_false, false_and, or_true, true_or, or_false, false_or]; exact r.1.2.2.1) (by simp -implicitDefEqProofs (disch := omega) only [gi_wi, ↓reduceIte, Int.reduceEq, cI_v, cL_v, cV_v, cR_v, wid, wid64, if_pos, if_neg, Nat.add_zero, if_true, if_false, and_self, and_true, true_and, and_false, false_and, or_true, true_or, or_false, false_or]) (by simp -implicitDefEqProofs (disch := omega) only [gi_wi, ↓reduceIte, Int.reduceEq, cI_v, cL_v, cV_v, cR_v, wid, wid64, if_pos, if_neg, Nat.add_zero, if_true, if_false, and_self, and_true, true_and, and_false, false_and, or_true, true_or, or_false, false_or]) (by simp -implicitDefEqProofs (disch := omega) only [gi_wi, ↓reduceIte, Int.reduceEq, cI_v, cL_v, cV_v, cR_v, wid, wid64, if_pos, if_neg, Nat.add_zero, if_true, if_false, and_self, and_true, true_and, and_false, false_and, or_true, true_or, or_false, false_or]) lt
  have s2 := StR_Z (by omega) (frZ_wi (k := 2) ((bl T L p + 1 : Nat) : Int) (by omega) (frZ_refl _)) sA
  obtain ⟨B, b1, b2, b3, b4, b5⟩ := s_dtmQ (d + 2) W m hm2 (o + 1) pend C _ hpd s2 m2 (by omega)
  obtain ⟨⟨s1', s2'⟩, ⟨s3', s4'⟩, s5', s6', s7'⟩ := b2
  simp only [List.length_cons] at s3'
  have sD : STQ b c0 (wi (wi B 190 102 ((b + W.length : Nat) : Int)) 190 103 (o : Int)) W (C ++ pend) o := ⟨⟨by simp -implicitDefEqProofs (disch := omega) only [gi_wi, ↓reduceIte, Int.reduceEq, cI_v, cL_v, cV_v, cR_v, wid, wid64, if_pos, if_neg, Nat.add_zero, if_true, if_false, and_self, and_true, true_and, and_false, false_and, or_true, true_or, or_false, false_or]; exact s1', fun i hi => by simp -implicitDefEqProofs (disch := omega) only [gi_wi, ↓reduceIte, Int.reduceEq, cI_v, cL_v, cV_v, cR_v, wid, wid64, if_pos, if_neg, Nat.add_zero, if_true, if_false, and_self, and_true, true_and, and_false, false_and, or_true, true_or, or_false, false_or]; exact s2' i hi⟩, ⟨by simp -implicitDefEqProofs (disch := omega) only [gi_wi, ↓reduceIte, Int.reduceEq, cI_v, cL_v, cV_v, cR_v, wid, wid64, if_pos, if_neg, Nat.add_zero, if_true, if_false, and_self, and_true, true_and, and_false, false_and, or_true, true_or, or_false, false_or], stkR_fr (fun j _ _ => by simp -implicitDefEqProofs (disch := omega) only [gi_wi, ↓reduceIte, Int.reduceEq, cI_v, cL_v, cV_v, cR_v, wid, wid64, if_pos, if_neg, Nat.add_zero, if_true, if_false, and_self, and_true, true_and, and_false, false_and, or_true, true_or, or_false, false_or]) s4'.2⟩, by simp -implicitDefEqProofs (disch := omega) only [gi_wi, ↓reduceIte, Int.reduceEq, cI_v, cL_v, cV_v, cR_v, wid, wid64, if_pos, if_neg, Nat.add_zero, if_true, if_false, and_self, and_true, true_and, and_false, false_and, or_true, true_or, or_false, false_or], by simp -implicitDefEqProofs (disch := omega) only [gi_wi, ↓reduceIte, Int.reduceEq, cI_v, cL_v, cV_v, cR_v, wid, wid64, if_pos, if_neg, Nat.add_zero, if_true, if_false, and_self, and_true, true_and, and_false, false_and, or_true, true_or, or_false, false_or]; exact s6', fun hb => by simp -implicitDefEqProofs (disch := omega) only [gi_wi, ↓reduceIte, Int.reduceEq, cI_v, cL_v, cV_v, cR_v, wid, wid64, if_pos, if_neg, Nat.add_zero, if_true, if_false, and_self, and_true, true_and, and_false, false_and, or_true, true_or, or_false, false_or]; exact s7' hb⟩
  have mD : MdS (wi (wi B 190 102 ((b + W.length : Nat) : Int)) 190 103 (o : Int)) T L (bl T L p + 1) false := MdS_fr (by simp -implicitDefEqProofs (disch := omega) only [gi_wi, ↓reduceIte, Int.reduceEq, cI_v, cL_v, cV_v, cR_v, wid, wid64, if_pos, if_neg, Nat.add_zero, if_true, if_false, and_self, and_true, true_and, and_false, false_and, or_true, true_or, or_false, false_or]) (by simp -implicitDefEqProofs (disch := omega) only [gi_wi, ↓reduceIte, Int.reduceEq, cI_v, cL_v, cV_v, cR_v, wid, wid64, if_pos, if_neg, Nat.add_zero, if_true, if_false, and_self, and_true, true_and, and_false, false_and, or_true, true_or, or_false, false_or]) (by simp -implicitDefEqProofs (disch := omega) only [gi_wi, ↓reduceIte, Int.reduceEq, cI_v, cL_v, cV_v, cR_v, wid, wid64, if_pos, if_neg, Nat.add_zero, if_true, if_false, and_self, and_true, true_and, and_false, false_and, or_true, true_or, or_false, false_or]) (by simp -implicitDefEqProofs (disch := omega) only [gi_wi, ↓reduceIte, Int.reduceEq, cI_v, cL_v, cV_v, cR_v, wid, wid64, if_pos, if_neg, Nat.add_zero, if_true, if_false, and_self, and_true, true_and, and_false, false_and, or_true, true_or, or_false, false_or]) (by simp -implicitDefEqProofs (disch := omega) only [gi_wi, ↓reduceIte, Int.reduceEq, cI_v, cL_v, cV_v, cR_v, wid, wid64, if_pos, if_neg, Nat.add_zero, if_true, if_false, and_self, and_true, true_and, and_false, false_and, or_true, true_or, or_false, false_or]) (fun a j h1 h2 => by rw [gi_wi, if_neg (by omega), gi_wi, if_neg (by omega)]) b3
  have fD : fVQ b c0 A (wi (wi B 190 102 ((b + W.length : Nat) : Int)) 190 103 (o : Int)) := frV_i _ _ (by omega) (frV_i _ _ (by omega) (frV_trans (frZ_V (frZ_wi (k := 2) ((bl T L p + 1 : Nat) : Int) (by omega) k3)) b4))
  have g57 : gi (wi (wi B 190 102 ((b + W.length : Nat) : Int)) 190 103 (o : Int)) 190 102 = ((b + W.length : Nat) : Int) := by simp -implicitDefEqProofs (disch := omega) only [gi_wi, ↓reduceIte, Int.reduceEq, cI_v, cL_v, cV_v, cR_v, wid, wid64, if_pos, if_neg, Nat.add_zero, if_true, if_false, and_self, and_true, true_and, and_false, false_and, or_true, true_or, or_false, false_or]
  have gmk : gi (wi (wi B 190 102 ((b + W.length : Nat) : Int)) 190 103 (o : Int)) 268 (b + W.length) = m := by simp -implicitDefEqProofs (disch := omega) only [gi_wi, ↓reduceIte, Int.reduceEq, cI_v, cL_v, cV_v, cR_v, wid, wid64, if_pos, if_neg, Nat.add_zero, if_true, if_false, and_self, and_true, true_and, and_false, false_and, or_true, true_or, or_false, false_or]; exact s4'.1
  have e77 : go true 2 (runF (d + 5)) (runN (d + 5)) pb_X12_qGoesOn (n1 + 20) 0 [vR 21 190 0, vU] [] A = go true 2 (runF (d + 5)) (runN (d + 5)) pb_X12_qGoesOn (n1 + 16) 77 [vR 21 190 0, vU] [] (wi (wi B 190 102 ((b + W.length : Nat) : Int)) 190 103 (o : Int)) := by
    have x5 : gi (wi B 190 102 ((b + W.length : Nat) : Int)) 190 103 = ((o + 1 : Nat) : Int) := by simp -implicitDefEqProofs (disch := omega) only [gi_wi, ↓reduceIte, Int.reduceEq, cI_v, cL_v, cV_v, cR_v, wid, wid64, if_pos, if_neg, Nat.add_zero, if_true, if_false, and_self, and_true, true_and, and_false, false_and, or_true, true_or, or_false, false_or]; exact s5'
    rw [e43, q_X12_qGoesOn_43, k2.2, wid (by omega) (by omega), show (bl T L p : Int) + 1 = ((bl T L p + 1 : Nat) : Int) by omega, q_X12_qGoesOn_53, b1, cV_v, s3', wid (by omega) (by omega), show ((b + (W.length + 1) : Nat) : Int) - 1 = ((b + W.length : Nat) : Int) by omega, q_X12_qGoesOn_67, x5, wid (by omega) (by omega), show ((o + 1 : Nat) : Int) - 1 = (o : Int) by omega]
  rw [e77, q_X12_qGoesOn_77, g57, if_pos (by omega), Int.toNat_natCast, gmk]
  have eCp : (C ++ pend).length = C.length + pend.length := by simp
  by_cases z1 : m = 20
  · rw [if_pos z1]
    rw [if_pos z1, List.append_nil] at hE
    exact E_finQ hE _ (n1 + 14) n2 (Rp_oQ r fD (by rw [es]; exact mD) sD (by omega) (by omega) ) (by omega) (by omega)
  · rw [if_neg z1, if_pos (by omega)]
    rw [if_neg z1] at hE
    by_cases z2 : m = 23
    · rw [if_pos z2] at hE
      rw [if_pos z2, q_X12_qGoesOn_112]
      obtain ⟨F, f1, f2, f3, f4, f5⟩ := s_codeQ (d + 4) 5 _ W (C ++ pend) o sD mD (by omega)
      rw [f1, cV_v]
      exact E_finQ hE _ (n1 + 13) n2 (Rp_oQ r (frV_trans fD f4) (by rw [es]; exact f3) f2 (by simp; omega) (by omega) ) (by omega) (by omega)
    · rw [if_neg z2] at hE
      rw [if_neg z2, q_X12_qGoesOn_112]
      obtain ⟨F, f1, f2, f3, f4, f5⟩ := s_codeQ (d + 4) 6 _ W (C ++ pend) o sD mD (by omega)
      rw [f1, cV_v]
      exact E_finQ hE _ (n1 + 12) n2 (Rp_oQ r (frV_trans fD f4) (by rw [es]; exact f3) f2 (by simp; omega) (by omega) ) (by omega) (by omega)
theorem RlA_mulQ (d : Nat) {T : Nat → Int} {L : Nat} (b c0 : Nat) (x1 : Int) (Ast : AH) (Φ : RS → Prop) (tx : TX T L) : ∀ W C o p t pend op, p ≤ L → (sgn T L p t = 42 ∧ op = 3) ∨ (sgn T L p t = 47 ∧ op = 4) → (∀ x ∈ pend, x = 3 ∨ x = 4) → ¬ (hdI W = 3 ∨ hdI W = 4) → NpQ d T L b c0 x1 Ast Φ (op :: W) (C ++ pend) o (stp T L p) false → ApQ d T L b c0 x1 Ast Φ (pend ++ W) C o p t := by
  intro W C o p t pend op hp hs hpd hW hN A n1 n2 r hn1 hn2
  obtain ⟨n1, rfl⟩ : ∃ e, n1 = e + 20 := ⟨n1 - 20, by omega⟩
  obtain ⟨n2, rfl⟩ : ∃ e, n2 = e + 2 := ⟨n2 - 2, by omega⟩
  have tL := tx.1
  have hl := r.2.2.2.1
  have ho6 := r.2.2.2.2
  have hbl := bl_le T L p
  have sLL := stp_L tx hp
  have eW : (pend ++ W).length = pend.length + W.length := by simp
  rw [eW] at hl
  obtain ⟨c, hc, hcs, hc2⟩ : ∃ c, 0 ≤ c ∧ sgn T L p t = c ∧ (c = 42 ∧ op = 3 ∨ c = 47 ∧ op = 4) := by
    rcases hs with ⟨h1, h2⟩ | ⟨h1, h2⟩
    · exact ⟨42, by decide, h1, Or.inl ⟨rfl, h2⟩⟩
    · exact ⟨47, by decide, h1, Or.inr ⟨rfl, h2⟩⟩
  obtain ⟨es, ek, eT⟩ := sgn_stp hcs hc
  have h60 : op ≠ 60 := by rcases hc2 with ⟨_, y⟩ | ⟨_, y⟩ <;> rw [y] <;> decide
  have F1 : 20 * (6 - o) + 100 ≤ fu + 199 := by clear hs hc2; have := fu_ge; omega
  have F2 : 10 * (L - stp T L p) + 6000 ≤ n2 := by clear hs hc2; omega
  have lt := knd3 tx ek
  obtain ⟨k1, k2, k3⟩ := s_lookM (d + 4) A r.1
  have e118 := goesAQ d A (pend ++ W) C o (n1 + 19) r.1 r.2.1 (by omega) (fun y => by have := y.1; omega)
  obtain ⟨g1, g2⟩ := s_takesSign (d + 3) c _ k2.1 hc (by rcases hc2 with ⟨y, _⟩ | ⟨y, _⟩ <;> rw [y] <;> decide) (by rcases hc2 with ⟨y, _⟩ | ⟨y, _⟩ <;> rw [y] <;> decide)
  obtain ⟨B, b1, b2, b3, b4⟩ := g1 hcs
  have fB : frZ A B := frZ_trans k3 b3
  have sB := StR_Z (by omega) fB r.2.1
  have rd : gi B 191 (bl T L p) = c := by rw [fB.1 191 _ (by omega), r.1.1.2.1 _ (by omega)]; exact eT
  have e158 : ∃ n, 3 * pend.length + 10 ≤ n ∧ go true 2 (runF (d + 5)) (runN (d + 5)) pb_X12_qGoesOn (n1 + 20) 0 [vR 21 190 0, vU] [] A = go true 2 (runF (d + 5)) (runN (d + 5)) pb_X12_qGoesOn n 162 [vR 21 190 0, vI op] [] B := by
    have q136 : ∀ n v, (c = 42 ∧ v = 3 ∨ c = 47 ∧ v = 4) → 3 * pend.length + 10 ≤ n → ∃ n', 3 * pend.length + 10 ≤ n' ∧ go true 2 (runF (d + 5)) (runN (d + 5)) pb_X12_qGoesOn (n + 4) 140 [vR 21 190 0, vU] [] B = go true 2 (runF (d + 5)) (runN (d + 5)) pb_X12_qGoesOn n' 162 [vR 21 190 0, vI v] [] B := by
      intro n v hv hn
      have ew : w32 (gi B 190 2 - 1) = (bl T L p : Int) := by rw [b4, es, wid (by omega) (by omega)]; omega
      rw [q_X12_qGoesOn_140]
      simp only [ew]
      rw [if_pos (by omega), Int.toNat_natCast, rd]
      by_cases z : c = 42
      · rw [if_pos z, q_X12_qGoesOn_161, show v = 3 by omega]
        exact ⟨n + 2, by omega, rfl⟩
      · rw [if_neg z, show n + 2 + 0 = (n + 1) + 1 from rfl, q_X12_qGoesOn_161, show v = 4 by omega]
        exact ⟨n + 1, by omega, rfl⟩
    have g0 : ∀ c', c' = 42 ∨ c' = 47 → sgn T L p t ≠ c' → runF (d + 5) 159 [vR 21 190 0, vI c'] (wi A 190 2 (bl T L p : Int)) = some (some (vI 0), wi A 190 2 (bl T L p : Int)) := by
      intro c' h1 h2
      have := (s_takesSign (d + 3) c' _ k2.1 (by omega) (by rcases h1 with y | y <;> rw [y] <;> decide) (by rcases h1 with y | y <;> rw [y] <;> decide)).2 h2
      rw [wi_2] at this
      exact this
    rw [e118, show n1 + 19 = (n1 + 14) + 5 from rfl, q_X12_qGoesOn_122]
    by_cases z : c = 42
    · rw [← z, b1, cI_v, if_neg (by omega)]
      obtain ⟨n', h1, h2⟩ := q136 (n1 + 14) op hc2 (by omega)
      exact ⟨n', h1, h2⟩
    · rw [g0 42 (Or.inl rfl) (fun y => z (hcs.symm.trans y)), cI_v, if_pos rfl, show (47 : Int) = c by (rcases hc2 with ⟨q, _⟩ | ⟨q, _⟩; exact absurd q z; exact q.symm), b1, cI_v, if_neg (by omega)]
      obtain ⟨n', h1, h2⟩ := q136 (n1 + 14) op hc2 (by omega)
      exact ⟨n', h1, h2⟩
  obtain ⟨n, hn, e158⟩ := e158
  obtain ⟨D, d1, d2, d3, d4⟩ := l_mulQ d W op hW o pend C n B hpd sB b2 (by omega) hn
  rw [e158, d1, cI_v, kA1Q d x1 n2 D d3.2.2.1]
  refine hN D (fu + 199) n2 vU vU vU vU (Rp_oQ r (frV_trans (frZ_V fB) d4) d3 d2 (by clear hs hc2; simp; omega) ho6 ) F1 F2
theorem RlA_addQ (d : Nat) {T : Nat → Int} {L : Nat} (b c0 : Nat) (x1 : Int) (Ast : AH) (Φ : RS → Prop) (tx : TX T L) : ∀ W C o p t pend op, p ≤ L → (sgn T L p t = 43 ∧ op = 1) ∨ (sgn T L p t = 45 ∧ op = 2) → (∀ x ∈ pend, 1 ≤ x ∧ x ≤ 4) → ¬ (1 ≤ hdI W ∧ hdI W ≤ 4) → NpQ d T L b c0 x1 Ast Φ (op :: W) (C ++ pend) o (stp T L p) false → ApQ d T L b c0 x1 Ast Φ (pend ++ W) C o p t := by
  intro W C o p t pend op hp hs hpd hW hN A n1 n2 r hn1 hn2
  obtain ⟨n1, rfl⟩ : ∃ e, n1 = e + 20 := ⟨n1 - 20, by omega⟩
  obtain ⟨n2, rfl⟩ : ∃ e, n2 = e + 2 := ⟨n2 - 2, by omega⟩
  have tL := tx.1
  have hl := r.2.2.2.1
  have ho6 := r.2.2.2.2
  have hbl := bl_le T L p
  have sLL := stp_L tx hp
  have eW : (pend ++ W).length = pend.length + W.length := by simp
  rw [eW] at hl
  obtain ⟨c, hc, hcs, hc2⟩ : ∃ c, 0 ≤ c ∧ sgn T L p t = c ∧ (c = 43 ∧ op = 1 ∨ c = 45 ∧ op = 2) := by
    rcases hs with ⟨h1, h2⟩ | ⟨h1, h2⟩
    · exact ⟨43, by decide, h1, Or.inl ⟨rfl, h2⟩⟩
    · exact ⟨45, by decide, h1, Or.inr ⟨rfl, h2⟩⟩
  obtain ⟨es, ek, eT⟩ := sgn_stp hcs hc
  have h60 : op ≠ 60 := by rcases hc2 with ⟨_, y⟩ | ⟨_, y⟩ <;> rw [y] <;> decide
  have F1 : 20 * (6 - o) + 100 ≤ fu + 199 := by clear hs hc2; have := fu_ge; omega
  have F2 : 10 * (L - stp T L p) + 6000 ≤ n2 := by clear hs hc2; omega
  have lt := knd3 tx ek
  obtain ⟨k1, k2, k3⟩ := s_lookM (d + 4) A r.1
  have e118 := goesAQ d A (pend ++ W) C o (n1 + 19) r.1 r.2.1 (by omega) (fun y => by have := y.1; omega)
  obtain ⟨g1, g2⟩ := s_takesSign (d + 3) c _ k2.1 hc (by rcases hc2 with ⟨y, _⟩ | ⟨y, _⟩ <;> rw [y] <;> decide) (by rcases hc2 with ⟨y, _⟩ | ⟨y, _⟩ <;> rw [y] <;> decide)
  obtain ⟨B, b1, b2, b3, b4⟩ := g1 hcs
  have fB : frZ A B := frZ_trans k3 b3
  have sB := StR_Z (by omega) fB r.2.1
  have rd : gi B 191 (bl T L p) = c := by rw [fB.1 191 _ (by omega), r.1.1.2.1 _ (by omega)]; exact eT
  have e158 : ∃ n, 3 * pend.length + 10 ≤ n ∧ go true 2 (runF (d + 5)) (runN (d + 5)) pb_X12_qGoesOn (n1 + 20) 0 [vR 21 190 0, vU] [] A = go true 2 (runF (d + 5)) (runN (d + 5)) pb_X12_qGoesOn n 247 [vR 21 190 0, vI op] [] B := by
    have q136 : ∀ n v, (c = 43 ∧ v = 1 ∨ c = 45 ∧ v = 2) → 3 * pend.length + 10 ≤ n → ∃ n', 3 * pend.length + 10 ≤ n' ∧ go true 2 (runF (d + 5)) (runN (d + 5)) pb_X12_qGoesOn (n + 4) 225 [vR 21 190 0, vU] [] B = go true 2 (runF (d + 5)) (runN (d + 5)) pb_X12_qGoesOn n' 247 [vR 21 190 0, vI v] [] B := by
      intro n v hv hn
      have ew : w32 (gi B 190 2 - 1) = (bl T L p : Int) := by rw [b4, es, wid (by omega) (by omega)]; omega
      rw [q_X12_qGoesOn_225]
      simp only [ew]
      rw [if_pos (by omega), Int.toNat_natCast, rd]
      by_cases z : c = 43
      · rw [if_pos z, q_X12_qGoesOn_246, show v = 1 by omega]
        exact ⟨n + 2, by omega, rfl⟩
      · rw [if_neg z, show n + 2 + 0 = (n + 1) + 1 from rfl, q_X12_qGoesOn_246, show v = 2 by omega]
        exact ⟨n + 1, by omega, rfl⟩
    have g0 : ∀ c', c' = 42 ∨ c' = 47 ∨ c' = 43 → sgn T L p t ≠ c' → runF (d + 5) 159 [vR 21 190 0, vI c'] (wi A 190 2 (bl T L p : Int)) = some (some (vI 0), wi A 190 2 (bl T L p : Int)) := by
      intro c' h1 h2
      have := (s_takesSign (d + 3) c' _ k2.1 (by omega) (by rcases h1 with y | y | y <;> rw [y] <;> decide) (by rcases h1 with y | y | y <;> rw [y] <;> decide)).2 h2
      rw [wi_2] at this
      exact this
    rw [e118, show n1 + 19 = (n1 + 14) + 5 from rfl, q_X12_qGoesOn_122, g0 42 (Or.inl rfl) (fun y => by have := hcs.symm.trans y; rcases hc2 with ⟨q, _⟩ | ⟨q, _⟩ <;> rw [q] at this <;> exact absurd this (by decide)), cI_v, if_pos rfl, g0 47 (Or.inr (Or.inl rfl)) (fun y => by have := hcs.symm.trans y; rcases hc2 with ⟨q, _⟩ | ⟨q, _⟩ <;> rw [q] at this <;> exact absurd this (by decide)), cI_v, if_pos rfl]
    by_cases z : c = 43
    · rw [← z, b1, cI_v, if_neg (by omega)]
      obtain ⟨n', h1, h2⟩ := q136 (n1 + 13) op hc2 (by omega)
      exact ⟨n', h1, h2⟩
    · rw [g0 43 (Or.inr (Or.inr rfl)) (fun y => z (hcs.symm.trans y)), cI_v, if_pos rfl, show (45 : Int) = c by (rcases hc2 with ⟨q, _⟩ | ⟨q, _⟩; exact absurd q z; exact q.symm), b1, cI_v, if_neg (by omega)]
      obtain ⟨n', h1, h2⟩ := q136 (n1 + 13) op hc2 (by omega)
      exact ⟨n', h1, h2⟩
  obtain ⟨n, hn, e158⟩ := e158
  obtain ⟨D, d1, d2, d3, d4⟩ := l_addQ d W op hW o pend C n B hpd sB b2 (by omega) hn
  rw [e158, d1, cI_v, kA1Q d x1 n2 D d3.2.2.1]
  refine hN D (fu + 199) n2 vU vU vU vU (Rp_oQ r (frV_trans (frZ_V fB) d4) d3 d2 (by clear hs hc2; simp; omega) ho6 ) F1 F2
theorem goesRQ (d : Nat) {T : Nat → Int} {L p : Nat} {t : Bool} {b c0 : Nat} (A : AH) (W C : List Int) (o : Nat) (n : Nat) (m : MdS A T L p t) (s : STQ b c0 A W C o) (hW : b + W.length < 1600) (h : ¬ (sgn T L p t = 41 ∧ (lmF W = 20 ∨ lmF W = 23 ∨ lmF W = 24))) (h4 : jnF T L 4 p t = -1) (h3 : jnF T L 3 p t = -1) : go true 2 (runF (d + 5)) (runN (d + 5)) pb_X12_qGoesOn (n + 6) 0 [vR 21 190 0, vU] [] A = if lmF W = 21 ∨ lmF W = 22 then go true 2 (runF (d + 5)) (runN (d + 5)) pb_X12_qGoesOn (n + 2) 326 [vR 21 190 0, vU] [] (wi A 190 2 (bl T L p : Int)) else if lmF W = -1 then some (some (vI 0), wi A 190 2 (bl T L p : Int)) else some (some (vI 0), wi (wi (wi A 190 2 (bl T L p : Int)) 190 5 1) 190 6 (bl T L p : Int)) := by
  obtain ⟨k1, k2, k3⟩ := s_lookM (d + 4) A m
  have g0 := goesNQ (d + 3) _ k2 h4 h3
  have sl := s_lastQ (d + 3) (wi A 190 2 (bl T L p : Int)) W C o (StR_Z (by omega) k3 s) hW
  rw [show n + 6 = (n + 5) + 1 from rfl, goesAQ d A W C o (n + 5) m s hW h, q_X12_qGoesOn_122, g0 42 (by omega), cI_v, if_pos rfl, g0 47 (by omega), cI_v, if_pos rfl, g0 43 (by omega), cI_v, if_pos rfl, g0 45 (by omega), cI_v, if_pos rfl, sl, cI_v]
  by_cases z1 : lmF W = 21
  · rw [if_pos z1, if_pos (Or.inl z1)]
  · rw [if_neg z1, sl, cI_v]
    by_cases z2 : lmF W = 22
    · rw [if_pos z2, if_pos (Or.inr z2)]
    · rw [if_neg z2, sl, cI_v, if_neg (c := lmF W = 21 ∨ lmF W = 22) (by omega)]
      by_cases z3 : lmF W = -1
      · rw [if_pos z3, if_pos z3]
      · rw [if_neg z3, if_neg z3, if_pos k2.1.2.2.1, s_failM _ _ _ _ k2.1.2.2.1, cV_v, k2.2]
theorem RlA_commaQ (d : Nat) {T : Nat → Int} {L : Nat} (b c0 : Nat) (x1 : Int) (Ast : AH) (Φ : RS → Prop) (tx : TX T L) : ∀ W C o p t pend m, p ≤ L → sgn T L p t = 44 → (∀ x ∈ pend, 1 ≤ x ∧ x ≤ 4) → (m = 21 ∨ m = 22) → NpQ d T L b c0 x1 Ast Φ ((m + 2) :: W) (C ++ pend) o (stp T L p) false → ApQ d T L b c0 x1 Ast Φ (pend ++ m :: W) C o p t := by
  intro W C o p t pend m hp hs hpd hm hN A n1 n2 r hn1 hn2
  have hm2 : 20 ≤ m ∧ m ≤ 24 := by omega
  have h60 : m + 2 ≠ 60 := by omega
  obtain ⟨n1, rfl⟩ : ∃ e, n1 = e + 8 := ⟨n1 - 8, by omega⟩
  obtain ⟨n2, rfl⟩ : ∃ e, n2 = e + 2 := ⟨n2 - 2, by omega⟩
  have tL := tx.1
  have hl := r.2.2.2.1
  have ho6 := r.2.2.2.2
  have hbl := bl_le T L p
  have sLL := stp_L tx hp
  have eW : (pend ++ m :: W).length = pend.length + (W.length + 1) := by simp
  rw [eW] at hl
  have b1' := sgn_1 hs (by decide) tx
  obtain ⟨j4, j3⟩ := sgn_jn (Or.inl hs)
  obtain ⟨k1, k2, k3⟩ := s_lookM (d + 4) A r.1
  have lm := lmF_p (W := W) hm2 hpd
  rw [show n1 + 8 = (n1 + 2) + 6 from rfl, goesRQ d A (pend ++ m :: W) C o (n1 + 2) r.1 r.2.1 (by omega) (fun y => by have := y.1; omega) j4 j3, lm, if_pos (by omega), q_X12_qGoesOn_326]
  have ka := s_asksSign (d + 2) 44 _ k2.1 (by decide) (by decide) (by decide)
  rw [show tkS T L p t 44 = .ok (stp T L p, false) by unfold tkS; rw [if_pos hs]] at ka
  obtain ⟨B, c1, c2, c3⟩ := ka
  have fB : frZ A B := frZ_trans k3 c3
  have sB := StR_Z (by omega) fB r.2.1
  obtain ⟨D, d1, d2, d3, d4, d5⟩ := s_dtmQ (d + 2) W m hm2 o pend C _ hpd sB c2 (by omega)
  obtain ⟨⟨s1', s2'⟩, ⟨s3', s4'⟩, s5', s6', s7'⟩ := d2
  simp only [List.length_cons] at s3'
  have ew : w32 (gi D 190 102 - 1) = ((b + W.length : Nat) : Int) := by rw [s3', wid (by omega) (by omega)]; omega
  have sF : STQ b c0 (wi D 268 (b + W.length) (m + 2)) ((m + 2) :: W) (C ++ pend) o := ⟨⟨by simp -implicitDefEqProofs (disch := omega) only [gi_wi, ↓reduceIte, Int.reduceEq, cI_v, cL_v, cV_v, cR_v, wid, wid64, if_pos, if_neg, Nat.add_zero, if_true, if_false, and_self, and_true, true_and, and_false, false_and, or_true, true_or, or_false, false_or]; exact s1', fun i hi => by simp -implicitDefEqProofs (disch := omega) only [gi_wi, ↓reduceIte, Int.reduceEq, cI_v, cL_v, cV_v, cR_v, wid, wid64, if_pos, if_neg, Nat.add_zero, if_true, if_false, and_self, and_true, true_and, and_false, false_and, or_true, true_or, or_false, false_or]; exact s2' i hi⟩, ⟨by simp -implicitDefEqProofs (disch := omega) only [gi_wi, ↓reduceIte, Int.reduceEq, cI_v, cL_v, cV_v, cR_v, wid, wid64, if_pos, if_neg, Nat.add_zero, if_true, if_false, and_self, and_true, true_and, and_false, false_and, or_true, true_or, or_false, false_or]; rw [s3']; simp, ⟨by simp -implicitDefEqProofs (disch := omega) only [gi_wi, ↓reduceIte, Int.reduceEq, cI_v, cL_v, cV_v, cR_v, wid, wid64, if_pos, if_neg, Nat.add_zero, if_true, if_false, and_self, and_true, true_and, and_false, false_and, or_true, true_or, or_false, false_or], stkR_fr (fun j _ _ => by simp -implicitDefEqProofs (disch := omega) only [gi_wi, ↓reduceIte, Int.reduceEq, cI_v, cL_v, cV_v, cR_v, wid, wid64, if_pos, if_neg, Nat.add_zero, if_true, if_false, and_self, and_true, true_and, and_false, false_and, or_true, true_or, or_false, false_or]) s4'.2⟩⟩, by simp -implicitDefEqProofs (disch := omega) only [gi_wi, ↓reduceIte, Int.reduceEq, cI_v, cL_v, cV_v, cR_v, wid, wid64, if_pos, if_neg, Nat.add_zero, if_true, if_false, and_self, and_true, true_and, and_false, false_and, or_true, true_or, or_false, false_or]; exact s5', by simp -implicitDefEqProofs (disch := omega) only [gi_wi, ↓reduceIte, Int.reduceEq, cI_v, cL_v, cV_v, cR_v, wid, wid64, if_pos, if_neg, Nat.add_zero, if_true, if_false, and_self, and_true, true_and, and_false, false_and, or_true, true_or, or_false, false_or]; exact s6', fun hb => by simp -implicitDefEqProofs (disch := omega) only [gi_wi, ↓reduceIte, Int.reduceEq, cI_v, cL_v, cV_v, cR_v, wid, wid64, if_pos, if_neg, Nat.add_zero, if_true, if_false, and_self, and_true, true_and, and_false, false_and, or_true, true_or, or_false, false_or]; exact s7' hb⟩
  have mF : MdS (wi D 268 (b + W.length) (m + 2)) T L (stp T L p) false := MdS_fr (by simp -implicitDefEqProofs (disch := omega) only [gi_wi, ↓reduceIte, Int.reduceEq, cI_v, cL_v, cV_v, cR_v, wid, wid64, if_pos, if_neg, Nat.add_zero, if_true, if_false, and_self, and_true, true_and, and_false, false_and, or_true, true_or, or_false, false_or]) (by simp -implicitDefEqProofs (disch := omega) only [gi_wi, ↓reduceIte, Int.reduceEq, cI_v, cL_v, cV_v, cR_v, wid, wid64, if_pos, if_neg, Nat.add_zero, if_true, if_false, and_self, and_true, true_and, and_false, false_and, or_true, true_or, or_false, false_or]) (by simp -implicitDefEqProofs (disch := omega) only [gi_wi, ↓reduceIte, Int.reduceEq, cI_v, cL_v, cV_v, cR_v, wid, wid64, if_pos, if_neg, Nat.add_zero, if_true, if_false, and_self, and_true, true_and, and_false, false_and, or_true, true_or, or_false, false_or]) (by simp -implicitDefEqProofs (disch := omega) only [gi_wi, ↓reduceIte, Int.reduceEq, cI_v, cL_v, cV_v, cR_v, wid, wid64, if_pos, if_neg, Nat.add_zero, if_true, if_false, and_self, and_true, true_and, and_false, false_and, or_true, true_or, or_false, false_or]) (by simp -implicitDefEqProofs (disch := omega) only [gi_wi, ↓reduceIte, Int.reduceEq, cI_v, cL_v, cV_v, cR_v, wid, wid64, if_pos, if_neg, Nat.add_zero, if_true, if_false, and_self, and_true, true_and, and_false, false_and, or_true, true_or, or_false, false_or]) (fun a j h1 h2 => by rw [gi_wi, if_neg (by omega)]) d3
  have fF : fVQ b c0 A (wi D 268 (b + W.length) (m + 2)) := frV_w _ _ (by omega) (frV_trans (frZ_V fB) d4)
  rw [c1, cV_v, if_pos c2.2.2.1, d1, cV_v]
  simp only [ew]
  rw [if_pos (by omega), if_pos (by omega), Int.toNat_natCast, s4'.1, wid (by omega) (by omega), q_X12_qGoesOn_360, cI_v, kA1Q d x1 n2 _ mF.2.2.1]
  exact hN _ (fu + 199) n2 vU vU vU vU (Rp_oQ r fF mF sF (by simp; omega) (by omega) ) (by have := fu_ge; omega) (by omega)
theorem RlA_commaBQ (d : Nat) {T : Nat → Int} {L : Nat} (b c0 : Nat) (x1 : Int) (Ast : AH) (Φ : RS → Prop) (tx : TX T L) : ∀ W C o p t pend m, p ≤ L → jnF T L 4 p t = -1 → jnF T L 3 p t = -1 → sgn T L p t ≠ 44 → (∀ x ∈ pend, 1 ≤ x ∧ x ≤ 4) → (m = 21 ∨ m = 22) → BdQ b c0 x1 Ast Φ 1 (bl T L p) → ApQ d T L b c0 x1 Ast Φ (pend ++ m :: W) C o p t := by
  intro W C o p t pend m hp j4 j3 hs hpd hm hB A n1 n2 r hn1 hn2
  have hm2 : 20 ≤ m ∧ m ≤ 24 := by omega
  obtain ⟨n1, rfl⟩ : ∃ e, n1 = e + 6 := ⟨n1 - 6, by omega⟩
  have tL := tx.1
  have hl := r.2.2.2.1
  have ho6 := r.2.2.2.2
  have hbl := bl_le T L p
  have sLL := stp_L tx hp
  have eW : (pend ++ m :: W).length = pend.length + (W.length + 1) := by simp
  rw [eW] at hl
  obtain ⟨k1, k2, k3⟩ := s_lookM (d + 4) A r.1
  have lm := lmF_p (W := W) hm2 hpd
  have pp : b + (pend ++ m :: W).length < 1600 := by omega
  · rw [goesRQ d A (pend ++ m :: W) C o n1 r.1 r.2.1 pp (fun y => by have := y.2; omega) j4 j3, lm, if_pos (by omega), q_X12_qGoesOn_326]
    have ka := s_asksSign (d + 2) 44 _ k2.1 (by decide) (by decide) (by decide)
    rw [show tkS T L p t 44 = .error (1, bl T L p) by unfold tkS; rw [if_neg hs]] at ka
    obtain ⟨B, c1, c2⟩ := ka
    rw [c1, cV_v, if_neg (by rw [c2.1]; omega), cI_v]
    exact (A_badQ (d := d) hB r B (frV_trans (frZ_V k3) (frZ_V c2.2.2.2)) c2.1 c2.2.1 c2.2.2.1 (cdQ (frZ_trans k3 c2.2.2.2) r) n2 (by omega)).1
theorem RlA_markBQ (d : Nat) {T : Nat → Int} {L : Nat} (b c0 : Nat) (x1 : Int) (Ast : AH) (Φ : RS → Prop) (tx : TX T L) : ∀ W C o p t pend m, p ≤ L → jnF T L 4 p t = -1 → jnF T L 3 p t = -1 → sgn T L p t ≠ 41 → (∀ x ∈ pend, 1 ≤ x ∧ x ≤ 4) → (m = 20 ∨ m = 23 ∨ m = 24) → BdQ b c0 x1 Ast Φ 1 (bl T L p) → ApQ d T L b c0 x1 Ast Φ (pend ++ m :: W) C o p t := by
  intro W C o p t pend m hp j4 j3 hs hpd hm hB A n1 n2 r hn1 hn2
  have hm2 : 20 ≤ m ∧ m ≤ 24 := by omega
  obtain ⟨n1, rfl⟩ : ∃ e, n1 = e + 6 := ⟨n1 - 6, by omega⟩
  have tL := tx.1
  have hl := r.2.2.2.1
  have ho6 := r.2.2.2.2
  have hbl := bl_le T L p
  have sLL := stp_L tx hp
  have eW : (pend ++ m :: W).length = pend.length + (W.length + 1) := by simp
  rw [eW] at hl
  obtain ⟨k1, k2, k3⟩ := s_lookM (d + 4) A r.1
  have lm := lmF_p (W := W) hm2 hpd
  rw [goesRQ d A (pend ++ m :: W) C o n1 r.1 r.2.1 (by omega) (fun y => hs y.1) j4 j3, lm, if_neg (by omega), if_neg (by omega), cI_v]
  exact (A_badQ (d := d) hB r _ (frV_i _ _ (by omega) (frV_i _ _ (by omega) (frZ_V k3))) (by simp -implicitDefEqProofs (disch := omega) only [gi_wi, ↓reduceIte, Int.reduceEq, cI_v, cL_v, cV_v, cR_v, wid, wid64, if_pos, if_neg, Nat.add_zero, if_true, if_false, and_self, and_true, true_and, and_false, false_and, or_true, true_or, or_false, false_or]) (by simp -implicitDefEqProofs (disch := omega) only [gi_wi, ↓reduceIte, Int.reduceEq, cI_v, cL_v, cV_v, cR_v, wid, wid64, if_pos, if_neg, Nat.add_zero, if_true, if_false, and_self, and_true, true_and, and_false, false_and, or_true, true_or, or_false, false_or]) (by omega) (cdQ (frZ_wi _ (by omega) (frZ_wi _ (by omega) k3)) r) n2 (by omega)).1
theorem RlA_Q (d : Nat) {T : Nat → Int} {L : Nat} (b c0 : Nat) (x1 : Int) (Ast : AH) (Φ : RS → Prop) (tx : TX T L) : RlA T L (NpQ d T L b c0 x1 Ast Φ) (EpQ d T L b c0 x1 Ast Φ) (ApQ d T L b c0 x1 Ast Φ) (BdQ b c0 x1 Ast Φ) := ⟨RlA_closeQ d b c0 x1 Ast Φ tx, RlA_mulQ d b c0 x1 Ast Φ tx, RlA_addQ d b c0 x1 Ast Φ tx, RlA_commaQ d b c0 x1 Ast Φ tx, RlA_commaBQ d b c0 x1 Ast Φ tx, RlA_markBQ d b c0 x1 Ast Φ tx⟩
def FnQ (T : Nat → Int) (L b c0 : Nat) (x1 : Int) (Ast : AH) (Φ : RS → Prop) (C : List Int) (o p : Nat) (t : Bool) : Prop := ∀ B, RpQ T L b c0 Ast B [] C o p t → Φ (some (none, wi B 190 104 x1))
set_option maxRecDepth 100000 in
theorem l_endQ (d : Nat) {T : Nat → Int} {L p : Nat} {t : Bool} {b c0 : Nat} {x1 x2 : Int} (o : Nat) : ∀ (pend C : List Int) (n : Nat) (A : AH), STQ b c0 A pend C o → MdS A T L p t → c0 + C.length + (b + pend.length) ≤ 1600 → 3 * pend.length + 10 ≤ n → ∃ B, go true 3 (runF (d + 6)) (runN (d + 6)) pb_X12_qSums n 53 [vR 21 190 0, vI x1, vI x2] [] A = some (none, wi B 190 104 x1) ∧ STQ b c0 B [] (C ++ pend) o ∧ MdS B T L p t ∧ fVQ b c0 A B
  | [], C, n, A, s, m, hC, hn => by
    obtain ⟨n, rfl⟩ : ∃ e, n = e + 10 := ⟨n - 10, by omega⟩
    have s' := s
    obtain ⟨_, ⟨s3, s4⟩, _, s6, _⟩ := s
    simp only [List.length_nil, Nat.add_zero] at s3
    refine ⟨A, ?_, by rw [List.append_nil]; exact s', m, frV_refl _ _ _ _ _ _ _ A⟩
    rw [q_X12_qSums_53, if_pos m.2.2.1, s6, s3, if_neg (by omega), q_X12_qSums_78]
  | x :: pend, C, n, A, s, m, hC, hn => by
    simp only [List.length_cons] at hC hn
    obtain ⟨n, rfl⟩ : ∃ e, n = e + 10 := ⟨n - 10, by omega⟩
    obtain ⟨B, b1, b2, b3, b4, b5⟩ := s_dropsQ (d := d + 4) x A pend C o s m (by omega) (by omega)
    obtain ⟨D, d1, d2, d3, d4⟩ := l_endQ d (x1 := x1) (x2 := x2) o pend (C ++ [x]) (n + 9) B b2 b3 (by simp; omega) (by omega)
    obtain ⟨_, ⟨s3, s4⟩, _, s6, _⟩ := s
    simp only [List.length_cons] at s3
    refine ⟨D, ?_, by rw [show C ++ x :: pend = C ++ [x] ++ pend by simp]; exact d2, d3, frV_trans b4 d4⟩
    rw [q_X12_qSums_53, if_pos m.2.2.1, s6, s3, if_pos (by omega), b1, cV_v]
    exact d1
theorem RlA_endQ (d : Nat) {T : Nat → Int} {L : Nat} (b c0 : Nat) (x1 : Int) (Ast : AH) (Φ : RS → Prop) (tx : TX T L) (C : List Int) (o p : Nat) (t : Bool) (pend : List Int) (hp : p ≤ L) (j4 : jnF T L 4 p t = -1) (j3 : jnF T L 3 p t = -1) (hpd : ∀ x ∈ pend, 1 ≤ x ∧ x ≤ 4) (hF : FnQ T L b c0 x1 Ast Φ (C ++ pend) o p t) : ∀ (A : AH) (n1 n2 : Nat), RpQ T L b c0 Ast A pend C o p t → 20 * o + 6000 ≤ n1 → 5010 ≤ n2 → Φ (cI (go true 2 (runF (d + 5)) (runN (d + 5)) pb_X12_qGoesOn n1 0 [vR 21 190 0, vU] [] A) (kAQ d x1 n2)) := by
  intro A n1 n2 r hn1 hn2
  obtain ⟨n1, rfl⟩ : ∃ e, n1 = e + 6 := ⟨n1 - 6, by omega⟩
  obtain ⟨n2, rfl⟩ : ∃ e, n2 = e + 10 := ⟨n2 - 10, by omega⟩
  have tL := tx.1
  have hl := r.2.2.2.1
  have ho6 := r.2.2.2.2
  have hbl := bl_le T L p
  have sLL := stp_L tx hp
  obtain ⟨k1, k2, k3⟩ := s_lookM (d + 4) A r.1
  have lm := lmF_n hpd
  have pp : b + pend.length < 1600 := by omega
  · rw [goesRQ d A pend C o n1 r.1 r.2.1 pp (fun y => by have := y.2; omega) j4 j3, lm, if_neg (by omega), if_pos rfl, cI_v]
    obtain ⟨B, b1, b2, b3, b4⟩ := l_endQ d (x1 := x1) (x2 := 0) o pend C (n2 + 7) (wi A 190 2 (bl T L p : Int)) (StR_Z (by omega) k3 r.2.1) k2.1 (by omega) (by omega)
    unfold kAQ
    rw [if_pos rfl, q_X12_qSums_48, q_X12_qSums_49, q_X12_qSums_15, if_pos rfl, Nat.add_zero (n2 + 7), b1]
    exact hF B (Rp_oQ r (frV_trans (frZ_V k3) b4) b3 b2 (by simp; omega) (by omega) )
