/-! the text of a hall: the class reads a noise, a hatred -/
def noiG (T : Nat → Int) (L : Nat) (H : Nat → Nat → Int) (p : Nat) (t : Bool) : HG := match tellG T L p t 9 0 99 with
  | .error e => .error e
  | .ok (x, _, p1, t1) => match tellG T L p1 t1 13 0 (nSe H - 1) with
    | .error e => .error e
    | .ok (y, _, p2, t2) => match tellG T L p2 t2 14 1 9 with
      | .error e => .error e
      | .ok (z, _, p3, t3) => .ok (noiH H (nNo H).toNat x y z, p3, t3)
set_option maxRecDepth 100000 in
theorem s_soundC (d : Nat) {T : Nat → Int} {L p : Nat} {t : Bool} {h : Nat} {H : Nat → Nat → Int} (A : AH) (hc : cok H) (s : HS A h H) (r : RdS A T L p t) (h8 : nNo H < 6) : SCR T L h A (runF (d + 5) 64 [vR 14 46 0] A) (noiG T L H p t) := by
  have h271 := s.2.2.2.1
  have h46 := s.2.2.1
  have hc' := hc
  unfold cok at hc'
  obtain ⟨K, hK⟩ : ∃ K : Nat, nNo H = K := ⟨(nNo H).toNat, by omega⟩
  have g2 : gi A h 4 = K := by rw [s.1.2.1.2.2.2.1, hK]
  obtain ⟨w1, w2⟩ := s_tells d 9 (by decide) 0 99 0 (by decide) A r
  rw [show ((0 : Nat) : Int) = 0 from rfl] at w1 w2
  unfold noiG
  cases hG : tellG T L p t 9 0 99 with
  | error y =>
    obtain ⟨k0, s0⟩ := y
    obtain ⟨D, d1, d2, d3, d4⟩ := w1 k0 s0 hG
    refine ⟨(fun k l q => ?_), (fun H' p' t' q => by cases q)⟩
    injection q with q; injection q with q1 q2
    subst q1 q2
    refine ⟨D, ?_, d2, d3, frO_U d4, d4.2.2⟩
    rw [r_X4_sound, q_X4_sound_0, d1, cI_v, if_pos rfl]
  | ok y =>
    obtain ⟨x, pl1, p1, t1⟩ := y
    obtain ⟨D, d1, d2, d3, d4, d5, d6, d7⟩ := w2 x pl1 p1 t1 hG
    have D46 : gr D 46 3 = h := by rw [d7.2.1 46 3 (by omega)]; exact h46
    have eN : w32 (gi D h 1 - 1) = nSe H - 1 := by rw [d7.1 h 1 (by omega) (by omega), s.1.2.1.1, wid (by omega) (by omega)]
    obtain ⟨x1, x2⟩ := s_tells d 13 (by decide) 0 (nSe H - 1) 1 (by decide) D d2
    rw [show ((1 : Nat) : Int) = 1 from rfl] at x1 x2
    simp only
    cases hG2 : tellG T L p1 t1 13 0 (nSe H - 1) with
    | error y =>
      obtain ⟨k0, s0⟩ := y
      obtain ⟨E, a1, a2, a3, a4⟩ := x1 k0 s0 hG2
      refine ⟨(fun k l q => ?_), (fun H' p' t' q => by cases q)⟩
      injection q with q; injection q with q1 q2
      subst q1 q2
      refine ⟨E, ?_, a2, a3, frU_trans (frO_U d7) (frO_U a4), a4.2.2.trans d7.2.2⟩
      rw [r_X4_sound, q_X4_sound_0, d1, cI_v, if_neg (by omega), D46, if_neg (by omega), eN, a1, cI_v, if_pos rfl]
    | ok y =>
      obtain ⟨y, pl2, p2, t2⟩ := y
      obtain ⟨E, a1, a2, a3, a4, a5, a6, a7⟩ := x2 y pl2 p2 t2 hG2
      obtain ⟨y1, y2⟩ := s_tells d 14 (by decide) 1 9 2 (by decide) E a2
      rw [show ((2 : Nat) : Int) = 2 from rfl] at y1 y2
      simp only
      cases hG3 : tellG T L p2 t2 14 1 9 with
      | error z =>
        obtain ⟨k0, s0⟩ := z
        obtain ⟨F, f1, f2, f3, f4⟩ := y1 k0 s0 hG3
        refine ⟨(fun k l q => ?_), (fun H' p' t' q => by cases q)⟩
        injection q with q; injection q with q1 q2
        subst q1 q2
        refine ⟨F, ?_, f2, f3, frU_trans (frO_U d7) (frU_trans (frO_U a7) (frO_U f4)), f4.2.2.trans (a7.2.2.trans d7.2.2)⟩
        rw [r_X4_sound, q_X4_sound_0, d1, cI_v, if_neg (by omega), D46, if_neg (by omega), eN, a1, cI_v, if_neg (by omega), f1, cI_v, if_pos rfl]
      | ok z =>
        obtain ⟨z, pl3, p3, t3⟩ := z
        obtain ⟨J, j1, j2, j3, j4, j5, j6, j7⟩ := y2 z pl3 p3 t3 hG3
        have oJ : frO A J := frO_trans d7 (frO_trans a7 j7)
        have K0 : gi J 47 0 = x := by rw [j4 0 (by omega), a4 0 (by omega)]; exact d3
        have K1 : gi J 47 1 = y := by rw [j4 1 (by omega)]; exact a3
        have J46 : gr J 46 3 = h := by rw [oJ.2.1 46 3 (by omega)]; exact h46
        have gK : gi J h 4 = K := by rw [oJ.1 h 4 (by omega) (by omega)]; exact g2
        have eW : w32 (3 * gi J h 4) = ((3 * K : Nat) : Int) := by rw [gK, wid (by omega) (by omega)]; omega
        have eK : (nNo H).toNat = K := by omega
        rw [eK]
        refine ⟨(fun k l q => by cases q), (fun H' p' t' q => ?_)⟩
        injection q with q; injection q with q1 q2; injection q2 with q2 q3
        subst q1 q2 q3
        have c46 : gr (cpa J 47 0 (h + 8) (3 * K) 3) 46 3 = h := J46
        have c4 : gi (cpa J 47 0 (h + 8) (3 * K) 3) h 4 = K := by rw [gi_cpa, if_neg (by omega)]; exact gK
        refine ⟨wi (cpa J 47 0 (h + 8) (3 * K) 3) h 4 ((K + 1 : Nat) : Int), ?_, RdS_fr (A := J) (fun j => by rw [gi_wi, if_neg (by omega), gi_cpa, if_neg (by omega)]) (fun j => by rw [gi_wi, if_neg (by omega), gi_cpa, if_neg (by omega)]) (fun _ => rfl) rfl j2, ?_, ⟨?_, ?_⟩, ?_, ?_, oJ.2.2, oJ.2.1⟩
        · rw [r_X4_sound, q_X4_sound_0, d1, cI_v, if_neg (by omega), D46, if_neg (by omega), eN, a1, cI_v, if_neg (by omega), j1, cI_v, if_neg (by omega), q_X4_sound_51, J46]
          simp only [eW]
          rw [if_neg (by omega), if_neg (by omega), if_neg (by omega), if_pos (by omega), Int.toNat_natCast, c46, if_neg (by omega), if_neg (by omega), c4, wid (by omega) (by omega), q_X4_sound_89, show (K : Int) + 1 = ((K + 1 : Nat) : Int) by omega]
        · refine HS_noi hc s K x y z hK (by omega) (fun a j q0 q1 q2 q3 q4 => ?_) (fun a j q => oJ.2.1 a j q) oJ.2.2 ?_ ?_ ?_ ?_
          · rw [gi_wi, if_neg q4, gi_cpa, if_neg (by omega)]
            exact oJ.1 a j (by omega) (by omega)
          · rw [gi_wi, if_neg (by omega), gi_cpa, if_pos (by omega), show 0 + (3 * K - 3 * K) = 0 by omega]; exact K0
          · rw [gi_wi, if_neg (by omega), gi_cpa, if_pos (by omega), show 0 + (3 * K + 1 - 3 * K) = 1 by omega]; exact K1
          · rw [gi_wi, if_neg (by omega), gi_cpa, if_pos (by omega), show 0 + (3 * K + 2 - 3 * K) = 2 by omega]; exact j3
          · rw [gi_wi, if_pos ⟨rfl, rfl⟩]
        · rw [gi_wi, if_neg (by omega), gi_cpa, if_neg (by omega), j6.1, a6.1, d6.1]
        · rw [gi_wi, if_neg (by omega), gi_cpa, if_neg (by omega), j6.2, a6.2, d6.2]
        · rw [gi_wi, if_neg (by omega), gi_cpa, if_neg (by omega)]; exact oJ.1 h 0 (by omega) (by omega)
        · exact frU_wi _ _ _ (by omega) (frU_trans (frO_U oJ) ⟨fun a j q _ _ _ _ => by rw [gi_cpa, if_neg (by omega)], fun _ _ _ _ => rfl, fun _ _ => rfl⟩)
noncomputable def hatG (T : Nat → Int) (L : Nat) (H : Nat → Nat → Int) (p : Nat) (t : Bool) : HG := match tkA T L p t with
  | .error e => .error e
  | .ok (p1, t1) => if fnd H (nameV T L p) = -1 ∨ 16 ≤ fnd H (nameV T L p) then .error (3, bl T L p) else match tkA T L p1 t1 with
    | .error e => .error e
    | .ok (p2, t2) => if fnd H (nameV T L p1) = -1 ∨ 16 ≤ fnd H (nameV T L p1) ∨ fnd H (nameV T L p1) = fnd H (nameV T L p) ∨ band (bshr (H 230 (16 + fnd H (nameV T L p)).toNat) (fnd H (nameV T L p1))) 1 ≠ 0 then .error (3, bl T L p1) else .ok (hatH H (fnd H (nameV T L p)).toNat (nHa H).toNat (bor (H 230 (16 + fnd H (nameV T L p)).toNat) (bshl 1 (fnd H (nameV T L p1)))), p2, t2)
theorem fnd_rng {H : Nat → Nat → Int} (hc : cok H) (v : Int) : -1 ≤ fnd H v ∧ fnd H v < 20 := by
  unfold cok at hc
  have r1 := ff_rng (p := fun k => decide (H 225 (24 + k).toNat = v)) (nPe H).toNat 0
  have r2 := ff_rng (p := fun k => decide (H 225 (32 + k).toNat = v)) (nMu H).toNat 0
  have r3 := ff_rng (p := fun k => decide (H 225 (40 + k).toNat = v)) (nPo H).toNat 0
  unfold fnd fnP fnM fnO
  generalize ff (fun k => decide (H 225 (24 + k).toNat = v)) (nPe H).toNat 0 = y1 at *
  generalize ff (fun k => decide (H 225 (32 + k).toNat = v)) (nMu H).toNat 0 = y2 at *
  generalize ff (fun k => decide (H 225 (40 + k).toNat = v)) (nPo H).toNat 0 = y3 at *
  by_cases c1 : y1 = -1
  · rw [if_neg (c := y1 ≠ -1) (by omega)]
    by_cases c2 : y2 = -1
    · rw [if_neg (c := y2 ≠ -1) (by omega)]
      by_cases c3 : y3 = -1
      · rw [if_neg (by omega)]; omega
      · rw [if_pos (by omega)]; omega
    · rw [if_pos (c := y2 ≠ -1) (by omega)]; omega
  · rw [if_pos (c := y1 ≠ -1) (by omega)]; omega
set_option maxRecDepth 100000 in
theorem s_hatredC (d : Nat) {T : Nat → Int} {L p : Nat} {t : Bool} {h : Nat} {H : Nat → Nat → Int} (A : AH) (hc : cok H) (s : HS A h H) (r : RdS A T L p t) (h8 : nHa H < 12) : SCR T L h A (runF (d + 5) 62 [vR 14 46 0] A) (hatG T L H p t) := by
  have h271 := s.2.2.2.1
  have h46 := s.2.2.1
  have hc' := hc
  unfold cok at hc'
  obtain ⟨N, hN⟩ : ∃ N : Nat, nHa H = N := ⟨(nHa H).toNat, by omega⟩
  have g2 : gi A h 6 = N := by rw [s.1.2.1.2.2.2.2.2, hN]
  have k1 := s_takeName (d + 1) A r
  unfold hatG
  cases hT : tkA T L p t with
  | error y =>
    obtain ⟨k0, s0⟩ := y
    rw [hT] at k1
    obtain ⟨B, b1, b2⟩ := k1
    refine ⟨(fun k l q => ?_), (fun H' p' t' q => by cases q)⟩
    injection q with q; injection q with q1 q2
    subst q1 q2
    refine ⟨B, ?_, b2.1, b2.2.1, frO_U (frF_O b2.2.2), b2.2.2.2.2⟩
    rw [r_X4_hatred, q_X4_hatred_0, b1, cI_v, if_pos rfl]
  | ok y =>
    obtain ⟨p1, t1⟩ := y
    rw [hT] at k1
    obtain ⟨B, b1, b2, b3, b4, b5⟩ := k1
    obtain ⟨e1, e2, _, _⟩ := tkA_ok hT
    have kp := key_pad e1 e2
    have vn := vnm_name e1 e2
    have sB := HS_S (frR_O b3) s
    have hf := s_find (d + 3) h (nameV T L p) B hc sB.1 sB.2.1 vn
    have fr := fnd_rng hc (nameV T L p)
    simp only
    generalize hone : fnd H (nameV T L p) = one at hf fr
    have e38 : ∀ n u1, go true 2 (runF (d + 4)) (runN (d + 4)) pb_X4_hatred (n + 1) 38 [vR 14 46 0, vI one, u1] [] B = some (some (vI 0), wi (wi B 42 11 3) 42 12 (bl T L p)) := fun n u1 => by
      rw [q_X4_hatred_38, s_failC, cI_v, if_pos (Or.inl rfl), b5]
    by_cases c : one = -1 ∨ 16 ≤ one
    · rw [if_pos c]
      refine ⟨(fun k l q => ?_), (fun H' p' t' q => by cases q)⟩
      injection q with q; injection q with q1 q2
      subst q1 q2
      refine ⟨_, ?_, (FL_f B 3 _).1, (FL_f B 3 _).2.1, frU_trans (frR_U b3) (frO_U (frF_O (FL_f B 3 (bl T L p)).2.2)), b3.2.2⟩
      rw [r_X4_hatred, q_X4_hatred_0, b1, cI_v, if_neg (by omega), sB.2.2.1, if_neg (by omega), b4, kp.1, hf, cI_v]
      by_cases c1 : one = -1
      · rw [if_pos c1]; exact e38 _ _
      · rw [if_neg c1, if_neg (by omega)]; exact e38 _ _
    · rw [if_neg c]
      have k2 := s_takeName (d + 1) B b2
      have e66 : ∀ R, (cI (runF (d + 4) 93 [vR 18 42 0] B) fun r6 A5 => if r6 = 0 then some (some (vI 0), A5) else go true 2 (runF (d + 4)) (runN (d + 4)) pb_X4_hatred (fu + 197) 66 [vR 14 46 0, vI one, vU] [] A5) = R → runF (d + 5) 62 [vR 14 46 0] A = R := by
        intro R hR
        rw [r_X4_hatred, q_X4_hatred_0, b1, cI_v, if_neg (by omega), sB.2.2.1, if_neg (by omega), b4, kp.1, hf, cI_v, if_neg (by omega), if_pos (by omega)]
        exact hR
      cases hT2 : tkA T L p1 t1 with
      | error y =>
        obtain ⟨k0, s0⟩ := y
        rw [hT2] at k2
        obtain ⟨D, d1, d2⟩ := k2
        refine ⟨(fun k l q => ?_), (fun H' p' t' q => by cases q)⟩
        injection q with q; injection q with q1 q2
        subst q1 q2
        exact ⟨D, e66 _ (by rw [d1, cI_v, if_pos rfl]), d2.1, d2.2.1, frU_trans (frR_U b3) (frO_U (frF_O d2.2.2)), d2.2.2.2.2.trans b3.2.2⟩
      | ok y =>
        obtain ⟨p2, t2⟩ := y
        rw [hT2] at k2
        obtain ⟨D, d1, d2, d3, d4, d5⟩ := k2
        obtain ⟨e3, e4, _, _⟩ := tkA_ok hT2
        have kp2 := key_pad e3 e4
        have vn2 := vnm_name e3 e4
        have sD := HS_S (frR_O d3) sB
        have hf2 := s_find (d + 3) h (nameV T L p1) D hc sD.1 sD.2.1 vn2
        have fr2 := fnd_rng hc (nameV T L p1)
        have fAD := frR_trans b3 d3
        simp only
        generalize hoth : fnd H (nameV T L p1) = oth at hf2 fr2
        have hh : gi D (h + 9) one.toNat = H 230 (16 + one).toNat := sD.1.2.2.2.2.2.2.2.2.1 one (by omega) (by omega)
        have e113 : ∀ n, go true 2 (runF (d + 4)) (runN (d + 4)) pb_X4_hatred (n + 1) 113 [vR 14 46 0, vI one, vI oth] [] D = some (some (vI 0), wi (wi D 42 11 3) 42 12 (bl T L p1)) := fun n => by
          rw [q_X4_hatred_113, s_failC, cI_v, if_pos (Or.inl rfl), d5]
        by_cases c2 : oth = -1 ∨ 16 ≤ oth ∨ oth = one ∨ band (bshr (H 230 (16 + one).toNat) oth) 1 ≠ 0
        · rw [if_pos c2]
          refine ⟨(fun k l q => ?_), (fun H' p' t' q => by cases q)⟩
          injection q with q; injection q with q1 q2
          subst q1 q2
          refine ⟨_, e66 _ ?_, (FL_f D 3 _).1, (FL_f D 3 _).2.1, frU_trans (frR_U fAD) (frO_U (frF_O (FL_f D 3 (bl T L p1)).2.2)), fAD.2.2⟩
          rw [d1, cI_v, if_neg (by omega), q_X4_hatred_66, sD.2.2.1, if_neg (by omega), d4, kp2.1, hf2, cI_v]
          by_cases x1 : oth = -1
          · rw [if_pos x1]; exact e113 _
          · rw [if_neg x1]
            by_cases x2 : oth < 16
            · rw [if_pos x2]
              by_cases x3 : oth = one
              · rw [if_pos x3]; exact e113 _
              · rw [if_neg x3, sD.2.2.1, if_neg (by omega), if_pos (by omega), hh]
                have x4 : band (bshr (H 230 (16 + one).toNat) oth) 1 ≠ 0 := by
                  rcases c2 with y | y | y | y
                  · exact absurd y x1
                  · omega
                  · exact absurd y x3
                  · exact y
                rw [if_neg x4]; exact e113 _
            · rw [if_neg x2]; exact e113 _
        · rw [if_neg c2]
          have x1 : ¬ oth = -1 := fun y => c2 (Or.inl y)
          have x2 : oth < 16 := by
            by_cases z : oth < 16
            · exact z
            · exact absurd (Or.inr (Or.inl (by omega))) c2
          have x3 : ¬ oth = one := fun y => c2 (Or.inr (Or.inr (Or.inl y)))
          have x4 : band (bshr (H 230 (16 + one).toNat) oth) 1 = 0 := by
            by_cases z : band (bshr (H 230 (16 + one).toNat) oth) 1 = 0
            · exact z
            · exact absurd (Or.inr (Or.inr (Or.inr z))) c2
          have eN : (nHa H).toNat = N := by omega
          rw [eN]
          refine ⟨(fun k l q => by cases q), (fun H' p' t' q => ?_)⟩
          injection q with q; injection q with q1 q2; injection q2 with q2 q3
          subst q1 q2 q3
          have z6 : gi (wi D (h + 9) one.toNat (bor (H 230 (16 + one).toNat) (bshl 1 oth))) h 6 = N := by rw [gi_wi, if_neg (by omega), fAD.1 h 6 (by omega)]; exact g2
          have z46 : gr (wi D (h + 9) one.toNat (bor (H 230 (16 + one).toNat) (bshl 1 oth))) 46 3 = h := sD.2.2.1
          refine ⟨wi (wi D (h + 9) one.toNat (bor (H 230 (16 + one).toNat) (bshl 1 oth))) h 6 ((N + 1 : Nat) : Int), e66 _ ?_, RdS_fr (A := D) (fun j => by simp -implicitDefEqProofs (disch := omega) only [gi_wi, ↓reduceIte, Int.reduceEq, cI_v, cL_v, cV_v, cR_v, wid, wid64, if_pos, if_neg, Nat.add_zero, if_true, if_false, and_self, and_true, true_and, and_false, false_and, or_true, true_or, or_false, false_or]) (fun j => by simp -implicitDefEqProofs (disch := omega) only [gi_wi, ↓reduceIte, Int.reduceEq, cI_v, cL_v, cV_v, cR_v, wid, wid64, if_pos, if_neg, Nat.add_zero, if_true, if_false, and_self, and_true, true_and, and_false, false_and, or_true, true_or, or_false, false_or]) (fun _ => rfl) rfl d2, ?_, ⟨?_, ?_⟩, ?_, frU_wi _ _ _ (by omega) (frU_wi _ _ _ (by omega) (frR_U fAD)), fAD.2.2, fAD.2.1⟩
          · rw [d1, cI_v, if_neg (by omega), q_X4_hatred_66, sD.2.2.1, if_neg (by omega), d4, kp2.1, hf2, cI_v, if_neg x1, if_pos x2, if_neg x3, sD.2.2.1, if_neg (by omega), if_pos (by omega), hh, if_pos x4, if_neg (by omega), if_pos (by omega), if_pos (by omega), q_X4_hatred_144, z46, if_neg (by omega), if_neg (by omega), z6, wid (by omega) (by omega), q_X4_hatred_157, show (N : Int) + 1 = ((N + 1 : Nat) : Int) by omega]
          · refine HS_hat hc s one.toNat N _ (by omega) (fun a j q0 q1 q2 => ?_) (fun a j q => fAD.2.1 a j q) fAD.2.2 ?_ ?_
            · rw [gi_wi, if_neg q2, gi_wi, if_neg q1]
              exact fAD.1 a j (by omega)
            · simp -implicitDefEqProofs (disch := omega) only [gi_wi, ↓reduceIte, Int.reduceEq, cI_v, cL_v, cV_v, cR_v, wid, wid64, if_pos, if_neg, Nat.add_zero, if_true, if_false, and_self, and_true, true_and, and_false, false_and, or_true, true_or, or_false, false_or]
            · simp -implicitDefEqProofs (disch := omega) only [gi_wi, ↓reduceIte, Int.reduceEq, cI_v, cL_v, cV_v, cR_v, wid, wid64, if_pos, if_neg, Nat.add_zero, if_true, if_false, and_self, and_true, true_and, and_false, false_and, or_true, true_or, or_false, false_or]
          · simp -implicitDefEqProofs (disch := omega) only [gi_wi, ↓reduceIte, Int.reduceEq, cI_v, cL_v, cV_v, cR_v, wid, wid64, if_pos, if_neg, Nat.add_zero, if_true, if_false, and_self, and_true, true_and, and_false, false_and, or_true, true_or, or_false, false_or]; exact fAD.1 42 11 (by omega)
          · simp -implicitDefEqProofs (disch := omega) only [gi_wi, ↓reduceIte, Int.reduceEq, cI_v, cL_v, cV_v, cR_v, wid, wid64, if_pos, if_neg, Nat.add_zero, if_true, if_false, and_self, and_true, true_and, and_false, false_and, or_true, true_or, or_false, false_or]; exact fAD.1 42 12 (by omega)
          · simp -implicitDefEqProofs (disch := omega) only [gi_wi, ↓reduceIte, Int.reduceEq, cI_v, cL_v, cV_v, cR_v, wid, wid64, if_pos, if_neg, Nat.add_zero, if_true, if_false, and_self, and_true, true_and, and_false, false_and, or_true, true_or, or_false, false_or]; exact fAD.1 h 0 (by omega)
