/-! the text of a hall: the reference reads a noise, a hatred, a sum -/
set_option maxRecDepth 100000 in
theorem s_noiseM (d : Nat) {T : Nat → Int} {L p : Nat} {t : Bool} {H : Nat → Nat → Int} {cd : Nat} (bg : Int) (A : AH) (hc : cok H) (mr : MR A H cd) (m : MdS A T L p t) (h8 : nNo H < 6) : SMo T L A cd (runF (d + 6) 173 [vR 21 190 0, vI bg] A) (noiG T L H p t) := by
  have hc' := hc
  unfold cok at hc'
  obtain ⟨K, hK⟩ : ∃ K : Nat, nNo H = K := ⟨(nNo H).toNat, by omega⟩
  have h0 : gi A 224 3 = K := (MR_n mr).2.2.2.1.trans hK
  have hf := (s_isFull (d + 3) 3 (by omega) 6 bg A m).1 (by rw [h0]; omega)
  rw [show ((3 : Nat) : Int) = 3 from rfl] at hf
  obtain ⟨C, x, D, c1, c2, c3, c4, c5⟩ := tellM (d + 1) 201 2 9 0 99 A m (by omega) (by decide) (by decide)
  have dead : ∀ (X : AH) (a b : Int), gi X 190 5 ≠ 0 → go true 3 (runF (d + 5)) (runN (d + 5)) pb_X12_noiseTold (fu + 198) 50 [vR 21 190 0, vI bg, vI a, vI b, vU, vU] [] X = some (none, X) := fun X a b hb => by
    rw [q_X12_noiseTold_50, s_asksB _ _ _ _ (by decide) hb, cV_v, s_numberB _ _ _ _ hb, cI_v, if_neg hb]
  unfold noiG
  cases hG : tellG T L p t 9 0 99 with
  | error y =>
    obtain ⟨k0, s0⟩ := y
    have e := c4 k0 s0 hG
    have hb : gi D 190 5 ≠ 0 := by rw [e.1]; exact e.2.2.1
    refine ⟨(fun k s q => ?_), (fun H' p' t' q => by cases q)⟩
    injection q with q; injection q with q1 q2
    subst q1 q2
    refine ⟨D, ?_, e⟩
    rw [r_X12_noiseTold, q_X12_noiseTold_0, hf, cI_v, if_pos rfl, c1, cV_v, c2, cI_v, s_asksB _ _ _ _ (by decide) hb, cV_v, s_numberB _ _ _ _ hb, cI_v]
    exact dead D _ _ hb
  | ok y =>
    obtain ⟨x', pl1, p1, t1⟩ := y
    obtain ⟨rfl, d2, d3, d4⟩ := c5 x' pl1 p1 t1 hG
    obtain ⟨E, y, F, f1, f2, f3, f4, f5⟩ := tellM (d + 1) 205 4 13 0 (nSe H - 1) D d2 (by omega) (by decide) (by decide)
    have eN : w32 (gi E 224 5 - 1) = nSe H - 1 := by
      rw [f3.1 224 5 (by omega), d3.1 224 5 (by omega), (MR_n mr).2.2.2.2.2, wid (by omega) (by omega)]
    have e50 : ∀ R, go true 3 (runF (d + 5)) (runN (d + 5)) pb_X12_noiseTold (fu + 198) 50 [vR 21 190 0, vI bg, vI x, vI y, vU, vU] [] F = R → runF (d + 6) 173 [vR 21 190 0, vI bg] A = R := by
      intro R hR
      rw [r_X12_noiseTold, q_X12_noiseTold_0, hf, cI_v, if_pos rfl, c1, cV_v, c2, cI_v, f1, cV_v, eN, f2, cI_v]
      exact hR
    simp only
    cases hG2 : tellG T L p1 t1 13 0 (nSe H - 1) with
    | error z =>
      obtain ⟨k0, s0⟩ := z
      have e := f4 k0 s0 hG2
      have hb : gi F 190 5 ≠ 0 := by rw [e.1]; exact e.2.2.1
      refine ⟨(fun k s q => ?_), (fun H' p' t' q => by cases q)⟩
      injection q with q; injection q with q1 q2
      subst q1 q2
      exact ⟨F, e50 _ (dead F _ _ hb), MB_t d3 e⟩
    | ok z =>
      obtain ⟨y', pl2, p2, t2⟩ := z
      obtain ⟨rfl, g2, g3, g4⟩ := f5 y' pl2 p2 t2 hG2
      obtain ⟨G, z, J, j1, j2, j3, j4, j5⟩ := tellM (d + 1) 206 4 14 1 9 F g2 (by omega) (by decide) (by decide)
      have fAF : frZ A F := frZ_trans d3 g3
      simp only
      cases hG3 : tellG T L p2 t2 14 1 9 with
      | error w =>
        obtain ⟨k0, s0⟩ := w
        have e := j4 k0 s0 hG3
        have hb : gi J 190 5 ≠ 0 := by rw [e.1]; exact e.2.2.1
        refine ⟨(fun k s q => ?_), (fun H' p' t' q => by cases q)⟩
        injection q with q; injection q with q1 q2
        subst q1 q2
        refine ⟨J, e50 _ ?_, MB_t fAF e⟩
        rw [q_X12_noiseTold_50, j1, cV_v, j2, cI_v, if_neg hb]
      | ok w =>
        obtain ⟨z', pl3, p3, t3⟩ := w
        obtain ⟨rfl, k2, k3, k4⟩ := j5 z' pl3 p3 t3 hG3
        have fAJ : frZ A J := frZ_trans fAF k3
        have mJ := MR_Z fAJ mr
        have J0 : gi J 224 3 = K := by rw [fAJ.1 224 3 (by omega)]; exact h0
        have eK : (nNo H).toNat = K := by omega
        rw [eK]
        refine ⟨(fun k s q => by cases q), (fun H' p' t' q => ?_)⟩
        injection q with q; injection q with q1 q2; injection q2 with q2 q3
        subst q1 q2 q3
        refine ⟨wi (wi (wi (wi J 229 (3 * K) x) 229 (3 * K + 1) y) 229 (3 * K + 2) z) 224 3 ((K + 1 : Nat) : Int), e50 _ ?_, MdS_fr (by simp -implicitDefEqProofs (disch := omega) only [gi_wi, ↓reduceIte, Int.reduceEq, cI_v, cL_v, cV_v, cR_v, wid, wid64, if_pos, if_neg, Nat.add_zero, if_true, if_false, and_self, and_true, true_and, and_false, false_and, or_true, true_or, or_false, false_or]) (by simp -implicitDefEqProofs (disch := omega) only [gi_wi, ↓reduceIte, Int.reduceEq, cI_v, cL_v, cV_v, cR_v, wid, wid64, if_pos, if_neg, Nat.add_zero, if_true, if_false, and_self, and_true, true_and, and_false, false_and, or_true, true_or, or_false, false_or]) (by simp -implicitDefEqProofs (disch := omega) only [gi_wi, ↓reduceIte, Int.reduceEq, cI_v, cL_v, cV_v, cR_v, wid, wid64, if_pos, if_neg, Nat.add_zero, if_true, if_false, and_self, and_true, true_and, and_false, false_and, or_true, true_or, or_false, false_or]) (by simp -implicitDefEqProofs (disch := omega) only [gi_wi, ↓reduceIte, Int.reduceEq, cI_v, cL_v, cV_v, cR_v, wid, wid64, if_pos, if_neg, Nat.add_zero, if_true, if_false, and_self, and_true, true_and, and_false, false_and, or_true, true_or, or_false, false_or]) (by simp -implicitDefEqProofs (disch := omega) only [gi_wi, ↓reduceIte, Int.reduceEq, cI_v, cL_v, cV_v, cR_v, wid, wid64, if_pos, if_neg, Nat.add_zero, if_true, if_false, and_self, and_true, true_and, and_false, false_and, or_true, true_or, or_false, false_or]) (fun a j q1 q2 => by simp -implicitDefEqProofs (disch := omega) only [gi_wi, ↓reduceIte, Int.reduceEq, cI_v, cL_v, cV_v, cR_v, wid, wid64, if_pos, if_neg, Nat.add_zero, if_true, if_false, and_self, and_true, true_and, and_false, false_and, or_true, true_or, or_false, false_or]) k2, ?_, by simp -implicitDefEqProofs (disch := omega) only [gi_wi, ↓reduceIte, Int.reduceEq, cI_v, cL_v, cV_v, cR_v, wid, wid64, if_pos, if_neg, Nat.add_zero, if_true, if_false, and_self, and_true, true_and, and_false, false_and, or_true, true_or, or_false, false_or]; exact fAJ.1 190 52 (by omega), ?_⟩
        · have w0 : w32 (3 * (K : Int)) = ((3 * K : Nat) : Int) := by rw [wid (by omega) (by omega)]; omega
          have w1 : w32 (((3 * K : Nat) : Int) + 1) = ((3 * K + 1 : Nat) : Int) := by rw [wid (by omega) (by omega)]; omega
          have w2 : w32 (((3 * K : Nat) : Int) + 2) = ((3 * K + 2 : Nat) : Int) := by rw [wid (by omega) (by omega)]; omega
          have z3 : gi (wi (wi (wi J 229 (3 * K) x) 229 (3 * K + 1) y) 229 (3 * K + 2) z) 224 3 = K := by simp -implicitDefEqProofs (disch := omega) only [gi_wi, ↓reduceIte, Int.reduceEq, cI_v, cL_v, cV_v, cR_v, wid, wid64, if_pos, if_neg, Nat.add_zero, if_true, if_false, and_self, and_true, true_and, and_false, false_and, or_true, true_or, or_false, false_or]; exact J0
          rw [q_X12_noiseTold_50, j1, cV_v, j2, cI_v, if_pos k2.2.2.1, J0]
          simp only [w0]
          rw [if_pos (by omega), Int.toNat_natCast, q_X12_noiseTold_93]
          simp only [w1]
          rw [if_pos (by omega), Int.toNat_natCast, q_X12_noiseTold_103]
          simp only [w2]
          rw [if_pos (by omega), Int.toNat_natCast, q_X12_noiseTold_114, z3, wid (by omega) (by omega), q_X12_noiseTold_124, show (K : Int) + 1 = ((K + 1 : Nat) : Int) by omega]
        · exact MR_noi mJ (by omega) (fun a j q1 q2 q3 q4 q5 q6 => by rw [gi_wi, if_neg q6, gi_wi, if_neg q5, gi_wi, if_neg q4, gi_wi, if_neg q3]) (by simp -implicitDefEqProofs (disch := omega) only [gi_wi, ↓reduceIte, Int.reduceEq, cI_v, cL_v, cV_v, cR_v, wid, wid64, if_pos, if_neg, Nat.add_zero, if_true, if_false, and_self, and_true, true_and, and_false, false_and, or_true, true_or, or_false, false_or]) (by simp -implicitDefEqProofs (disch := omega) only [gi_wi, ↓reduceIte, Int.reduceEq, cI_v, cL_v, cV_v, cR_v, wid, wid64, if_pos, if_neg, Nat.add_zero, if_true, if_false, and_self, and_true, true_and, and_false, false_and, or_true, true_or, or_false, false_or]) (by simp -implicitDefEqProofs (disch := omega) only [gi_wi, ↓reduceIte, Int.reduceEq, cI_v, cL_v, cV_v, cR_v, wid, wid64, if_pos, if_neg, Nat.add_zero, if_true, if_false, and_self, and_true, true_and, and_false, false_and, or_true, true_or, or_false, false_or]) (by simp -implicitDefEqProofs (disch := omega) only [gi_wi, ↓reduceIte, Int.reduceEq, cI_v, cL_v, cV_v, cR_v, wid, wid64, if_pos, if_neg, Nat.add_zero, if_true, if_false, and_self, and_true, true_and, and_false, false_and, or_true, true_or, or_false, false_or]) (by simp -implicitDefEqProofs (disch := omega) only [gi_wi, ↓reduceIte, Int.reduceEq, cI_v, cL_v, cV_v, cR_v, wid, wid64, if_pos, if_neg, Nat.add_zero, if_true, if_false, and_self, and_true, true_and, and_false, false_and, or_true, true_or, or_false, false_or])
        · exact frY_wi _ _ _ (by unfold ry; omega) (frY_wi _ _ _ (by unfold ry; omega) (frY_wi _ _ _ (by unfold ry; omega) (frY_wi _ _ _ (by unfold ry; omega) (frZ_Y fAJ))))
theorem fnd_16 {H : Nat → Nat → Int} (hc : cok H) (v : Int) : ((fnd H v = -1 ∨ 16 ≤ fnd H v) ↔ (fnP H v = -1 ∧ fnM H v = -1)) ∧ (¬ (fnd H v = -1 ∨ 16 ≤ fnd H v) → fnd H v = if fnP H v = -1 then 10 + fnM H v else fnP H v) := by
  unfold cok at hc
  have r1 := ff_rng (p := fun k => decide (H 225 (24 + k).toNat = v)) (nPe H).toNat 0
  have r2 := ff_rng (p := fun k => decide (H 225 (32 + k).toNat = v)) (nMu H).toNat 0
  have r3 := ff_rng (p := fun k => decide (H 225 (40 + k).toNat = v)) (nPo H).toNat 0
  unfold fnd fnP fnM fnO
  generalize ff (fun k => decide (H 225 (24 + k).toNat = v)) (nPe H).toNat 0 = y1 at *
  generalize ff (fun k => decide (H 225 (32 + k).toNat = v)) (nMu H).toNat 0 = y2 at *
  generalize ff (fun k => decide (H 225 (40 + k).toNat = v)) (nPo H).toNat 0 = y3 at *
  by_cases c1 : y1 = -1
  · rw [if_neg (c := y1 ≠ -1) (by omega), if_pos (c := y1 = -1) c1]
    by_cases c2 : y2 = -1
    · rw [if_neg (c := y2 ≠ -1) (by omega)]
      by_cases c3 : y3 = -1
      · rw [if_neg (by omega)]; omega
      · rw [if_pos (by omega)]; omega
    · rw [if_pos (c := y2 ≠ -1) (by omega)]; omega
  · rw [if_pos (c := y1 ≠ -1) (by omega), if_neg (c := y1 = -1) c1]; omega
theorem sitB (d : Nat) {H : Nat → Nat → Int} {cd : Nat} (A : AH) (hc : cok H) (mr : MR A H cd) (hb : gi A 190 5 ≠ 0) : runF (d + 2) 170 [vR 21 190 0] A = some (some (vI 0), A) := by
  obtain ⟨f1, f2, _⟩ := s_nameOf d H cd hc 0 A mr
  rw [r_X12_sitterHere, q_X12_sitterHere_0, s_nameB _ _ hb, cL_v, f1, cI_v, f2, cI_v, if_neg hb, show fu + 199 + 0 = (fu + 195) + 4 from rfl, q_X12_sitterHere_47, if_neg hb]
set_option maxRecDepth 100000 in
theorem s_sitter (d : Nat) {T : Nat → Int} {L p : Nat} {t : Bool} {H : Nat → Nat → Int} {cd : Nat} (A : AH) (hc : cok H) (mr : MR A H cd) (m : MdS A T L p t) : (∀ k s, tkA T L p t = .error (k, s) → ∃ B, runF (d + 5) 170 [vR 21 190 0] A = some (some (vI 0), B) ∧ MB A B k s) ∧ (∀ p1 t1, tkA T L p t = .ok (p1, t1) → ((fnd H (nameV T L p) = -1 ∨ 16 ≤ fnd H (nameV T L p)) → ∃ B, runF (d + 5) 170 [vR 21 190 0] A = some (some (vI 0), B) ∧ MB A B 3 (bl T L p)) ∧ (¬ (fnd H (nameV T L p) = -1 ∨ 16 ≤ fnd H (nameV T L p)) → ∃ B, runF (d + 5) 170 [vR 21 190 0] A = some (some (vI (fnd H (nameV T L p))), B) ∧ MdS B T L p1 t1 ∧ frZ A B ∧ gi B 190 42 = bl T L p)) := by
  have k1 := s_name d A m
  refine ⟨fun k s hT => ?_, fun p1 t1 hT => ?_⟩
  · rw [hT] at k1
    obtain ⟨B, b1, b2⟩ := k1
    have hb : gi B 190 5 ≠ 0 := by rw [b2.1]; exact b2.2.2.1
    obtain ⟨f1, f2, _⟩ := s_nameOf (d + 3) H cd hc 0 B (MR_Z b2.2.2.2 mr)
    refine ⟨B, ?_, b2⟩
    rw [r_X12_sitterHere, q_X12_sitterHere_0, b1, cL_v, f1, cI_v, f2, cI_v, if_neg hb, show fu + 199 + 0 = (fu + 195) + 4 from rfl, q_X12_sitterHere_47, if_neg hb]
  · rw [hT] at k1
    obtain ⟨B, b1, b2, b3, b4⟩ := k1
    obtain ⟨f1, f2, _⟩ := s_nameOf (d + 3) H cd hc (nameV T L p) B (MR_Z b3 mr)
    obtain ⟨x1, x2⟩ := fnd_16 hc (nameV T L p)
    have hc' := hc
    unfold cok at hc'
    have r2 := ff_rng (p := fun k => decide (H 225 (32 + k).toNat = nameV T L p)) (nMu H).toNat 0
    have B5 := b2.2.2.1
    refine ⟨fun c => ?_, fun c => ?_⟩
    · have z := x1.mp c
      refine ⟨wi (wi B 190 5 3) 190 6 (bl T L p : Int), ?_, MB_t b3 (MB_f B 3 _ (by decide))⟩
      have b5 : gi (wi (wi B 190 5 3) 190 6 (bl T L p : Int)) 190 5 ≠ 0 := by simp -implicitDefEqProofs (disch := omega) only [gi_wi, ↓reduceIte, Int.reduceEq, cI_v, cL_v, cV_v, cR_v, wid, wid64, if_pos, if_neg, Nat.add_zero, if_true, if_false, and_self, and_true, true_and, and_false, false_and, or_true, true_or, or_false, false_or]; omega
      rw [r_X12_sitterHere, q_X12_sitterHere_0, b1, cL_v, f1, cI_v, f2, cI_v, if_pos B5, if_pos z.1, if_pos z.2, b4, s_failM _ _ _ _ B5, cV_v, show fu + 199 + 0 = (fu + 195) + 4 from rfl, q_X12_sitterHere_47, if_neg b5]
    · have z := mt x1.mpr c
      have e := x2 c
      refine ⟨B, ?_, b2, b3, b4⟩
      rw [e, r_X12_sitterHere, q_X12_sitterHere_0, b1, cL_v, f1, cI_v, f2, cI_v, if_pos B5]
      by_cases y1 : fnP H (nameV T L p) = -1
      · have y2 : fnM H (nameV T L p) ≠ -1 := fun y => z ⟨y1, y⟩
        rw [if_pos y1, if_neg y2, show fu + 199 + 0 = (fu + 195) + 4 from rfl, q_X12_sitterHere_47, if_pos B5, if_pos y1, if_pos y1, wid (by unfold fnM; omega) (by unfold fnM; omega)]
      · rw [if_neg y1, show fu + 199 + 0 = (fu + 195) + 4 from rfl, q_X12_sitterHere_47, if_pos B5, if_neg y1, if_neg y1]
set_option maxRecDepth 100000 in
theorem s_hatredM (d : Nat) {T : Nat → Int} {L p : Nat} {t : Bool} {H : Nat → Nat → Int} {cd : Nat} (bg : Int) (A : AH) (hc : cok H) (ho : hok H) (mr : MR A H cd) (m : MdS A T L p t) (h8 : nHa H < 12) : SMo T L A cd (runF (d + 6) 171 [vR 21 190 0, vI bg] A) (hatG T L H p t) := by
  have hc' := hc
  unfold cok at hc'
  obtain ⟨N, hN⟩ : ∃ N : Nat, nHa H = N := ⟨(nHa H).toNat, by omega⟩
  have h0 : gi A 224 4 = N := (MR_n mr).2.2.2.2.1.trans hN
  have hf := (s_isFull (d + 3) 4 (by omega) 12 bg A m).1 (by rw [h0]; omega)
  rw [show ((4 : Nat) : Int) = 4 from rfl] at hf
  have dead : ∀ (X : AH) (n : Nat) (a b : Int), gi X 190 5 ≠ 0 → go true 3 (runF (d + 5)) (runN (d + 5)) pb_X12_hatredTold (n + 2) 57 [vR 21 190 0, vI bg, vI a, vI b] [] X = some (none, X) := fun X n a b hb => by
    rw [q_X12_hatredTold_57, if_neg hb]
  obtain ⟨g1, g2⟩ := s_sitter d A hc mr m
  unfold hatG
  cases hT : tkA T L p t with
  | error y =>
    obtain ⟨k0, s0⟩ := y
    obtain ⟨B, b1, b2⟩ := g1 k0 s0 hT
    have hb : gi B 190 5 ≠ 0 := by rw [b2.1]; exact b2.2.2.1
    refine ⟨(fun k s q => ?_), (fun H' p' t' q => by cases q)⟩
    injection q with q; injection q with q1 q2
    subst q1 q2
    refine ⟨B, ?_, b2⟩
    rw [r_X12_hatredTold, q_X12_hatredTold_0, hf, cI_v, if_pos rfl, b1, cI_v, sitB (d + 3) B hc (MR_Z b2.2.2.2 mr) hb, cI_v, if_neg hb]
    exact dead B (fu + 196) _ _ hb
  | ok y =>
    obtain ⟨p1, t1⟩ := y
    obtain ⟨g3, g4⟩ := g2 p1 t1 hT
    have fr := fnd_rng hc (nameV T L p)
    simp only
    generalize hone : fnd H (nameV T L p) = one at g3 g4 fr
    by_cases c : one = -1 ∨ 16 ≤ one
    · rw [if_pos c]
      obtain ⟨B, b1, b2⟩ := g3 c
      have hb : gi B 190 5 ≠ 0 := by rw [b2.1]; omega
      refine ⟨(fun k s q => ?_), (fun H' p' t' q => by cases q)⟩
      injection q with q; injection q with q1 q2
      subst q1 q2
      refine ⟨B, ?_, b2⟩
      rw [r_X12_hatredTold, q_X12_hatredTold_0, hf, cI_v, if_pos rfl, b1, cI_v, sitB (d + 3) B hc (MR_Z b2.2.2.2 mr) hb, cI_v, if_neg hb]
      exact dead B (fu + 196) _ _ hb
    · rw [if_neg c]
      have on32 : (0 : Int) ≤ one ∧ one < 32 := by omega
      obtain ⟨B, b1, b2, b3, b4⟩ := g4 c
      obtain ⟨k1, k2⟩ := s_sitter d B hc (MR_Z b3 mr) b2
      cases hT2 : tkA T L p1 t1 with
      | error y =>
        obtain ⟨k0, s0⟩ := y
        obtain ⟨D, d1, d2⟩ := k1 k0 s0 hT2
        have hb : gi D 190 5 ≠ 0 := by rw [d2.1]; exact d2.2.2.1
        refine ⟨(fun k s q => ?_), (fun H' p' t' q => by cases q)⟩
        injection q with q; injection q with q1 q2
        subst q1 q2
        refine ⟨D, ?_, MB_t b3 d2⟩
        rw [r_X12_hatredTold, q_X12_hatredTold_0, hf, cI_v, if_pos rfl, b1, cI_v, d1, cI_v, if_neg hb]
        exact dead D (fu + 196) _ _ hb
      | ok y =>
        obtain ⟨p2, t2⟩ := y
        obtain ⟨k3, k4⟩ := k2 p2 t2 hT2
        have fr2 := fnd_rng hc (nameV T L p1)
        simp only
        generalize hoth : fnd H (nameV T L p1) = oth at k3 k4 fr2
        by_cases c2 : oth = -1 ∨ 16 ≤ oth
        · rw [if_pos (by rcases c2 with y | y; exact Or.inl y; exact Or.inr (Or.inl y))]
          obtain ⟨D, d1, d2⟩ := k3 c2
          have hb : gi D 190 5 ≠ 0 := by rw [d2.1]; omega
          refine ⟨(fun k s q => ?_), (fun H' p' t' q => by cases q)⟩
          injection q with q; injection q with q1 q2
          subst q1 q2
          refine ⟨D, ?_, MB_t b3 d2⟩
          rw [r_X12_hatredTold, q_X12_hatredTold_0, hf, cI_v, if_pos rfl, b1, cI_v, d1, cI_v, if_neg hb]
          exact dead D (fu + 196) _ _ hb
        · obtain ⟨D, d1, d2, d3, d4⟩ := k4 c2
          have fAD := frZ_trans b3 d3
          have mD := MR_Z fAD mr
          have D5 := d2.2.2.1
          have hv : gi D 230 one.toNat = H 230 (16 + one).toNat := by rw [mD.2.2.2.2.2.2.1 _ (by omega)]; congr 1; omega
          have hbd := ho.2.2.2.2.2.1 (16 + one).toNat (by omega) (by omega)
          have btb := band_tb (a := H 230 (16 + one).toNat) (k := oth) hbd.1 (by omega) (by omega) (by omega)
          have b01 : band (bshr (H 230 (16 + one).toNat) oth) 1 = 0 ∨ band (bshr (H 230 (16 + one).toNat) oth) 1 = 1 := by
            rw [btb]; cases tb (H 230 (16 + one).toNat) oth <;> simp [bI]
          have bad48 : ∀ n, go true 3 (runF (d + 5)) (runN (d + 5)) pb_X12_hatredTold (n + 3) 48 [vR 21 190 0, vI bg, vI one, vI oth] [] D = some (none, wi (wi D 190 5 3) 190 6 (bl T L p1 : Int)) := fun n => by
            rw [q_X12_hatredTold_48, d4, s_failM _ _ _ _ D5, cV_v]
            exact dead _ n _ _ (by simp -implicitDefEqProofs (disch := omega) only [gi_wi, ↓reduceIte, Int.reduceEq, cI_v, cL_v, cV_v, cR_v, wid, wid64, if_pos, if_neg, Nat.add_zero, if_true, if_false, and_self, and_true, true_and, and_false, false_and, or_true, true_or, or_false, false_or]; omega)
          have e0 : ∀ R, (if one = oth then go true 3 (runF (d + 5)) (runN (d + 5)) pb_X12_hatredTold (fu + 198) 48 [vR 21 190 0, vI bg, vI one, vI oth] [] D else if band (bshr (H 230 (16 + one).toNat) oth) 1 = 1 then go true 3 (runF (d + 5)) (runN (d + 5)) pb_X12_hatredTold (fu + 198) 48 [vR 21 190 0, vI bg, vI one, vI oth] [] D else go true 3 (runF (d + 5)) (runN (d + 5)) pb_X12_hatredTold (fu + 198) 57 [vR 21 190 0, vI bg, vI one, vI oth] [] D) = R → runF (d + 6) 171 [vR 21 190 0, vI bg] A = R := by
            intro R hR
            rw [r_X12_hatredTold, q_X12_hatredTold_0, hf, cI_v, if_pos rfl, b1, cI_v, d1, cI_v, if_pos D5, if_pos (c := (0 : Int) ≤ one ∧ one < 32) on32, hv]
            exact hR
          by_cases c3 : oth = one ∨ band (bshr (H 230 (16 + one).toNat) oth) 1 ≠ 0
          · rw [if_pos (by rcases c3 with y | y; exact Or.inr (Or.inr (Or.inl y)); exact Or.inr (Or.inr (Or.inr y)))]
            refine ⟨(fun k s q => ?_), (fun H' p' t' q => by cases q)⟩
            injection q with q; injection q with q1 q2
            subst q1 q2
            refine ⟨wi (wi D 190 5 3) 190 6 (bl T L p1 : Int), e0 _ ?_, MB_t fAD (MB_f D 3 _ (by decide))⟩
            by_cases z : one = oth
            · rw [if_pos z]; exact bad48 (fu + 195)
            · have z2 : band (bshr (H 230 (16 + one).toNat) oth) 1 = 1 := by
                rcases c3 with y | y
                · exact absurd y.symm z
                · rcases b01 with q | q
                  · exact absurd q y
                  · exact q
              rw [if_neg z, if_pos z2]; exact bad48 (fu + 195)
          · have x3 : ¬ oth = one := fun y => c3 (Or.inl y)
            have x4 : band (bshr (H 230 (16 + one).toNat) oth) 1 = 0 := by
              rcases b01 with q | q
              · exact q
              · exact absurd (Or.inr (by omega)) c3
            rw [if_neg (fun y => by rcases y with y | y | y | y; exact c2 (Or.inl y); exact c2 (Or.inr y); exact x3 y; exact y x4)]
            have eN : (nHa H).toNat = N := by omega
            rw [eN]
            refine ⟨(fun k s q => by cases q), (fun H' p' t' q => ?_)⟩
            injection q with q; injection q with q1 q2; injection q2 with q2 q3
            subst q1 q2 q3
            refine ⟨wi (wi D 230 one.toNat (bor (H 230 (16 + one).toNat) (bshl 1 oth))) 224 4 ((N + 1 : Nat) : Int), e0 _ ?_, MdS_fr (by simp -implicitDefEqProofs (disch := omega) only [gi_wi, ↓reduceIte, Int.reduceEq, cI_v, cL_v, cV_v, cR_v, wid, wid64, if_pos, if_neg, Nat.add_zero, if_true, if_false, and_self, and_true, true_and, and_false, false_and, or_true, true_or, or_false, false_or]) (by simp -implicitDefEqProofs (disch := omega) only [gi_wi, ↓reduceIte, Int.reduceEq, cI_v, cL_v, cV_v, cR_v, wid, wid64, if_pos, if_neg, Nat.add_zero, if_true, if_false, and_self, and_true, true_and, and_false, false_and, or_true, true_or, or_false, false_or]) (by simp -implicitDefEqProofs (disch := omega) only [gi_wi, ↓reduceIte, Int.reduceEq, cI_v, cL_v, cV_v, cR_v, wid, wid64, if_pos, if_neg, Nat.add_zero, if_true, if_false, and_self, and_true, true_and, and_false, false_and, or_true, true_or, or_false, false_or]) (by simp -implicitDefEqProofs (disch := omega) only [gi_wi, ↓reduceIte, Int.reduceEq, cI_v, cL_v, cV_v, cR_v, wid, wid64, if_pos, if_neg, Nat.add_zero, if_true, if_false, and_self, and_true, true_and, and_false, false_and, or_true, true_or, or_false, false_or]) (by simp -implicitDefEqProofs (disch := omega) only [gi_wi, ↓reduceIte, Int.reduceEq, cI_v, cL_v, cV_v, cR_v, wid, wid64, if_pos, if_neg, Nat.add_zero, if_true, if_false, and_self, and_true, true_and, and_false, false_and, or_true, true_or, or_false, false_or]) (fun a j q1 q2 => by simp -implicitDefEqProofs (disch := omega) only [gi_wi, ↓reduceIte, Int.reduceEq, cI_v, cL_v, cV_v, cR_v, wid, wid64, if_pos, if_neg, Nat.add_zero, if_true, if_false, and_self, and_true, true_and, and_false, false_and, or_true, true_or, or_false, false_or]) d2, ?_, by simp -implicitDefEqProofs (disch := omega) only [gi_wi, ↓reduceIte, Int.reduceEq, cI_v, cL_v, cV_v, cR_v, wid, wid64, if_pos, if_neg, Nat.add_zero, if_true, if_false, and_self, and_true, true_and, and_false, false_and, or_true, true_or, or_false, false_or]; exact fAD.1 190 52 (by omega), ?_⟩
            · have z4 : gi (wi D 230 one.toNat (bor (H 230 (16 + one).toNat) (bshl 1 oth))) 224 4 = N := by simp -implicitDefEqProofs (disch := omega) only [gi_wi, ↓reduceIte, Int.reduceEq, cI_v, cL_v, cV_v, cR_v, wid, wid64, if_pos, if_neg, Nat.add_zero, if_true, if_false, and_self, and_true, true_and, and_false, false_and, or_true, true_or, or_false, false_or]; rw [fAD.1 224 4 (by omega)]; exact h0
              rw [if_neg (fun y => x3 y.symm), if_neg (by omega), show fu + 198 = (fu + 196) + 2 from rfl, q_X12_hatredTold_57, if_pos D5, if_pos on32, if_pos on32, hv, q_X12_hatredTold_77, z4, wid (by omega) (by omega), q_X12_hatredTold_87, show (N : Int) + 1 = ((N + 1 : Nat) : Int) by omega]
            · exact MR_hat mD (by omega) (fun a j q1 q2 q3 q4 => by rw [gi_wi, if_neg q4, gi_wi, if_neg q3]) (by simp -implicitDefEqProofs (disch := omega) only [gi_wi, ↓reduceIte, Int.reduceEq, cI_v, cL_v, cV_v, cR_v, wid, wid64, if_pos, if_neg, Nat.add_zero, if_true, if_false, and_self, and_true, true_and, and_false, false_and, or_true, true_or, or_false, false_or]) (by simp -implicitDefEqProofs (disch := omega) only [gi_wi, ↓reduceIte, Int.reduceEq, cI_v, cL_v, cV_v, cR_v, wid, wid64, if_pos, if_neg, Nat.add_zero, if_true, if_false, and_self, and_true, true_and, and_false, false_and, or_true, true_or, or_false, false_or]) (by simp -implicitDefEqProofs (disch := omega) only [gi_wi, ↓reduceIte, Int.reduceEq, cI_v, cL_v, cV_v, cR_v, wid, wid64, if_pos, if_neg, Nat.add_zero, if_true, if_false, and_self, and_true, true_and, and_false, false_and, or_true, true_or, or_false, false_or])
            · exact frY_wi _ _ _ (by unfold ry; omega) (frY_wi _ _ _ (by unfold ry; omega) (frZ_Y fAD))
