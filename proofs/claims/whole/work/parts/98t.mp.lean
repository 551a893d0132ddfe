/-! the text of a hall: the class reads a mute, a point -/
def mutG (T : Nat → Int) (L : Nat) (H : Nat → Nat → Int) (p : Nat) (t : Bool) : HG := match giveG T L H p t with
  | .error e => .error e
  | .ok (v, p1, t1) => match tellG T L p1 t1 3 1 99 with
    | .error e => .error e
    | .ok (x, _, p2, t2) => match tellG T L p2 t2 16 0 99 with
      | .error e => .error e
      | .ok (y, _, p3, t3) => .ok (muteH H (nMu H).toNat v x y, p3, t3)
set_option maxRecDepth 100000 in
theorem s_muteC (d : Nat) {T : Nat → Int} {L p : Nat} {t : Bool} {h : Nat} {H : Nat → Nat → Int} (A : AH) (hc : cok H) (s : HS A h H) (r : RdS A T L p t) (h8 : nMu H < 6) : SCR T L h A (runF (d + 5) 65 [vR 14 46 0] A) (mutG T L H p t) := by
  have h271 := s.2.2.2.1
  have h46 := s.2.2.1
  have hc' := hc
  unfold cok at hc'
  obtain ⟨K, hK⟩ : ∃ K : Nat, nMu H = K := ⟨(nMu H).toNat, by omega⟩
  have g2 : gi A h 5 = K := by rw [s.1.2.1.2.2.2.2.1, hK]
  have eW : w32 (10 + gi A h 5) = ((10 + K : Nat) : Int) := by rw [g2, wid (by omega) (by omega)]; omega
  obtain ⟨v1, v2⟩ := s_gives (d := d) ((10 + K : Nat) : Int) (by omega) A hc s r
  unfold mutG
  cases hG : giveG T L H p t with
  | error y =>
    obtain ⟨k0, s0⟩ := y
    obtain ⟨B, b1, b2, b3, b4⟩ := v1 k0 s0 hG
    refine ⟨(fun k l q => ?_), (fun H' p' t' q => by cases q)⟩
    injection q with q; injection q with q1 q2
    subst q1 q2
    refine ⟨B, ?_, b2, b3, frO_U b4, b4.2.2⟩
    rw [r_X4_muteTold, q_X4_muteTold_0, h46, if_neg (by omega), eW, b1, cI_v, if_pos rfl]
  | ok y =>
    obtain ⟨v, p1, t1⟩ := y
    obtain ⟨B, C, b1, b2, b3, b4, b5, b6, b7, b8⟩ := v2 v p1 t1 hG
    rw [Int.toNat_natCast] at b1 b2
    rw [← b2] at b1
    have rB : RdS B T L p1 t1 := by rw [b2]; exact RdS_fr (A := C) (fun j => by rw [gi_wi, if_neg (by omega)]) (fun j => by rw [gi_wi, if_neg (by omega)]) (fun _ => rfl) rfl b3
    have uB : frU h A B := by rw [b2]; exact frU_wi _ _ _ (by omega) (frR_U b8)
    have lB : B.2.2 = A.2.2 := by rw [b2]; exact b8.2.2
    obtain ⟨w1, w2⟩ := s_tells d 3 (by decide) 1 99 0 (by decide) B rB
    rw [show ((0 : Nat) : Int) = 0 from rfl] at w1 w2
    simp only
    cases hG2 : tellG T L p1 t1 3 1 99 with
    | error y =>
      obtain ⟨k0, s0⟩ := y
      obtain ⟨D, d1, d2, d3, d4⟩ := w1 k0 s0 hG2
      refine ⟨(fun k l q => ?_), (fun H' p' t' q => by cases q)⟩
      injection q with q; injection q with q1 q2
      subst q1 q2
      refine ⟨D, ?_, d2, d3, frU_trans uB (frO_U d4), d4.2.2.trans lB⟩
      rw [r_X4_muteTold, q_X4_muteTold_0, h46, if_neg (by omega), eW, b1, cI_v, if_neg (by omega), d1, cI_v, if_pos rfl]
    | ok y =>
      obtain ⟨x, pl1, p2, t2⟩ := y
      obtain ⟨D, d1, d2, d3, d4, d5, d6, d7⟩ := w2 x pl1 p2 t2 hG2
      obtain ⟨x1, x2⟩ := s_tells d 16 (by decide) 0 99 1 (by decide) D d2
      rw [show ((1 : Nat) : Int) = 1 from rfl] at x1 x2
      simp only
      cases hG3 : tellG T L p2 t2 16 0 99 with
      | error y =>
        obtain ⟨k0, s0⟩ := y
        obtain ⟨E, a1, a2, a3, a4⟩ := x1 k0 s0 hG3
        refine ⟨(fun k l q => ?_), (fun H' p' t' q => by cases q)⟩
        injection q with q; injection q with q1 q2
        subst q1 q2
        refine ⟨E, ?_, a2, a3, frU_trans uB (frU_trans (frO_U d7) (frO_U a4)), a4.2.2.trans (d7.2.2.trans lB)⟩
        rw [r_X4_muteTold, q_X4_muteTold_0, h46, if_neg (by omega), eW, b1, cI_v, if_neg (by omega), d1, cI_v, if_neg (by omega), a1, cI_v, if_pos rfl]
      | ok y =>
        obtain ⟨y, pl2, p3, t3⟩ := y
        obtain ⟨J, j1, j2, j3, j4, j5, j6, j7⟩ := x2 y pl2 p3 t3 hG3
        have oJ : frO B J := frO_trans d7 j7
        have gJ : ∀ a j, 271 ≤ a → ¬ (a = h + 1 ∧ j = 10 + K) → gi J a j = gi A a j := fun a j q1 q2 => by
          rw [oJ.1 a j (by omega) (by omega), b2, gi_wi, if_neg q2, b8.1 a j (by omega)]
        have J1 : gi J (h + 1) (10 + K) = padN v := by rw [oJ.1 _ _ (by omega) (by omega), b2, gi_wi, if_pos ⟨rfl, rfl⟩]
        have K0 : gi J 47 0 = x := by rw [j4 0 (by omega)]; exact d3
        have hJr : ∀ a j, ¬ (a = 42 ∧ j = 7) → gr J a j = gr A a j := fun a j q => by rw [oJ.2.1 a j q, b2, gr_wi, b8.2.1 a j q]
        have J46 : gr J 46 3 = h := by rw [hJr 46 3 (by omega)]; exact h46
        have lJ : J.2.2 = A.2.2 := oJ.2.2.trans lB
        have uJ : frU h A J := frU_trans uB (frO_U oJ)
        have f11 : gi J 42 11 = gi A 42 11 := by rw [j6.1, d6.1, b2, gi_wi, if_neg (by omega)]; exact b7.1
        have f12 : gi J 42 12 = gi A 42 12 := by rw [j6.2, d6.2, b2, gi_wi, if_neg (by omega)]; exact b7.2
        have gK : gi J h 5 = K := by rw [gJ _ _ (by omega) (by omega)]; exact g2
        have eK : (nMu H).toNat = K := by omega
        rw [eK]
        refine ⟨(fun k l q => by cases q), (fun H' p' t' q => ?_)⟩
        injection q with q; injection q with q1 q2; injection q2 with q2 q3
        subst q1 q2 q3
        refine ⟨wi (wi (wi J (h + 2) (10 + K) x) (h + 6) K y) h 5 ((K + 1 : Nat) : Int), ?_, RdS_fr (A := J) (fun j => by simp -implicitDefEqProofs (disch := omega) only [gi_wi, ↓reduceIte, Int.reduceEq, cI_v, cL_v, cV_v, cR_v, wid, wid64, if_pos, if_neg, Nat.add_zero, if_true, if_false, and_self, and_true, true_and, and_false, false_and, or_true, true_or, or_false, false_or]) (fun j => by simp -implicitDefEqProofs (disch := omega) only [gi_wi, ↓reduceIte, Int.reduceEq, cI_v, cL_v, cV_v, cR_v, wid, wid64, if_pos, if_neg, Nat.add_zero, if_true, if_false, and_self, and_true, true_and, and_false, false_and, or_true, true_or, or_false, false_or]) (fun _ => rfl) rfl j2, ?_, ⟨by simp -implicitDefEqProofs (disch := omega) only [gi_wi, ↓reduceIte, Int.reduceEq, cI_v, cL_v, cV_v, cR_v, wid, wid64, if_pos, if_neg, Nat.add_zero, if_true, if_false, and_self, and_true, true_and, and_false, false_and, or_true, true_or, or_false, false_or]; exact f11, by simp -implicitDefEqProofs (disch := omega) only [gi_wi, ↓reduceIte, Int.reduceEq, cI_v, cL_v, cV_v, cR_v, wid, wid64, if_pos, if_neg, Nat.add_zero, if_true, if_false, and_self, and_true, true_and, and_false, false_and, or_true, true_or, or_false, false_or]; exact f12⟩, by simp -implicitDefEqProofs (disch := omega) only [gi_wi, ↓reduceIte, Int.reduceEq, cI_v, cL_v, cV_v, cR_v, wid, wid64, if_pos, if_neg, Nat.add_zero, if_true, if_false, and_self, and_true, true_and, and_false, false_and, or_true, true_or, or_false, false_or]; exact gJ h 0 (by omega) (by omega), frU_wi _ _ _ (by omega) (frU_wi _ _ _ (by omega) (frU_wi _ _ _ (by omega) uJ)), lJ, hJr⟩
        · rw [r_X4_muteTold, q_X4_muteTold_0, h46, if_neg (by omega), eW, b1, cI_v, if_neg (by omega), d1, cI_v, if_neg (by omega), j1, cI_v, if_neg (by omega), J46, if_neg (by omega), if_pos (by omega), Int.toNat_natCast, K0, q_X4_muteTold_64]
          have z1 : gi (wi J (h + 2) (10 + K) x) h 5 = K := by simp -implicitDefEqProofs (disch := omega) only [gi_wi, ↓reduceIte, Int.reduceEq, cI_v, cL_v, cV_v, cR_v, wid, wid64, if_pos, if_neg, Nat.add_zero, if_true, if_false, and_self, and_true, true_and, and_false, false_and, or_true, true_or, or_false, false_or]; exact gK
          have z2 : gi (wi (wi J (h + 2) (10 + K) x) (h + 6) K y) h 5 = K := by simp -implicitDefEqProofs (disch := omega) only [gi_wi, ↓reduceIte, Int.reduceEq, cI_v, cL_v, cV_v, cR_v, wid, wid64, if_pos, if_neg, Nat.add_zero, if_true, if_false, and_self, and_true, true_and, and_false, false_and, or_true, true_or, or_false, false_or]; exact gK
          have z3 : gi (wi J (h + 2) (10 + K) x) 47 1 = y := by simp -implicitDefEqProofs (disch := omega) only [gi_wi, ↓reduceIte, Int.reduceEq, cI_v, cL_v, cV_v, cR_v, wid, wid64, if_pos, if_neg, Nat.add_zero, if_true, if_false, and_self, and_true, true_and, and_false, false_and, or_true, true_or, or_false, false_or]; exact j3
          have z4 : gr (wi J (h + 2) (10 + K) x) 46 3 = h := J46
          have z5 : gr (wi (wi J (h + 2) (10 + K) x) (h + 6) K y) 46 3 = h := J46
          rw [z4, if_neg (by omega), if_neg (by omega), z1, if_pos (by omega), Int.toNat_natCast, z3, q_X4_muteTold_85, z5, if_neg (by omega), if_neg (by omega), z2, wid (by omega) (by omega), q_X4_muteTold_98, show (K : Int) + 1 = ((K + 1 : Nat) : Int) by omega]
        · refine HS_mute hc s K v x y hK (by omega) b4 (fun a j q0 q1 q2 q3 q4 => ?_) (fun a j q => hJr a j q) lJ ?_ ?_ ?_ ?_
          · rw [gi_wi, if_neg q4, gi_wi, if_neg q3, gi_wi, if_neg q2]
            exact gJ a j q0 q1
          · simp -implicitDefEqProofs (disch := omega) only [gi_wi, ↓reduceIte, Int.reduceEq, cI_v, cL_v, cV_v, cR_v, wid, wid64, if_pos, if_neg, Nat.add_zero, if_true, if_false, and_self, and_true, true_and, and_false, false_and, or_true, true_or, or_false, false_or]; exact J1
          · simp -implicitDefEqProofs (disch := omega) only [gi_wi, ↓reduceIte, Int.reduceEq, cI_v, cL_v, cV_v, cR_v, wid, wid64, if_pos, if_neg, Nat.add_zero, if_true, if_false, and_self, and_true, true_and, and_false, false_and, or_true, true_or, or_false, false_or]
          · simp -implicitDefEqProofs (disch := omega) only [gi_wi, ↓reduceIte, Int.reduceEq, cI_v, cL_v, cV_v, cR_v, wid, wid64, if_pos, if_neg, Nat.add_zero, if_true, if_false, and_self, and_true, true_and, and_false, false_and, or_true, true_or, or_false, false_or]
          · simp -implicitDefEqProofs (disch := omega) only [gi_wi, ↓reduceIte, Int.reduceEq, cI_v, cL_v, cV_v, cR_v, wid, wid64, if_pos, if_neg, Nat.add_zero, if_true, if_false, and_self, and_true, true_and, and_false, false_and, or_true, true_or, or_false, false_or]
def pntG (T : Nat → Int) (L : Nat) (H : Nat → Nat → Int) (p : Nat) (t : Bool) : HG := match giveG T L H p t with
  | .error e => .error e
  | .ok (v, p1, t1) => match tellG T L p1 t1 6 0 99 with
    | .error e => .error e
    | .ok (x, _, p2, t2) => match tellG T L p2 t2 7 0 99 with
      | .error e => .error e
      | .ok (y, _, p3, t3) => .ok (pntH H (nPo H).toNat v x y, p3, t3)
set_option maxRecDepth 100000 in
theorem s_pointC (d : Nat) {T : Nat → Int} {L p : Nat} {t : Bool} {h : Nat} {H : Nat → Nat → Int} (A : AH) (hc : cok H) (s : HS A h H) (r : RdS A T L p t) (h8 : nPo H < 4) : SCR T L h A (runF (d + 5) 63 [vR 14 46 0] A) (pntG T L H p t) := by
  have h271 := s.2.2.2.1
  have h46 := s.2.2.1
  have hc' := hc
  unfold cok at hc'
  obtain ⟨K, hK⟩ : ∃ K : Nat, nPo H = K := ⟨(nPo H).toNat, by omega⟩
  have g2 : gi A h 3 = K := by rw [s.1.2.1.2.2.1, hK]
  have eW : w32 (16 + gi A h 3) = ((16 + K : Nat) : Int) := by rw [g2, wid (by omega) (by omega)]; omega
  obtain ⟨v1, v2⟩ := s_gives (d := d) ((16 + K : Nat) : Int) (by omega) A hc s r
  unfold pntG
  cases hG : giveG T L H p t with
  | error y =>
    obtain ⟨k0, s0⟩ := y
    obtain ⟨B, b1, b2, b3, b4⟩ := v1 k0 s0 hG
    refine ⟨(fun k l q => ?_), (fun H' p' t' q => by cases q)⟩
    injection q with q; injection q with q1 q2
    subst q1 q2
    refine ⟨B, ?_, b2, b3, frO_U b4, b4.2.2⟩
    rw [r_X4_pointTold, q_X4_pointTold_0, h46, if_neg (by omega), eW, b1, cI_v, if_pos rfl]
  | ok y =>
    obtain ⟨v, p1, t1⟩ := y
    obtain ⟨B, C, b1, b2, b3, b4, b5, b6, b7, b8⟩ := v2 v p1 t1 hG
    rw [Int.toNat_natCast] at b1 b2
    rw [← b2] at b1
    have rB : RdS B T L p1 t1 := by rw [b2]; exact RdS_fr (A := C) (fun j => by rw [gi_wi, if_neg (by omega)]) (fun j => by rw [gi_wi, if_neg (by omega)]) (fun _ => rfl) rfl b3
    have uB : frU h A B := by rw [b2]; exact frU_wi _ _ _ (by omega) (frR_U b8)
    have lB : B.2.2 = A.2.2 := by rw [b2]; exact b8.2.2
    obtain ⟨w1, w2⟩ := s_tells d 6 (by decide) 0 99 0 (by decide) B rB
    rw [show ((0 : Nat) : Int) = 0 from rfl] at w1 w2
    simp only
    cases hG2 : tellG T L p1 t1 6 0 99 with
    | error y =>
      obtain ⟨k0, s0⟩ := y
      obtain ⟨D, d1, d2, d3, d4⟩ := w1 k0 s0 hG2
      refine ⟨(fun k l q => ?_), (fun H' p' t' q => by cases q)⟩
      injection q with q; injection q with q1 q2
      subst q1 q2
      refine ⟨D, ?_, d2, d3, frU_trans uB (frO_U d4), d4.2.2.trans lB⟩
      rw [r_X4_pointTold, q_X4_pointTold_0, h46, if_neg (by omega), eW, b1, cI_v, if_neg (by omega), d1, cI_v, if_pos rfl]
    | ok y =>
      obtain ⟨x, pl1, p2, t2⟩ := y
      obtain ⟨D, d1, d2, d3, d4, d5, d6, d7⟩ := w2 x pl1 p2 t2 hG2
      obtain ⟨x1, x2⟩ := s_tells d 7 (by decide) 0 99 1 (by decide) D d2
      rw [show ((1 : Nat) : Int) = 1 from rfl] at x1 x2
      simp only
      cases hG3 : tellG T L p2 t2 7 0 99 with
      | error y =>
        obtain ⟨k0, s0⟩ := y
        obtain ⟨E, a1, a2, a3, a4⟩ := x1 k0 s0 hG3
        refine ⟨(fun k l q => ?_), (fun H' p' t' q => by cases q)⟩
        injection q with q; injection q with q1 q2
        subst q1 q2
        refine ⟨E, ?_, a2, a3, frU_trans uB (frU_trans (frO_U d7) (frO_U a4)), a4.2.2.trans (d7.2.2.trans lB)⟩
        rw [r_X4_pointTold, q_X4_pointTold_0, h46, if_neg (by omega), eW, b1, cI_v, if_neg (by omega), d1, cI_v, if_neg (by omega), a1, cI_v, if_pos rfl]
      | ok y =>
        obtain ⟨y, pl2, p3, t3⟩ := y
        obtain ⟨J, j1, j2, j3, j4, j5, j6, j7⟩ := x2 y pl2 p3 t3 hG3
        have oJ : frO B J := frO_trans d7 j7
        have gJ : ∀ a j, 271 ≤ a → ¬ (a = h + 1 ∧ j = 16 + K) → gi J a j = gi A a j := fun a j q1 q2 => by
          rw [oJ.1 a j (by omega) (by omega), b2, gi_wi, if_neg q2, b8.1 a j (by omega)]
        have J1 : gi J (h + 1) (16 + K) = padN v := by rw [oJ.1 _ _ (by omega) (by omega), b2, gi_wi, if_pos ⟨rfl, rfl⟩]
        have K0 : gi J 47 0 = x := by rw [j4 0 (by omega)]; exact d3
        have hJr : ∀ a j, ¬ (a = 42 ∧ j = 7) → gr J a j = gr A a j := fun a j q => by rw [oJ.2.1 a j q, b2, gr_wi, b8.2.1 a j q]
        have J46 : gr J 46 3 = h := by rw [hJr 46 3 (by omega)]; exact h46
        have lJ : J.2.2 = A.2.2 := oJ.2.2.trans lB
        have uJ : frU h A J := frU_trans uB (frO_U oJ)
        have f11 : gi J 42 11 = gi A 42 11 := by rw [j6.1, d6.1, b2, gi_wi, if_neg (by omega)]; exact b7.1
        have f12 : gi J 42 12 = gi A 42 12 := by rw [j6.2, d6.2, b2, gi_wi, if_neg (by omega)]; exact b7.2
        have gK : gi J h 3 = K := by rw [gJ _ _ (by omega) (by omega)]; exact g2
        have eK : (nPo H).toNat = K := by omega
        rw [eK]
        refine ⟨(fun k l q => by cases q), (fun H' p' t' q => ?_)⟩
        injection q with q; injection q with q1 q2; injection q2 with q2 q3
        subst q1 q2 q3
        refine ⟨wi (wi (wi J (h + 7) (2 * K) x) (h + 7) (2 * K + 1) y) h 3 ((K + 1 : Nat) : Int), ?_, RdS_fr (A := J) (fun j => by simp -implicitDefEqProofs (disch := omega) only [gi_wi, ↓reduceIte, Int.reduceEq, cI_v, cL_v, cV_v, cR_v, wid, wid64, if_pos, if_neg, Nat.add_zero, if_true, if_false, and_self, and_true, true_and, and_false, false_and, or_true, true_or, or_false, false_or]) (fun j => by simp -implicitDefEqProofs (disch := omega) only [gi_wi, ↓reduceIte, Int.reduceEq, cI_v, cL_v, cV_v, cR_v, wid, wid64, if_pos, if_neg, Nat.add_zero, if_true, if_false, and_self, and_true, true_and, and_false, false_and, or_true, true_or, or_false, false_or]) (fun _ => rfl) rfl j2, ?_, ⟨by simp -implicitDefEqProofs (disch := omega) only [gi_wi, ↓reduceIte, Int.reduceEq, cI_v, cL_v, cV_v, cR_v, wid, wid64, if_pos, if_neg, Nat.add_zero, if_true, if_false, and_self, and_true, true_and, and_false, false_and, or_true, true_or, or_false, false_or]; exact f11, by simp -implicitDefEqProofs (disch := omega) only [gi_wi, ↓reduceIte, Int.reduceEq, cI_v, cL_v, cV_v, cR_v, wid, wid64, if_pos, if_neg, Nat.add_zero, if_true, if_false, and_self, and_true, true_and, and_false, false_and, or_true, true_or, or_false, false_or]; exact f12⟩, by simp -implicitDefEqProofs (disch := omega) only [gi_wi, ↓reduceIte, Int.reduceEq, cI_v, cL_v, cV_v, cR_v, wid, wid64, if_pos, if_neg, Nat.add_zero, if_true, if_false, and_self, and_true, true_and, and_false, false_and, or_true, true_or, or_false, false_or]; exact gJ h 0 (by omega) (by omega), frU_wi _ _ _ (by omega) (frU_wi _ _ _ (by omega) (frU_wi _ _ _ (by omega) uJ)), lJ, hJr⟩
        · rw [r_X4_pointTold, q_X4_pointTold_0, h46, if_neg (by omega), eW, b1, cI_v, if_neg (by omega), d1, cI_v, if_neg (by omega), j1, cI_v, if_neg (by omega), J46, if_neg (by omega), g2]
          have w0 : w32 (w32 (2 * (K : Int)) + 0) = ((2 * K : Nat) : Int) := by rw [wid (x := 2 * (K : Int)) (by omega) (by omega), wid (by omega) (by omega)]; omega
          have w1 : w32 (w32 (2 * (K : Int)) + 1) = ((2 * K + 1 : Nat) : Int) := by rw [wid (x := 2 * (K : Int)) (by omega) (by omega), wid (by omega) (by omega)]; omega
          have z2 : gi (wi (wi J (h + 7) (2 * K) x) (h + 7) (2 * K + 1) y) h 3 = K := by simp -implicitDefEqProofs (disch := omega) only [gi_wi, ↓reduceIte, Int.reduceEq, cI_v, cL_v, cV_v, cR_v, wid, wid64, if_pos, if_neg, Nat.add_zero, if_true, if_false, and_self, and_true, true_and, and_false, false_and, or_true, true_or, or_false, false_or]; exact gK
          have z3 : gi (wi J (h + 7) (2 * K) x) 47 1 = y := by simp -implicitDefEqProofs (disch := omega) only [gi_wi, ↓reduceIte, Int.reduceEq, cI_v, cL_v, cV_v, cR_v, wid, wid64, if_pos, if_neg, Nat.add_zero, if_true, if_false, and_self, and_true, true_and, and_false, false_and, or_true, true_or, or_false, false_or]; exact j3
          have z4 : gr (wi J (h + 7) (2 * K) x) 46 3 = h := J46
          have z5 : gr (wi (wi J (h + 7) (2 * K) x) (h + 7) (2 * K + 1) y) 46 3 = h := J46
          simp only [w0]
          rw [if_pos (by omega), Int.toNat_natCast, K0, q_X4_pointTold_68]
          simp only [w1]
          rw [z4, if_neg (by omega), if_pos (by omega), Int.toNat_natCast, z3, q_X4_pointTold_87, z5, if_neg (by omega), if_neg (by omega), z2, wid (by omega) (by omega), q_X4_pointTold_100, show (K : Int) + 1 = ((K + 1 : Nat) : Int) by omega]
        · refine HS_pnt hc s K v x y hK (by omega) b4 (fun a j q0 q1 q2 q3 q4 => ?_) (fun a j q => hJr a j q) lJ ?_ ?_ ?_ ?_
          · rw [gi_wi, if_neg q4, gi_wi, if_neg q3, gi_wi, if_neg q2]
            exact gJ a j q0 q1
          · simp -implicitDefEqProofs (disch := omega) only [gi_wi, ↓reduceIte, Int.reduceEq, cI_v, cL_v, cV_v, cR_v, wid, wid64, if_pos, if_neg, Nat.add_zero, if_true, if_false, and_self, and_true, true_and, and_false, false_and, or_true, true_or, or_false, false_or]; exact J1
          · simp -implicitDefEqProofs (disch := omega) only [gi_wi, ↓reduceIte, Int.reduceEq, cI_v, cL_v, cV_v, cR_v, wid, wid64, if_pos, if_neg, Nat.add_zero, if_true, if_false, and_self, and_true, true_and, and_false, false_and, or_true, true_or, or_false, false_or]
          · simp -implicitDefEqProofs (disch := omega) only [gi_wi, ↓reduceIte, Int.reduceEq, cI_v, cL_v, cV_v, cR_v, wid, wid64, if_pos, if_neg, Nat.add_zero, if_true, if_false, and_self, and_true, true_and, and_false, false_and, or_true, true_or, or_false, false_or]
          · simp -implicitDefEqProofs (disch := omega) only [gi_wi, ↓reduceIte, Int.reduceEq, cI_v, cL_v, cV_v, cR_v, wid, wid64, if_pos, if_neg, Nat.add_zero, if_true, if_false, and_self, and_true, true_and, and_false, false_and, or_true, true_or, or_false, false_or]
