/-! the text of a hall: the reference reads a mute, a point -/
theorem MR_mute {A B : AH} {H : Nat → Nat → Int} {cd : Nat} {M : Nat} {v x y : Int} (m : MR A H cd) (hM : M < 6) (g : ∀ a j, 224 ≤ a → a ≤ 233 → ¬ (a = 225 ∧ j = 8 + M) → ¬ (a = 227 ∧ j = 2 * M) → ¬ (a = 227 ∧ j = 2 * M + 1) → ¬ (a = 224 ∧ j = 1) → gi B a j = gi A a j) (g55 : gi B 190 55 = gi A 190 55) (e0 : gi B 225 (8 + M) = v) (e1 : gi B 227 (2 * M) = x) (e2 : gi B 227 (2 * M + 1) = y) (e3 : gi B 224 (1) = ((M + 1 : Nat) : Int)) : MR B (muteH H M v x y) cd := by
  obtain ⟨m1, m2, m3, m4, m5, m6, m7, m8, m9, m10, m11⟩ := m
  have o := muteH_o H M v x y
  obtain ⟨q0, q1, q2, q3⟩ := muteH_v H M v x y
  refine ⟨fun j h => ?_, fun j h => ?_, fun j h => ?_, fun j h => ?_, fun j h => ?_, fun j h => ?_, fun j h => ?_, fun j h => ?_, fun j h => ?_, fun j h => ?_, g55.trans m11⟩
  · by_cases c3 : j = 1
    · rw [c3, e3, show 6 + (1) = 7 by omega, q3]
    · rw [g 224 j (by omega) (by omega) (by omega) (by omega) (by omega) (by omega), o 224 _ (by omega) (by omega) (by omega) (by omega)]; exact m1 j h
  · by_cases c0 : j = 8 + M
    · rw [c0, e0, show 24 + (8 + M) = 32 + M by omega, q0]
    · rw [g 225 j (by omega) (by omega) (by omega) (by omega) (by omega) (by omega), o 225 _ (by omega) (by omega) (by omega) (by omega)]; exact m2 j h
  · rw [g 226 j (by omega) (by omega) (by omega) (by omega) (by omega) (by omega), o 226 _ (by omega) (by omega) (by omega) (by omega)]; exact m3 j h
  · by_cases c1 : j = 2 * M
    · rw [c1, e1, show 12 + (2 * M) = 12 + 2 * M by omega, q1]
    · by_cases c2 : j = 2 * M + 1
      · rw [c2, e2, show 12 + (2 * M + 1) = 13 + 2 * M by omega, q2]
      · rw [g 227 j (by omega) (by omega) (by omega) (by omega) (by omega) (by omega), o 227 _ (by omega) (by omega) (by omega) (by omega)]; exact m4 j h
  · rw [g 228 j (by omega) (by omega) (by omega) (by omega) (by omega) (by omega), o 228 _ (by omega) (by omega) (by omega) (by omega)]; exact m5 j h
  · rw [g 229 j (by omega) (by omega) (by omega) (by omega) (by omega) (by omega), o 229 _ (by omega) (by omega) (by omega) (by omega)]; exact m6 j h
  · rw [g 230 j (by omega) (by omega) (by omega) (by omega) (by omega) (by omega), o 230 _ (by omega) (by omega) (by omega) (by omega)]; exact m7 j h
  · rw [g 231 j (by omega) (by omega) (by omega) (by omega) (by omega) (by omega), o 231 _ (by omega) (by omega) (by omega) (by omega)]; exact m8 j h
  · rw [g 232 j (by omega) (by omega) (by omega) (by omega) (by omega) (by omega), o 232 _ (by omega) (by omega) (by omega) (by omega)]; exact m9 j h
  · rw [g 233 j (by omega) (by omega) (by omega) (by omega) (by omega) (by omega), o 233 _ (by omega) (by omega) (by omega) (by omega)]; exact m10 j h
theorem MR_pnt {A B : AH} {H : Nat → Nat → Int} {cd : Nat} {K : Nat} {v x y : Int} (m : MR A H cd) (hK : K < 4) (g : ∀ a j, 224 ≤ a → a ≤ 233 → ¬ (a = 225 ∧ j = 16 + K) → ¬ (a = 228 ∧ j = 2 * K) → ¬ (a = 228 ∧ j = 2 * K + 1) → ¬ (a = 224 ∧ j = 2) → gi B a j = gi A a j) (g55 : gi B 190 55 = gi A 190 55) (e0 : gi B 225 (16 + K) = v) (e1 : gi B 228 (2 * K) = x) (e2 : gi B 228 (2 * K + 1) = y) (e3 : gi B 224 (2) = ((K + 1 : Nat) : Int)) : MR B (pntH H K v x y) cd := by
  obtain ⟨m1, m2, m3, m4, m5, m6, m7, m8, m9, m10, m11⟩ := m
  have o := pntH_o H K v x y
  obtain ⟨q0, q1, q2, q3⟩ := pntH_v H K v x y
  refine ⟨fun j h => ?_, fun j h => ?_, fun j h => ?_, fun j h => ?_, fun j h => ?_, fun j h => ?_, fun j h => ?_, fun j h => ?_, fun j h => ?_, fun j h => ?_, g55.trans m11⟩
  · by_cases c3 : j = 2
    · rw [c3, e3, show 6 + (2) = 8 by omega, q3]
    · rw [g 224 j (by omega) (by omega) (by omega) (by omega) (by omega) (by omega), o 224 _ (by omega) (by omega) (by omega) (by omega)]; exact m1 j h
  · by_cases c0 : j = 16 + K
    · rw [c0, e0, show 24 + (16 + K) = 40 + K by omega, q0]
    · rw [g 225 j (by omega) (by omega) (by omega) (by omega) (by omega) (by omega), o 225 _ (by omega) (by omega) (by omega) (by omega)]; exact m2 j h
  · rw [g 226 j (by omega) (by omega) (by omega) (by omega) (by omega) (by omega), o 226 _ (by omega) (by omega) (by omega) (by omega)]; exact m3 j h
  · rw [g 227 j (by omega) (by omega) (by omega) (by omega) (by omega) (by omega), o 227 _ (by omega) (by omega) (by omega) (by omega)]; exact m4 j h
  · by_cases c1 : j = 2 * K
    · rw [c1, e1, show 8 + (2 * K) = 8 + 2 * K by omega, q1]
    · by_cases c2 : j = 2 * K + 1
      · rw [c2, e2, show 8 + (2 * K + 1) = 9 + 2 * K by omega, q2]
      · rw [g 228 j (by omega) (by omega) (by omega) (by omega) (by omega) (by omega), o 228 _ (by omega) (by omega) (by omega) (by omega)]; exact m5 j h
  · rw [g 229 j (by omega) (by omega) (by omega) (by omega) (by omega) (by omega), o 229 _ (by omega) (by omega) (by omega) (by omega)]; exact m6 j h
  · rw [g 230 j (by omega) (by omega) (by omega) (by omega) (by omega) (by omega), o 230 _ (by omega) (by omega) (by omega) (by omega)]; exact m7 j h
  · rw [g 231 j (by omega) (by omega) (by omega) (by omega) (by omega) (by omega), o 231 _ (by omega) (by omega) (by omega) (by omega)]; exact m8 j h
  · rw [g 232 j (by omega) (by omega) (by omega) (by omega) (by omega) (by omega), o 232 _ (by omega) (by omega) (by omega) (by omega)]; exact m9 j h
  · rw [g 233 j (by omega) (by omega) (by omega) (by omega) (by omega) (by omega), o 233 _ (by omega) (by omega) (by omega) (by omega)]; exact m10 j h
theorem MR_noi {A B : AH} {H : Nat → Nat → Int} {cd : Nat} {K : Nat} {x y z : Int} (m : MR A H cd) (hK : K < 6) (g : ∀ a j, 224 ≤ a → a ≤ 233 → ¬ (a = 229 ∧ j = 3 * K) → ¬ (a = 229 ∧ j = 3 * K + 1) → ¬ (a = 229 ∧ j = 3 * K + 2) → ¬ (a = 224 ∧ j = 3) → gi B a j = gi A a j) (g55 : gi B 190 55 = gi A 190 55) (e0 : gi B 229 (3 * K) = x) (e1 : gi B 229 (3 * K + 1) = y) (e2 : gi B 229 (3 * K + 2) = z) (e3 : gi B 224 (3) = ((K + 1 : Nat) : Int)) : MR B (noiH H K x y z) cd := by
  obtain ⟨m1, m2, m3, m4, m5, m6, m7, m8, m9, m10, m11⟩ := m
  have o := noiH_o H K x y z
  obtain ⟨q0, q1, q2, q3⟩ := noiH_v H K x y z
  refine ⟨fun j h => ?_, fun j h => ?_, fun j h => ?_, fun j h => ?_, fun j h => ?_, fun j h => ?_, fun j h => ?_, fun j h => ?_, fun j h => ?_, fun j h => ?_, g55.trans m11⟩
  · by_cases c3 : j = 3
    · rw [c3, e3, show 6 + (3) = 9 by omega, q3]
    · rw [g 224 j (by omega) (by omega) (by omega) (by omega) (by omega) (by omega), o 224 _ (by omega) (by omega) (by omega) (by omega)]; exact m1 j h
  · rw [g 225 j (by omega) (by omega) (by omega) (by omega) (by omega) (by omega), o 225 _ (by omega) (by omega) (by omega) (by omega)]; exact m2 j h
  · rw [g 226 j (by omega) (by omega) (by omega) (by omega) (by omega) (by omega), o 226 _ (by omega) (by omega) (by omega) (by omega)]; exact m3 j h
  · rw [g 227 j (by omega) (by omega) (by omega) (by omega) (by omega) (by omega), o 227 _ (by omega) (by omega) (by omega) (by omega)]; exact m4 j h
  · rw [g 228 j (by omega) (by omega) (by omega) (by omega) (by omega) (by omega), o 228 _ (by omega) (by omega) (by omega) (by omega)]; exact m5 j h
  · by_cases c0 : j = 3 * K
    · rw [c0, e0, show 18 + (3 * K) = 18 + 3 * K by omega, q0]
    · by_cases c1 : j = 3 * K + 1
      · rw [c1, e1, show 18 + (3 * K + 1) = 19 + 3 * K by omega, q1]
      · by_cases c2 : j = 3 * K + 2
        · rw [c2, e2, show 18 + (3 * K + 2) = 20 + 3 * K by omega, q2]
        · rw [g 229 j (by omega) (by omega) (by omega) (by omega) (by omega) (by omega), o 229 _ (by omega) (by omega) (by omega) (by omega)]; exact m6 j h
  · rw [g 230 j (by omega) (by omega) (by omega) (by omega) (by omega) (by omega), o 230 _ (by omega) (by omega) (by omega) (by omega)]; exact m7 j h
  · rw [g 231 j (by omega) (by omega) (by omega) (by omega) (by omega) (by omega), o 231 _ (by omega) (by omega) (by omega) (by omega)]; exact m8 j h
  · rw [g 232 j (by omega) (by omega) (by omega) (by omega) (by omega) (by omega), o 232 _ (by omega) (by omega) (by omega) (by omega)]; exact m9 j h
  · rw [g 233 j (by omega) (by omega) (by omega) (by omega) (by omega) (by omega), o 233 _ (by omega) (by omega) (by omega) (by omega)]; exact m10 j h
theorem MR_hat {A B : AH} {H : Nat → Nat → Int} {cd : Nat} {K N : Nat} {x : Int} (m : MR A H cd) (hK : K < 16) (g : ∀ a j, 224 ≤ a → a ≤ 233 → ¬ (a = 230 ∧ j = K) → ¬ (a = 224 ∧ j = 4) → gi B a j = gi A a j) (g55 : gi B 190 55 = gi A 190 55) (e0 : gi B 230 (K) = x) (e1 : gi B 224 (4) = ((N + 1 : Nat) : Int)) : MR B (hatH H K N x) cd := by
  obtain ⟨m1, m2, m3, m4, m5, m6, m7, m8, m9, m10, m11⟩ := m
  have o := hatH_o H K N x
  obtain ⟨q0, q1⟩ := hatH_v H K N x
  refine ⟨fun j h => ?_, fun j h => ?_, fun j h => ?_, fun j h => ?_, fun j h => ?_, fun j h => ?_, fun j h => ?_, fun j h => ?_, fun j h => ?_, fun j h => ?_, g55.trans m11⟩
  · by_cases c1 : j = 4
    · rw [c1, e1, show 6 + (4) = 10 by omega, q1]
    · rw [g 224 j (by omega) (by omega) (by omega) (by omega), o 224 _ (by omega) (by omega)]; exact m1 j h
  · rw [g 225 j (by omega) (by omega) (by omega) (by omega), o 225 _ (by omega) (by omega)]; exact m2 j h
  · rw [g 226 j (by omega) (by omega) (by omega) (by omega), o 226 _ (by omega) (by omega)]; exact m3 j h
  · rw [g 227 j (by omega) (by omega) (by omega) (by omega), o 227 _ (by omega) (by omega)]; exact m4 j h
  · rw [g 228 j (by omega) (by omega) (by omega) (by omega), o 228 _ (by omega) (by omega)]; exact m5 j h
  · rw [g 229 j (by omega) (by omega) (by omega) (by omega), o 229 _ (by omega) (by omega)]; exact m6 j h
  · by_cases c0 : j = K
    · rw [c0, e0, show 16 + (K) = 16 + K by omega, q0]
    · rw [g 230 j (by omega) (by omega) (by omega) (by omega), o 230 _ (by omega) (by omega)]; exact m7 j h
  · rw [g 231 j (by omega) (by omega) (by omega) (by omega), o 231 _ (by omega) (by omega)]; exact m8 j h
  · rw [g 232 j (by omega) (by omega) (by omega) (by omega), o 232 _ (by omega) (by omega)]; exact m9 j h
  · rw [g 233 j (by omega) (by omega) (by omega) (by omega), o 233 _ (by omega) (by omega)]; exact m10 j h
set_option maxRecDepth 100000 in
theorem s_muteM (d : Nat) {T : Nat → Int} {L p : Nat} {t : Bool} {H : Nat → Nat → Int} {cd : Nat} (bg : Int) (A : AH) (hc : cok H) (mr : MR A H cd) (m : MdS A T L p t) (h8 : nMu H < 6) : SMo T L A cd (runF (d + 6) 174 [vR 21 190 0, vI bg] A) (mutG T L H p t) := by
  have hc' := hc
  unfold cok at hc'
  obtain ⟨K, hK⟩ : ∃ K : Nat, nMu H = K := ⟨(nMu H).toNat, by omega⟩
  have h0 : gi A 224 1 = K := (MR_n mr).2.1.trans hK
  have hf := (s_isFull (d + 3) 1 (by omega) 6 bg A m).1 (by rw [h0]; omega)
  rw [show ((1 : Nat) : Int) = 1 from rfl] at hf
  obtain ⟨v1, v2⟩ := s_newName d A hc mr m
  unfold mutG
  cases hG : giveG T L H p t with
  | error y =>
    obtain ⟨k0, s0⟩ := y
    obtain ⟨v, B, b1, b2⟩ := v1 k0 s0 hG
    have hb : gi B 190 5 ≠ 0 := by rw [b2.1]; exact b2.2.2.1
    refine ⟨(fun k s q => ?_), (fun H' p' t' q => by cases q)⟩
    injection q with q; injection q with q1 q2
    subst q1 q2
    refine ⟨B, ?_, b2⟩
    rw [r_X12_muteTold, q_X12_muteTold_0, hf, cI_v, if_pos rfl, b1, cL_v, s_asksB _ _ _ _ (by decide) hb, cV_v, s_numberB _ _ _ _ hb, cI_v, s_asksB _ _ _ _ (by decide) hb, cV_v, s_numberB _ _ _ _ hb, cI_v, if_neg hb]
  | ok y =>
    obtain ⟨v, p1, t1⟩ := y
    obtain ⟨B, b1, b2, b3⟩ := v2 v p1 t1 hG
    obtain ⟨C, x, D, c1, c2, _, c4, c5⟩ := tellM (d + 1) 195 5 3 1 99 B b2 (by omega) (by decide) (by decide)
    simp only
    cases hG2 : tellG T L p1 t1 3 1 99 with
    | error y =>
      obtain ⟨k0, s0⟩ := y
      have e := c4 k0 s0 hG2
      have hb : gi D 190 5 ≠ 0 := by rw [e.1]; exact e.2.2.1
      refine ⟨(fun k s q => ?_), (fun H' p' t' q => by cases q)⟩
      injection q with q; injection q with q1 q2
      subst q1 q2
      refine ⟨D, ?_, MB_t b3 e⟩
      rw [r_X12_muteTold, q_X12_muteTold_0, hf, cI_v, if_pos rfl, b1, cL_v, c1, cV_v, c2, cI_v, s_asksB _ _ _ _ (by decide) hb, cV_v, s_numberB _ _ _ _ hb, cI_v, if_neg hb]
    | ok y =>
      obtain ⟨x', pl1, p2, t2⟩ := y
      obtain ⟨rfl, d2, d3, d4⟩ := c5 x' pl1 p2 t2 hG2
      obtain ⟨E, y, F, f1, f2, _, f4, f5⟩ := tellM (d + 1) 208 5 16 0 99 D d2 (by omega) (by decide) (by decide)
      simp only
      cases hG3 : tellG T L p2 t2 16 0 99 with
      | error z =>
        obtain ⟨k0, s0⟩ := z
        have e := f4 k0 s0 hG3
        have hb : gi F 190 5 ≠ 0 := by rw [e.1]; exact e.2.2.1
        refine ⟨(fun k s q => ?_), (fun H' p' t' q => by cases q)⟩
        injection q with q; injection q with q1 q2
        subst q1 q2
        refine ⟨F, ?_, MB_t (frZ_trans b3 d3) e⟩
        rw [r_X12_muteTold, q_X12_muteTold_0, hf, cI_v, if_pos rfl, b1, cL_v, c1, cV_v, c2, cI_v, f1, cV_v, f2, cI_v, if_neg hb]
      | ok z =>
        obtain ⟨y', pl2, p3, t3⟩ := z
        obtain ⟨rfl, g2, g3, g4⟩ := f5 y' pl2 p3 t3 hG3
        have fAF : frZ A F := frZ_trans b3 (frZ_trans d3 g3)
        have mF := MR_Z fAF mr
        have F0 : gi F 224 1 = K := by rw [fAF.1 224 1 (by omega)]; exact h0
        have eK : (nMu H).toNat = K := by omega
        rw [eK]
        refine ⟨(fun k s q => by cases q), (fun H' p' t' q => ?_)⟩
        injection q with q; injection q with q1 q2; injection q2 with q2 q3
        subst q1 q2 q3
        refine ⟨wi (wi (wi (wi F 225 (8 + K) v) 227 (2 * K) x) 227 (2 * K + 1) y) 224 1 ((K + 1 : Nat) : Int), ?_, MdS_fr (by simp -implicitDefEqProofs (disch := omega) only [gi_wi, ↓reduceIte, Int.reduceEq, cI_v, cL_v, cV_v, cR_v, wid, wid64, if_pos, if_neg, Nat.add_zero, if_true, if_false, and_self, and_true, true_and, and_false, false_and, or_true, true_or, or_false, false_or]) (by simp -implicitDefEqProofs (disch := omega) only [gi_wi, ↓reduceIte, Int.reduceEq, cI_v, cL_v, cV_v, cR_v, wid, wid64, if_pos, if_neg, Nat.add_zero, if_true, if_false, and_self, and_true, true_and, and_false, false_and, or_true, true_or, or_false, false_or]) (by simp -implicitDefEqProofs (disch := omega) only [gi_wi, ↓reduceIte, Int.reduceEq, cI_v, cL_v, cV_v, cR_v, wid, wid64, if_pos, if_neg, Nat.add_zero, if_true, if_false, and_self, and_true, true_and, and_false, false_and, or_true, true_or, or_false, false_or]) (by simp -implicitDefEqProofs (disch := omega) only [gi_wi, ↓reduceIte, Int.reduceEq, cI_v, cL_v, cV_v, cR_v, wid, wid64, if_pos, if_neg, Nat.add_zero, if_true, if_false, and_self, and_true, true_and, and_false, false_and, or_true, true_or, or_false, false_or]) (by simp -implicitDefEqProofs (disch := omega) only [gi_wi, ↓reduceIte, Int.reduceEq, cI_v, cL_v, cV_v, cR_v, wid, wid64, if_pos, if_neg, Nat.add_zero, if_true, if_false, and_self, and_true, true_and, and_false, false_and, or_true, true_or, or_false, false_or]) (fun a j q1 q2 => by simp -implicitDefEqProofs (disch := omega) only [gi_wi, ↓reduceIte, Int.reduceEq, cI_v, cL_v, cV_v, cR_v, wid, wid64, if_pos, if_neg, Nat.add_zero, if_true, if_false, and_self, and_true, true_and, and_false, false_and, or_true, true_or, or_false, false_or]) g2, ?_, by simp -implicitDefEqProofs (disch := omega) only [gi_wi, ↓reduceIte, Int.reduceEq, cI_v, cL_v, cV_v, cR_v, wid, wid64, if_pos, if_neg, Nat.add_zero, if_true, if_false, and_self, and_true, true_and, and_false, false_and, or_true, true_or, or_false, false_or]; exact fAF.1 190 52 (by omega), ?_⟩
        · have w0 : w32 (8 + (K : Int)) = ((8 + K : Nat) : Int) := by rw [wid (by omega) (by omega)]; omega
          have w1 : w32 (2 * (K : Int)) = ((2 * K : Nat) : Int) := by rw [wid (by omega) (by omega)]; omega
          have w2 : w32 (((2 * K : Nat) : Int) + 1) = ((2 * K + 1 : Nat) : Int) := by rw [wid (by omega) (by omega)]; omega
          have z1 : gi (wi F 225 (8 + K) v) 224 1 = K := by simp -implicitDefEqProofs (disch := omega) only [gi_wi, ↓reduceIte, Int.reduceEq, cI_v, cL_v, cV_v, cR_v, wid, wid64, if_pos, if_neg, Nat.add_zero, if_true, if_false, and_self, and_true, true_and, and_false, false_and, or_true, true_or, or_false, false_or]; exact F0
          have z2 : gi (wi (wi F 225 (8 + K) v) 227 (2 * K) x) 224 1 = K := by simp -implicitDefEqProofs (disch := omega) only [gi_wi, ↓reduceIte, Int.reduceEq, cI_v, cL_v, cV_v, cR_v, wid, wid64, if_pos, if_neg, Nat.add_zero, if_true, if_false, and_self, and_true, true_and, and_false, false_and, or_true, true_or, or_false, false_or]; exact F0
          have z3 : gi (wi (wi (wi F 225 (8 + K) v) 227 (2 * K) x) 227 (2 * K + 1) y) 224 1 = K := by simp -implicitDefEqProofs (disch := omega) only [gi_wi, ↓reduceIte, Int.reduceEq, cI_v, cL_v, cV_v, cR_v, wid, wid64, if_pos, if_neg, Nat.add_zero, if_true, if_false, and_self, and_true, true_and, and_false, false_and, or_true, true_or, or_false, false_or]; exact F0
          rw [r_X12_muteTold, q_X12_muteTold_0, hf, cI_v, if_pos rfl, b1, cL_v, c1, cV_v, c2, cI_v, f1, cV_v, f2, cI_v, if_pos g2.2.2.1, q_X12_muteTold_59, F0]
          simp only [w0]
          rw [if_pos (by omega), Int.toNat_natCast, q_X12_muteTold_74, z1]
          simp only [w1]
          rw [if_pos (by omega), Int.toNat_natCast, q_X12_muteTold_89, z2]
          simp only [w1, w2]
          rw [if_pos (by omega), Int.toNat_natCast, q_X12_muteTold_106, z3, wid (by omega) (by omega), q_X12_muteTold_116, show (K : Int) + 1 = ((K + 1 : Nat) : Int) by omega]
        · exact MR_mute mF (by omega) (fun a j q1 q2 q3 q4 q5 q6 => by rw [gi_wi, if_neg q6, gi_wi, if_neg q5, gi_wi, if_neg q4, gi_wi, if_neg q3]) (by simp -implicitDefEqProofs (disch := omega) only [gi_wi, ↓reduceIte, Int.reduceEq, cI_v, cL_v, cV_v, cR_v, wid, wid64, if_pos, if_neg, Nat.add_zero, if_true, if_false, and_self, and_true, true_and, and_false, false_and, or_true, true_or, or_false, false_or]) (by simp -implicitDefEqProofs (disch := omega) only [gi_wi, ↓reduceIte, Int.reduceEq, cI_v, cL_v, cV_v, cR_v, wid, wid64, if_pos, if_neg, Nat.add_zero, if_true, if_false, and_self, and_true, true_and, and_false, false_and, or_true, true_or, or_false, false_or]) (by simp -implicitDefEqProofs (disch := omega) only [gi_wi, ↓reduceIte, Int.reduceEq, cI_v, cL_v, cV_v, cR_v, wid, wid64, if_pos, if_neg, Nat.add_zero, if_true, if_false, and_self, and_true, true_and, and_false, false_and, or_true, true_or, or_false, false_or]) (by simp -implicitDefEqProofs (disch := omega) only [gi_wi, ↓reduceIte, Int.reduceEq, cI_v, cL_v, cV_v, cR_v, wid, wid64, if_pos, if_neg, Nat.add_zero, if_true, if_false, and_self, and_true, true_and, and_false, false_and, or_true, true_or, or_false, false_or]) (by simp -implicitDefEqProofs (disch := omega) only [gi_wi, ↓reduceIte, Int.reduceEq, cI_v, cL_v, cV_v, cR_v, wid, wid64, if_pos, if_neg, Nat.add_zero, if_true, if_false, and_self, and_true, true_and, and_false, false_and, or_true, true_or, or_false, false_or])
        · exact frY_wi _ _ _ (by unfold ry; omega) (frY_wi _ _ _ (by unfold ry; omega) (frY_wi _ _ _ (by unfold ry; omega) (frY_wi _ _ _ (by unfold ry; omega) (frZ_Y fAF))))
set_option maxRecDepth 100000 in
theorem s_pointM (d : Nat) {T : Nat → Int} {L p : Nat} {t : Bool} {H : Nat → Nat → Int} {cd : Nat} (bg : Int) (A : AH) (hc : cok H) (mr : MR A H cd) (m : MdS A T L p t) (h8 : nPo H < 4) : SMo T L A cd (runF (d + 6) 172 [vR 21 190 0, vI bg] A) (pntG T L H p t) := by
  have hc' := hc
  unfold cok at hc'
  obtain ⟨K, hK⟩ : ∃ K : Nat, nPo H = K := ⟨(nPo H).toNat, by omega⟩
  have h0 : gi A 224 2 = K := (MR_n mr).2.2.1.trans hK
  have hf := (s_isFull (d + 3) 2 (by omega) 4 bg A m).1 (by rw [h0]; omega)
  rw [show ((2 : Nat) : Int) = 2 from rfl] at hf
  obtain ⟨v1, v2⟩ := s_newName d A hc mr m
  unfold pntG
  cases hG : giveG T L H p t with
  | error y =>
    obtain ⟨k0, s0⟩ := y
    obtain ⟨v, B, b1, b2⟩ := v1 k0 s0 hG
    have hb : gi B 190 5 ≠ 0 := by rw [b2.1]; exact b2.2.2.1
    refine ⟨(fun k s q => ?_), (fun H' p' t' q => by cases q)⟩
    injection q with q; injection q with q1 q2
    subst q1 q2
    refine ⟨B, ?_, b2⟩
    rw [r_X12_pointTold, q_X12_pointTold_0, hf, cI_v, if_pos rfl, b1, cL_v, s_asksB _ _ _ _ (by decide) hb, cV_v, s_numberB _ _ _ _ hb, cI_v, s_asksB _ _ _ _ (by decide) hb, cV_v, s_numberB _ _ _ _ hb, cI_v, if_neg hb]
  | ok y =>
    obtain ⟨v, p1, t1⟩ := y
    obtain ⟨B, b1, b2, b3⟩ := v2 v p1 t1 hG
    obtain ⟨C, x, D, c1, c2, _, c4, c5⟩ := tellM (d + 1) 198 5 6 0 99 B b2 (by omega) (by decide) (by decide)
    simp only
    cases hG2 : tellG T L p1 t1 6 0 99 with
    | error y =>
      obtain ⟨k0, s0⟩ := y
      have e := c4 k0 s0 hG2
      have hb : gi D 190 5 ≠ 0 := by rw [e.1]; exact e.2.2.1
      refine ⟨(fun k s q => ?_), (fun H' p' t' q => by cases q)⟩
      injection q with q; injection q with q1 q2
      subst q1 q2
      refine ⟨D, ?_, MB_t b3 e⟩
      rw [r_X12_pointTold, q_X12_pointTold_0, hf, cI_v, if_pos rfl, b1, cL_v, c1, cV_v, c2, cI_v, s_asksB _ _ _ _ (by decide) hb, cV_v, s_numberB _ _ _ _ hb, cI_v, if_neg hb]
    | ok y =>
      obtain ⟨x', pl1, p2, t2⟩ := y
      obtain ⟨rfl, d2, d3, d4⟩ := c5 x' pl1 p2 t2 hG2
      obtain ⟨E, y, F, f1, f2, _, f4, f5⟩ := tellM (d + 1) 199 5 7 0 99 D d2 (by omega) (by decide) (by decide)
      simp only
      cases hG3 : tellG T L p2 t2 7 0 99 with
      | error z =>
        obtain ⟨k0, s0⟩ := z
        have e := f4 k0 s0 hG3
        have hb : gi F 190 5 ≠ 0 := by rw [e.1]; exact e.2.2.1
        refine ⟨(fun k s q => ?_), (fun H' p' t' q => by cases q)⟩
        injection q with q; injection q with q1 q2
        subst q1 q2
        refine ⟨F, ?_, MB_t (frZ_trans b3 d3) e⟩
        rw [r_X12_pointTold, q_X12_pointTold_0, hf, cI_v, if_pos rfl, b1, cL_v, c1, cV_v, c2, cI_v, f1, cV_v, f2, cI_v, if_neg hb]
      | ok z =>
        obtain ⟨y', pl2, p3, t3⟩ := z
        obtain ⟨rfl, g2, g3, g4⟩ := f5 y' pl2 p3 t3 hG3
        have fAF : frZ A F := frZ_trans b3 (frZ_trans d3 g3)
        have mF := MR_Z fAF mr
        have F0 : gi F 224 2 = K := by rw [fAF.1 224 2 (by omega)]; exact h0
        have eK : (nPo H).toNat = K := by omega
        rw [eK]
        refine ⟨(fun k s q => by cases q), (fun H' p' t' q => ?_)⟩
        injection q with q; injection q with q1 q2; injection q2 with q2 q3
        subst q1 q2 q3
        refine ⟨wi (wi (wi (wi F 225 (16 + K) v) 228 (2 * K) x) 228 (2 * K + 1) y) 224 2 ((K + 1 : Nat) : Int), ?_, MdS_fr (by simp -implicitDefEqProofs (disch := omega) only [gi_wi, ↓reduceIte, Int.reduceEq, cI_v, cL_v, cV_v, cR_v, wid, wid64, if_pos, if_neg, Nat.add_zero, if_true, if_false, and_self, and_true, true_and, and_false, false_and, or_true, true_or, or_false, false_or]) (by simp -implicitDefEqProofs (disch := omega) only [gi_wi, ↓reduceIte, Int.reduceEq, cI_v, cL_v, cV_v, cR_v, wid, wid64, if_pos, if_neg, Nat.add_zero, if_true, if_false, and_self, and_true, true_and, and_false, false_and, or_true, true_or, or_false, false_or]) (by simp -implicitDefEqProofs (disch := omega) only [gi_wi, ↓reduceIte, Int.reduceEq, cI_v, cL_v, cV_v, cR_v, wid, wid64, if_pos, if_neg, Nat.add_zero, if_true, if_false, and_self, and_true, true_and, and_false, false_and, or_true, true_or, or_false, false_or]) (by simp -implicitDefEqProofs (disch := omega) only [gi_wi, ↓reduceIte, Int.reduceEq, cI_v, cL_v, cV_v, cR_v, wid, wid64, if_pos, if_neg, Nat.add_zero, if_true, if_false, and_self, and_true, true_and, and_false, false_and, or_true, true_or, or_false, false_or]) (by simp -implicitDefEqProofs (disch := omega) only [gi_wi, ↓reduceIte, Int.reduceEq, cI_v, cL_v, cV_v, cR_v, wid, wid64, if_pos, if_neg, Nat.add_zero, if_true, if_false, and_self, and_true, true_and, and_false, false_and, or_true, true_or, or_false, false_or]) (fun a j q1 q2 => by simp -implicitDefEqProofs (disch := omega) only [gi_wi, ↓reduceIte, Int.reduceEq, cI_v, cL_v, cV_v, cR_v, wid, wid64, if_pos, if_neg, Nat.add_zero, if_true, if_false, and_self, and_true, true_and, and_false, false_and, or_true, true_or, or_false, false_or]) g2, ?_, by simp -implicitDefEqProofs (disch := omega) only [gi_wi, ↓reduceIte, Int.reduceEq, cI_v, cL_v, cV_v, cR_v, wid, wid64, if_pos, if_neg, Nat.add_zero, if_true, if_false, and_self, and_true, true_and, and_false, false_and, or_true, true_or, or_false, false_or]; exact fAF.1 190 52 (by omega), ?_⟩
        · have w0 : w32 (16 + (K : Int)) = ((16 + K : Nat) : Int) := by rw [wid (by omega) (by omega)]; omega
          have w1 : w32 (2 * (K : Int)) = ((2 * K : Nat) : Int) := by rw [wid (by omega) (by omega)]; omega
          have w2 : w32 (((2 * K : Nat) : Int) + 1) = ((2 * K + 1 : Nat) : Int) := by rw [wid (by omega) (by omega)]; omega
          have z1 : gi (wi F 225 (16 + K) v) 224 2 = K := by simp -implicitDefEqProofs (disch := omega) only [gi_wi, ↓reduceIte, Int.reduceEq, cI_v, cL_v, cV_v, cR_v, wid, wid64, if_pos, if_neg, Nat.add_zero, if_true, if_false, and_self, and_true, true_and, and_false, false_and, or_true, true_or, or_false, false_or]; exact F0
          have z2 : gi (wi (wi F 225 (16 + K) v) 228 (2 * K) x) 224 2 = K := by simp -implicitDefEqProofs (disch := omega) only [gi_wi, ↓reduceIte, Int.reduceEq, cI_v, cL_v, cV_v, cR_v, wid, wid64, if_pos, if_neg, Nat.add_zero, if_true, if_false, and_self, and_true, true_and, and_false, false_and, or_true, true_or, or_false, false_or]; exact F0
          have z3 : gi (wi (wi (wi F 225 (16 + K) v) 228 (2 * K) x) 228 (2 * K + 1) y) 224 2 = K := by simp -implicitDefEqProofs (disch := omega) only [gi_wi, ↓reduceIte, Int.reduceEq, cI_v, cL_v, cV_v, cR_v, wid, wid64, if_pos, if_neg, Nat.add_zero, if_true, if_false, and_self, and_true, true_and, and_false, false_and, or_true, true_or, or_false, false_or]; exact F0
          rw [r_X12_pointTold, q_X12_pointTold_0, hf, cI_v, if_pos rfl, b1, cL_v, c1, cV_v, c2, cI_v, f1, cV_v, f2, cI_v, if_pos g2.2.2.1, q_X12_pointTold_58, F0]
          simp only [w0]
          rw [if_pos (by omega), Int.toNat_natCast, q_X12_pointTold_73, z1]
          simp only [w1]
          rw [if_pos (by omega), Int.toNat_natCast, q_X12_pointTold_88, z2]
          simp only [w1, w2]
          rw [if_pos (by omega), Int.toNat_natCast, q_X12_pointTold_105, z3, wid (by omega) (by omega), q_X12_pointTold_115, show (K : Int) + 1 = ((K + 1 : Nat) : Int) by omega]
        · exact MR_pnt mF (by omega) (fun a j q1 q2 q3 q4 q5 q6 => by rw [gi_wi, if_neg q6, gi_wi, if_neg q5, gi_wi, if_neg q4, gi_wi, if_neg q3]) (by simp -implicitDefEqProofs (disch := omega) only [gi_wi, ↓reduceIte, Int.reduceEq, cI_v, cL_v, cV_v, cR_v, wid, wid64, if_pos, if_neg, Nat.add_zero, if_true, if_false, and_self, and_true, true_and, and_false, false_and, or_true, true_or, or_false, false_or]) (by simp -implicitDefEqProofs (disch := omega) only [gi_wi, ↓reduceIte, Int.reduceEq, cI_v, cL_v, cV_v, cR_v, wid, wid64, if_pos, if_neg, Nat.add_zero, if_true, if_false, and_self, and_true, true_and, and_false, false_and, or_true, true_or, or_false, false_or]) (by simp -implicitDefEqProofs (disch := omega) only [gi_wi, ↓reduceIte, Int.reduceEq, cI_v, cL_v, cV_v, cR_v, wid, wid64, if_pos, if_neg, Nat.add_zero, if_true, if_false, and_self, and_true, true_and, and_false, false_and, or_true, true_or, or_false, false_or]) (by simp -implicitDefEqProofs (disch := omega) only [gi_wi, ↓reduceIte, Int.reduceEq, cI_v, cL_v, cV_v, cR_v, wid, wid64, if_pos, if_neg, Nat.add_zero, if_true, if_false, and_self, and_true, true_and, and_false, false_and, or_true, true_or, or_false, false_or]) (by simp -implicitDefEqProofs (disch := omega) only [gi_wi, ↓reduceIte, Int.reduceEq, cI_v, cL_v, cV_v, cR_v, wid, wid64, if_pos, if_neg, Nat.add_zero, if_true, if_false, and_self, and_true, true_and, and_false, false_and, or_true, true_or, or_false, false_or])
        · exact frY_wi _ _ _ (by unfold ry; omega) (frY_wi _ _ _ (by unfold ry; omega) (frY_wi _ _ _ (by unfold ry; omega) (frY_wi _ _ _ (by unfold ry; omega) (frZ_Y fAF))))
