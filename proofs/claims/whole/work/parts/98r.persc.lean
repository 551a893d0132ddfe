/-! the text of a hall: the class reads a person -/
def persG (T : Nat → Int) (L : Nat) (H : Nat → Nat → Int) (p : Nat) (t : Bool) : HG := match giveG T L H p t with
  | .error e => .error e
  | .ok (v, p1, t1) => match tellG T L p1 t1 3 1 99 with
    | .error e => .error e
    | .ok (ke, _, p2, t2) => match tellG T L p2 t2 4 0 100 with
      | .error e => .error e
      | .ok (it, _, p3, t3) => match tkW T L p3 t3 5 with
        | .error e => .error e
        | .ok (p4, t4) => if partyW (wrd T L p4 t4) = -1 then .error (1, bl T L p4) else match tellG T L (stp T L p4) true 9 0 (nSe H - 1) with
          | .error e => .error e
          | .ok (se, pl, p5, t5) => if ex (fun k => decide (H 226 (35 + 4 * k).toNat = se)) (nPe H).toNat 0 = true then .error (2, pl) else .ok (persH H (nPe H).toNat v ke it (partyW (wrd T L p4 t4)) se, p5, t5)
set_option maxRecDepth 100000 in
theorem l_persC (d h : Nat) (H : Nat → Nat → Int) (P : Nat) (A : AH) (h271 : 271 ≤ h) (h46 : gr A 46 3 = h) (hP : P < 8) (hk : ∀ k : Int, 0 ≤ k → k < P → gi A (h + 5) k.toNat = H 226 (35 + 4 * k).toNat) (h2 : gi A h 2 = P) : ∀ (j n : Nat) (k : Int), 0 ≤ k → k + j = P → 3 * j + 20 ≤ n → go true 2 (runF (d + 1)) (runN (d + 1)) pb_X4_person n 90 [vR 14 46 0, vI (P : Int), vI k] [] A = (if ex (fun k => decide (H 226 (35 + 4 * k).toNat = gi A 47 2)) j k = true then some (some (vI 0), wi (wi A 42 11 2) 42 12 (gi A 42 8)) else some (some (vI 1), wi (wi (wi (wi A (h + 2) P (gi A 47 0)) (h + 3) P (gi A 47 1)) (h + 5) P (gi A 47 2)) h 2 ((P + 1 : Nat) : Int))) := by
  intro j
  induction j with
  | zero =>
    intro n k h1 h3 hn
    obtain ⟨n, rfl⟩ : ∃ e, n = e + 20 := ⟨n - 20, by omega⟩
    show _ = if false = true then _ else _
    rw [if_neg (by decide), q_X4_person_90, if_neg (by omega), h46, if_neg (by omega), if_pos (by omega), Int.toNat_natCast, q_X4_person_150]
    simp -implicitDefEqProofs (disch := omega) only [gr_wi, gi_wi, h46, q_X4_person_165, q_X4_person_180, q_X4_person_193, Int.toNat_natCast, h2, ↓reduceIte, Int.reduceEq, cI_v, cL_v, cV_v, cR_v, wid, wid64, if_pos, if_neg, Nat.add_zero, if_true, if_false, and_self, and_true, true_and, and_false, false_and, or_true, true_or, or_false, false_or]
    rfl
  | succ j ih =>
    intro n k h1 h3 hn
    obtain ⟨n, rfl⟩ : ∃ e, n = e + 20 := ⟨n - 20, by omega⟩
    rw [q_X4_person_90, if_pos (by omega), h46, if_neg (by omega), if_pos (by omega), hk k h1 (by omega)]
    show _ = if (decide (H 226 (35 + 4 * k).toNat = gi A 47 2) || ex (fun k => decide (H 226 (35 + 4 * k).toNat = gi A 47 2)) j (k + 1)) = true then _ else _
    by_cases c : H 226 (35 + 4 * k).toNat = gi A 47 2
    · rw [if_pos c, decide_eq_true c, Bool.true_or, if_pos rfl, s_failC, cI_v, if_pos (Or.inl rfl)]
    · rw [if_neg c, decide_eq_false c, Bool.false_or, wid (by omega) (by omega), Nat.add_zero (n + 18)]
      exact ih (n + 18) (k + 1) (by omega) (by omega) (by omega)
set_option maxRecDepth 100000 in
theorem s_personC (d : Nat) {T : Nat → Int} {L p : Nat} {t : Bool} {h : Nat} {H : Nat → Nat → Int} (A : AH) (hc : cok H) (s : HS A h H) (r : RdS A T L p t) (h8 : nPe H < 8) : SCR T L h A (runF (d + 5) 60 [vR 14 46 0] A) (persG T L H p t) := by
  have h271 := s.2.2.2.1
  have h46 := s.2.2.1
  have hc' := hc
  unfold cok at hc'
  obtain ⟨P, hP⟩ : ∃ P : Nat, nPe H = P := ⟨(nPe H).toNat, by omega⟩
  have g2 : gi A h 2 = P := by rw [s.1.2.1.2.1, hP]
  obtain ⟨v1, v2⟩ := s_gives (d := d) (P : Int) (by omega) A hc s r
  have e0 : ∀ R, (cI (runF (d + 4) 59 [vR 14 46 0, vI (P : Int)] A) fun r2 A1 => if r2 = 0 then some (some (vI 0), A1) else cI (runF (d + 4) 58 [vR 14 46 0, vR 22 3 0, vI 1, vI 99, vI 0] A1) fun r4 A3 => if r4 = 0 then some (some (vI 0), A3) else cI (runF (d + 4) 58 [vR 14 46 0, vR 22 4 0, vI 0, vI 100, vI 1] A3) fun r6 A5 => if r6 = 0 then some (some (vI 0), A5) else cI (runF (d + 4) 91 [vR 18 42 0, vR 22 5 0] A5) fun r8 A7 => if r8 = 0 then some (some (vI 0), A7) else cI (runF (d + 4) 61 [vR 14 46 0, vI (P : Int)] A7) fun r10 A9 => if r10 = 0 then some (some (vI 0), A9) else if gr A9 46 3 = 0 then none else cI (runF (d + 4) 58 [vR 14 46 0, vR 22 9 0, vI 0, vI (w32 ((gi A9 (gr A9 46 3) 1) - 1)), vI 2] A9) fun r12 A11 => if r12 = 0 then some (some (vI 0), A11) else go true 2 (runF (d + 4)) (runN (d + 4)) pb_X4_person (fu + 199) 88 [vR 14 46 0, vI (P : Int), vU] [] A11) = R → runF (d + 5) 60 [vR 14 46 0] A = R := by
    intro R hR
    rw [r_X4_person, q_X4_person_0, h46, if_neg (by omega), g2]
    exact hR
  unfold persG
  cases hG : giveG T L H p t with
  | error y =>
    obtain ⟨k0, s0⟩ := y
    obtain ⟨B, b1, b2, b3, b4⟩ := v1 k0 s0 hG
    refine ⟨(fun k l q => ?_), (fun H' p' t' q => by cases q)⟩
    injection q with q; injection q with q1 q2
    subst q1 q2
    exact ⟨B, e0 _ (by rw [b1, cI_v, if_pos rfl]), b2, b3, frO_U b4, b4.2.2⟩
  | ok y =>
    obtain ⟨v, p1, t1⟩ := y
    obtain ⟨B, C, b1, b2, b3, b4, b5, b6, b7, b8⟩ := v2 v p1 t1 hG
    rw [Int.toNat_natCast] at b1 b2
    rw [← b2] at b1
    have rB : RdS B T L p1 t1 := by rw [b2]; exact RdS_fr (A := C) (fun j => by rw [gi_wi, if_neg (by omega)]) (fun j => by rw [gi_wi, if_neg (by omega)]) (fun _ => rfl) rfl b3
    have uB : frU h A B := by rw [b2]; exact frU_wi _ _ _ (by omega) (frR_U b8)
    have lB : B.2.2 = A.2.2 := by rw [b2]; exact b8.2.2
    obtain ⟨w1, w2⟩ := s_tells d 3 (by decide) 1 99 0 (by decide) B rB
    simp only
    cases hG2 : tellG T L p1 t1 3 1 99 with
    | error y =>
      obtain ⟨k0, s0⟩ := y
      obtain ⟨D, d1, d2, d3, d4⟩ := w1 k0 s0 hG2
      refine ⟨(fun k l q => ?_), (fun H' p' t' q => by cases q)⟩
      injection q with q; injection q with q1 q2
      subst q1 q2
      exact ⟨D, e0 _ (by rw [b1, cI_v, if_neg (by omega)]; exact (by rw [show ((0 : Nat) : Int) = 0 from rfl] at d1; rw [d1, cI_v, if_pos rfl])), d2, d3, frU_trans uB (frO_U d4), d4.2.2.trans lB⟩
    | ok y =>
      obtain ⟨ke, pl1, p2, t2⟩ := y
      obtain ⟨D, d1, d2, d3, d4, d5, d6, d7⟩ := w2 ke pl1 p2 t2 hG2
      rw [show ((0 : Nat) : Int) = 0 from rfl] at d1
      obtain ⟨x1, x2⟩ := s_tells d 4 (by decide) 0 100 1 (by decide) D d2
      rw [show ((1 : Nat) : Int) = 1 from rfl] at x1 x2
      simp only
      cases hG3 : tellG T L p2 t2 4 0 100 with
      | error y =>
        obtain ⟨k0, s0⟩ := y
        obtain ⟨E, a1, a2, a3, a4⟩ := x1 k0 s0 hG3
        refine ⟨(fun k l q => ?_), (fun H' p' t' q => by cases q)⟩
        injection q with q; injection q with q1 q2
        subst q1 q2
        exact ⟨E, e0 _ (by rw [b1, cI_v, if_neg (by omega), d1, cI_v, if_neg (by omega), a1, cI_v, if_pos rfl]), a2, a3, frU_trans uB (frU_trans (frO_U d7) (frO_U a4)), a4.2.2.trans (d7.2.2.trans lB)⟩
      | ok y =>
        obtain ⟨it, pl2, p3, t3⟩ := y
        obtain ⟨E, a1, a2, a3, a4, a5, a6, a7⟩ := x2 it pl2 p3 t3 hG3
        have k1 := s_takeWord (d + 1) 5 E a2 (by decide)
        have uE : frU h A E := frU_trans uB (frU_trans (frO_U d7) (frO_U a7))
        have lE : E.2.2 = A.2.2 := a7.2.2.trans (d7.2.2.trans lB)
        simp only
        cases hG4 : tkW T L p3 t3 5 with
        | error y =>
          obtain ⟨k0, s0⟩ := y
          rw [hG4] at k1
          obtain ⟨F, f1, f2⟩ := k1
          refine ⟨(fun k l q => ?_), (fun H' p' t' q => by cases q)⟩
          injection q with q; injection q with q1 q2
          subst q1 q2
          exact ⟨F, e0 _ (by rw [b1, cI_v, if_neg (by omega), d1, cI_v, if_neg (by omega), a1, cI_v, if_neg (by omega), f1, cI_v, if_pos rfl]), f2.1, f2.2.1, frU_trans uE (frO_U (frF_O f2.2.2)), f2.2.2.2.2.trans lE⟩
        | ok y =>
          obtain ⟨p4, t4⟩ := y
          rw [hG4] at k1
          obtain ⟨F, f1, f2, f3, _⟩ := k1
          have oF : frO B F := frO_trans d7 (frO_trans a7 (frR_O f3))
          have F46 : gr F 46 3 = h := by rw [oF.2.1 46 3 (by omega), b2]; show gr C 46 3 = h; rw [b8.2.1 46 3 (by omega)]; exact h46
          obtain ⟨y1, y2⟩ := s_partyC (d + 1) (h := h) (P : Int) (by omega) F F46 h271 f2
          have uF : frU h A F := frU_trans uE (frR_U f3)
          have lF : F.2.2 = A.2.2 := f3.2.2.trans lE
          simp only
          by_cases cp : partyW (wrd T L p4 t4) = -1
          · rw [if_pos cp]
            obtain ⟨G, z1, z2⟩ := y1 cp
            refine ⟨(fun k l q => ?_), (fun H' p' t' q => by cases q)⟩
            injection q with q; injection q with q1 q2
            subst q1 q2
            exact ⟨G, e0 _ (by rw [b1, cI_v, if_neg (by omega), d1, cI_v, if_neg (by omega), a1, cI_v, if_neg (by omega), f1, cI_v, if_neg (by omega), z1, cI_v, if_pos rfl]), z2.1, z2.2.1, frU_trans uF (frO_U (frF_O z2.2.2)), z2.2.2.2.2.trans lF⟩
          · rw [if_neg cp]
            obtain ⟨G, z1, z2, z3⟩ := y2 cp
            rw [Int.toNat_natCast] at z3
            have uG : frU h A G := frU_trans (frU_wi (h + 4) P (partyW (wrd T L p4 t4)) (by omega) uF) (frR_U z3)
            have lG : G.2.2 = A.2.2 := z3.2.2.trans lF
            have G46 : gr G 46 3 = h := by rw [z3.2.1 46 3 (by omega)]; exact F46
            have G1 : gi G h 1 = nSe H := by
              rw [z3.1 h 1 (by omega), gi_wi, if_neg (by omega), oF.1 h 1 (by omega) (by omega), b2, gi_wi, if_neg (by omega), b8.1 h 1 (by omega)]
              exact s.1.2.1.1
            have eN : w32 (gi G (gr G 46 3) 1 - 1) = nSe H - 1 := by rw [G46, G1, wid (by omega) (by omega)]
            obtain ⟨i1, i2⟩ := s_tells d 9 (by decide) 0 (nSe H - 1) 2 (by decide) G z2
            rw [show ((2 : Nat) : Int) = 2 from rfl] at i1 i2
            cases hG5 : tellG T L (stp T L p4) true 9 0 (nSe H - 1) with
            | error y =>
              obtain ⟨k0, s0⟩ := y
              obtain ⟨J, j1, j2, j3, j4⟩ := i1 k0 s0 hG5
              refine ⟨(fun k l q => ?_), (fun H' p' t' q => by cases q)⟩
              injection q with q; injection q with q1 q2
              subst q1 q2
              exact ⟨J, e0 _ (by rw [b1, cI_v, if_neg (by omega), d1, cI_v, if_neg (by omega), a1, cI_v, if_neg (by omega), f1, cI_v, if_neg (by omega), z1, cI_v, if_neg (by omega), eN, G46, if_neg (by omega), j1, cI_v, if_pos rfl]), j2, j3, frU_trans uG (frO_U j4), j4.2.2.trans lG⟩
            | ok y =>
              obtain ⟨se, pl3, p5, t5⟩ := y
              obtain ⟨J, j1, j2, j3, j4, j5, j6, j7⟩ := i2 se pl3 p5 t5 hG5
              have gJ : ∀ a j, 271 ≤ a → ¬ (a = h + 1 ∧ j = P) → ¬ (a = h + 4 ∧ j = P) → gi J a j = gi A a j := fun a j q1 q2 q3 => by
                rw [j7.1 a j (by omega) (by omega), z3.1 a j (by omega), gi_wi, if_neg q3, oF.1 a j (by omega) (by omega), b2, gi_wi, if_neg q2, b8.1 a j (by omega)]
              have J1 : gi J (h + 1) P = padN v := by
                rw [j7.1 _ _ (by omega) (by omega), z3.1 _ _ (by omega), gi_wi, if_neg (by omega), oF.1 _ _ (by omega) (by omega), b2, gi_wi, if_pos ⟨rfl, rfl⟩]
              have J4 : gi J (h + 4) P = partyW (wrd T L p4 t4) := by
                rw [j7.1 _ _ (by omega) (by omega), z3.1 _ _ (by omega), gi_wi, if_pos ⟨rfl, rfl⟩]
              have K0 : gi J 47 0 = ke := by rw [j4 0 (by omega), z3.1 47 0 (by omega), gi_wi, if_neg (by omega), f3.1 47 0 (by omega), a4 0 (by omega)]; exact d3
              have K1 : gi J 47 1 = it := by rw [j4 1 (by omega), z3.1 47 1 (by omega), gi_wi, if_neg (by omega), f3.1 47 1 (by omega)]; exact a3
              have hJr : ∀ a j, ¬ (a = 42 ∧ j = 7) → gr J a j = gr A a j := fun a j q => by
                rw [j7.2.1 a j q, z3.2.1 a j q, gr_wi, oF.2.1 a j q, b2, gr_wi, b8.2.1 a j q]
              have J46 : gr J 46 3 = h := by rw [hJr 46 3 (by omega)]; exact h46
              have lJ : J.2.2 = A.2.2 := j7.2.2.trans lG
              have uJ : frU h A J := frU_trans uG (frO_U j7)
              have fin := l_persC (d + 3) h H P J h271 J46 (by omega) (fun k q1 q2 => by rw [gJ _ _ (by omega) (by omega) (by omega)]; exact (s.1.2.2.2.2.1 k q1 (by omega)).2) (by rw [gJ _ _ (by omega) (by omega) (by omega)]; exact g2) P (fu + 198) 0 (by omega) (by omega) (by have := fu_ge; omega)
              rw [j3, K0, K1, j5] at fin
              have e1 : ∀ R, go true 2 (runF (d + 4)) (runN (d + 4)) pb_X4_person (fu + 198) 90 [vR 14 46 0, vI (P : Int), vI 0] [] J = R → runF (d + 5) 60 [vR 14 46 0] A = R := by
                intro R hR
                refine e0 _ ?_
                rw [b1, cI_v, if_neg (by omega), d1, cI_v, if_neg (by omega), a1, cI_v, if_neg (by omega), f1, cI_v, if_neg (by omega), z1, cI_v, if_neg (by omega), eN, G46, if_neg (by omega), j1, cI_v, if_neg (by omega), q_X4_person_88]
                exact hR
              have f11 : gi J 42 11 = gi A 42 11 := by rw [j6.1, z3.1 42 11 (by omega), gi_wi, if_neg (by omega), f3.1 42 11 (by omega), a6.1, d6.1, b2, gi_wi, if_neg (by omega)]; exact b7.1
              have f12 : gi J 42 12 = gi A 42 12 := by rw [j6.2, z3.1 42 12 (by omega), gi_wi, if_neg (by omega), f3.1 42 12 (by omega), a6.2, d6.2, b2, gi_wi, if_neg (by omega)]; exact b7.2
              have eP : (nPe H).toNat = P := by omega
              rw [eP]
              simp only
              by_cases cx : ex (fun k => decide (H 226 (35 + 4 * k).toNat = se)) P 0 = true
              · rw [if_pos cx] at fin
                rw [if_pos cx]
                refine ⟨(fun k l q => ?_), (fun H' p' t' q => by cases q)⟩
                injection q with q; injection q with q1 q2
                subst q1 q2
                exact ⟨_, e1 _ fin, (FL_f J 2 _).1, (FL_f J 2 _).2.1, frU_trans uJ (frO_U (frF_O (FL_f J 2 _).2.2)), lJ⟩
              · rw [if_neg cx] at fin
                rw [if_neg cx]
                refine ⟨(fun k l q => by cases q), (fun H' p' t' q => ?_)⟩
                injection q with q; injection q with q1 q2; injection q2 with q2 q3
                subst q1 q2 q3
                refine ⟨_, e1 _ fin, RdS_fr (A := J) (fun j => by simp -implicitDefEqProofs (disch := omega) only [gi_wi, ↓reduceIte, Int.reduceEq, cI_v, cL_v, cV_v, cR_v, wid, wid64, if_pos, if_neg, Nat.add_zero, if_true, if_false, and_self, and_true, true_and, and_false, false_and, or_true, true_or, or_false, false_or]) (fun j => by simp -implicitDefEqProofs (disch := omega) only [gi_wi, ↓reduceIte, Int.reduceEq, cI_v, cL_v, cV_v, cR_v, wid, wid64, if_pos, if_neg, Nat.add_zero, if_true, if_false, and_self, and_true, true_and, and_false, false_and, or_true, true_or, or_false, false_or]) (fun _ => rfl) rfl j2, ?_, ⟨by simp -implicitDefEqProofs (disch := omega) only [gi_wi, ↓reduceIte, Int.reduceEq, cI_v, cL_v, cV_v, cR_v, wid, wid64, if_pos, if_neg, Nat.add_zero, if_true, if_false, and_self, and_true, true_and, and_false, false_and, or_true, true_or, or_false, false_or]; exact f11, by simp -implicitDefEqProofs (disch := omega) only [gi_wi, ↓reduceIte, Int.reduceEq, cI_v, cL_v, cV_v, cR_v, wid, wid64, if_pos, if_neg, Nat.add_zero, if_true, if_false, and_self, and_true, true_and, and_false, false_and, or_true, true_or, or_false, false_or]; exact f12⟩, by simp -implicitDefEqProofs (disch := omega) only [gi_wi, ↓reduceIte, Int.reduceEq, cI_v, cL_v, cV_v, cR_v, wid, wid64, if_pos, if_neg, Nat.add_zero, if_true, if_false, and_self, and_true, true_and, and_false, false_and, or_true, true_or, or_false, false_or]; exact gJ h 0 (by omega) (by omega) (by omega), frU_wi _ _ _ (by omega) (frU_wi _ _ _ (by omega) (frU_wi _ _ _ (by omega) (frU_wi _ _ _ (by omega) uJ))), lJ, hJr⟩
                refine HS_pers hc s P hP (by omega) v ke it (partyW (wrd T L p4 t4)) se b4 (fun a j q0 q1 q2 q3 q4 q5 q6 => ?_) (fun a j q => hJr a j q) lJ ?_ ?_ ?_ ?_ ?_ ?_
                · rw [gi_wi, if_neg q6, gi_wi, if_neg q5, gi_wi, if_neg q3, gi_wi, if_neg q2]
                  exact gJ a j q0 q1 q4
                · simp -implicitDefEqProofs (disch := omega) only [gi_wi, ↓reduceIte, Int.reduceEq, cI_v, cL_v, cV_v, cR_v, wid, wid64, if_pos, if_neg, Nat.add_zero, if_true, if_false, and_self, and_true, true_and, and_false, false_and, or_true, true_or, or_false, false_or]; exact J1
                · simp -implicitDefEqProofs (disch := omega) only [gi_wi, ↓reduceIte, Int.reduceEq, cI_v, cL_v, cV_v, cR_v, wid, wid64, if_pos, if_neg, Nat.add_zero, if_true, if_false, and_self, and_true, true_and, and_false, false_and, or_true, true_or, or_false, false_or]
                · simp -implicitDefEqProofs (disch := omega) only [gi_wi, ↓reduceIte, Int.reduceEq, cI_v, cL_v, cV_v, cR_v, wid, wid64, if_pos, if_neg, Nat.add_zero, if_true, if_false, and_self, and_true, true_and, and_false, false_and, or_true, true_or, or_false, false_or]
                · simp -implicitDefEqProofs (disch := omega) only [gi_wi, ↓reduceIte, Int.reduceEq, cI_v, cL_v, cV_v, cR_v, wid, wid64, if_pos, if_neg, Nat.add_zero, if_true, if_false, and_self, and_true, true_and, and_false, false_and, or_true, true_or, or_false, false_or]; exact J4
                · simp -implicitDefEqProofs (disch := omega) only [gi_wi, ↓reduceIte, Int.reduceEq, cI_v, cL_v, cV_v, cR_v, wid, wid64, if_pos, if_neg, Nat.add_zero, if_true, if_false, and_self, and_true, true_and, and_false, false_and, or_true, true_or, or_false, false_or]
                · simp -implicitDefEqProofs (disch := omega) only [gi_wi, ↓reduceIte, Int.reduceEq, cI_v, cL_v, cV_v, cR_v, wid, wid64, if_pos, if_neg, Nat.add_zero, if_true, if_false, and_self, and_true, true_and, and_false, false_and, or_true, true_or, or_false, false_or]
