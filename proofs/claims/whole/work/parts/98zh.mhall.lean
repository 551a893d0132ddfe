/-! the text of a hall: the reference reads it all -/
theorem knd0 {T : Nat → Int} {L p : Nat} {t : Bool} : knd T L p t = 0 ↔ ch T L (bl T L p) = -1 := by
  unfold knd
  by_cases c1 : lP (ch T L (bl T L p)) = true
  · rw [if_pos c1]
    have := lP_t.mp c1
    by_cases s : stk T L p t = true
    · rw [if_pos s]; omega
    · rw [if_neg s]; omega
  · rw [if_neg c1]
    by_cases c2 : dP (ch T L (bl T L p)) = true
    · rw [if_pos c2]
      have := dP_t.mp c2
      by_cases s : stk T L p t = true
      · rw [if_pos s]; omega
      · rw [if_neg s]; omega
    · rw [if_neg c2]
      by_cases c3 : ch T L (bl T L p) = -1
      · rw [if_pos c3]; omega
      · rw [if_neg c3]; omega
set_option maxRecDepth 100000 in
theorem l_hallM (d : Nat) {T : Nat → Int} {L : Nat} (tx : TX T L) (x : Int) : ∀ (m n k : Nat) (H : Nat → Nat → Int) (cd p : Nat) (t : Bool) (A : AH), k + m = 61 → 1 ≤ k → k ≤ 60 → 5 * m + 20 ≤ n → PK L H cd p → MR A H cd → MdS A T L p t → gi A 190 52 = k →
    (∀ e s, rdL T L m H cd k p t = .error (e, s) → ∃ n' B, n ≤ n' + 5 * m + 10 ∧ go true 0 (runF (d + 10)) (runN (d + 10)) pb_X12_hall n 103 [vR 21 190 0, vI x] [] A = go true 0 (runF (d + 10)) (runN (d + 10)) pb_X12_hall n' 125 [vR 21 190 0, vI x] [] B ∧ gi B 190 5 = e ∧ gi B 190 6 = s ∧ e ≠ 0 ∧ frY A B ∧ PH B)
    ∧ (∀ H' cd' k', rdL T L m H cd k p t = .ok (H', cd', k') → ∃ n' B, n ≤ n' + 5 * m + 10 ∧ go true 0 (runF (d + 10)) (runN (d + 10)) pb_X12_hall n 103 [vR 21 190 0, vI x] [] A = go true 0 (runF (d + 10)) (runN (d + 10)) pb_X12_hall n' 125 [vR 21 190 0, vI x] [] B ∧ gi B 190 5 = 0 ∧ gi B 190 6 = -1 ∧ MR B H' cd' ∧ PI H' cd' ∧ cd' ≤ 1600 ∧ gi B 190 52 = (k' : Int) ∧ frY A B) := by
  intro m
  induction m with
  | zero => intro n k H cd p t A h1 h2 h3; omega
  | succ m ih =>
    intro n k H cd p t A h1 h2 h3 hn pk mr md h52
    obtain ⟨n, rfl⟩ : ∃ e, n = e + 20 := ⟨n - 20, by omega⟩
    have tL := tx.1
    obtain ⟨k1, k2, k3⟩ := s_lookM (d + 9) A md
    unfold rdL
    by_cases c0 : knd T L p t = 0
    · rw [if_pos c0]
      have c0' := knd0.mp c0
      refine ⟨(fun e s q => by cases q), (fun H' cd' k' q => ?_)⟩
      injection q with q; injection q with q1 q2; injection q2 with q2 q3
      subst q1 q2 q3
      refine ⟨n + 19, wi A 190 2 (bl T L p : Int), by omega, ?_, k2.1.2.2.1, k2.1.2.2.2.2.2.2, MR_Z k3 mr, pk.1, by have := pk.2; omega, by rw [k3.1 190 52 (by omega)]; exact h52, frZ_Y k3⟩
      rw [q_X12_hall_103, if_pos md.2.2.1, k1, cI_v, if_pos c0']
    · rw [if_neg c0]
      have c0' : ch T L (bl T L p) ≠ -1 := fun y => c0 (knd0.mpr y)
      have e52 : gi (wi A 190 2 (bl T L p : Int)) 190 52 = k := by rw [k3.1 190 52 (by omega)]; exact h52
      have bad103 : ∀ B, gi B 190 5 ≠ 0 → go true 0 (runF (d + 10)) (runN (d + 10)) pb_X12_hall (n + 19) 103 [vR 21 190 0, vI x] [] B = go true 0 (runF (d + 10)) (runN (d + 10)) pb_X12_hall (n + 18) 125 [vR 21 190 0, vI x] [] B := fun B hb => by
        rw [q_X12_hall_103, if_neg hb]
      by_cases c1 : k = 60
      · rw [if_pos c1]
        refine ⟨(fun e s q => ?_), (fun H' cd' k' q => by cases q)⟩
        injection q with q; injection q with q1 q2
        subst q1 q2
        have hf := MB_f (wi A 190 2 (bl T L p : Int)) 5 (bl T L p) (by decide)
        refine ⟨n + 18, _, by omega, ?_, hf.1, hf.2.1, by omega, frY_trans (frZ_Y k3) (frZ_Y hf.2.2.2), PH_r (A := A) (fun a j q1 q2 => by simp -implicitDefEqProofs (disch := omega) only [gi_wi, ↓reduceIte, Int.reduceEq, cI_v, cL_v, cV_v, cR_v, wid, wid64, if_pos, if_neg, Nat.add_zero, if_true, if_false, and_self, and_true, true_and, and_false, false_and, or_true, true_or, or_false, false_or]) (PH_MR mr pk.1.2.1)⟩
        have st : runF (d + 10) 176 [vR 21 190 0] (wi A 190 2 (bl T L p : Int)) = some (none, wi (wi (wi A 190 2 (bl T L p : Int)) 190 5 5) 190 6 (bl T L p : Int)) := by
          rw [r_X12_statementTold, q_X12_statementTold_0, e52, if_pos (by omega), k2.2, s_failM _ _ _ _ k2.1.2.2.1, cV_v]
        rw [q_X12_hall_103, if_pos md.2.2.1, k1, cI_v, if_neg c0', st, cV_v]
        exact bad103 _ (by rw [hf.1]; omega)
      · rw [if_neg c1]
        have sm := s_statementM d tx _ pk (MR_Z k3 mr) k2 (by rw [e52]; omega)
        have e0 : ∀ R, (cV (runF (d + 10) 176 [vR 21 190 0] (wi A 190 2 (bl T L p : Int))) fun A3 => go true 0 (runF (d + 10)) (runN (d + 10)) pb_X12_hall (n + 19) 103 [vR 21 190 0, vI x] [] A3) = R → go true 0 (runF (d + 10)) (runN (d + 10)) pb_X12_hall (n + 20) 103 [vR 21 190 0, vI x] [] A = R := by
          intro R hR
          rw [q_X12_hall_103, if_pos md.2.2.1, k1, cI_v, if_neg c0']
          exact hR
        cases hS : stG T L H cd p t with
        | error y =>
          obtain ⟨a, b⟩ := y
          rw [hS] at sm
          obtain ⟨B, b1, b2, b3, b4, b5, b6⟩ := sm.1 a b rfl
          refine ⟨(fun e s q => ?_), (fun H' cd' k' q => by cases q)⟩
          injection q with q; injection q with q1 q2
          subst q1 q2
          refine ⟨n + 18, B, by omega, e0 _ ?_, b2, b3, b4, frY_trans (frZ_Y k3) b5, b6⟩
          rw [b1, cV_v]
          exact bad103 B (by rw [b2]; exact b4)
        | ok y =>
          obtain ⟨H1, cd1, p1, t1⟩ := y
          rw [hS] at sm
          have pk1 := pk_st tx pk hS
          simp only
          have es : st2 T L (.ok (H1, cd1, p1, t1)) = (match tkS T L p1 t1 59 with
            | .error e => .error e
            | .ok (p2, t2) => .ok (H1, cd1, p2, t2)) := rfl
          rw [es] at sm
          cases hT : tkS T L p1 t1 59 with
          | error y =>
            obtain ⟨a, b⟩ := y
            rw [hT] at sm
            obtain ⟨B, b1, b2, b3, b4, b5, b6⟩ := sm.1 a b rfl
            refine ⟨(fun e s q => ?_), (fun H' cd' k' q => by cases q)⟩
            injection q with q; injection q with q1 q2
            subst q1 q2
            refine ⟨n + 18, B, by omega, e0 _ ?_, b2, b3, b4, frY_trans (frZ_Y k3) b5, b6⟩
            rw [b1, cV_v]
            exact bad103 B (by rw [b2]; exact b4)
          | ok y =>
            obtain ⟨p2, t2⟩ := y
            rw [hT] at sm
            obtain ⟨B, b1, b2, b3, b4, b5⟩ := sm.2 H1 cd1 p2 t2 rfl
            have kk := tkS_ok hT
            have x1 := sgn_1 kk.1 (by decide) tx
            have x2 := stp_L tx pk1.2.2
            obtain ⟨i1, i2⟩ := ih (n + 19) (k + 1) H1 cd1 p2 t2 B (by omega) (by omega) (by omega) (by omega) ⟨pk1.1, by have := pk1.2.1; omega, by omega⟩ b3 b2 (by rw [b4, e52]; omega)
            have e1 : go true 0 (runF (d + 10)) (runN (d + 10)) pb_X12_hall (n + 20) 103 [vR 21 190 0, vI x] [] A = go true 0 (runF (d + 10)) (runN (d + 10)) pb_X12_hall (n + 19) 103 [vR 21 190 0, vI x] [] B := e0 _ (by rw [b1, cV_v])
            have yB := frY_trans (frZ_Y k3) b5
            refine ⟨(fun e s q => ?_), (fun H' cd' k' q => ?_)⟩
            · obtain ⟨n', D, d0, d1, d2, d3, d4, d5, d6⟩ := i1 e s q
              exact ⟨n', D, by omega, e1.trans d1, d2, d3, d4, frY_trans yB d5, d6⟩
            · obtain ⟨n', D, d0, d1, d2, d3, d4, d5, d6, d7, d8⟩ := i2 H' cd' k' q
              exact ⟨n', D, by omega, e1.trans d1, d2, d3, d4, d5, d6, d7, frY_trans yB d8⟩
set_option maxRecDepth 100000 in
theorem l_h40 (d : Nat) : ∀ (j n : Nat) (k : Int) (A : AH), 0 ≤ k → k + j = 6 → 3 * j + 10 ≤ n → ∃ n' B, n ≤ n' + 3 * j + 2 ∧ go true 0 (runF d) (runN d) pb_X12_hall n 40 [vR 21 190 0, vI k] [] A = go true 0 (runF d) (runN d) pb_X12_hall n' 61 [vR 21 190 0, vI 0] [] B ∧ (∀ i : Nat, (k : Int) ≤ i → i < 6 → gi B 224 i = 0) ∧ (∀ a i : Nat, ¬ (a = 224 ∧ k ≤ (i : Int) ∧ i < 6) → gi B a i = gi A a i) ∧ (∀ a i : Nat, gr B a i = gr A a i) ∧ B.2.2 = A.2.2 := by
  intro j
  induction j with
  | zero =>
    intro n k A h1 h2 hn
    obtain ⟨n, rfl⟩ : ∃ e, n = e + 10 := ⟨n - 10, by omega⟩
    refine ⟨n + 8, A, by omega, ?_, fun i q1 q2 => by omega, fun _ _ _ => rfl, fun _ _ => rfl, rfl⟩
    rw [q_X12_hall_40, if_neg (by omega)]
  | succ j ih =>
    intro n k A h1 h2 hn
    obtain ⟨n, rfl⟩ : ∃ e, n = e + 10 := ⟨n - 10, by omega⟩
    obtain ⟨n', B, b0, b1, b2, b3, b4, b5⟩ := ih (n + 8) (k + 1) (wi A 224 k.toNat 0) (by omega) (by omega) (by omega)
    refine ⟨n', B, by omega, ?_, fun i q1 q2 => ?_, fun a i q => ?_, b4, b5⟩
    · rw [q_X12_hall_40, if_pos (by omega), if_pos (by omega), q_X12_hall_53, wid (by omega) (by omega)]
      exact b1
    · by_cases c : (i : Int) = k
      · rw [b3 224 i (by omega), gi_wi, if_pos ⟨rfl, by omega⟩]
      · exact b2 i (by omega) q2
    · rw [b3 a i (by omega), gi_wi, if_neg (by omega)]
set_option maxRecDepth 100000 in
theorem l_h61 (d : Nat) : ∀ (j n : Nat) (k : Int) (A : AH), 0 ≤ k → k + j = 16 → 3 * j + 10 ≤ n → ∃ n' B x, n ≤ n' + 3 * j + 2 ∧ go true 0 (runF d) (runN d) pb_X12_hall n 61 [vR 21 190 0, vI k] [] A = go true 0 (runF d) (runN d) pb_X12_hall n' 94 [vR 21 190 0, vI x] [] (wi (wi B 231 0 (-1)) 231 1 (-1)) ∧ (∀ i : Nat, (k : Int) ≤ i → i < 16 → gi B 230 i = 0) ∧ (∀ a i : Nat, ¬ (a = 230 ∧ k ≤ (i : Int) ∧ i < 16) → gi B a i = gi A a i) ∧ (∀ a i : Nat, gr B a i = gr A a i) ∧ B.2.2 = A.2.2 := by
  intro j
  induction j with
  | zero =>
    intro n k A h1 h2 hn
    obtain ⟨n, rfl⟩ : ∃ e, n = e + 10 := ⟨n - 10, by omega⟩
    refine ⟨n + 8, A, k, by omega, ?_, fun i q1 q2 => by omega, fun _ _ _ => rfl, fun _ _ => rfl, rfl⟩
    rw [q_X12_hall_61, if_neg (by omega)]
  | succ j ih =>
    intro n k A h1 h2 hn
    obtain ⟨n, rfl⟩ : ∃ e, n = e + 10 := ⟨n - 10, by omega⟩
    obtain ⟨n', B, x, b0, b1, b2, b3, b4, b5⟩ := ih (n + 8) (k + 1) (wi A 230 k.toNat 0) (by omega) (by omega) (by omega)
    refine ⟨n', B, x, by omega, ?_, fun i q1 q2 => ?_, fun a i q => ?_, b4, b5⟩
    · rw [q_X12_hall_61, if_pos (by omega), if_pos (by omega), q_X12_hall_74, wid (by omega) (by omega)]
      exact b1
    · by_cases c : (i : Int) = k
      · rw [b3 230 i (by omega), gi_wi, if_pos ⟨rfl, by omega⟩]
      · exact b2 i (by omega) q2
    · rw [b3 a i (by omega), gi_wi, if_neg (by omega)]
def frYY (A B : AH) : Prop := (∀ a j, ¬ ry a j → ¬ (a = 190 ∧ (j = 1 ∨ j = 3 ∨ j = 7 ∨ j = 8)) → ¬ (a = 192 ∧ j = 1) → gi B a j = gi A a j) ∧ (∀ a j, gr B a j = gr A a j) ∧ B.2.2 = A.2.2
theorem frYY_refl (A : AH) : frYY A A := ⟨fun _ _ _ _ _ => rfl, fun _ _ => rfl, rfl⟩
theorem frYY_trans {A B C : AH} (f : frYY A B) (g : frYY B C) : frYY A C := ⟨fun a j x y z => (g.1 a j x y z).trans (f.1 a j x y z), fun a j => (g.2.1 a j).trans (f.2.1 a j), g.2.2.trans f.2.2⟩
theorem frY_YY {A B : AH} (f : frY A B) : frYY A B := ⟨fun a j x _ _ => f.1 a j x, f.2.1, f.2.2⟩
theorem frYY_wi {A B : AH} (a k : Nat) (v : Int) (h : ry a k ∨ (a = 190 ∧ (k = 1 ∨ k = 3 ∨ k = 7 ∨ k = 8)) ∨ (a = 192 ∧ k = 1)) (f : frYY A B) : frYY A (wi B a k v) := frYY_trans f ⟨fun b j x y z => by
  rw [gi_wi, if_neg]
  intro q
  rw [q.1, q.2] at x y z
  rcases h with h | h | h
  · exact x h
  · exact y h
  · exact z h, fun _ _ => rfl, rfl⟩
set_option maxRecDepth 100000 in
theorem s_hallM (d : Nat) {T : Nat → Int} {L : Nat} (tx : TX T L) (A A0 : AH) (hL : gi A 190 1 = L) (hT : ∀ j, j < 1600 → gi A 191 j = T j) (wc : WC A) (ph : PH A) (h0e : ∀ a j, 224 ≤ a → a ≤ 233 → gi A a j = gi A0 a j) (h192 : 0 ≤ gi A 192 1 ∧ gi A 192 1 < 1000000) : (∀ k s, hlG T L A0 = .error (k, s) → ∃ B, runF (d + 11) 177 [vR 21 190 0] A = some (some (vI (-1)), B) ∧ gi B 190 7 = k ∧ gi B 190 8 = s ∧ gi B 190 1 = 0 ∧ gi B 192 1 = gi A 192 1 + 1 ∧ PH B ∧ frYY A B) ∧ (∀ H' cd' k', hlG T L A0 = .ok (H', cd', k') → ∃ C, runF (d + 11) 177 [vR 21 190 0] A = (cV (runF (d + 10) 178 [vR 21 190 0] C) fun A1 => some (some (vI (gi A1 190 52)), A1)) ∧ MR C H' cd' ∧ PI H' cd' ∧ cd' ≤ 1600 ∧ gi C 190 52 = (k' : Int) ∧ gi C 190 7 = 0 ∧ gi C 190 8 = -1 ∧ gi C 190 1 = 0 ∧ gi C 192 1 = gi A 192 1 ∧ frYY A C) := by
  have tL := tx.1
  generalize hA1 : wi (wi (wi (wi (wi (wi (wi A 190 3 (L : Int)) 190 1 0) 190 2 0) 190 4 (-1)) 190 5 0) 190 6 (-1)) 190 55 0 = A1
  have fg1 : frYY A A1 := by
    rw [← hA1]
    exact frYY_wi _ _ _ (by unfold ry; omega) (frYY_wi _ _ _ (by unfold ry; omega) (frYY_wi _ _ _ (by unfold ry; omega) (frYY_wi _ _ _ (by unfold ry; omega) (frYY_wi _ _ _ (by unfold ry; omega) (frYY_wi _ _ _ (by unfold ry; omega) (frYY_wi _ _ _ (by unfold ry; omega) (frYY_refl A)))))))
  have g1 : ∀ a j, a ≠ 190 → gi A1 a j = gi A a j := fun a j q => by rw [← hA1]; simp -implicitDefEqProofs (disch := omega) only [gi_wi, ↓reduceIte, Int.reduceEq, cI_v, cL_v, cV_v, cR_v, wid, wid64, if_pos, if_neg, Nat.add_zero, if_true, if_false, and_self, and_true, true_and, and_false, false_and, or_true, true_or, or_false, false_or]
  obtain ⟨n1, B1, b0, b1, b2, b3, b4, b5⟩ := l_h40 (d + 10) 6 (fu + 196) 0 A1 (by omega) (by omega) (by have := fu_ge; omega)
  obtain ⟨n2, B2, x, c0, c1, c2, c3, c4, c5⟩ := l_h61 (d + 10) 16 n1 0 B1 (by omega) (by omega) (by have := fu_ge; omega)
  generalize hA2 : wi (wi B2 231 0 (-1)) 231 1 (-1) = A2 at c1
  have g2 : ∀ a j, ¬ (a = 224 ∧ j < 6) → ¬ (a = 230 ∧ j < 16) → ¬ (a = 231 ∧ j < 2) → gi A2 a j = gi A1 a j := fun a j q1 q2 q3 => by
    rw [← hA2, gi_wi, if_neg (by omega), gi_wi, if_neg (by omega), c3 a j (by omega), b3 a j (by omega)]
  have fg2 : frYY A A2 := frYY_trans fg1 ⟨fun a j x _ _ => g2 a j (fun y => x (Or.inr (Or.inl y))) (fun y => x (by unfold ry; right; right; right; right; right; right; right; left; exact y)) (fun y => x (by unfold ry; right; right; right; right; right; right; right; right; left; exact y)), fun a j => by rw [← hA2, gr_wi, gr_wi, c4, b4], by rw [← hA2]; exact c5.trans b5⟩
  have e94 : runF (d + 11) 177 [vR 21 190 0] A = go true 0 (runF (d + 10)) (runN (d + 10)) pb_X12_hall n2 94 [vR 21 190 0, vI x] [] A2 := by
    rw [r_X12_hall, q_X12_hall_0, hL, q_X12_hall_13, q_X12_hall_23, q_X12_hall_33, hA1]
    exact b1.trans c1
  have i190 : ∀ j, gi A2 190 j = gi A1 190 j := fun j => g2 190 j (by omega) (by omega) (by omega)
  have md : MdS A2 T L 0 false := by
    refine ⟨⟨?_, fun j hj => ?_, tx, WC_fr (A := A) (fun a j h => by rw [g2 a j (by omega) (by omega) (by omega), g1 a j (by omega)]) wc⟩, by omega, ?_, ⟨0, ?_, Nat.le_refl _, Nat.zero_le _⟩, fun h => absurd h (by decide), fun _ => ?_, ?_⟩
    · rw [i190, ← hA1]; simp -implicitDefEqProofs (disch := omega) only [gi_wi, ↓reduceIte, Int.reduceEq, cI_v, cL_v, cV_v, cR_v, wid, wid64, if_pos, if_neg, Nat.add_zero, if_true, if_false, and_self, and_true, true_and, and_false, false_and, or_true, true_or, or_false, false_or]
    · rw [g2 191 j (by omega) (by omega) (by omega), g1 191 j (by omega)]; exact hT j hj
    · rw [i190, ← hA1]; simp -implicitDefEqProofs (disch := omega) only [gi_wi, ↓reduceIte, Int.reduceEq, cI_v, cL_v, cV_v, cR_v, wid, wid64, if_pos, if_neg, Nat.add_zero, if_true, if_false, and_self, and_true, true_and, and_false, false_and, or_true, true_or, or_false, false_or]
    · rw [i190, ← hA1]; simp -implicitDefEqProofs (disch := omega) only [gi_wi, ↓reduceIte, Int.reduceEq, cI_v, cL_v, cV_v, cR_v, wid, wid64, if_pos, if_neg, Nat.add_zero, if_true, if_false, and_self, and_true, true_and, and_false, false_and, or_true, true_or, or_false, false_or]; rfl
    · rw [i190, ← hA1]; simp -implicitDefEqProofs (disch := omega) only [gi_wi, ↓reduceIte, Int.reduceEq, cI_v, cL_v, cV_v, cR_v, wid, wid64, if_pos, if_neg, Nat.add_zero, if_true, if_false, and_self, and_true, true_and, and_false, false_and, or_true, true_or, or_false, false_or]; omega
    · rw [i190, ← hA1]; simp -implicitDefEqProofs (disch := omega) only [gi_wi, ↓reduceIte, Int.reduceEq, cI_v, cL_v, cV_v, cR_v, wid, wid64, if_pos, if_neg, Nat.add_zero, if_true, if_false, and_self, and_true, true_and, and_false, false_and, or_true, true_or, or_false, false_or]
  have mr : MR A2 (h0 A0) 0 := by
    refine ⟨fun j h => ?_, fun j h => ?_, fun j h => ?_, fun j h => ?_, fun j h => ?_, fun j h => ?_, fun j h => ?_, fun j h => ?_, fun j h => ?_, fun j h => by omega, by rw [i190, ← hA1]; simp -implicitDefEqProofs (disch := omega) only [gi_wi, ↓reduceIte, Int.reduceEq, cI_v, cL_v, cV_v, cR_v, wid, wid64, if_pos, if_neg, Nat.add_zero, if_true, if_false, and_self, and_true, true_and, and_false, false_and, or_true, true_or, or_false, false_or]; rfl⟩
    · rw [← hA2, gi_wi, if_neg (by omega), gi_wi, if_neg (by omega), c3 224 j (by omega), b2 j (by omega) h]
      unfold h0; rw [if_pos (by omega)]
    · rw [g2 225 j (by omega) (by omega) (by omega), g1 225 j (by omega), h0e _ _ (by omega) (by omega)]
      unfold h0; rw [if_neg (by omega), if_neg (by omega), if_neg (by omega), if_pos (by omega), show 24 + j - 24 = j by omega]
    · rw [g2 226 j (by omega) (by omega) (by omega), g1 226 j (by omega), h0e _ _ (by omega) (by omega)]
      unfold h0; rw [if_neg (by omega), if_neg (by omega), if_neg (by omega), if_neg (by omega), if_pos (by omega), show 32 + j - 32 = j by omega]
    · rw [g2 227 j (by omega) (by omega) (by omega), g1 227 j (by omega), h0e _ _ (by omega) (by omega)]
      unfold h0; rw [if_neg (by omega), if_neg (by omega), if_neg (by omega), if_neg (by omega), if_neg (by omega), if_pos (by omega), show 12 + j - 12 = j by omega]
    · rw [g2 228 j (by omega) (by omega) (by omega), g1 228 j (by omega), h0e _ _ (by omega) (by omega)]
      unfold h0; rw [if_neg (by omega), if_neg (by omega), if_neg (by omega), if_neg (by omega), if_neg (by omega), if_neg (by omega), if_pos (by omega), show 8 + j - 8 = j by omega]
    · rw [g2 229 j (by omega) (by omega) (by omega), g1 229 j (by omega), h0e _ _ (by omega) (by omega)]
      unfold h0; rw [if_neg (by omega), if_neg (by omega), if_neg (by omega), if_neg (by omega), if_neg (by omega), if_neg (by omega), if_neg (by omega), if_pos (by omega), show 18 + j - 18 = j by omega]
    · rw [← hA2, gi_wi, if_neg (by omega), gi_wi, if_neg (by omega), c2 j (by omega) h]
      unfold h0; rw [if_neg (by omega), if_pos (by omega)]
    · have : gi A2 231 j = -1 := by
        rw [← hA2]
        rcases (show j = 0 ∨ j = 1 by omega) with rfl | rfl
        · simp -implicitDefEqProofs (disch := omega) only [gi_wi, ↓reduceIte, Int.reduceEq, cI_v, cL_v, cV_v, cR_v, wid, wid64, if_pos, if_neg, Nat.add_zero, if_true, if_false, and_self, and_true, true_and, and_false, false_and, or_true, true_or, or_false, false_or]
        · simp -implicitDefEqProofs (disch := omega) only [gi_wi, ↓reduceIte, Int.reduceEq, cI_v, cL_v, cV_v, cR_v, wid, wid64, if_pos, if_neg, Nat.add_zero, if_true, if_false, and_self, and_true, true_and, and_false, false_and, or_true, true_or, or_false, false_or]
      rw [this]; unfold h0; rw [if_neg (by omega), if_neg (by omega), if_pos (by omega)]
    · rw [g2 232 j (by omega) (by omega) (by omega), g1 232 j (by omega), h0e _ _ (by omega) (by omega)]
      unfold h0; rw [if_neg (by omega), if_neg (by omega), if_neg (by omega), if_neg (by omega), if_neg (by omega), if_neg (by omega), if_neg (by omega), if_neg (by omega), if_pos (by omega), show 2 + j - 2 = j by omega]
  have hn2 : 800000 ≤ n2 := by have := fu_ge; omega
  have A21 : gi A2 190 1 = 0 := by rw [i190, ← hA1]; simp -implicitDefEqProofs (disch := omega) only [gi_wi, ↓reduceIte, Int.reduceEq, cI_v, cL_v, cV_v, cR_v, wid, wid64, if_pos, if_neg, Nat.add_zero, if_true, if_false, and_self, and_true, true_and, and_false, false_and, or_true, true_or, or_false, false_or]
  have nry1 : ¬ ry 190 1 := by unfold ry; omega
  have nry192 : ¬ ry 192 1 := by unfold ry; omega
  have A2192 : gi A2 192 1 = gi A 192 1 := by rw [g2 192 1 (by omega) (by omega) (by omega), g1 192 1 (by omega)]
  have phA2 : PH A2 := PH_r (A := A) (fun a j q1 q2 => by rw [g2 a j (by omega) (by omega) (by omega), g1 a j (by omega)]) ph
  have fin : ∀ (n : Nat) (B : AH) (k s : Int), gi B 190 5 = k → gi B 190 6 = s → k ≠ 0 → frY A2 B → PH B → ∃ D, go true 0 (runF (d + 10)) (runN (d + 10)) pb_X12_hall (n + 10) 125 [vR 21 190 0, vI x] [] B = some (some (vI (-1)), D) ∧ gi D 190 7 = k ∧ gi D 190 8 = s ∧ gi D 190 1 = 0 ∧ gi D 192 1 = gi A 192 1 + 1 ∧ PH D ∧ frYY A D := by
    intro n B k s h5 h6 hk f pB
    have z192 : gi B 192 1 = gi A 192 1 := by rw [f.1 192 1 nry192]; exact A2192
    refine ⟨wi (wi (wi B 190 7 k) 190 8 s) 192 1 (gi A 192 1 + 1), ?_, by simp -implicitDefEqProofs (disch := omega) only [gi_wi, ↓reduceIte, Int.reduceEq, cI_v, cL_v, cV_v, cR_v, wid, wid64, if_pos, if_neg, Nat.add_zero, if_true, if_false, and_self, and_true, true_and, and_false, false_and, or_true, true_or, or_false, false_or], by simp -implicitDefEqProofs (disch := omega) only [gi_wi, ↓reduceIte, Int.reduceEq, cI_v, cL_v, cV_v, cR_v, wid, wid64, if_pos, if_neg, Nat.add_zero, if_true, if_false, and_self, and_true, true_and, and_false, false_and, or_true, true_or, or_false, false_or], by simp -implicitDefEqProofs (disch := omega) only [gi_wi, ↓reduceIte, Int.reduceEq, cI_v, cL_v, cV_v, cR_v, wid, wid64, if_pos, if_neg, Nat.add_zero, if_true, if_false, and_self, and_true, true_and, and_false, false_and, or_true, true_or, or_false, false_or]; rw [f.1 190 1 nry1]; exact A21, by simp -implicitDefEqProofs (disch := omega) only [gi_wi, ↓reduceIte, Int.reduceEq, cI_v, cL_v, cV_v, cR_v, wid, wid64, if_pos, if_neg, Nat.add_zero, if_true, if_false, and_self, and_true, true_and, and_false, false_and, or_true, true_or, or_false, false_or], PH_r (A := B) (fun a j q1 q2 => by simp -implicitDefEqProofs (disch := omega) only [gi_wi, ↓reduceIte, Int.reduceEq, cI_v, cL_v, cV_v, cR_v, wid, wid64, if_pos, if_neg, Nat.add_zero, if_true, if_false, and_self, and_true, true_and, and_false, false_and, or_true, true_or, or_false, false_or]) pB, frYY_wi _ _ _ (by unfold ry; omega) (frYY_wi _ _ _ (by unfold ry; omega) (frYY_wi _ _ _ (by unfold ry; omega) (frYY_trans fg2 (frY_YY f))))⟩
    have z6 : gi (wi B 190 7 k) 190 6 = s := by simp -implicitDefEqProofs (disch := omega) only [gi_wi, ↓reduceIte, Int.reduceEq, cI_v, cL_v, cV_v, cR_v, wid, wid64, if_pos, if_neg, Nat.add_zero, if_true, if_false, and_self, and_true, true_and, and_false, false_and, or_true, true_or, or_false, false_or]; exact h6
    have z5 : gi (wi (wi B 190 7 k) 190 8 s) 190 5 = k := by simp -implicitDefEqProofs (disch := omega) only [gi_wi, ↓reduceIte, Int.reduceEq, cI_v, cL_v, cV_v, cR_v, wid, wid64, if_pos, if_neg, Nat.add_zero, if_true, if_false, and_self, and_true, true_and, and_false, false_and, or_true, true_or, or_false, false_or]; exact h5
    have z2 : gi (wi (wi B 190 7 k) 190 8 s) 192 1 = gi A 192 1 := by simp -implicitDefEqProofs (disch := omega) only [gi_wi, ↓reduceIte, Int.reduceEq, cI_v, cL_v, cV_v, cR_v, wid, wid64, if_pos, if_neg, Nat.add_zero, if_true, if_false, and_self, and_true, true_and, and_false, false_and, or_true, true_or, or_false, false_or]; exact z192
    rw [q_X12_hall_125, h5, z6, q_X12_hall_141, z5, if_neg hk, z2, wid (by omega) (by omega), q_X12_hall_158]
  obtain ⟨C, v0, D, t1, t2, t3, t4, t5⟩ := tellM (d + 5) 193 4 1 2 9 A2 md (by omega) (by decide) (by decide)
  obtain ⟨n3, rfl⟩ : ∃ e, n2 = e + 40 := ⟨n2 - 40, by omega⟩
  have e103 : ∀ (E : AH) R, runF (d + 9) 160 [vR 21 190 0, vI 59] (wi D 224 5 v0) = some (none, E) → go true 0 (runF (d + 10)) (runN (d + 10)) pb_X12_hall (n3 + 39) 103 [vR 21 190 0, vI x] [] (wi E 190 52 1) = R → runF (d + 11) 177 [vR 21 190 0] A = R := by
    intro E R hE hR
    rw [e94, q_X12_hall_94, r_X12_hallTold, q_X12_hallTold_0, t1, cV_v, t2, cI_v, q_X12_hallTold_21, hE, cV_v, cV_v]
    exact hR
  have badE : ∀ (E : AH) (k s : Int), runF (d + 9) 160 [vR 21 190 0, vI 59] (wi D 224 5 v0) = some (none, E) → gi E 190 5 = k → gi E 190 6 = s → k ≠ 0 → frY A2 E → PH E → ∃ B, runF (d + 11) 177 [vR 21 190 0] A = some (some (vI (-1)), B) ∧ gi B 190 7 = k ∧ gi B 190 8 = s ∧ gi B 190 1 = 0 ∧ gi B 192 1 = gi A 192 1 + 1 ∧ PH B ∧ frYY A B := by
    intro E k s hE h5 h6 hk f pE
    obtain ⟨Q, q1, q2⟩ := fin (n3 + 28) (wi E 190 52 1) k s (by simp -implicitDefEqProofs (disch := omega) only [gi_wi, ↓reduceIte, Int.reduceEq, cI_v, cL_v, cV_v, cR_v, wid, wid64, if_pos, if_neg, Nat.add_zero, if_true, if_false, and_self, and_true, true_and, and_false, false_and, or_true, true_or, or_false, false_or]; exact h5) (by simp -implicitDefEqProofs (disch := omega) only [gi_wi, ↓reduceIte, Int.reduceEq, cI_v, cL_v, cV_v, cR_v, wid, wid64, if_pos, if_neg, Nat.add_zero, if_true, if_false, and_self, and_true, true_and, and_false, false_and, or_true, true_or, or_false, false_or]; exact h6) hk (frY_wi _ _ _ (by unfold ry; omega) f) (PH_r (A := E) (fun a j q1 q2 => by simp -implicitDefEqProofs (disch := omega) only [gi_wi, ↓reduceIte, Int.reduceEq, cI_v, cL_v, cV_v, cR_v, wid, wid64, if_pos, if_neg, Nat.add_zero, if_true, if_false, and_self, and_true, true_and, and_false, false_and, or_true, true_or, or_false, false_or]) pE)
    refine ⟨Q, e103 E _ hE ?_, q2⟩
    have z5 : gi (wi E 190 52 1) 190 5 ≠ 0 := by simp -implicitDefEqProofs (disch := omega) only [gi_wi, ↓reduceIte, Int.reduceEq, cI_v, cL_v, cV_v, cR_v, wid, wid64, if_pos, if_neg, Nat.add_zero, if_true, if_false, and_self, and_true, true_and, and_false, false_and, or_true, true_or, or_false, false_or]; rw [h5]; exact hk
    rw [q_X12_hall_103, if_neg z5]
    exact q1
  unfold hlG
  cases hG : tellG T L 0 false 1 2 9 with
  | error y =>
    obtain ⟨k0, s0⟩ := y
    have e := t4 k0 s0 hG
    have hb : gi (wi D 224 5 v0) 190 5 ≠ 0 := by simp -implicitDefEqProofs (disch := omega) only [gi_wi, ↓reduceIte, Int.reduceEq, cI_v, cL_v, cV_v, cR_v, wid, wid64, if_pos, if_neg, Nat.add_zero, if_true, if_false, and_self, and_true, true_and, and_false, false_and, or_true, true_or, or_false, false_or]; rw [e.1]; exact e.2.2.1
    refine ⟨(fun k s q => ?_), (fun H' cd' k' q => by cases q)⟩
    injection q with q; injection q with q1 q2
    subst q1 q2
    exact badE _ k0 s0 (s_asksSignB _ _ _ hb) (by simp -implicitDefEqProofs (disch := omega) only [gi_wi, ↓reduceIte, Int.reduceEq, cI_v, cL_v, cV_v, cR_v, wid, wid64, if_pos, if_neg, Nat.add_zero, if_true, if_false, and_self, and_true, true_and, and_false, false_and, or_true, true_or, or_false, false_or]; exact e.1) (by simp -implicitDefEqProofs (disch := omega) only [gi_wi, ↓reduceIte, Int.reduceEq, cI_v, cL_v, cV_v, cR_v, wid, wid64, if_pos, if_neg, Nat.add_zero, if_true, if_false, and_self, and_true, true_and, and_false, false_and, or_true, true_or, or_false, false_or]; exact e.2.1) e.2.2.1 (frY_wi _ _ _ (by unfold ry; omega) (frZ_Y e.2.2.2)) (PH_r (A := A2) (fun a j q1 q2 => by rw [gi_wi, if_neg (by omega)]; exact e.2.2.2.1 a j (by omega)) phA2)
  | ok y =>
    obtain ⟨v, pl, p1, t1'⟩ := y
    obtain ⟨rfl, d2, d3, d4⟩ := t5 v pl p1 t1' hG
    have tb := tellG_ok tx (by omega) (by decide) hG
    have mE : MdS (wi D 224 5 v0) T L p1 t1' := MdS_fr (by simp -implicitDefEqProofs (disch := omega) only [gi_wi, ↓reduceIte, Int.reduceEq, cI_v, cL_v, cV_v, cR_v, wid, wid64, if_pos, if_neg, Nat.add_zero, if_true, if_false, and_self, and_true, true_and, and_false, false_and, or_true, true_or, or_false, false_or]) (by simp -implicitDefEqProofs (disch := omega) only [gi_wi, ↓reduceIte, Int.reduceEq, cI_v, cL_v, cV_v, cR_v, wid, wid64, if_pos, if_neg, Nat.add_zero, if_true, if_false, and_self, and_true, true_and, and_false, false_and, or_true, true_or, or_false, false_or]) (by simp -implicitDefEqProofs (disch := omega) only [gi_wi, ↓reduceIte, Int.reduceEq, cI_v, cL_v, cV_v, cR_v, wid, wid64, if_pos, if_neg, Nat.add_zero, if_true, if_false, and_self, and_true, true_and, and_false, false_and, or_true, true_or, or_false, false_or]) (by simp -implicitDefEqProofs (disch := omega) only [gi_wi, ↓reduceIte, Int.reduceEq, cI_v, cL_v, cV_v, cR_v, wid, wid64, if_pos, if_neg, Nat.add_zero, if_true, if_false, and_self, and_true, true_and, and_false, false_and, or_true, true_or, or_false, false_or]) (by simp -implicitDefEqProofs (disch := omega) only [gi_wi, ↓reduceIte, Int.reduceEq, cI_v, cL_v, cV_v, cR_v, wid, wid64, if_pos, if_neg, Nat.add_zero, if_true, if_false, and_self, and_true, true_and, and_false, false_and, or_true, true_or, or_false, false_or]) (fun a j q1 q2 => by simp -implicitDefEqProofs (disch := omega) only [gi_wi, ↓reduceIte, Int.reduceEq, cI_v, cL_v, cV_v, cR_v, wid, wid64, if_pos, if_neg, Nat.add_zero, if_true, if_false, and_self, and_true, true_and, and_false, false_and, or_true, true_or, or_false, false_or]) d2
    have ka := s_asksSign (d + 6) 59 _ mE (by decide) (by decide) (by decide)
    have yD : frY A2 (wi D 224 5 v0) := frY_wi _ _ _ (by unfold ry; omega) (frZ_Y d3)
    have phD : PH (wi D 224 5 v0) := PH_r (A := A2) (fun a j q1 q2 => by rw [gi_wi, if_neg (by omega)]; exact d3.1 a j (by omega)) phA2
    simp only
    cases hS : tkS T L p1 t1' 59 with
    | error y =>
      obtain ⟨k0, s0⟩ := y
      rw [hS] at ka
      obtain ⟨E, e1, e2⟩ := ka
      refine ⟨(fun k s q => ?_), (fun H' cd' k' q => by cases q)⟩
      injection q with q; injection q with q1 q2
      subst q1 q2
      exact badE E k0 s0 e1 e2.1 e2.2.1 e2.2.2.1 (frY_trans yD (frZ_Y e2.2.2.2)) (PH_r (fun a j q1 q2 => e2.2.2.2.1 a j (by omega)) phD)
    | ok y =>
      obtain ⟨p2, t2'⟩ := y
      rw [hS] at ka
      obtain ⟨E, e1, e2, e3⟩ := ka
      have kk := tkS_ok hS
      have x1 := sgn_1 kk.1 (by decide) tx
      have x2 := stp_L (T := T) (L := L) (p := p1) tx tb.2.2.2
      have mrE : MR (wi E 190 52 1) (h1 A0 v0) 0 := by
        have mrD := MR_Z d3 mr
        have o : ∀ a j, ¬ (a = 224 ∧ j = 11) → h1 A0 v0 a j = h0 A0 a j := fun a j q => by unfold h1; rw [uH_at, if_neg q]
        have G : ∀ a j, 224 ≤ a → a ≤ 233 → ¬ (a = 224 ∧ j = 5) → gi (wi E 190 52 1) a j = gi D a j := fun a j q1 q2 q3 => by rw [gi_wi, if_neg (by omega), e3.1 a j (by omega), gi_wi, if_neg q3]
        obtain ⟨m1, m2, m3, m4, m5, m6, m7, m8, m9, m10, m11⟩ := mrD
        refine ⟨fun j h => ?_, fun j h => ?_, fun j h => ?_, fun j h => ?_, fun j h => ?_, fun j h => ?_, fun j h => ?_, fun j h => ?_, fun j h => ?_, fun j h => by omega, ?_⟩
        · by_cases c : j = 5
          · rw [c, gi_wi, if_neg (by omega), e3.1 224 5 (by omega), gi_wi, if_pos ⟨rfl, rfl⟩]
            exact (h1_c A0 v0).1.symm
          · rw [G 224 j (by omega) (by omega) (by omega), o 224 _ (by omega)]; exact m1 j h
        · rw [G 225 j (by omega) (by omega) (by omega), o 225 _ (by omega)]; exact m2 j h
        · rw [G 226 j (by omega) (by omega) (by omega), o 226 _ (by omega)]; exact m3 j h
        · rw [G 227 j (by omega) (by omega) (by omega), o 227 _ (by omega)]; exact m4 j h
        · rw [G 228 j (by omega) (by omega) (by omega), o 228 _ (by omega)]; exact m5 j h
        · rw [G 229 j (by omega) (by omega) (by omega), o 229 _ (by omega)]; exact m6 j h
        · rw [G 230 j (by omega) (by omega) (by omega), o 230 _ (by omega)]; exact m7 j h
        · rw [G 231 j (by omega) (by omega) (by omega), o 231 _ (by omega)]; exact m8 j h
        · rw [G 232 j (by omega) (by omega) (by omega), o 232 _ (by omega)]; exact m9 j h
        · rw [gi_wi, if_neg (by omega), e3.1 190 55 (by omega), gi_wi, if_neg (by omega)]; exact m11
      have mdF : MdS (wi E 190 52 1) T L p2 t2' := MdS_fr (by simp -implicitDefEqProofs (disch := omega) only [gi_wi, ↓reduceIte, Int.reduceEq, cI_v, cL_v, cV_v, cR_v, wid, wid64, if_pos, if_neg, Nat.add_zero, if_true, if_false, and_self, and_true, true_and, and_false, false_and, or_true, true_or, or_false, false_or]) (by simp -implicitDefEqProofs (disch := omega) only [gi_wi, ↓reduceIte, Int.reduceEq, cI_v, cL_v, cV_v, cR_v, wid, wid64, if_pos, if_neg, Nat.add_zero, if_true, if_false, and_self, and_true, true_and, and_false, false_and, or_true, true_or, or_false, false_or]) (by simp -implicitDefEqProofs (disch := omega) only [gi_wi, ↓reduceIte, Int.reduceEq, cI_v, cL_v, cV_v, cR_v, wid, wid64, if_pos, if_neg, Nat.add_zero, if_true, if_false, and_self, and_true, true_and, and_false, false_and, or_true, true_or, or_false, false_or]) (by simp -implicitDefEqProofs (disch := omega) only [gi_wi, ↓reduceIte, Int.reduceEq, cI_v, cL_v, cV_v, cR_v, wid, wid64, if_pos, if_neg, Nat.add_zero, if_true, if_false, and_self, and_true, true_and, and_false, false_and, or_true, true_or, or_false, false_or]) (by simp -implicitDefEqProofs (disch := omega) only [gi_wi, ↓reduceIte, Int.reduceEq, cI_v, cL_v, cV_v, cR_v, wid, wid64, if_pos, if_neg, Nat.add_zero, if_true, if_false, and_self, and_true, true_and, and_false, false_and, or_true, true_or, or_false, false_or]) (fun a j q1 q2 => by simp -implicitDefEqProofs (disch := omega) only [gi_wi, ↓reduceIte, Int.reduceEq, cI_v, cL_v, cV_v, cR_v, wid, wid64, if_pos, if_neg, Nat.add_zero, if_true, if_false, and_self, and_true, true_and, and_false, false_and, or_true, true_or, or_false, false_or]) e2
      have phA0 : PH A0 := PH_r (A := A) (fun a j q1 q2 => (h0e a j (by omega) (by omega)).symm) ph
      obtain ⟨i1, i2⟩ := l_hallM d tx x 60 (n3 + 39) 1 (h1 A0 v0) 0 p2 t2' (wi E 190 52 1) (by omega) (by omega) (by omega) (by omega) ⟨PI_h1 phA0 ⟨tb.1, tb.2.1⟩, by omega, by omega⟩ mrE mdF (by rw [gi_wi, if_pos ⟨rfl, rfl⟩]; rfl)
      have yF : frY A2 (wi E 190 52 1) := frY_wi _ _ _ (by unfold ry; omega) (frY_trans yD (frZ_Y e3))
      refine ⟨(fun k s q => ?_), (fun H' cd' k' q => ?_)⟩
      · obtain ⟨n', B, q0, q1, q2, q3, q4, q5, q6⟩ := i1 k s q
        obtain ⟨n', rfl⟩ : ∃ e, n' = e + 10 := ⟨n' - 10, by omega⟩
        obtain ⟨Q, w1, w2⟩ := fin n' B k s q2 q3 q4 (frY_trans yF q5) q6
        exact ⟨Q, e103 E _ e1 (q1.trans w1), w2⟩
      · obtain ⟨n', B, q0, q1, q2, q3, q4, q5, q6, q7, q8⟩ := i2 H' cd' k' q
        obtain ⟨n', rfl⟩ : ∃ e, n' = e + 10 := ⟨n' - 10, by omega⟩
        have yB := frY_trans yF q8
        have z6 : gi (wi B 190 7 0) 190 6 = -1 := by simp -implicitDefEqProofs (disch := omega) only [gi_wi, ↓reduceIte, Int.reduceEq, cI_v, cL_v, cV_v, cR_v, wid, wid64, if_pos, if_neg, Nat.add_zero, if_true, if_false, and_self, and_true, true_and, and_false, false_and, or_true, true_or, or_false, false_or]; exact q3
        have z5 : gi (wi (wi B 190 7 0) 190 8 (-1)) 190 5 = 0 := by simp -implicitDefEqProofs (disch := omega) only [gi_wi, ↓reduceIte, Int.reduceEq, cI_v, cL_v, cV_v, cR_v, wid, wid64, if_pos, if_neg, Nat.add_zero, if_true, if_false, and_self, and_true, true_and, and_false, false_and, or_true, true_or, or_false, false_or]; exact q2
        refine ⟨wi (wi B 190 7 0) 190 8 (-1), e103 E _ e1 (q1.trans ?_), MR_fr (fun a j u1 u2 => by simp -implicitDefEqProofs (disch := omega) only [gi_wi, ↓reduceIte, Int.reduceEq, cI_v, cL_v, cV_v, cR_v, wid, wid64, if_pos, if_neg, Nat.add_zero, if_true, if_false, and_self, and_true, true_and, and_false, false_and, or_true, true_or, or_false, false_or]) (by simp -implicitDefEqProofs (disch := omega) only [gi_wi, ↓reduceIte, Int.reduceEq, cI_v, cL_v, cV_v, cR_v, wid, wid64, if_pos, if_neg, Nat.add_zero, if_true, if_false, and_self, and_true, true_and, and_false, false_and, or_true, true_or, or_false, false_or]) q4, q5, q6, by simp -implicitDefEqProofs (disch := omega) only [gi_wi, ↓reduceIte, Int.reduceEq, cI_v, cL_v, cV_v, cR_v, wid, wid64, if_pos, if_neg, Nat.add_zero, if_true, if_false, and_self, and_true, true_and, and_false, false_and, or_true, true_or, or_false, false_or]; exact q7, by simp -implicitDefEqProofs (disch := omega) only [gi_wi, ↓reduceIte, Int.reduceEq, cI_v, cL_v, cV_v, cR_v, wid, wid64, if_pos, if_neg, Nat.add_zero, if_true, if_false, and_self, and_true, true_and, and_false, false_and, or_true, true_or, or_false, false_or], by simp -implicitDefEqProofs (disch := omega) only [gi_wi, ↓reduceIte, Int.reduceEq, cI_v, cL_v, cV_v, cR_v, wid, wid64, if_pos, if_neg, Nat.add_zero, if_true, if_false, and_self, and_true, true_and, and_false, false_and, or_true, true_or, or_false, false_or], by simp -implicitDefEqProofs (disch := omega) only [gi_wi, ↓reduceIte, Int.reduceEq, cI_v, cL_v, cV_v, cR_v, wid, wid64, if_pos, if_neg, Nat.add_zero, if_true, if_false, and_self, and_true, true_and, and_false, false_and, or_true, true_or, or_false, false_or]; rw [yB.1 190 1 nry1]; exact A21, by simp -implicitDefEqProofs (disch := omega) only [gi_wi, ↓reduceIte, Int.reduceEq, cI_v, cL_v, cV_v, cR_v, wid, wid64, if_pos, if_neg, Nat.add_zero, if_true, if_false, and_self, and_true, true_and, and_false, false_and, or_true, true_or, or_false, false_or]; rw [yB.1 192 1 nry192]; exact A2192, frYY_wi _ _ _ (by unfold ry; omega) (frYY_wi _ _ _ (by unfold ry; omega) (frYY_trans fg2 (frY_YY yB)))⟩
        rw [q_X12_hall_125, q2, z6, q_X12_hall_141, z5, if_pos rfl]
