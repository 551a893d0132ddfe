/-! the text of a hall: the reference's pieces -/
def MR (A : AH) (H : Nat → Nat → Int) (cd : Nat) : Prop := (∀ j, j < 6 → gi A 224 j = H 224 (6 + j)) ∧ (∀ j, j < 24 → gi A 225 j = H 225 (24 + j)) ∧ (∀ j, j < 32 → gi A 226 j = H 226 (32 + j)) ∧ (∀ j, j < 12 → gi A 227 j = H 227 (12 + j)) ∧ (∀ j, j < 8 → gi A 228 j = H 228 (8 + j)) ∧ (∀ j, j < 18 → gi A 229 j = H 229 (18 + j)) ∧ (∀ j, j < 16 → gi A 230 j = H 230 (16 + j)) ∧ (∀ j, j < 2 → gi A 231 j = H 231 (2 + j)) ∧ (∀ j, j < 2 → gi A 232 j = H 232 (2 + j)) ∧ (∀ j, j < cd → gi A 233 j = H 233 (1600 + j)) ∧ gi A 190 55 = cd
theorem MR_fr {A B : AH} {H : Nat → Nat → Int} {cd : Nat} (g : ∀ a j, 224 ≤ a → a ≤ 233 → gi B a j = gi A a j) (g55 : gi B 190 55 = gi A 190 55) (m : MR A H cd) : MR B H cd := by
  obtain ⟨m1, m2, m3, m4, m5, m6, m7, m8, m9, m10, m11⟩ := m
  exact ⟨fun j h => (g _ _ (by omega) (by omega)).trans (m1 j h), fun j h => (g _ _ (by omega) (by omega)).trans (m2 j h), fun j h => (g _ _ (by omega) (by omega)).trans (m3 j h), fun j h => (g _ _ (by omega) (by omega)).trans (m4 j h), fun j h => (g _ _ (by omega) (by omega)).trans (m5 j h), fun j h => (g _ _ (by omega) (by omega)).trans (m6 j h), fun j h => (g _ _ (by omega) (by omega)).trans (m7 j h), fun j h => (g _ _ (by omega) (by omega)).trans (m8 j h), fun j h => (g _ _ (by omega) (by omega)).trans (m9 j h), fun j h => (g _ _ (by omega) (by omega)).trans (m10 j h), g55.trans m11⟩
theorem MR_Z {A B : AH} {H : Nat → Nat → Int} {cd : Nat} (f : frZ A B) (m : MR A H cd) : MR B H cd := MR_fr (fun a j h1 h2 => f.1 a j (by omega)) (f.1 190 55 (by omega)) m
theorem MR_n {A : AH} {H : Nat → Nat → Int} {cd : Nat} (m : MR A H cd) : gi A 224 0 = nPe H ∧ gi A 224 1 = nMu H ∧ gi A 224 2 = nPo H ∧ gi A 224 3 = nNo H ∧ gi A 224 4 = nHa H ∧ gi A 224 5 = nSe H := ⟨m.1 0 (by omega), m.1 1 (by omega), m.1 2 (by omega), m.1 3 (by omega), m.1 4 (by omega), m.1 5 (by omega)⟩
set_option maxRecDepth 100000 in
theorem s_isFull (d : Nat) {T : Nat → Int} {L p : Nat} {t : Bool} (x : Nat) (hx : x < 6) (y z : Int) (A : AH) (m : MdS A T L p t) : (gi A 224 x ≠ y → runF (d + 2) 164 [vR 21 190 0, vI (x : Int), vI y, vI z] A = some (some (vI 0), A)) ∧ (gi A 224 x = y → runF (d + 2) 164 [vR 21 190 0, vI (x : Int), vI y, vI z] A = some (some (vI 1), wi (wi A 190 5 5) 190 6 z)) := by
  have m5 := m.2.2.1
  constructor
  · intro h
    rw [r_X12_isFull, q_X12_isFull_0, if_pos m5, if_pos (by omega), Int.toNat_natCast, if_neg h, q_X12_isFull_23, if_pos m5]
  · intro h
    have e5 : gi (wi (wi A 190 5 5) 190 6 z) 190 5 = 5 := by simp -implicitDefEqProofs (disch := omega) only [gi_wi, ↓reduceIte, Int.reduceEq, cI_v, cL_v, cV_v, cR_v, wid, wid64, if_pos, if_neg, Nat.add_zero, if_true, if_false, and_self, and_true, true_and, and_false, false_and, or_true, true_or, or_false, false_or]
    rw [r_X12_isFull, q_X12_isFull_0, if_pos m5, if_pos (by omega), Int.toNat_natCast, if_pos h, s_failM _ _ _ _ m5, cV_v, q_X12_isFull_23, e5, if_neg (by omega)]
set_option maxRecDepth 100000 in
theorem l_nameOf (d : Nat) (H : Nat → Nat → Int) (cd : Nat) (x : Nat) (hx : x < 3) (v : Int) (A : AH) (m : MR A H cd) (N : Nat) (hN : gi A 224 x = N) (hN8 : N ≤ 8) : ∀ (j n : Nat) (k : Int), 0 ≤ k → k + j = N → 3 * j + 10 ≤ n → go true 0 (runF d) (runN d) pb_X12_nameOf n 3 [vR 21 190 0, vI (x : Int), vL v, vS, vI k] [] A = some (some (vI (ff (fun k => decide (H 225 (24 + 8 * (x : Int) + k).toNat = v)) j k)), A) := by
  intro j
  induction j with
  | zero =>
    intro n k h1 h2 hn
    obtain ⟨n, rfl⟩ : ∃ e, n = e + 10 := ⟨n - 10, by omega⟩
    rw [q_X12_nameOf_3, if_pos (by omega), Int.toNat_natCast, hN, if_neg (by omega)]; rfl
  | succ j ih =>
    intro n k h1 h2 hn
    obtain ⟨n, rfl⟩ : ∃ e, n = e + 10 := ⟨n - 10, by omega⟩
    have ew : w32 (w32 (8 * (x : Int)) + k) = 8 * (x : Int) + k := by rw [wid (x := 8 * (x : Int)) (by omega) (by omega), wid (by omega) (by omega)]
    have ev : gi A 225 (8 * (x : Int) + k).toNat = H 225 (24 + 8 * (x : Int) + k).toNat := by
      rw [m.2.1 _ (by omega)]; congr 1; omega
    rw [q_X12_nameOf_3, if_pos (by omega), Int.toNat_natCast, hN, if_pos (by omega)]
    simp only [ew, ev, lcp_eq]
    rw [if_pos (by omega)]
    show _ = some (some (vI (if decide (H 225 (24 + 8 * (x : Int) + k).toNat = v) = true then k else ff (fun k => decide (H 225 (24 + 8 * (x : Int) + k).toNat = v)) j (k + 1))), A)
    by_cases c : H 225 (24 + 8 * (x : Int) + k).toNat = v
    · rw [if_pos c, decide_eq_true c, if_pos rfl]
    · rw [if_neg c, decide_eq_false c, if_neg (by decide), wid (by omega) (by omega), Nat.add_zero (n + 8)]
      exact ih (n + 8) (k + 1) (by omega) (by omega) (by omega)
set_option maxRecDepth 100000 in
theorem s_nameOf (d : Nat) (H : Nat → Nat → Int) (cd : Nat) (hc : cok H) (v : Int) (A : AH) (m : MR A H cd) : runF (d + 1) 165 [vR 21 190 0, vI 0, vL v] A = some (some (vI (fnP H v)), A) ∧ runF (d + 1) 165 [vR 21 190 0, vI 1, vL v] A = some (some (vI (fnM H v)), A) ∧ runF (d + 1) 165 [vR 21 190 0, vI 2, vL v] A = some (some (vI (fnO H v)), A) := by
  obtain ⟨n1, n2, n3, _⟩ := MR_n m
  unfold cok at hc
  have gen : ∀ (x N : Nat), x < 3 → gi A 224 x = N → N ≤ 8 → runF (d + 1) 165 [vR 21 190 0, vI (x : Int), vL v] A = some (some (vI (ff (fun k => decide (H 225 (24 + 8 * (x : Int) + k).toNat = v)) N 0)), A) := by
    intro x N hx hN h8
    rw [r_X12_nameOf, q_X12_nameOf_0, Nat.add_zero (fu + 199)]
    exact l_nameOf d H cd x hx v A m N hN h8 N (fu + 199) 0 (by omega) (by omega) (by have := fu_ge; omega)
  refine ⟨?_, ?_, ?_⟩
  · have := gen 0 (nPe H).toNat (by omega) (by rw [n1]; omega) (by omega)
    refine this.trans ?_
    unfold fnP
    refine congrArg (fun z => some (some (vI z), A)) (ff_congr _ _ (fun j q1 q2 => ?_))
    rw [show (24 : Int) + 8 * ((0 : Nat) : Int) + j = 24 + j by omega]
  · have := gen 1 (nMu H).toNat (by omega) (by rw [n2]; omega) (by omega)
    refine this.trans ?_
    unfold fnM
    refine congrArg (fun z => some (some (vI z), A)) (ff_congr _ _ (fun j q1 q2 => ?_))
    rw [show (24 : Int) + 8 * ((1 : Nat) : Int) + j = 32 + j by omega]
  · have := gen 2 (nPo H).toNat (by omega) (by rw [n3]; omega) (by omega)
    refine this.trans ?_
    unfold fnO
    refine congrArg (fun z => some (some (vI z), A)) (ff_congr _ _ (fun j q1 q2 => ?_))
    rw [show (24 : Int) + 8 * ((2 : Nat) : Int) + j = 40 + j by omega]
theorem newBad (d : Nat) (v : Int) (A : AH) (hb : gi A 190 5 ≠ 0) : ∀ (j n : Nat) (k : Int), 0 ≤ k → k + j = 3 → 3 * j + 10 ≤ n → go true 1 (runF d) (runN d) pb_X12_newName n 7 [vR 21 190 0, vL v, vS, vI k] [] A = some (some (vL v), A) := by
  intro j
  induction j with
  | zero =>
    intro n k h1 h2 hn
    obtain ⟨n, rfl⟩ : ∃ e, n = e + 10 := ⟨n - 10, by omega⟩
    rw [q_X12_newName_7, if_neg (by omega)]
  | succ j ih =>
    intro n k h1 h2 hn
    obtain ⟨n, rfl⟩ : ∃ e, n = e + 10 := ⟨n - 10, by omega⟩
    rw [q_X12_newName_7, if_pos (by omega), if_neg hb, q_X12_newName_38, wid (by omega) (by omega), Nat.add_zero (n + 8)]
    exact ih (n + 8) (k + 1) (by omega) (by omega) (by omega)
set_option maxRecDepth 100000 in
theorem s_newName (d : Nat) {T : Nat → Int} {L p : Nat} {t : Bool} {H : Nat → Nat → Int} {cd : Nat} (A : AH) (hc : cok H) (mr : MR A H cd) (m : MdS A T L p t) : (∀ k s, giveG T L H p t = .error (k, s) → ∃ v B, runF (d + 5) 166 [vR 21 190 0] A = some (some (vL v), B) ∧ MB A B k s) ∧ (∀ v p' t', giveG T L H p t = .ok (v, p', t') → ∃ B, runF (d + 5) 166 [vR 21 190 0] A = some (some (vL v), B) ∧ MdS B T L p' t' ∧ frZ A B) := by
  have k1 := s_name d A m
  unfold giveG
  cases hT : tkA T L p t with
  | error y =>
    obtain ⟨k0, s0⟩ := y
    rw [hT] at k1
    obtain ⟨B, b1, b2⟩ := k1
    refine ⟨(fun k s q => ?_), (fun v p' t' q => by cases q)⟩
    injection q with q; injection q with q1 q2
    subst q1 q2
    refine ⟨0, B, ?_, b2⟩
    rw [r_X12_newName, q_X12_newName_0, b1, cL_v, Nat.add_zero (fu + 199)]
    exact newBad (d + 4) 0 B (by rw [b2.1]; exact b2.2.2.1) 3 (fu + 199) 0 (by omega) (by omega) (by have := fu_ge; omega)
  | ok y =>
    obtain ⟨p1, t1⟩ := y
    rw [hT] at k1
    obtain ⟨B, b1, b2, b3, b4⟩ := k1
    have mB := MR_Z b3 mr
    obtain ⟨f1, f2, f3⟩ := s_nameOf (d + 3) H cd hc (nameV T L p) B mB
    have B5 := b2.2.2.1
    simp only
    generalize nameV T L p = v at *
    have e0 : ∀ R, go true 1 (runF (d + 4)) (runN (d + 4)) pb_X12_newName (fu + 197 + 2) 7 [vR 21 190 0, vL v, vS, vI 0] [] B = R → runF (d + 5) 166 [vR 21 190 0] A = R := by
      intro R hR
      rw [r_X12_newName, q_X12_newName_0, b1, cL_v]
      exact hR
    have bad5 : gi (wi (wi B 190 5 3) 190 6 (bl T L p : Int)) 190 5 ≠ 0 := by simp -implicitDefEqProofs (disch := omega) only [gi_wi, ↓reduceIte, Int.reduceEq, cI_v, cL_v, cV_v, cR_v, wid, wid64, if_pos, if_neg, Nat.add_zero, if_true, if_false, and_self, and_true, true_and, and_false, false_and, or_true, true_or, or_false, false_or]; omega
    by_cases c : fnd H v = -1
    · rw [if_pos c]
      have z : fnP H v = -1 ∧ fnM H v = -1 ∧ fnO H v = -1 := by
        have r1 := ff_rng (p := fun k => decide (H 225 (24 + k).toNat = v)) (nPe H).toNat 0
        have r2 := ff_rng (p := fun k => decide (H 225 (32 + k).toNat = v)) (nMu H).toNat 0
        have r3 := ff_rng (p := fun k => decide (H 225 (40 + k).toNat = v)) (nPo H).toNat 0
        unfold fnd at c
        by_cases y1 : fnP H v = -1
        · rw [if_neg (by omega)] at c
          by_cases y2 : fnM H v = -1
          · rw [if_neg (by omega)] at c
            by_cases y3 : fnO H v = -1
            · exact ⟨y1, y2, y3⟩
            · rw [if_pos y3] at c; unfold fnO at *; omega
          · rw [if_pos y2] at c; unfold fnM at *; omega
        · rw [if_pos y1] at c; omega
      refine ⟨(fun k s q => by cases q), (fun v' p' t' q => ?_)⟩
      injection q with q; injection q with q1 q2; injection q2 with q2 q3
      subst q1 q2 q3
      refine ⟨B, e0 _ ?_, b2, b3⟩
      rw [q_X12_newName_7, if_pos (by omega), if_pos B5, f1, cI_v, if_pos z.1, q_X12_newName_38, wid (by omega) (by omega), show (0 : Int) + 1 = 1 from rfl, show fu + 197 + 0 = (fu + 195) + 2 from rfl, q_X12_newName_7, if_pos (by omega), if_pos B5, f2, cI_v, if_pos z.2.1, q_X12_newName_38, wid (by omega) (by omega), show (1 : Int) + 1 = 2 from rfl, show fu + 195 + 0 = (fu + 193) + 2 from rfl, q_X12_newName_7, if_pos (by omega), if_pos B5, f3, cI_v, if_pos z.2.2, q_X12_newName_38, wid (by omega) (by omega), show (2 : Int) + 1 = 3 from rfl, show fu + 193 + 0 = (fu + 191) + 2 from rfl, q_X12_newName_7, if_neg (by omega)]
    · rw [if_neg c]
      refine ⟨(fun k s q => ?_), (fun v' p' t' q => by cases q)⟩
      injection q with q; injection q with q1 q2
      subst q1 q2
      refine ⟨v, wi (wi B 190 5 3) 190 6 (bl T L p : Int), e0 _ ?_, MB_t b3 (MB_f B 3 _ (by decide))⟩
      by_cases y1 : fnP H v = -1
      · rw [q_X12_newName_7, if_pos (by omega), if_pos B5, f1, cI_v, if_pos y1, q_X12_newName_38, wid (by omega) (by omega), show (0 : Int) + 1 = 1 from rfl, show fu + 197 + 0 = (fu + 195) + 2 from rfl, q_X12_newName_7, if_pos (by omega), if_pos B5, f2, cI_v]
        by_cases y2 : fnM H v = -1
        · have y3 : fnO H v ≠ -1 := fun y => c (by unfold fnd; rw [if_neg (by omega), if_neg (by omega), if_neg (by omega)])
          rw [if_pos y2, q_X12_newName_38, wid (by omega) (by omega), show (1 : Int) + 1 = 2 from rfl, show fu + 195 + 0 = (fu + 193) + 2 from rfl, q_X12_newName_7, if_pos (by omega), if_pos B5, f3, cI_v, if_neg y3, b4, s_failM _ _ _ _ B5, cV_v, q_X12_newName_38, wid (by omega) (by omega), show (2 : Int) + 1 = 3 from rfl, Nat.add_zero (fu + 193)]
          exact newBad (d + 4) v _ bad5 0 (fu + 193) 3 (by omega) (by omega) (by have := fu_ge; omega)
        · rw [if_neg y2, b4, s_failM _ _ _ _ B5, cV_v, q_X12_newName_38, wid (by omega) (by omega), show (1 : Int) + 1 = 2 from rfl, Nat.add_zero (fu + 195)]
          exact newBad (d + 4) v _ bad5 1 (fu + 195) 2 (by omega) (by omega) (by have := fu_ge; omega)
      · rw [q_X12_newName_7, if_pos (by omega), if_pos B5, f1, cI_v, if_neg y1, b4, s_failM _ _ _ _ B5, cV_v, q_X12_newName_38, wid (by omega) (by omega), show (0 : Int) + 1 = 1 from rfl, Nat.add_zero (fu + 197)]
        exact newBad (d + 4) v _ bad5 2 (fu + 197) 1 (by omega) (by omega) (by have := fu_ge; omega)
/-- a word with a number -/
theorem tellM (d : Nat) {T : Nat → Int} {L p : Nat} {t : Bool} (r len k : Nat) (lo hi : Int) (A : AH) (m : MdS A T L p t) (hr : (193 ≤ r ∧ r ≤ 223) ∨ (244 ≤ r ∧ r ≤ 266)) (hl : (wl (wo r)).length = len) (hk : wo r + 1 = k) : ∃ B1 v B, runF (d + 4) 158 [vR 21 190 0, vR 32 r len] A = some (none, B1) ∧ runF (d + 4) 161 [vR 21 190 0, vI lo, vI hi] B1 = some (some (vI v), B) ∧ frZ A B1 ∧ (∀ e s, tellG T L p t k lo hi = .error (e, s) → MB A B e s) ∧ (∀ w pl p' t', tellG T L p t k lo hi = .ok (w, pl, p', t') → v = w ∧ MdS B T L p' t' ∧ frZ A B ∧ gi B 190 10 = (pl : Int)) := by
  have ka := s_asks d r len k A m hr hl hk
  unfold tellG
  cases hT : tkW T L p t k with
  | error y =>
    obtain ⟨k0, s0⟩ := y
    rw [hT] at ka
    obtain ⟨B, b1, b2⟩ := ka
    refine ⟨B, 0, B, b1, s_numberB _ _ _ _ (by rw [b2.1]; exact b2.2.2.1), b2.2.2.2, (fun e s q => ?_), (fun w pl p' t' q => by cases q)⟩
    injection q with q; injection q with q1 q2
    subst q1 q2
    exact b2
  | ok y =>
    obtain ⟨p1, t1⟩ := y
    rw [hT] at ka
    obtain ⟨B, b1, b2, b3⟩ := ka
    have kn := s_number (d + 2) lo hi B b2
    simp only
    cases hN : tkN T L p1 t1 lo hi with
    | error y =>
      obtain ⟨k0, s0⟩ := y
      rw [hN] at kn
      obtain ⟨v, C, c1, c2⟩ := kn
      refine ⟨B, v, C, b1, c1, b3, (fun e s q => ?_), (fun w pl p' t' q => by cases q)⟩
      injection q with q; injection q with q1 q2
      subst q1 q2
      exact MB_t b3 c2
    | ok y =>
      obtain ⟨p2, t2⟩ := y
      rw [hN] at kn
      obtain ⟨C, c1, c2, c3, c4⟩ := kn
      refine ⟨B, _, C, b1, c1, b3, (fun e s q => by cases q), (fun w pl p' t' q => ?_)⟩
      injection q with q; injection q with q1 q2; injection q2 with q2 q3; injection q3 with q3 q4
      subst q1 q2 q3 q4
      exact ⟨rfl, c2, frZ_trans b3 c3, c4⟩
theorem partyB (d : Nat) (A : AH) (hb : gi A 190 5 ≠ 0) : runF (d + 3) 168 [vR 21 190 0] A = some (some (vI 2), A) := by
  rw [r_X12_partyHere, q_X12_partyHere_0, s_takesB _ _ _ _ (by decide) hb, cI_v, if_pos rfl, s_takesB _ _ _ _ (by decide) hb, cI_v, if_pos rfl, s_asksB _ _ _ _ (by decide) hb, cV_v]
set_option maxRecDepth 100000 in
theorem s_partyHere (d : Nat) {T : Nat → Int} {L p : Nat} {t : Bool} (A : AH) (m : MdS A T L p t) : (partyW (wrd T L p t) = -1 → ∃ B, runF (d + 5) 168 [vR 21 190 0] A = some (some (vI 2), B) ∧ MB A B 1 (bl T L p)) ∧ (partyW (wrd T L p t) ≠ -1 → ∃ B, runF (d + 5) 168 [vR 21 190 0] A = some (some (vI (partyW (wrd T L p t))), B) ∧ MdS B T L (stp T L p) true ∧ frZ A B) := by
  obtain ⟨k1, k2, k3⟩ := s_lookM d A m
  have t1 := s_takes (d + 1) 198 5 6 A m (by omega) (by decide) (by decide)
  have t2 := s_takes (d + 1) 199 5 7 _ k2.1 (by omega) (by decide) (by decide)
  have t3 := s_asks d 200 6 8 _ k2.1 (by omega) (by decide) (by decide)
  rw [r_X12_partyHere, q_X12_partyHere_0]
  unfold partyW
  by_cases c1 : wrd T L p t = 6
  · obtain ⟨B, b1, b2, b3⟩ := t1.1 c1
    rw [if_pos c1, b1, cI_v, if_neg (by omega)]
    exact ⟨fun h => by omega, fun _ => ⟨B, rfl, b2, b3⟩⟩
  · rw [if_neg c1, t1.2 c1, cI_v, if_pos rfl]
    by_cases c2 : wrd T L p t = 7
    · obtain ⟨B, b1, b2, b3⟩ := t2.1 c2
      rw [if_pos c2, b1, cI_v, if_neg (by omega)]
      exact ⟨fun h => by omega, fun _ => ⟨B, rfl, b2, frZ_trans k3 b3⟩⟩
    · have t2' := t2.2 c2
      rw [wi_2] at t2'
      rw [if_neg c2, t2', cI_v, if_pos rfl]
      by_cases c3 : wrd T L p t = 8
      · rw [show tkW T L p t 8 = .ok (stp T L p, true) by unfold tkW; rw [if_pos c3]] at t3
        obtain ⟨B, b1, b2, b3⟩ := t3
        rw [if_pos c3, b1, cV_v]
        exact ⟨fun h => by omega, fun _ => ⟨B, rfl, b2, frZ_trans k3 b3⟩⟩
      · rw [show tkW T L p t 8 = .error (1, bl T L p) by unfold tkW; rw [if_neg c3]] at t3
        obtain ⟨B, b1, b2⟩ := t3
        rw [if_neg c3, b1, cV_v]
        exact ⟨fun _ => ⟨B, rfl, MB_t k3 b2⟩, fun h => absurd rfl h⟩
