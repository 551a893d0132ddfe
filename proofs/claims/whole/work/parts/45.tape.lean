/-! calls: feed, end -/
theorem band_255 (x : Int) : 0 ≤ band x 255 ∧ band x 255 ≤ 255 := by
  rw [band_eq, c32_nI, show Int32.ofInt 255 = nI 255 from rfl, nx_and]
  have := Nat.and_le_right (n := (x % 4294967296).toNat) (m := 255)
  rw [nI_toInt (by omega)]
  omega
/-- the byte k of the five words -/
noncomputable def fvF (a b c d e : Int) (k : Int) : Int := band (bshr (if k < 4 then a else if k < 8 then b else if k < 12 then c else if k < 16 then d else e) (8 * (3 - k % 4))) 255
set_option maxRecDepth 100000 in
theorem s_putBytes (d : Nat) (w t : Int) (A : AH) (ht : gi A 40 1 = t) (h1 : 0 ≤ t) (h2 : t + 4 ≤ 1600) : ∃ A', runF (d + 1) 143 [vR 20 40 0, vI w] A = some (none, A') ∧ gi A' 40 1 = t + 4 ∧ (∀ i : Nat, i < 4 → gi A' 41 (t.toNat + i) = band (bshr w (24 - 8 * i)) 255) ∧ (∀ j : Nat, ¬ (t.toNat ≤ j ∧ j < t.toNat + 4) → gi A' 41 j = gi A 41 j) ∧ (∀ a j, a ≠ 41 → ¬ (a = 40 ∧ j = 1) → gi A' a j = gi A a j) ∧ (∀ a j, gr A' a j = gr A a j) ∧ A'.2.2 = A.2.2 := by
  have step : ∀ (n : Nat) (sh u : Int) (B : AH), gi B 40 1 = u → 0 ≤ u → u < 1600 → 0 ≤ sh → sh ≤ 24 → go true 3 (runF d) (runN d) pb_X11_putBytes (n + 4) 3 [vR 20 40 0, vI w, vI sh] [] B = go true 3 (runF d) (runN d) pb_X11_putBytes (n + 1) 3 [vR 20 40 0, vI w, vI (sh - 8)] [] (wi (wi B 41 u.toNat (band (bshr w sh) 255)) 40 1 (u + 1)) := by
    intro n sh u B hu u1 u2 s1 s2
    rw [q_X11_putBytes_3, if_neg (by omega), hu, if_pos u2, if_pos ⟨u1, u2⟩, q_X11_putBytes_33]
    have e : gi (wi B 41 u.toNat (band (bshr w sh) 255)) 40 1 = u := by rw [gi_wi, if_neg (by omega)]; exact hu
    rw [e, wid (by omega) (by omega), q_X11_putBytes_43, wid (by omega) (by omega), Nat.add_zero]; rfl
  obtain ⟨B1, h1B⟩ : ∃ B1, B1 = wi (wi A 41 t.toNat (band (bshr w 24) 255)) 40 1 (t + 1) := ⟨_, rfl⟩
  obtain ⟨B2, h2B⟩ : ∃ B2, B2 = wi (wi B1 41 (t + 1).toNat (band (bshr w 16) 255)) 40 1 (t + 1 + 1) := ⟨_, rfl⟩
  obtain ⟨B3, h3B⟩ : ∃ B3, B3 = wi (wi B2 41 (t + 1 + 1).toNat (band (bshr w 8) 255)) 40 1 (t + 1 + 1 + 1) := ⟨_, rfl⟩
  obtain ⟨B4, h4B⟩ : ∃ B4, B4 = wi (wi B3 41 (t + 1 + 1 + 1).toNat (band (bshr w 0) 255)) 40 1 (t + 1 + 1 + 1 + 1) := ⟨_, rfl⟩
  have q1 : gi B1 40 1 = t + 1 := by rw [h1B]; simp -implicitDefEqProofs (disch := omega) only [gi_wi, ↓reduceIte, Int.reduceEq, cI_v, cL_v, cV_v, cR_v, wid, wid64, if_pos, if_neg, Nat.add_zero, if_true, if_false, and_self, and_true, true_and, and_false, false_and, or_true, true_or, or_false, false_or]
  have q2 : gi B2 40 1 = t + 1 + 1 := by rw [h2B]; simp -implicitDefEqProofs (disch := omega) only [gi_wi, ↓reduceIte, Int.reduceEq, cI_v, cL_v, cV_v, cR_v, wid, wid64, if_pos, if_neg, Nat.add_zero, if_true, if_false, and_self, and_true, true_and, and_false, false_and, or_true, true_or, or_false, false_or]
  have q3 : gi B3 40 1 = t + 1 + 1 + 1 := by rw [h3B]; simp -implicitDefEqProofs (disch := omega) only [gi_wi, ↓reduceIte, Int.reduceEq, cI_v, cL_v, cV_v, cR_v, wid, wid64, if_pos, if_neg, Nat.add_zero, if_true, if_false, and_self, and_true, true_and, and_false, false_and, or_true, true_or, or_false, false_or]
  refine ⟨B4, ?_, ?_, fun i hi => ?_, fun j hj => ?_, fun a j g1 g2 => ?_, fun a j => ?_, ?_⟩
  · rw [r_X11_putBytes, q_X11_putBytes_0, Nat.add_zero]
    rw [step _ 24 t A ht (by omega) (by omega) (by omega) (by omega), ← h1B, show (24 : Int) - 8 = 16 from rfl, step _ 16 (t + 1) B1 q1 (by omega) (by omega) (by omega) (by omega), ← h2B, show (16 : Int) - 8 = 8 from rfl, step _ 8 (t + 1 + 1) B2 q2 (by omega) (by omega) (by omega) (by omega), ← h3B, show (8 : Int) - 8 = 0 from rfl, step _ 0 (t + 1 + 1 + 1) B3 q3 (by omega) (by omega) (by omega) (by omega), ← h4B, q_X11_putBytes_3, if_pos (by omega)]
  · rw [h4B]; simp -implicitDefEqProofs (disch := omega) only [gi_wi, ↓reduceIte, Int.reduceEq, cI_v, cL_v, cV_v, cR_v, wid, wid64, if_pos, if_neg, Nat.add_zero, if_true, if_false, and_self, and_true, true_and, and_false, false_and, or_true, true_or, or_false, false_or]; omega
  · have : i = 0 ∨ i = 1 ∨ i = 2 ∨ i = 3 := by omega
    rw [h4B, h3B, h2B, h1B]
    rcases this with rfl | rfl | rfl | rfl
    · simp -implicitDefEqProofs (disch := omega) only [gi_wi, ↓reduceIte, Int.reduceEq, cI_v, cL_v, cV_v, cR_v, wid, wid64, if_pos, if_neg, Nat.add_zero, if_true, if_false, and_self, and_true, true_and, and_false, false_and, or_true, true_or, or_false, false_or]; rfl
    · simp -implicitDefEqProofs (disch := omega) only [gi_wi, ↓reduceIte, Int.reduceEq, cI_v, cL_v, cV_v, cR_v, wid, wid64, if_pos, if_neg, Nat.add_zero, if_true, if_false, and_self, and_true, true_and, and_false, false_and, or_true, true_or, or_false, false_or]; rfl
    · simp -implicitDefEqProofs (disch := omega) only [gi_wi, ↓reduceIte, Int.reduceEq, cI_v, cL_v, cV_v, cR_v, wid, wid64, if_pos, if_neg, Nat.add_zero, if_true, if_false, and_self, and_true, true_and, and_false, false_and, or_true, true_or, or_false, false_or]; rfl
    · simp -implicitDefEqProofs (disch := omega) only [gi_wi, ↓reduceIte, Int.reduceEq, cI_v, cL_v, cV_v, cR_v, wid, wid64, if_pos, if_neg, Nat.add_zero, if_true, if_false, and_self, and_true, true_and, and_false, false_and, or_true, true_or, or_false, false_or]; rfl
  · rw [h4B, h3B, h2B, h1B]
    simp -implicitDefEqProofs (disch := omega) only [gi_wi, ↓reduceIte, Int.reduceEq, cI_v, cL_v, cV_v, cR_v, wid, wid64, if_pos, if_neg, Nat.add_zero, if_true, if_false, and_self, and_true, true_and, and_false, false_and, or_true, true_or, or_false, false_or]
  · rw [h4B, h3B, h2B, h1B]
    simp -implicitDefEqProofs (disch := omega) only [gi_wi, ↓reduceIte, Int.reduceEq, cI_v, cL_v, cV_v, cR_v, wid, wid64, if_pos, if_neg, Nat.add_zero, if_true, if_false, and_self, and_true, true_and, and_false, false_and, or_true, true_or, or_false, false_or]
  · rw [h4B, h3B, h2B, h1B]; rfl
  · rw [h4B, h3B, h2B, h1B]; rfl
set_option maxRecDepth 100000 in
theorem l_feedM (d0 : Nat) (a b c d e t : Int) (A : AH) (h1 : 0 ≤ t) (h2 : t + 20 ≤ 1600) : ∀ (j n : Nat) (k : Int) (u7 : AV) (B : AH), 0 ≤ k → k + j = 20 → gi B 190 1 = t + k → (∀ i : Nat, (i : Int) < k → gi B 191 (t.toNat + i) = fvF a b c d e i) → (∀ i : Nat, ¬ (t.toNat ≤ i ∧ i < t.toNat + 20) → gi B 191 i = gi A 191 i) → (∀ x i, x ≠ 191 → ¬ (x = 190 ∧ i = 1) → gi B x i = gi A x i) → (∀ x i, gr B x i = gr A x i) → B.2.2 = A.2.2 → 10 * j + 10 ≤ n → ∃ A', go true 0 (runF d0) (runN d0) pb_X12_feed n 28 [vR 21 190 0, vI a, vI b, vI c, vI d, vI e, vI k, u7] [] B = some (some (vI (t + 20)), A') ∧ gi A' 190 1 = t + 20 ∧ (∀ i : Nat, i < 20 → gi A' 191 (t.toNat + i) = fvF a b c d e i) ∧ (∀ i : Nat, ¬ (t.toNat ≤ i ∧ i < t.toNat + 20) → gi A' 191 i = gi A 191 i) ∧ (∀ x i, x ≠ 191 → ¬ (x = 190 ∧ i = 1) → gi A' x i = gi A x i) ∧ (∀ x i, gr A' x i = gr A x i) ∧ A'.2.2 = A.2.2 := by
  intro j
  induction j with
  | zero =>
    intro n k u7 B k1 k2 g1 g2 g3 g4 g5 g6 hn
    obtain ⟨n, rfl⟩ : ∃ e, n = e + 10 := ⟨n - 10, by omega⟩
    refine ⟨B, ?_, by rw [g1]; omega, fun i hi => g2 i (by omega), g3, g4, g5, g6⟩
    rw [q_X12_feed_28, if_neg (by omega), g1, show t + k = t + 20 by omega]
  | succ j ih =>
    intro n k u7 B k1 k2 g1 g2 g3 g4 g5 g6 hn
    obtain ⟨n, rfl⟩ : ∃ e, n = e + 10 := ⟨n - 10, by omega⟩
    have tm : k.tmod 4 = k % 4 := Int.tmod_eq_emod_of_nonneg k1
    obtain ⟨W, hW⟩ : ∃ W, W = (if k < 4 then a else if k < 8 then b else if k < 12 then c else if k < 16 then d else e) := ⟨_, rfl⟩
    have ev : band (bshr W (8 * (3 - k % 4))) 255 = fvF a b c d e k := by unfold fvF; rw [← hW]
    obtain ⟨B1, hB1⟩ : ∃ B1, B1 = wi (wi B 191 (t + k).toNat (fvF a b c d e k)) 190 1 (t + (k + 1)) := ⟨_, rfl⟩
    have core : ∀ m, go true 0 (runF d0) (runN d0) pb_X12_feed (m + 3) 81 [vR 21 190 0, vI a, vI b, vI c, vI d, vI e, vI k, u7] [vI W] B = go true 0 (runF d0) (runN d0) pb_X12_feed m 28 [vR 21 190 0, vI a, vI b, vI c, vI d, vI e, vI (k + 1), vI W] [] B1 := by
      intro m
      rw [q_X12_feed_81, g1, if_pos (by omega), tm, wid (x := 3 - k % 4) (by omega) (by omega), wid (x := 8 * (3 - k % 4)) (by omega) (by omega), ev, q_X12_feed_108]
      have e1 : gi (wi B 191 (t + k).toNat (fvF a b c d e k)) 190 1 = t + k := by rw [gi_wi, if_neg (by omega)]; exact g1
      rw [e1, wid (x := t + k + 1) (by omega) (by omega), show t + k + 1 = t + (k + 1) by omega, ← hB1, q_X12_feed_118, wid (by omega) (by omega), Nat.add_zero]
    have key : ∃ m, n + 1 ≤ m ∧ go true 0 (runF d0) (runN d0) pb_X12_feed (n + 10) 28 [vR 21 190 0, vI a, vI b, vI c, vI d, vI e, vI k, u7] [] B = go true 0 (runF d0) (runN d0) pb_X12_feed m 28 [vR 21 190 0, vI a, vI b, vI c, vI d, vI e, vI (k + 1), vI W] [] B1 := by
      rw [q_X12_feed_28, if_pos (by omega)]
      by_cases c1 : k < 4
      · have e : W = a := by rw [hW, if_pos c1]
        refine ⟨n + 6, by omega, ?_⟩
        rw [if_pos c1, ← core, e]
      · rw [if_neg c1]
        by_cases c2 : k < 8
        · have e : W = b := by rw [hW, if_neg c1, if_pos c2]
          refine ⟨n + 5, by omega, ?_⟩
          rw [if_pos c2, ← core, e]
        · rw [if_neg c2]
          by_cases c3 : k < 12
          · have e : W = c := by rw [hW, if_neg c1, if_neg c2, if_pos c3]
            refine ⟨n + 4, by omega, ?_⟩
            rw [if_pos c3, ← core, e]
          · rw [if_neg c3]
            by_cases c4 : k < 16
            · have e : W = d := by rw [hW, if_neg c1, if_neg c2, if_neg c3, if_pos c4]
              refine ⟨n + 3, by omega, ?_⟩
              rw [if_pos c4, ← core, e]
            · have e' : W = e := by rw [hW, if_neg c1, if_neg c2, if_neg c3, if_neg c4]
              refine ⟨n + 2, by omega, ?_⟩
              rw [if_neg c4, ← core, e']
    obtain ⟨m, hm, kk⟩ := key
    obtain ⟨A', u⟩ := ih m (k + 1) (vI W) B1 (by omega) (by omega) (by rw [hB1]; simp -implicitDefEqProofs (disch := omega) only [gi_wi, ↓reduceIte, Int.reduceEq, cI_v, cL_v, cV_v, cR_v, wid, wid64, if_pos, if_neg, Nat.add_zero, if_true, if_false, and_self, and_true, true_and, and_false, false_and, or_true, true_or, or_false, false_or]) (fun i hi => by
      rw [hB1, gi_wi, if_neg (by omega), gi_wi]
      by_cases ci : (i : Int) = k
      · rw [if_pos (by omega), ci]
      · rw [if_neg (by omega)]; exact g2 i (by omega)) (fun i hi => by
      rw [hB1, gi_wi, if_neg (by omega), gi_wi, if_neg (by omega)]; exact g3 i hi) (fun x i y1 y2 => by
      rw [hB1, gi_wi, if_neg y2, gi_wi, if_neg (by omega)]; exact g4 x i y1 y2) (fun x i => by rw [hB1]; exact g5 x i) (by rw [hB1]; exact g6) (by omega)
    exact ⟨A', by rw [kk]; exact u.1, u.2⟩
theorem c_feed (d n : Nat) (hn : n ≤ 2000) (x1 x2 x3 x4 x5 : Int) (A : AH) (r : REL n A) : CP (d + 3) n 109 150 [vI x1, vI x2, vI x3, vI x4, vI x5] A := by
  have tp := r.2.2.2.2.1
  obtain ⟨t1, t2, t3⟩ := tp
  by_cases c : 1600 < gi A 40 1 + 20
  · have q := r.2.2.2.2.2.2.1 0 (by omega)
    have q3 := q.2.2
    refine ⟨vI (-1), wi A 189 0 (gi A 189 0 + 1), wi (wi A 189 0 (gi A 189 0 + 1)) 192 0 (gi A 189 0 + 1), ?_, ?_, REL_ref r 0 (by omega)⟩
    · rw [r_X11_feed, q_X11_feed_0, wid (by omega) (by omega), if_pos c, s_refuse _ 0 A (by omega) (by omega) q.2.1 (show gi A 189 0 ≤ 100000 by omega), cI_v]; rfl
    · have e : gi (wi A 189 0 (gi A 189 0 + 1)) 192 0 = gi A 189 0 := by rw [gi_wi, if_neg (by omega)]; exact q.1
      have e1 : gi (wi A 189 0 (gi A 189 0 + 1)) 190 1 = gi A 40 1 := by rw [gi_wi, if_neg (by omega)]; exact t1
      rw [r_X12_feed, q_X12_feed_0, e1, wid (x := gi A 40 1 + 20) (by omega) (by omega), if_pos c, e, wid (by omega) (by omega), q_X12_feed_23]
  · obtain ⟨t, ht⟩ : ∃ t, t = gi A 40 1 := ⟨_, rfl⟩
    obtain ⟨B1, p1, p2, p3, p4, p5, p6, p7⟩ := s_putBytes (d + 1) x1 t A ht.symm (by omega) (by omega)
    obtain ⟨B2, q1, q2, q3, q4, q5, q6, q7⟩ := s_putBytes (d + 1) x2 (t + 4) B1 p2 (by omega) (by omega)
    obtain ⟨B3, v1, v2, v3, v4, v5, v6, v7⟩ := s_putBytes (d + 1) x3 (t + 4 + 4) B2 q2 (by omega) (by omega)
    obtain ⟨B4, w1, w2, w3, w4, w5, w6, w7⟩ := s_putBytes (d + 1) x4 (t + 4 + 4 + 4) B3 v2 (by omega) (by omega)
    obtain ⟨B5, y1, y2, y3, y4, y5, y6, y7⟩ := s_putBytes (d + 1) x5 (t + 4 + 4 + 4 + 4) B4 w2 (by omega) (by omega)
    have fr : ∀ a j, a ≠ 41 → ¬ (a = 40 ∧ j = 1) → gi B5 a j = gi A a j := fun a j h1 h2 => by rw [y5 a j h1 h2, w5 a j h1 h2, v5 a j h1 h2, q5 a j h1 h2, p5 a j h1 h2]
    have byt : ∀ i : Nat, i < 20 → gi B5 41 (t.toNat + i) = fvF x1 x2 x3 x4 x5 i := by
      intro i hi
      unfold fvF
      by_cases c1 : i < 4
      · rw [if_pos (by omega), y4 _ (by omega), w4 _ (by omega), v4 _ (by omega), q4 _ (by omega), p3 i c1, show (24 - 8 * (i : Int)) = 8 * (3 - (i : Int) % 4) by omega]
      · rw [if_neg (by omega)]
        by_cases c2 : i < 8
        · rw [if_pos (by omega), y4 _ (by omega), w4 _ (by omega), v4 _ (by omega), show t.toNat + i = (t + 4).toNat + (i - 4) by omega, q3 (i - 4) (by omega), show (24 - 8 * ((i - 4 : Nat) : Int)) = 8 * (3 - (i : Int) % 4) by omega]
        · rw [if_neg (by omega)]
          by_cases c3 : i < 12
          · rw [if_pos (by omega), y4 _ (by omega), w4 _ (by omega), show t.toNat + i = (t + 4 + 4).toNat + (i - 8) by omega, v3 (i - 8) (by omega), show (24 - 8 * ((i - 8 : Nat) : Int)) = 8 * (3 - (i : Int) % 4) by omega]
          · rw [if_neg (by omega)]
            by_cases c4 : i < 16
            · rw [if_pos (by omega), y4 _ (by omega), show t.toNat + i = (t + 4 + 4 + 4).toNat + (i - 12) by omega, w3 (i - 12) (by omega), show (24 - 8 * ((i - 12 : Nat) : Int)) = 8 * (3 - (i : Int) % 4) by omega]
            · rw [if_neg (by omega), show t.toNat + i = (t + 4 + 4 + 4 + 4).toNat + (i - 16) by omega, y3 (i - 16) (by omega), show (24 - 8 * ((i - 16 : Nat) : Int)) = 8 * (3 - (i : Int) % 4) by omega]
    have oth : ∀ j : Nat, ¬ (t.toNat ≤ j ∧ j < t.toNat + 20) → gi B5 41 j = gi A 41 j := fun j hj => by rw [y4 _ (by omega), w4 _ (by omega), v4 _ (by omega), q4 _ (by omega), p4 _ (by omega)]
    have m1 : gi B5 190 1 = t := by rw [fr 190 1 (by omega) (by omega), t1, ht]
    obtain ⟨A2, z1, z2, z3, z4, z5, z6, z7⟩ := l_feedM (d + 2) x1 x2 x3 x4 x5 t B5 (by omega) (by omega) 20 (fu + 198) 0 vU B5 (by omega) (by omega) (by rw [m1]; omega) (fun i hi => by omega) (fun _ _ => rfl) (fun _ _ _ _ => rfl) (fun _ _ => rfl) rfl (by have := fu_ge; omega)
    refine ⟨vI (t + 20), B5, A2, ?_, ?_, ?_⟩
    · rw [r_X11_feed, q_X11_feed_0, wid (by omega) (by omega), if_neg c, p1, cV_v, q1, cV_v, v1, cV_v, w1, cV_v, y1, cV_v, y2, show t + 4 + 4 + 4 + 4 + 4 = t + 20 by omega]
    · rw [r_X12_feed, q_X12_feed_0, m1, wid (by omega) (by omega), if_neg (by omega)]
      exact z1
    · have G : ∀ a j, a ≠ 41 → ¬ (a = 40 ∧ j = 1) → a ≠ 191 → ¬ (a = 190 ∧ j = 1) → gi A2 a j = gi A a j := fun a j h1 h2 h3 h4 => by rw [z5 a j h3 h4, fr a j h1 h2]
      have R : ∀ a j, gr A2 a j = gr A a j := fun a j => by rw [z6, y6, w6, v6, q6, p6]
      have en : nv A2 = nv A := by funext j; exact G 237 j (by omega) (by omega) (by omega) (by omega)
      refine REL_mk r (fun a j h => G a j (by omega) (by omega) (by omega) (by omega)) (fun a j _ => R a j) (by rw [z7, y7, w7, v7, q7, p7]) ?_ ?_ ?_ (RF_fr (fun a j h => G a j (by omega) (by omega) (by omega) (by omega)) r.2.2.2.2.2.2.1) ?_ (IM_fr (fun a j h => G a j (by omega) (by omega) (by omega) (by omega)) r.2.2.2.2.2.2.2.2.1) (PR_fr (fun a j h => G a j (by omega) (by omega) (by omega) (by omega)) (fun j => R 79 j) (hv_fr (fun a j h1 h2 => G a j (by omega) (by omega) (by omega) (by omega))) r.2.2.2.2.2.2.2.2.2.1)
      · rw [en]
        exact SK_fr (by omega) (fun a j h1 h2 => G a j (by omega) (by omega) (by omega) (by omega)) r.2.1
      · have e1 : gi A2 40 1 = t + 20 := by rw [z5 40 1 (by omega) (by omega), y2]; omega
        unfold TP
        rw [z2, e1]
        refine ⟨rfl, by omega, fun j hj => ?_⟩
        rw [z5 41 j (by omega) (by omega)]
        by_cases cj : t.toNat ≤ j ∧ j < t.toNat + 20
        · have b1 := byt (j - t.toNat) (by omega)
          have b2 := z3 (j - t.toNat) (by omega)
          rw [show t.toNat + (j - t.toNat) = j by omega] at b1 b2
          rw [b1, b2]
          exact ⟨rfl, band_255 _⟩
        · rw [z4 j cj, oth j cj, fr 191 j (by omega) (by omega)]
          exact t3 j hj
      · rw [G 190 7 (by omega) (by omega) (by omega) (by omega), G 190 8 (by omega) (by omega) (by omega) (by omega), G 42 11 (by omega) (by omega) (by omega) (by omega), G 42 12 (by omega) (by omega) (by omega) (by omega)]
        exact r.2.2.2.2.2.1
      · rw [G 190 75 (by omega) (by omega) (by omega) (by omega), G 40 14 (by omega) (by omega) (by omega) (by omega)]
        exact r.2.2.2.2.2.2.2.1
/-- the tape's end is set by both -/
theorem REL_tp {n : Nat} {A : AH} (r : REL n A) {t : Int} (h1 : 0 ≤ t) (h2 : t ≤ 1600) : REL (n + 1) (wi (wi A 40 1 t) 190 1 t) := by
  have G : ∀ a j, ¬ (a = 40 ∧ j = 1) → ¬ (a = 190 ∧ j = 1) → gi (wi (wi A 40 1 t) 190 1 t) a j = gi A a j := fun a j q1 q2 => by rw [gi_wi, if_neg q2, gi_wi, if_neg q1]
  have en : nv (wi (wi A 40 1 t) 190 1 t) = nv A := by funext j; exact G 237 j (by omega) (by omega)
  have t3 := r.2.2.2.2.1.2.2
  refine REL_mk r (fun a j h => G a j (by omega) (by omega)) (fun _ _ _ => rfl) rfl ?_ ?_ ?_ (RF_fr (fun a j h => G a j (by omega) (by omega)) r.2.2.2.2.2.2.1) ?_ (IM_fr (fun a j h => G a j (by omega) (by omega)) r.2.2.2.2.2.2.2.2.1) (PR_fr (fun a j h => G a j (by omega) (by omega)) (fun _ => rfl) (hv_fr (fun a j h1 h2 => G a j (by omega) (by omega))) r.2.2.2.2.2.2.2.2.2.1)
  · rw [en]
    exact SK_fr (by omega) (fun a j h1 h2 => G a j (by omega) (by omega)) r.2.1
  · unfold TP
    refine ⟨by simp -implicitDefEqProofs (disch := omega) only [gi_wi, ↓reduceIte, Int.reduceEq, cI_v, cL_v, cV_v, cR_v, wid, wid64, if_pos, if_neg, Nat.add_zero, if_true, if_false, and_self, and_true, true_and, and_false, false_and, or_true, true_or, or_false, false_or], by simp -implicitDefEqProofs (disch := omega) only [gi_wi, ↓reduceIte, Int.reduceEq, cI_v, cL_v, cV_v, cR_v, wid, wid64, if_pos, if_neg, Nat.add_zero, if_true, if_false, and_self, and_true, true_and, and_false, false_and, or_true, true_or, or_false, false_or]; omega, fun j hj => ?_⟩
    rw [G 191 j (by omega) (by omega), G 41 j (by omega) (by omega)]
    exact t3 j hj
  · rw [G 190 7 (by omega) (by omega), G 190 8 (by omega) (by omega), G 42 11 (by omega) (by omega), G 42 12 (by omega) (by omega)]
    exact r.2.2.2.2.2.1
  · rw [G 190 75 (by omega) (by omega), G 40 14 (by omega) (by omega)]
    exact r.2.2.2.2.2.2.2.1
theorem c_end (d n : Nat) (hn : n ≤ 2000) (x : Int) (A : AH) (r : REL n A) : CP (d + 2) n 110 151 [vI x] A := by
  obtain ⟨t1, t2, t3⟩ := r.2.2.2.2.1
  by_cases c : 0 ≤ x ∧ x ≤ gi A 40 1
  · refine ⟨vI 1, wi A 40 1 x, wi (wi A 40 1 x) 190 1 x, ?_, ?_, REL_tp r c.1 (by omega)⟩
    · rw [r_X11_end, q_X11_end_0, if_neg (by omega), if_neg (by omega)]
    · have e : gi (wi A 40 1 x) 190 1 = gi A 40 1 := by rw [gi_wi, if_neg (by omega)]; exact t1
      rw [r_X12_end, q_X12_end_0, if_neg (by omega), e, if_neg (by omega)]
  · have q := r.2.2.2.2.2.2.1 0 (by omega)
    have q3 := q.2.2
    refine CP_ref r 0 (by omega) ?_ ?_
    · have fin : ∀ m, go true 2 (runF (d + 1)) (runN (d + 1)) pb_X11_end (m + 1) 12 [vR 20 40 0, vI x] [] A = some (some (vI 0), wi A 189 0 (gi A 189 0 + 1)) := fun m => by
        rw [q_X11_end_12, s_refuse _ 0 A (by omega) (by omega) q.2.1 (show gi A 189 0 ≤ 100000 by omega), cI_v]; rfl
      rw [r_X11_end, q_X11_end_0]
      by_cases c1 : x < 0
      · rw [if_pos c1]; exact fin _
      · rw [if_neg c1, if_pos (by omega)]; exact fin _
    · have e : gi (wi A 189 0 (gi A 189 0 + 1)) 192 0 = gi A 189 0 := by rw [gi_wi, if_neg (by omega)]; exact q.1
      have e1 : gi (wi A 189 0 (gi A 189 0 + 1)) 190 1 = gi A 40 1 := by rw [gi_wi, if_neg (by omega)]; exact t1
      have fin : ∀ m, go true 2 (runF (d + 1)) (runN (d + 1)) pb_X12_end (m + 2) 12 [vR 21 190 0, vI x] [] (wi A 189 0 (gi A 189 0 + 1)) = some (some (vI 0), wi (wi A 189 0 (gi A 189 0 + 1)) 192 0 (gi A 189 0 + 1)) := fun m => by
        rw [q_X12_end_12, e, wid (by omega) (by omega), q_X12_end_22]
      rw [r_X12_end, q_X12_end_0, e1]
      by_cases c1 : x < 0
      · rw [if_pos c1]; exact fin _
      · rw [if_neg c1, if_pos (by omega)]; exact fin _
