/-! the call on: the whole -/
def scT (T : Nat → Int) : Int := T 2 * 65536 + T 3 * 256 + T 4 - 100000
def TOLD (H : Nat → Nat → Int) (T : Nat → Int) (L : Int) : Prop := L = 7 + nPe H + 2 * nMu H ∧ ckF T (L - 1).toNat 0 229 = T (L - 1).toNat ∧ 256 * T 0 + T 1 ≤ 999 ∧ (-99999 ≤ scT T ∧ scT T ≤ 99999) ∧ T 5 ≤ nPo H ∧ okP (nPe H) (nSe H) (stTP T (nPe H)) (ptT H T) (nPe H + nMu H)
theorem okP_0 (P S : Int) (st pt : Int → Int) (hP : 0 ≤ P) : okP P S st pt 0 := ⟨fun k h1 h2 => by omega, fun k i h1 h2 h3 => by omega, fun k h1 h2 => by omega⟩
set_option maxRecDepth 100000 in
theorem s_reads (d h : Nat) {H : Nat → Nat → Int} (hc : cok H) (T : Nat → Int) (L : Int) (A : AH) (b6 : HR A h H) (hT : ∀ j : Nat, j < 1600 → gi A 41 j = T j ∧ 0 ≤ T j ∧ T j ≤ 255) (hL : 0 ≤ L ∧ L ≤ 1600) : ∃ v A', runF (d + 4) 71 [vR 30 41 1600, vI L, vR 13 h 0, vR 19 73 0] A = some (some (vI v), A') ∧ frW 73 A A' ∧ ((v = 1 ∧ TOLD H T L ∧ IV A' 73 (nPe H) (stTP T (nPe H)) (ptT H T) (nPe H + nMu H) ∧ gi A' 73 0 = 256 * T 0 + T 1 ∧ gi A' 73 1 = scT T ∧ gi A' 73 2 = T 5 - 1 ∧ gi A' 73 7 = 0) ∨ (v = 0 ∧ ¬ TOLD H T L)) := by
  have hc' := hc
  unfold cok at hc'
  have hh0 : h ≠ 0 := by have := b6.1; omega
  have hh := b6.1
  have e2 := b6.2.1.2.1
  have e3 := b6.2.1.2.2.1
  have e5 := b6.2.1.2.2.2.2.1
  rw [r_X5_reads, q_X5_reads_0 (ha0 := n41) (ha2 := hh0) (ha3 := n73), r_X5_lengthOf, q_X5_lengthOf_0 (ha0 := hh0), cI_v, e2, e5, wid (x := 6 + nPe H) (by omega) (by omega), wid (x := 2 * nMu H) (by omega) (by omega), wid (x := 6 + nPe H + 2 * nMu H) (by omega) (by omega), wid (x := 6 + nPe H + 2 * nMu H + 1) (by omega) (by omega)]
  by_cases l : L = 6 + nPe H + 2 * nMu H + 1
  · have chk : go true 0 (runF (d + 2)) (runN (d + 2)) pb_X5_checkOf (fu + 199) 6 [vR 30 41 1600, vI (L - 1), vI 229, vI 0] [] A = some (some (vI (ckF T (L - 1).toNat 0 229)), A) := l_checkC _ 41 1600 (L - 1) A n41 (by omega) (by omega) T (fun j hj => hT j (by omega)) (L - 1).toNat _ 0 229 (by omega) (by omega) (by omega) (by have := fu_ge; omega)
    rw [if_pos l, wid (x := L - 1) (by omega) (by omega), r_X5_checkOf, q_X5_checkOf_0 (ha0 := n41), Nat.add_zero (fu + 199), chk, cI_v, if_pos (by omega), (hT (L - 1).toNat (by omega)).1]
    by_cases ck : ckF T (L - 1).toNat 0 229 = T (L - 1).toNat
    · obtain ⟨A1, a1, a2, a3, a4, a5, a6, a7⟩ := s_clear (d + 1) 73 n73 (nPe H) (stTP T (nPe H)) (ptT H T) A
      have t0 := hT 0 (by omega)
      have t1 := hT 1 (by omega)
      have t2 := hT 2 (by omega)
      have t3 := hT 3 (by omega)
      have t4 := hT 4 (by omega)
      have t5 := hT 5 (by omega)
      have g0 : ∀ j, gi A1 41 j = gi A 41 j := fun j => a7.1 41 j (by omega)
      obtain ⟨A2, hA2⟩ : ∃ A2, A2 = wi (wi (wi A1 73 0 (256 * T 0 + T 1)) 73 1 (scT T)) 73 2 (T 5 - 1) := ⟨_, rfl⟩
      have f2 : frW 73 A A2 := by rw [hA2]; exact frW_wi _ (by omega) (frW_wi _ (by omega) (frW_wi _ (by omega) a7))
      have i2 : IV A2 73 (nPe H) (stTP T (nPe H)) (ptT H T) 0 := IV_fr (fun a j q1 q2 => by rw [hA2, gi_wi, if_neg (by omega), gi_wi, if_neg (by omega), gi_wi, if_neg (by omega)]) a2
      have m0 : gi A2 73 0 = 256 * T 0 + T 1 := by rw [hA2]; simp -implicitDefEqProofs (disch := omega) only [gi_wi, ↓reduceIte, Int.reduceEq, cI_v, cL_v, cV_v, cR_v, wid, wid64, if_pos, if_neg, Nat.add_zero, if_true, if_false, and_self, and_true, true_and, and_false, false_and, or_true, true_or, or_false, false_or]
      have m1 : gi A2 73 1 = scT T := by rw [hA2]; simp -implicitDefEqProofs (disch := omega) only [gi_wi, ↓reduceIte, Int.reduceEq, cI_v, cL_v, cV_v, cR_v, wid, wid64, if_pos, if_neg, Nat.add_zero, if_true, if_false, and_self, and_true, true_and, and_false, false_and, or_true, true_or, or_false, false_or]
      have m2 : gi A2 73 2 = T 5 - 1 := by rw [hA2]; simp -implicitDefEqProofs (disch := omega) only [gi_wi, ↓reduceIte, Int.reduceEq, cI_v, cL_v, cV_v, cR_v, wid, wid64, if_pos, if_neg, Nat.add_zero, if_true, if_false, and_self, and_true, true_and, and_false, false_and, or_true, true_or, or_false, false_or]
      have m7 : gi A2 73 7 = 0 := by rw [hA2]; simp -implicitDefEqProofs (disch := omega) only [gi_wi, a3, ↓reduceIte, Int.reduceEq, cI_v, cL_v, cV_v, cR_v, wid, wid64, if_pos, if_neg, Nat.add_zero, if_true, if_false, and_self, and_true, true_and, and_false, false_and, or_true, true_or, or_false, false_or]
      have w1 : w32 (w32 (gi A1 41 0 * 256) + gi A1 41 1) = 256 * T 0 + T 1 := by rw [g0, g0, t0.1, t1.1, wid (x := T 0 * 256) (by omega) (by omega), wid (by omega) (by omega)]; omega
      have g3 : ∀ (x : Int) j, gi (wi A1 73 0 x) 41 j = T j ∨ 1600 ≤ j := fun x j => by
        by_cases q : j < 1600
        · left; rw [gi_wi, if_neg (by omega), g0]; exact (hT j q).1
        · right; omega
      rw [if_pos ck, a1, cV_v, if_pos (by omega), if_pos (by omega), w1, q_X5_reads_44 (ha0 := n41) (ha2 := hh0) (ha3 := n73), if_pos (by omega), if_pos (by omega), if_pos (by omega)]
      have w2 : w32 (w32 (w32 (w32 (gi (wi A1 73 0 (256 * T 0 + T 1)) 41 2 * 65536) + w32 (gi (wi A1 73 0 (256 * T 0 + T 1)) 41 3 * 256)) + gi (wi A1 73 0 (256 * T 0 + T 1)) 41 4) - 100000) = scT T := by
        have k : ∀ j, gi (wi A1 73 0 (256 * T 0 + T 1)) 41 j = gi A 41 j := fun j => by rw [gi_wi, if_neg (by omega), g0]
        rw [k, k, k, t2.1, t3.1, t4.1, wid (x := T 2 * 65536) (by omega) (by omega), wid (x := T 3 * 256) (by omega) (by omega), wid (x := T 2 * 65536 + T 3 * 256) (by omega) (by omega), wid (x := T 2 * 65536 + T 3 * 256 + T 4) (by omega) (by omega), wid (by omega) (by omega)]; rfl
      have w3 : w32 (gi (wi (wi A1 73 0 (256 * T 0 + T 1)) 73 1 (scT T)) 41 5 - 1) = T 5 - 1 := by
        rw [gi_wi, if_neg (by omega), gi_wi, if_neg (by omega), g0, t5.1, wid (by omega) (by omega)]
      rw [w2, q_X5_reads_69 (ha0 := n41) (ha2 := hh0) (ha3 := n73), if_pos (by omega), w3, ← hA2, q_X5_reads_78 (ha0 := n41) (ha2 := hh0) (ha3 := n73), m0]
      have sb : -100000 ≤ scT T ∧ scT T ≤ 20000000 := by unfold scT; omega
      have f0 : ¬ TOLD H T L → ∃ v A', some (some (vI 0), A2) = some (some (vI v), A') ∧ frW 73 A A' ∧ ((v = 1 ∧ TOLD H T L ∧ IV A' 73 (nPe H) (stTP T (nPe H)) (ptT H T) (nPe H + nMu H) ∧ gi A' 73 0 = 256 * T 0 + T 1 ∧ gi A' 73 1 = scT T ∧ gi A' 73 2 = T 5 - 1 ∧ gi A' 73 7 = 0) ∨ (v = 0 ∧ ¬ TOLD H T L)) := fun no => ⟨0, A2, rfl, f2, Or.inr ⟨rfl, no⟩⟩
      by_cases c1 : 999 < 256 * T 0 + T 1
      · rw [if_pos c1]; exact f0 (fun q => by have := q.2.2.1; omega)
      · rw [if_neg c1, m1, s_abs _ _ A2 (by omega) (by omega), cI_v]
        by_cases c2 : 99999 < (if scT T < 0 then -scT T else scT T)
        · rw [if_pos c2]
          refine f0 (fun q => ?_)
          have := q.2.2.2.1
          split at c2 <;> omega
        · have c2' : -99999 ≤ scT T ∧ scT T ≤ 99999 := by split at c2 <;> omega
          rw [if_neg c2, m2, f2.1 h 3 (by omega), e3]
          by_cases c3 : T 5 - 1 < nPo H
          · have b2 : HR A2 h H := HR_sc (frW_sc f2) b6
            obtain ⟨v, B, u1, u2, u3⟩ := l_rdP d h hc T L A2 b2 (fun j hj => by rw [f2.1 41 j (by omega)]; exact hT j hj) (nPe H).toNat (fu + 194) 0 A2 (frT4_refl A2) (by omega) (by omega) i2 (okP_0 _ _ _ _ (by omega)) (by have := fu_ge; omega)
            rw [if_pos c3, Nat.add_zero (fu + 194)]
            refine ⟨v, B, u1, frW_trans f2 (frT4_W u2), ?_⟩
            rcases u3 with ⟨v1, ok, iv⟩ | ⟨v0, no⟩
            · left
              refine ⟨v1, ⟨by omega, ck, by omega, c2', by omega, ok⟩, iv, ?_, ?_, ?_, ?_⟩
              · rw [u2.1 73 0 (by omega)]; exact m0
              · rw [u2.1 73 1 (by omega)]; exact m1
              · rw [u2.1 73 2 (by omega)]; exact m2
              · rw [u2.1 73 7 (by omega)]; exact m7
            · exact Or.inr ⟨v0, fun q => no q.2.2.2.2.2⟩
          · rw [if_neg c3]; exact f0 (fun q => by have := q.2.2.2.2.1; omega)
    · rw [if_neg ck]
      exact ⟨0, A, rfl, frW_refl 73 A, Or.inr ⟨rfl, fun q => ck q.2.1⟩⟩
  · rw [if_neg l]
    exact ⟨0, A, rfl, frW_refl 73 A, Or.inr ⟨rfl, fun q => l (by have := q.1; omega)⟩⟩
set_option maxRecDepth 100000 in
theorem s_seatTold (d : Nat) (k : Int) (T : Nat → Int) (A : AH) (hc : cok (hv A)) (hT : ∀ j : Nat, j < 1600 → gi A 191 j = T j ∧ 0 ≤ T j ∧ T j ≤ 255) (k0 : 0 ≤ k) (k1 : k < nPe (hv A) + nMu (hv A)) : runF (d + 2) 296 [vR 21 190 0, vI k] A = some (some (vI (stTP T (nPe (hv A)) k)), A) := by
  unfold cok at hc
  rw [r_X12_seatTold, q_X12_seatTold_0, s_peopleMany, cI_v]
  by_cases c : k < nPe (hv A)
  · rw [if_pos c, wid (by omega) (by omega), if_pos (by omega), (hT _ (by omega)).1]
    unfold stTP; rw [if_pos c]
  · have t := hT (6 + nPe (hv A) + 2 * (k - nPe (hv A))).toNat (by omega)
    rw [if_neg c, wid (x := 6 + nPe (hv A)) (by omega) (by omega), wid (x := k - nPe (hv A)) (by omega) (by omega), wid (x := 2 * (k - nPe (hv A))) (by omega) (by omega), wid (x := 6 + nPe (hv A) + 2 * (k - nPe (hv A))) (by omega) (by omega), if_pos (by omega), t.1, wid (by omega) (by omega)]
    unfold stTP; rw [if_neg c]
set_option maxRecDepth 100000 in
theorem l_ast3 (d : Nat) (x1 : Int) (T : Nat → Int) (A : AH) (hc : cok (hv A)) (hT : ∀ j : Nat, j < 1600 → gi A 191 j = T j ∧ 0 ≤ T j ∧ T j ≤ 255) : ∀ (j n : Nat) (m : Int) (u : AV), 0 ≤ m → m + j = nMu (hv A) → 10 * j + 10 ≤ n → ∃ v, go true 2 (runF (d + 2)) (runN (d + 2)) pb_X12_areSeatsTold n 76 [vR 21 190 0, vI x1, vI m, u] [] A = some (some (vI v), A) ∧ ((v = 1 ∧ ∀ k, nPe (hv A) + m ≤ k → k < nPe (hv A) + nMu (hv A) → ptT (hv A) T k ≤ if stTP T (nPe (hv A)) k = -1 then 0 else 1) ∨ (v = 0 ∧ ¬ ∀ k, nPe (hv A) + m ≤ k → k < nPe (hv A) + nMu (hv A) → ptT (hv A) T k ≤ if stTP T (nPe (hv A)) k = -1 then 0 else 1)) := by
  have hc' := hc
  unfold cok at hc'
  intro j
  induction j with
  | zero =>
    intro n m u h1 h2 hn
    obtain ⟨n, rfl⟩ : ∃ e, n = e + 4 := ⟨n - 4, by omega⟩
    rw [q_X12_areSeatsTold_76, s_muteMany, cI_v, if_neg (by omega)]
    exact ⟨1, rfl, Or.inl ⟨rfl, fun k k1 k2 => by omega⟩⟩
  | succ j ih =>
    intro n m u h1 h2 hn
    obtain ⟨n, rfl⟩ : ∃ e, n = e + 4 := ⟨n - 4, by omega⟩
    have ep : ptT (hv A) T (nPe (hv A) + m) = T (7 + nPe (hv A) + 2 * m).toNat := by unfold ptT; rw [if_neg (by omega)]; congr 2; omega
    have t := (hT (7 + nPe (hv A) + 2 * m).toNat (by omega)).1
    have nx : ∀ q, ptT (hv A) T (nPe (hv A) + m) ≤ (if stTP T (nPe (hv A)) (nPe (hv A) + m) = -1 then 0 else 1) → 10 * j + 10 ≤ q → ∃ v, go true 2 (runF (d + 2)) (runN (d + 2)) pb_X12_areSeatsTold q 76 [vR 21 190 0, vI x1, vI (m + 1), u] [] A = some (some (vI v), A) ∧ ((v = 1 ∧ ∀ k, nPe (hv A) + m ≤ k → k < nPe (hv A) + nMu (hv A) → ptT (hv A) T k ≤ if stTP T (nPe (hv A)) k = -1 then 0 else 1) ∨ (v = 0 ∧ ¬ ∀ k, nPe (hv A) + m ≤ k → k < nPe (hv A) + nMu (hv A) → ptT (hv A) T k ≤ if stTP T (nPe (hv A)) k = -1 then 0 else 1)) := by
      intro q ok hq
      obtain ⟨v, u1, u2⟩ := ih q (m + 1) u (by omega) (by omega) hq
      refine ⟨v, u1, ?_⟩
      rcases u2 with ⟨v1, al⟩ | ⟨v0, no⟩
      · left
        refine ⟨v1, fun k k1 k2 => ?_⟩
        by_cases e : k = nPe (hv A) + m
        · rw [e]; exact ok
        · exact al k (by omega) k2
      · exact Or.inr ⟨v0, fun al => no (fun k k1 k2 => al k (by omega) k2)⟩
    rw [q_X12_areSeatsTold_76, s_muteMany, cI_v, if_pos (by omega), s_peopleMany, cI_v, wid (x := 7 + nPe (hv A)) (by omega) (by omega), wid (x := 2 * m) (by omega) (by omega), wid (x := 7 + nPe (hv A) + 2 * m) (by omega) (by omega), if_pos (by omega), s_peopleMany, cI_v, wid (x := nPe (hv A) + m) (by omega) (by omega), s_seatTold d _ T A hc hT (by omega) (by omega), cI_v, t, ← ep]
    by_cases c : stTP T (nPe (hv A)) (nPe (hv A) + m) = -1
    · rw [if_pos c]
      by_cases p : 0 < ptT (hv A) T (nPe (hv A) + m)
      · rw [if_pos p]
        refine ⟨0, rfl, Or.inr ⟨rfl, fun al => ?_⟩⟩
        have := al _ (by omega) (show nPe (hv A) + m < nPe (hv A) + nMu (hv A) by omega)
        rw [if_pos c] at this; omega
      · rw [if_neg p, wid (by omega) (by omega)]
        exact nx (n + 1) (by rw [if_pos c]; omega) (by omega)
    · rw [if_neg c]
      by_cases p : 1 < ptT (hv A) T (nPe (hv A) + m)
      · rw [if_pos p]
        refine ⟨0, rfl, Or.inr ⟨rfl, fun al => ?_⟩⟩
        have := al _ (by omega) (show nPe (hv A) + m < nPe (hv A) + nMu (hv A) by omega)
        rw [if_neg c] at this; omega
      · rw [if_neg p, wid (by omega) (by omega), Nat.add_zero n]
        exact nx n (by rw [if_neg c]; omega) (by omega)
set_option maxRecDepth 100000 in
theorem l_ast2 (d : Nat) (x1 : Int) (T : Nat → Int) (A : AH) (hc : cok (hv A)) (hT : ∀ j : Nat, j < 1600 → gi A 191 j = T j ∧ 0 ≤ T j ∧ T j ≤ 255) (k : Int) (k0 : 0 ≤ k) (k1 : k < nPe (hv A) + nMu (hv A)) : ∀ (j n : Nat) (i : Int), 0 ≤ i → i + j = k → 10 * j + 10 ≤ n → ((stTP T (nPe (hv A)) k ≠ -1 → ∀ q, i ≤ q → q < k → stTP T (nPe (hv A)) q ≠ stTP T (nPe (hv A)) k) ∧ ∃ n', go true 2 (runF (d + 2)) (runN (d + 2)) pb_X12_areSeatsTold n 33 [vR 21 190 0, vI x1, vI k, vI i] [] A = go true 2 (runF (d + 2)) (runN (d + 2)) pb_X12_areSeatsTold n' 12 [vR 21 190 0, vI x1, vI (k + 1), vI k] [] A ∧ n - 10 * j - 5 ≤ n') ∨ (¬ (stTP T (nPe (hv A)) k ≠ -1 → ∀ q, i ≤ q → q < k → stTP T (nPe (hv A)) q ≠ stTP T (nPe (hv A)) k) ∧ go true 2 (runF (d + 2)) (runN (d + 2)) pb_X12_areSeatsTold n 33 [vR 21 190 0, vI x1, vI k, vI i] [] A = some (some (vI 0), A)) := by
  have hc' := hc
  unfold cok at hc'
  intro j
  induction j with
  | zero =>
    intro n i h1 h2 hn
    obtain ⟨n, rfl⟩ : ∃ e, n = e + 3 := ⟨n - 3, by omega⟩
    left
    refine ⟨fun _ q q1 q2 => by omega, n + 1, ?_, by omega⟩
    rw [q_X12_areSeatsTold_33, if_neg (by omega), wid (by omega) (by omega), show i = k by omega]
  | succ j ih =>
    intro n i h1 h2 hn
    obtain ⟨n, rfl⟩ : ∃ e, n = e + 10 := ⟨n - 10, by omega⟩
    rw [q_X12_areSeatsTold_33, if_pos (by omega), s_seatTold d _ T A hc hT k0 k1, cI_v]
    have nx : (stTP T (nPe (hv A)) k ≠ -1 → stTP T (nPe (hv A)) i ≠ stTP T (nPe (hv A)) k) → ((stTP T (nPe (hv A)) k ≠ -1 → ∀ q, i ≤ q → q < k → stTP T (nPe (hv A)) q ≠ stTP T (nPe (hv A)) k) ∧ ∃ n', go true 2 (runF (d + 2)) (runN (d + 2)) pb_X12_areSeatsTold (n + 8 + 1) 62 [vR 21 190 0, vI x1, vI k, vI i] [] A = go true 2 (runF (d + 2)) (runN (d + 2)) pb_X12_areSeatsTold n' 12 [vR 21 190 0, vI x1, vI (k + 1), vI k] [] A ∧ n + 10 - 10 * (j + 1) - 5 ≤ n') ∨ (¬ (stTP T (nPe (hv A)) k ≠ -1 → ∀ q, i ≤ q → q < k → stTP T (nPe (hv A)) q ≠ stTP T (nPe (hv A)) k) ∧ go true 2 (runF (d + 2)) (runN (d + 2)) pb_X12_areSeatsTold (n + 8 + 1) 62 [vR 21 190 0, vI x1, vI k, vI i] [] A = some (some (vI 0), A)) := by
      intro ok
      rw [q_X12_areSeatsTold_62, wid (by omega) (by omega), Nat.add_zero (n + 8)]
      rcases ih (n + 8) (i + 1) (by omega) (by omega) (by omega) with ⟨al, n', u1, u2⟩ | ⟨no, u1⟩
      · left
        refine ⟨fun c q q1 q2 => ?_, n', u1, by omega⟩
        by_cases e : q = i
        · rw [e]; exact ok c
        · exact al c q (by omega) q2
      · right
        exact ⟨fun al => no (fun c q q1 q2 => al c q (by omega) q2), u1⟩
    by_cases c : stTP T (nPe (hv A)) k = -1
    · rw [if_pos c]
      exact nx (fun q => absurd c q)
    · rw [if_neg c, s_seatTold d _ T A hc hT h1 (by omega), cI_v, s_seatTold d _ T A hc hT k0 k1, cI_v]
      by_cases e : stTP T (nPe (hv A)) i = stTP T (nPe (hv A)) k
      · rw [if_pos e]
        right
        exact ⟨fun al => al c i (by omega) (by omega) e, rfl⟩
      · rw [if_neg e]
        exact nx (fun _ => e)
set_option maxRecDepth 100000 in
theorem l_ast1 (d : Nat) (T : Nat → Int) (A : AH) (hc : cok (hv A)) (hT : ∀ j : Nat, j < 1600 → gi A 191 j = T j ∧ 0 ≤ T j ∧ T j ≤ 255) : ∀ (j n : Nat) (k : Int) (u : AV), 0 ≤ k → k + j = nPe (hv A) + nMu (hv A) → (∀ i, 0 ≤ i → i < k → stTP T (nPe (hv A)) i < nSe (hv A)) → (∀ q i, 0 ≤ i → i < q → q < k → stTP T (nPe (hv A)) q ≠ -1 → stTP T (nPe (hv A)) i ≠ stTP T (nPe (hv A)) q) → 200 * j + 200 ≤ n → ∃ v, go true 2 (runF (d + 2)) (runN (d + 2)) pb_X12_areSeatsTold n 12 [vR 21 190 0, vI (nPe (hv A) + nMu (hv A)), vI k, u] [] A = some (some (vI v), A) ∧ ((v = 1 ∧ okP (nPe (hv A)) (nSe (hv A)) (stTP T (nPe (hv A))) (ptT (hv A) T) (nPe (hv A) + nMu (hv A))) ∨ (v = 0 ∧ ¬ okP (nPe (hv A)) (nSe (hv A)) (stTP T (nPe (hv A))) (ptT (hv A) T) (nPe (hv A) + nMu (hv A)))) := by
  have hc' := hc
  unfold cok at hc'
  intro j
  induction j with
  | zero =>
    intro n k u h1 h2 h3 h4 hn
    obtain ⟨n, rfl⟩ : ∃ e, n = e + 3 := ⟨n - 3, by omega⟩
    have ek : k = nPe (hv A) + nMu (hv A) := by omega
    obtain ⟨v, u1, u2⟩ := l_ast3 d (nPe (hv A) + nMu (hv A)) T A hc hT (nMu (hv A)).toNat (n + 1) 0 u (by omega) (by omega) (by omega)
    rw [Int.add_zero] at u2
    rw [q_X12_areSeatsTold_12, if_neg (by omega)]
    refine ⟨v, u1, ?_⟩
    subst ek
    rcases u2 with ⟨v1, al⟩ | ⟨v0, no⟩
    · exact Or.inl ⟨v1, h3, h4, al⟩
    · exact Or.inr ⟨v0, fun q => no q.2.2⟩
  | succ j ih =>
    intro n k u h1 h2 h3 h4 hn
    obtain ⟨n, rfl⟩ : ∃ e, n = e + 10 := ⟨n - 10, by omega⟩
    rw [q_X12_areSeatsTold_12, if_pos (by omega), s_seatTold d _ T A hc hT h1 (by omega), cI_v, s_seatMany, cI_v]
    by_cases c : stTP T (nPe (hv A)) k < nSe (hv A)
    · rw [if_pos c]
      rcases l_ast2 d (nPe (hv A) + nMu (hv A)) T A hc hT k h1 (by omega) k.toNat (n + 8) 0 (by omega) (by omega) (by omega) with ⟨al, n', u1, u2⟩ | ⟨no, u1⟩
      · rw [Nat.add_zero (n + 8), u1]
        refine ih n' (k + 1) _ (by omega) (by omega) (fun i i0 i1 => ?_) (fun q i i0 i1 q1 q2 => ?_) (by omega)
        · by_cases e : i = k
          · rw [e]; exact c
          · exact h3 i i0 (by omega)
        · by_cases e : q = k
          · rw [e]; rw [e] at q2 i1; exact al q2 i i0 i1
          · exact h4 q i i0 i1 (by omega) q2
      · rw [Nat.add_zero (n + 8), u1]
        exact ⟨0, rfl, Or.inr ⟨rfl, fun q => no (fun e i i0 i1 => q.2.1 k i i0 i1 (by omega) e)⟩⟩
    · rw [if_neg c]
      exact ⟨0, rfl, Or.inr ⟨rfl, fun q => c (q.1 k h1 (by omega))⟩⟩
set_option maxRecDepth 100000 in
theorem s_isToldM (d : Nat) (T : Nat → Int) (L : Int) (A : AH) (hc : cok (hv A)) (hT : ∀ j : Nat, j < 1600 → gi A 191 j = T j ∧ 0 ≤ T j ∧ T j ≤ 255) (hL : 0 ≤ L ∧ L ≤ 1600) (hi : gi A 190 53 = 1) : ∃ v, runF (d + 4) 298 [vR 21 190 0, vI L] A = some (some (vI v), A) ∧ ((v = 1 ∧ TOLD (hv A) T L) ∨ (v = 0 ∧ ¬ TOLD (hv A) T L)) := by
  have hc' := hc
  unfold cok at hc'
  have no : ∀ m, ¬ TOLD (hv A) T L → ∃ v, go true 2 (runF (d + 3)) (runN (d + 3)) pb_X12_isTold (m + 2) 112 [vR 21 190 0, vI L] [] A = some (some (vI v), A) ∧ ((v = 1 ∧ TOLD (hv A) T L) ∨ (v = 0 ∧ ¬ TOLD (hv A) T L)) := fun m q => by
    rw [q_X12_isTold_112]; exact ⟨0, rfl, Or.inr ⟨rfl, q⟩⟩
  rw [r_X12_isTold, q_X12_isTold_0, hi, if_neg (by omega), s_peopleMany, cI_v, s_muteMany, cI_v, wid (x := 7 + nPe (hv A)) (by omega) (by omega), wid (x := 2 * nMu (hv A)) (by omega) (by omega), wid (x := 7 + nPe (hv A) + 2 * nMu (hv A)) (by omega) (by omega)]
  by_cases l : L = 7 + nPe (hv A) + 2 * nMu (hv A)
  · have chk : go true 0 (runF (d + 2)) (runN (d + 2)) pb_X12_checked (fu + 199) 6 [vR 30 191 1600, vI (L - 1), vI 229, vI 0] [] A = some (some (vI (ckF T (L - 1).toNat 0 229)), A) := l_checkM _ 191 1600 (L - 1) A (by omega) (by omega) (by omega) T (fun j hj => hT j (by omega)) (L - 1).toNat _ 0 229 (by omega) (by omega) (by omega) (by have := fu_ge; omega)
    rw [if_pos l, wid (x := L - 1) (by omega) (by omega), if_pos (by omega), r_X12_checked, q_X12_checked_0 (ha0 := by omega), Nat.add_zero (fu + 199), chk, cI_v, (hT (L - 1).toNat (by omega)).1]
    have t0 := hT 0 (by omega)
    have t1 := hT 1 (by omega)
    have t2 := hT 2 (by omega)
    have t3 := hT 3 (by omega)
    have t4 := hT 4 (by omega)
    have t5 := hT 5 (by omega)
    by_cases ck : T (L - 1).toNat = ckF T (L - 1).toNat 0 229
    · rw [if_pos ck, q_X12_isTold_48, t0.1, t1.1, wid (x := 256 * T 0) (by omega) (by omega), wid (x := 256 * T 0 + T 1) (by omega) (by omega)]
      by_cases c1 : 999 < 256 * T 0 + T 1
      · rw [if_pos c1]; exact no _ (fun q => by have := q.2.2.1; omega)
      · have esc : w32 (w32 (w32 (w32 (w32 (65536 * T 2) + w32 (256 * T 3)) + T 4) - 99999) - 1) = scT T := by
          rw [wid (x := 65536 * T 2) (by omega) (by omega), wid (x := 256 * T 3) (by omega) (by omega), wid (x := 65536 * T 2 + 256 * T 3) (by omega) (by omega), wid (x := 65536 * T 2 + 256 * T 3 + T 4) (by omega) (by omega), wid (x := 65536 * T 2 + 256 * T 3 + T 4 - 99999) (by omega) (by omega), wid (by omega) (by omega)]; unfold scT; omega
        rw [if_neg c1, r_X12_scaleTold, q_X12_scaleTold_0, cI_v, t2.1, t3.1, t4.1, esc, s_isIn, cI_v]
        by_cases c2 : -99999 ≤ scT T ∧ scT T ≤ 99999
        · rw [decide_eq_true c2, bI_t, if_neg (by omega), s_pointMany, cI_v, t5.1]
          by_cases c3 : nPo (hv A) < T 5
          · rw [if_pos c3]; exact no _ (fun q => by have := q.2.2.2.2.1; omega)
          · obtain ⟨v, u1, u2⟩ := l_ast1 d T A hc hT (nPe (hv A) + nMu (hv A)).toNat (fu + 199) 0 vU (by omega) (by omega) (fun i i0 i1 => by omega) (fun q i i0 i1 q1 => by omega) (by have := fu_ge; omega)
            rw [if_neg c3, r_X12_areSeatsTold, q_X12_areSeatsTold_0, s_peopleMany, cI_v, s_muteMany, cI_v, wid (by omega) (by omega), Nat.add_zero (fu + 199), u1, cI_v]
            rcases u2 with ⟨v1, ok⟩ | ⟨v0, nok⟩
            · rw [v1, if_neg (by omega)]
              exact ⟨1, rfl, Or.inl ⟨rfl, l, ck.symm, by omega, c2, by omega, ok⟩⟩
            · rw [v0, if_pos rfl]; exact no _ (fun q => nok q.2.2.2.2.2)
        · rw [decide_eq_false c2, bI_f, if_pos rfl]; exact no _ (fun q => c2 q.2.2.2.1)
    · rw [if_neg ck]
      exact ⟨0, rfl, Or.inr ⟨rfl, fun q => ck q.2.1.symm⟩⟩
  · rw [if_neg l]
    exact ⟨0, rfl, Or.inr ⟨rfl, fun q => l q.1⟩⟩
