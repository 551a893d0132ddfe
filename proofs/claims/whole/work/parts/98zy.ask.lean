/-! calls: ask -/
def xq0 (a j : Nat) : Prop := (a = 190 ∧ (j = 1 ∨ j = 2 ∨ j = 3 ∨ j = 4 ∨ j = 5 ∨ j = 6 ∨ j = 7 ∨ j = 8 ∨ j = 10 ∨ j = 42 ∨ j = 100 ∨ j = 102 ∨ j = 103 ∨ j = 104)) ∨ (a = 40 ∧ j = 1) ∨ a = 42 ∨ a = 44 ∨ a = 45 ∨ a = 267 ∨ a = 268
def xq (a j : Nat) : Prop := xq0 a j ∨ scr a j
theorem xq_n {a j : Nat} (h : a = 41 ∨ (46 ≤ a ∧ a ≤ 72) ∨ (78 ≤ a ∧ a ≤ 179) ∨ (185 ≤ a ∧ a ≤ 189) ∨ (a = 40 ∧ j ≠ 1) ∨ (191 ≤ a ∧ a ≤ 234) ∨ a = 237 ∨ (243 ≤ a ∧ a ≤ 266) ∨ 270 ≤ a ∨ (a = 190 ∧ (j = 53 ∨ j = 65 ∨ j = 73 ∨ j = 74 ∨ j = 75 ∨ j = 110))) : ¬ xq a j := by
  intro q
  rcases q with q | q
  · unfold xq0 at q; omega
  · unfold scr at q; omega
theorem REL_ask {n : Nat} {A E : AH} (r : REL n A) (G : ∀ a j, ¬ xq a j → gi E a j = gi A a j) (R : ∀ a j, a ≠ 42 → a ≠ 180 → a ≠ 186 → gr E a j = gr A a j) (hl : E.2.2 = A.2.2) (h1 : gi E 190 1 = 0) (h2 : gi E 40 1 = 0) (h3 : gi E 190 7 = gi E 42 11 ∧ gi E 190 8 = gi E 42 12) : REL (n + 1) E := by
  obtain ⟨p1, p2, p3, p4, p5, p6, p7, p8, p9, p10, p11, p12, p13⟩ := r
  have h48 := p3.1
  have eh : hv E = hv A := hv_ex (fun a j q => G a j (xq_n (by have := hz_qx q; omega)))
  have en : nv E = nv A := by funext j; exact G 237 j (xq_n (by omega))
  have g40 := R 40 5 (by omega) (by omega) (by omega)
  unfold REL
  rw [eh, en, g40, G 190 65 (xq_n (by omega))]
  refine ⟨p1, SK_fr (by omega) (fun a j z1 z2 => G a j (xq_n (by omega))) p2, HR_fr (fun a j z => G a j (xq_n (by omega))) (fun a j z => R a j (by omega) (by omega) (by omega)) hl p3, p4, ?_, h3, RF_fr (fun a j z => G a j (xq_n (by omega))) p7, ?_, IM_fr (fun a j z => G a j (xq_n (by omega))) p9, PR_fr (fun a j z => G a j (xq_n (by omega))) (fun j => R 79 j (by omega) (by omega) (by omega)) eh p10, PH_r (fun a j z1 z2 => G a j (xq_n (by omega))) p11, ?_, ?_⟩
  · refine ⟨by rw [h1, h2], by rw [h2]; omega, fun j hj => ?_⟩
    rw [G 191 j (xq_n (by omega)), G 41 j (xq_n (by omega))]
    exact p5.2.2 j hj
  · rw [G 190 75 (xq_n (by omega)), G 40 14 (xq_n (by omega))]; exact p8
  · unfold TD
    rw [eh, G 190 53 (xq_n (by omega))]
    exact ⟨p12.1, WD_fr (fun a j z => G a j (xq_n (by omega))) (by unfold ln; rw [hl]) p12.2⟩
  · unfold RM at *
    have es : sz E = sz A := by unfold sz; rw [hl]
    have el : sl E = sl A := by unfold sl; rw [hl]
    rw [g40, R (gr A 40 5) 16 (by omega) (by omega) (by omega), R (gr A 40 5) 17 (by omega) (by omega) (by omega), es, el]
    omega
def frAM (A B : AH) : Prop := (∀ a j, ¬ (a = 190 ∧ (j = 1 ∨ j = 2 ∨ j = 3 ∨ j = 4 ∨ j = 5 ∨ j = 6 ∨ j = 7 ∨ j = 8 ∨ j = 10 ∨ j = 42 ∨ j = 100 ∨ j = 102 ∨ j = 103 ∨ j = 104 ∨ j = 106 ∨ j = 107 ∨ j = 108)) → a ≠ 267 → a ≠ 268 → a ≠ 269 → gi B a j = gi A a j) ∧ (∀ a j, gr B a j = gr A a j) ∧ B.2.2 = A.2.2
theorem frAM_trans {A B C : AH} (f : frAM A B) (g : frAM B C) : frAM A C := ⟨fun a j h1 h2 h3 h4 => (g.1 a j h1 h2 h3 h4).trans (f.1 a j h1 h2 h3 h4), fun a j => (g.2.1 a j).trans (f.2.1 a j), g.2.2.trans f.2.2⟩
theorem frZ_AM {A B : AH} (f : frZ A B) : frAM A B := ⟨fun a j h1 _ _ _ => f.1 a j (by omega), f.2.1, f.2.2⟩
theorem frJ_AM {A B : AH} (f : frJq A B) : frAM A B := ⟨fun a j h1 h2 h3 _ => f.1 a j (by omega) h2 h3, f.2.1, f.2.2⟩
theorem scA_AM {A B : AH} (f : scA A B) : frAM A B := ⟨fun a j h1 _ _ h4 => f.1 a j (by omega) h4, f.2.1, f.2.2⟩
theorem frAM_wi {A B : AH} (k : Nat) (v : Int) (h : k = 1 ∨ k = 2 ∨ k = 3 ∨ k = 4 ∨ k = 5 ∨ k = 6 ∨ k = 7 ∨ k = 8 ∨ k = 10 ∨ k = 42 ∨ k = 100 ∨ k = 102 ∨ k = 103 ∨ k = 104 ∨ k = 106 ∨ k = 107 ∨ k = 108) (f : frAM A B) : frAM A (wi B 190 k v) := frAM_trans f ⟨fun a j h1 _ _ _ => by rw [gi_wi, if_neg (by omega)], fun _ _ => rfl, rfl⟩
theorem frAM_refl (A : AH) : frAM A A := ⟨fun _ _ _ _ _ _ => rfl, fun _ _ => rfl, rfl⟩
theorem frAM_hv {A B : AH} (f : frAM A B) : hv B = hv A ∧ nv B = nv A ∧ gi B 190 65 = gi A 190 65 := ⟨hv_ex (fun a j q => by have := hz_qx q; exact f.1 a j (by omega) (by omega) (by omega) (by omega)), by funext j; exact f.1 237 j (by omega) (by omega) (by omega) (by omega), f.1 190 65 (by omega) (by omega) (by omega) (by omega)⟩
theorem ask_bad (d n : Nat) (x1 : Int) (u2 : AV) (B : AH) (hb : gi B 190 5 ≠ 0) : go true 1 (runF (d + 61)) (runN (d + 61)) pb_X12_ask (n + 10) 128 [vR 21 190 0, vI x1, u2] [] B = some (some (vL (-1000000000000000)), wi (wi B 190 7 (gi B 190 5)) 190 8 (gi B 190 6)) := by
  rw [q_X12_ask_128, q_X12_ask_144]
  have e1 : gi (wi B 190 7 (gi B 190 5)) 190 6 = gi B 190 6 := by rw [gi_wi, if_neg (by omega)]
  have e2 : gi (wi (wi B 190 7 (gi B 190 5)) 190 8 (gi B 190 6)) 190 5 = gi B 190 5 := by simp -implicitDefEqProofs (disch := omega) only [gi_wi, ↓reduceIte, Int.reduceEq, cI_v, cL_v, cV_v, cR_v, wid, wid64, if_pos, if_neg, Nat.add_zero, if_true, if_false, and_self, and_true, true_and, and_false, false_and, or_true, true_or, or_false, false_or]
  rw [e1, e2, if_neg hb]
theorem ask_bad4 (d n : Nat) (x1 : Int) (u2 : AV) (B : AH) (hb : gi B 190 5 ≠ 0) : go true 1 (runF (d + 61)) (runN (d + 61)) pb_X12_ask (n + 11) 104 [vR 21 190 0, vI x1, u2] [] B = some (some (vL (-1000000000000000)), wi (wi B 190 7 (gi B 190 5)) 190 8 (gi B 190 6)) := by
  rw [q_X12_ask_104, if_neg hb]
  exact ask_bad d n x1 u2 B hb
set_option maxRecDepth 100000 in
theorem s_askM (d : Nat) {T : Nat → Int} {L : Nat} (tx : TX T L) (D : AH) (h53 : gi D 190 53 ≠ 0) (hL : gi D 190 1 = L) (hT : ∀ j, j < 1600 → gi D 191 j = T j) (wc : WC D) : (∀ k s, qsG T L = .error (k, s) → ∃ E, runF (d + 62) 290 [vR 21 190 0] D = some (some (vL (-1000000000000000)), E) ∧ gi E 190 7 = k ∧ gi E 190 8 = s ∧ gi E 190 1 = 0 ∧ frAM D E) ∧ (∀ w cs, qsG T L = .ok (w, cs) → mok D → gi D 190 65 = -1 → (-1 ≤ nv D 2 ∧ nv D 2 < nPo (hv D)) → ∃ E, runF (d + 62) 290 [vR 21 190 0] D = some (some (vL (ansG (qvF (hv D) (nv D) cs) (sit (hv D) (nv D)) w 16 0 (if w < 34 then -1 else 0) true)), E) ∧ gi E 190 7 = 0 ∧ gi E 190 8 = -1 ∧ gi E 190 1 = 0 ∧ frAM D E) := by
  have tL := tx.1
  generalize hE0 : wi (wi (wi (wi (wi (wi (wi (wi (wi (wi D 190 3 (L : Int)) 190 1 0) 190 2 0) 190 4 (-1)) 190 5 0) 190 6 (-1)) 190 100 0) 190 102 0) 190 103 0) 190 104 0 = E0
  have f0 : frAM D E0 := by
    rw [← hE0]
    exact frAM_wi _ _ (by omega) (frAM_wi _ _ (by omega) (frAM_wi _ _ (by omega) (frAM_wi _ _ (by omega) (frAM_wi _ _ (by omega) (frAM_wi _ _ (by omega) (frAM_wi _ _ (by omega) (frAM_wi _ _ (by omega) (frAM_wi _ _ (by omega) (frAM_wi _ _ (by omega) (frAM_refl D))))))))))
  have e0 : runF (d + 62) 290 [vR 21 190 0] D = go true 1 (runF (d + 61)) (runN (d + 61)) pb_X12_ask (fu + 194) 69 [vR 21 190 0, vU, vU] [] E0 := by
    rw [r_X12_ask, q_X12_ask_0, if_neg h53, hL, q_X12_ask_29, q_X12_ask_39, q_X12_ask_49, q_X12_ask_59, ← hE0]
    all_goals rfl
  have m0 : MdS E0 T L 0 false := by
    refine ⟨⟨by rw [← hE0]; simp -implicitDefEqProofs (disch := omega) only [gi_wi, ↓reduceIte, Int.reduceEq, cI_v, cL_v, cV_v, cR_v, wid, wid64, if_pos, if_neg, Nat.add_zero, if_true, if_false, and_self, and_true, true_and, and_false, false_and, or_true, true_or, or_false, false_or], fun j hj => by rw [f0.1 191 j (by omega) (by omega) (by omega) (by omega)]; exact hT j hj, tx, WC_fr (fun a j q => f0.1 a j (by omega) (by omega) (by omega) (by omega)) wc⟩, by omega, by rw [← hE0]; simp -implicitDefEqProofs (disch := omega) only [gi_wi, ↓reduceIte, Int.reduceEq, cI_v, cL_v, cV_v, cR_v, wid, wid64, if_pos, if_neg, Nat.add_zero, if_true, if_false, and_self, and_true, true_and, and_false, false_and, or_true, true_or, or_false, false_or], ⟨0, by rw [← hE0]; simp -implicitDefEqProofs (disch := omega) only [gi_wi, ↓reduceIte, Int.reduceEq, cI_v, cL_v, cV_v, cR_v, wid, wid64, if_pos, if_neg, Nat.add_zero, if_true, if_false, and_self, and_true, true_and, and_false, false_and, or_true, true_or, or_false, false_or]; rfl, by omega, by omega⟩, (fun h => by cases h), (fun _ => by rw [← hE0]; simp -implicitDefEqProofs (disch := omega) only [gi_wi, ↓reduceIte, Int.reduceEq, cI_v, cL_v, cV_v, cR_v, wid, wid64, if_pos, if_neg, Nat.add_zero, if_true, if_false, and_self, and_true, true_and, and_false, false_and, or_true, true_or, or_false, false_or]; omega), by rw [← hE0]; simp -implicitDefEqProofs (disch := omega) only [gi_wi, ↓reduceIte, Int.reduceEq, cI_v, cL_v, cV_v, cR_v, wid, wid64, if_pos, if_neg, Nat.add_zero, if_true, if_false, and_self, and_true, true_and, and_false, false_and, or_true, true_or, or_false, false_or]⟩
  have z100 : gi E0 190 100 = 0 := by rw [← hE0]; simp -implicitDefEqProofs (disch := omega) only [gi_wi, ↓reduceIte, Int.reduceEq, cI_v, cL_v, cV_v, cR_v, wid, wid64, if_pos, if_neg, Nat.add_zero, if_true, if_false, and_self, and_true, true_and, and_false, false_and, or_true, true_or, or_false, false_or]
  have z102 : gi E0 190 102 = 0 := by rw [← hE0]; simp -implicitDefEqProofs (disch := omega) only [gi_wi, ↓reduceIte, Int.reduceEq, cI_v, cL_v, cV_v, cR_v, wid, wid64, if_pos, if_neg, Nat.add_zero, if_true, if_false, and_self, and_true, true_and, and_false, false_and, or_true, true_or, or_false, false_or]
  have z103 : gi E0 190 103 = 0 := by rw [← hE0]; simp -implicitDefEqProofs (disch := omega) only [gi_wi, ↓reduceIte, Int.reduceEq, cI_v, cL_v, cV_v, cR_v, wid, wid64, if_pos, if_neg, Nat.add_zero, if_true, if_false, and_self, and_true, true_and, and_false, false_and, or_true, true_or, or_false, false_or]
  have z104 : gi E0 190 104 = 0 := by rw [← hE0]; simp -implicitDefEqProofs (disch := omega) only [gi_wi, ↓reduceIte, Int.reduceEq, cI_v, cL_v, cV_v, cR_v, wid, wid64, if_pos, if_neg, Nat.add_zero, if_true, if_false, and_self, and_true, true_and, and_false, false_and, or_true, true_or, or_false, false_or]
  have z1 : gi E0 190 1 = 0 := by rw [← hE0]; simp -implicitDefEqProofs (disch := omega) only [gi_wi, ↓reduceIte, Int.reduceEq, cI_v, cL_v, cV_v, cR_v, wid, wid64, if_pos, if_neg, Nat.add_zero, if_true, if_false, and_self, and_true, true_and, and_false, false_and, or_true, true_or, or_false, false_or]
  obtain ⟨kd1, kd2⟩ := s_qKind (d + 56) E0 m0
  have w37 := wrd_le T L 0 false
  have fin : ∀ (C : AH), gi C 190 5 ≠ 0 → gi C 190 1 = 0 → frAM D C → gi (wi (wi C 190 7 (gi C 190 5)) 190 8 (gi C 190 6)) 190 7 = gi C 190 5 ∧ gi (wi (wi C 190 7 (gi C 190 5)) 190 8 (gi C 190 6)) 190 8 = gi C 190 6 ∧ gi (wi (wi C 190 7 (gi C 190 5)) 190 8 (gi C 190 6)) 190 1 = 0 ∧ frAM D (wi (wi C 190 7 (gi C 190 5)) 190 8 (gi C 190 6)) := fun C _ h1 f => ⟨by simp -implicitDefEqProofs (disch := omega) only [gi_wi, ↓reduceIte, Int.reduceEq, cI_v, cL_v, cV_v, cR_v, wid, wid64, if_pos, if_neg, Nat.add_zero, if_true, if_false, and_self, and_true, true_and, and_false, false_and, or_true, true_or, or_false, false_or], by simp -implicitDefEqProofs (disch := omega) only [gi_wi, ↓reduceIte, Int.reduceEq, cI_v, cL_v, cV_v, cR_v, wid, wid64, if_pos, if_neg, Nat.add_zero, if_true, if_false, and_self, and_true, true_and, and_false, false_and, or_true, true_or, or_false, false_or], by simp -implicitDefEqProofs (disch := omega) only [gi_wi, ↓reduceIte, Int.reduceEq, cI_v, cL_v, cV_v, cR_v, wid, wid64, if_pos, if_neg, Nat.add_zero, if_true, if_false, and_self, and_true, true_and, and_false, false_and, or_true, true_or, or_false, false_or]; exact h1, frAM_wi _ _ (by omega) (frAM_wi _ _ (by omega) f)⟩
  unfold qsG
  by_cases c : wrd T L 0 false < 32
  · rw [if_pos c]
    refine ⟨fun k s e => ?_, (fun w cs e => by cases e)⟩
    injection e with e; injection e with e1 e2
    obtain ⟨B, b1, b2, b3, b4, b5⟩ := kd2 c
    have hb : gi B 190 5 ≠ 0 := by rw [b2]; exact b4
    obtain ⟨y1, y2, y3, y4⟩ := fin B hb ((b5.1 190 1 (by omega)).trans z1) (frAM_trans f0 (frZ_AM b5))
    refine ⟨_, ?_, by rw [y1, b2]; exact e1, by rw [y2, b3]; exact e2, y3, y4⟩
    rw [e0, q_X12_ask_69, b1, cI_v, if_neg hb, q_X12_ask_93, if_neg hb]
    exact ask_bad4 d (fu + 181) 5 vU B hb
  · rw [if_neg c]
    obtain ⟨B, b1, b2, b3⟩ := kd1 (by omega)
    have sp := wrd_1 (T := T) (L := L) (p := 0) (t := false) (by omega) tx
    have g100 : gi B 190 100 = 0 := (b3.1 190 100 (by omega)).trans z100
    have g102 : gi B 190 102 = 0 := (b3.1 190 102 (by omega)).trans z102
    have g103 : gi B 190 103 = 0 := (b3.1 190 103 (by omega)).trans z103
    have g104 : gi B 190 104 = 0 := (b3.1 190 104 (by omega)).trans z104
    have fB : frAM D B := frAM_trans f0 (frZ_AM b3)
    have b11 : gi B 190 1 = 0 := (b3.1 190 1 (by omega)).trans z1
    obtain ⟨w, hw⟩ : ∃ w, w = wrd T L 0 false := ⟨_, rfl⟩
    rw [← hw] at b1 w37 c ⊢
    -- whichever is read, the way comes to pc 104
    have core : ∀ G : GR, ((∀ k s, G = .error (k, s) → ∃ C m, 1000 ≤ m ∧ go true 1 (runF (d + 61)) (runN (d + 61)) pb_X12_ask (fu + 194) 69 [vR 21 190 0, vU, vU] [] E0 = go true 1 (runF (d + 61)) (runN (d + 61)) pb_X12_ask m 104 [vR 21 190 0, vI ((w : Int) - 32), vU] [] C ∧ gi C 190 5 = k ∧ gi C 190 6 = s ∧ k ≠ 0 ∧ frJq B C) ∧ (∀ cs p t, G = .ok (cs, p, t) → ∃ C m, 1000 ≤ m ∧ go true 1 (runF (d + 61)) (runN (d + 61)) pb_X12_ask (fu + 194) 69 [vR 21 190 0, vU, vU] [] E0 = go true 1 (runF (d + 61)) (runN (d + 61)) pb_X12_ask m 104 [vR 21 190 0, vI ((w : Int) - 32), vU] [] C ∧ MdS C T L p t ∧ gi C 190 100 = ((cs.length : Nat) : Int) ∧ (∀ i, i < cs.length → gi C 267 i = (cs.map (mcF true)).getD i 0) ∧ frJq B C)) → (∀ w' cs, (match G with
  | .error e => .error e
  | .ok (cs, p, t) => if knd T L p t = 0 then .ok (w, cs) else .error (1, (bl T L p : Int)) : Except (Int × Int) (Nat × List Int)) = .ok (w', cs) → (32 ≤ w' ∧ w' ≤ 37) ∧ cs.length ≤ 1600 ∧ wfL true cs [] ∧ (w' < 35 → wfL true (cs ++ [21]) [])) → (∀ k s, (match G with
  | .error e => .error e
  | .ok (cs, p, t) => if knd T L p t = 0 then .ok (w, cs) else .error (1, (bl T L p : Int)) : Except (Int × Int) (Nat × List Int)) = .error (k, s) → ∃ E, runF (d + 62) 290 [vR 21 190 0] D = some (some (vL (-1000000000000000)), E) ∧ gi E 190 7 = k ∧ gi E 190 8 = s ∧ gi E 190 1 = 0 ∧ frAM D E) ∧ (∀ w' cs, (match G with
  | .error e => .error e
  | .ok (cs, p, t) => if knd T L p t = 0 then .ok (w, cs) else .error (1, (bl T L p : Int)) : Except (Int × Int) (Nat × List Int)) = .ok (w', cs) → mok D → gi D 190 65 = -1 → (-1 ≤ nv D 2 ∧ nv D 2 < nPo (hv D)) → ∃ E, runF (d + 62) 290 [vR 21 190 0] D = some (some (vL (ansG (qvF (hv D) (nv D) cs) (sit (hv D) (nv D)) w' 16 0 (if w' < 34 then -1 else 0) true)), E) ∧ gi E 190 7 = 0 ∧ gi E 190 8 = -1 ∧ gi E 190 1 = 0 ∧ frAM D E) := by
      intro G hG hok
      cases G with
      | error y =>
        obtain ⟨k0, s0⟩ := y
        refine ⟨fun k s e => ?_, (fun w cs e => by cases e)⟩
        injection e with e; injection e with e1 e2
        subst e1 e2
        obtain ⟨C, m, c0, c1, c2, c3, c4, c5⟩ := hG.1 k0 s0 rfl
        have hb : gi C 190 5 ≠ 0 := by rw [c2]; exact c4
        obtain ⟨y1, y2, y3, y4⟩ := fin C hb ((c5.1 190 1 (by omega) (by omega) (by omega)).trans b11) (frAM_trans fB (frJ_AM c5))
        refine ⟨_, ?_, by rw [y1]; exact c2, by rw [y2]; exact c3, y3, y4⟩
        obtain ⟨m, rfl⟩ : ∃ e, m = e + 11 := ⟨m - 11, by omega⟩
        rw [e0, c1]
        exact ask_bad4 d m _ vU C hb
      | ok y =>
        obtain ⟨cs, p, t⟩ := y
        obtain ⟨C, m, c0, c1, c2, c3, c4, c5⟩ := hG.2 cs p t rfl
        have fC : frAM D C := frAM_trans fB (frJ_AM c5)
        have c11 : gi C 190 1 = 0 := (c5.1 190 1 (by omega) (by omega) (by omega)).trans b11
        obtain ⟨k1, k2, k3⟩ := s_lookM (d + 60) C c2
        have fC' : frAM D (wi C 190 2 (bl T L p : Int)) := frAM_trans fC (frZ_AM k3)
        obtain ⟨m, rfl⟩ : ∃ e, m = e + 30 := ⟨m - 30, by omega⟩
        simp only at hok ⊢
        by_cases z : knd T L p t = 0
        · rw [if_pos z] at hok ⊢
          refine ⟨(fun k s e => by cases e), fun w' cs' e hm q65 ha => ?_⟩
          obtain ⟨o1, o2, o3, o4⟩ := hok w' cs' e
          injection e with e; injection e with e1 e2
          subst e1 e2
          generalize hE1 : wi (wi (wi (wi (wi C 190 2 (bl T L p : Int)) 190 7 0) 190 8 (-1)) 190 107 (if w < 34 then -1 else 0)) 190 108 1 = E1
          have fE : frAM D E1 := by
            rw [← hE1]
            exact frAM_wi _ _ (by omega) (frAM_wi _ _ (by omega) (frAM_wi _ _ (by omega) (frAM_wi _ _ (by omega) fC')))
          obtain ⟨v1, v2, v3⟩ := frAM_hv fE
          have hm1 : mok E1 := by
            unfold mok at hm ⊢
            rw [v1, v2]; exact hm
          obtain ⟨A', a1, a2⟩ := l_ansM (d + 55) w cs E1 hm1 (v3.trans q65) (by rw [v1, v2]; exact ha) (by rw [← hE1]; simp -implicitDefEqProofs (disch := omega) only [gi_wi, ↓reduceIte, Int.reduceEq, cI_v, cL_v, cV_v, cR_v, wid, wid64, if_pos, if_neg, Nat.add_zero, if_true, if_false, and_self, and_true, true_and, and_false, false_and, or_true, true_or, or_false, false_or]; exact c3) o2 (fun i hi => by
            rw [← hE1]; simp -implicitDefEqProofs (disch := omega) only [gi_wi, ↓reduceIte, Int.reduceEq, cI_v, cL_v, cV_v, cR_v, wid, wid64, if_pos, if_neg, Nat.add_zero, if_true, if_false, and_self, and_true, true_and, and_false, false_and, or_true, true_or, or_false, false_or]
            rw [c4 i hi]
            simp only [List.getD_eq_getElem?_getD, List.getElem?_map]
            rw [List.getElem?_eq_getElem hi]
            rfl) o1 o3 o4 16 (if w < 34 then m + 25 else m + 24) 0 (if w < 34 then -1 else 0) true E1 (by omega) (by omega) (by
              by_cases y : w < 34
              · rw [if_pos y]; omega
              · rw [if_neg y]; omega) (scA_refl E1) (by rw [← hE1]; simp -implicitDefEqProofs (disch := omega) only [gi_wi, ↓reduceIte, Int.reduceEq, cI_v, cL_v, cV_v, cR_v, wid, wid64, if_pos, if_neg, Nat.add_zero, if_true, if_false, and_self, and_true, true_and, and_false, false_and, or_true, true_or, or_false, false_or]) (by rw [← hE1]; simp -implicitDefEqProofs (disch := omega) only [gi_wi, bI_t, ↓reduceIte, Int.reduceEq, cI_v, cL_v, cV_v, cR_v, wid, wid64, if_pos, if_neg, Nat.add_zero, if_true, if_false, and_self, and_true, true_and, and_false, false_and, or_true, true_or, or_false, false_or]) (by split <;> omega)
          rw [v1, v2] at a1
          refine ⟨A', ?_, by rw [a2.1 190 7 (by omega) (by omega), ← hE1]; simp -implicitDefEqProofs (disch := omega) only [gi_wi, ↓reduceIte, Int.reduceEq, cI_v, cL_v, cV_v, cR_v, wid, wid64, if_pos, if_neg, Nat.add_zero, if_true, if_false, and_self, and_true, true_and, and_false, false_and, or_true, true_or, or_false, false_or], by rw [a2.1 190 8 (by omega) (by omega), ← hE1]; simp -implicitDefEqProofs (disch := omega) only [gi_wi, ↓reduceIte, Int.reduceEq, cI_v, cL_v, cV_v, cR_v, wid, wid64, if_pos, if_neg, Nat.add_zero, if_true, if_false, and_self, and_true, true_and, and_false, false_and, or_true, true_or, or_false, false_or], by rw [a2.1 190 1 (by omega) (by omega), ← hE1]; simp -implicitDefEqProofs (disch := omega) only [gi_wi, ↓reduceIte, Int.reduceEq, cI_v, cL_v, cV_v, cR_v, wid, wid64, if_pos, if_neg, Nat.add_zero, if_true, if_false, and_self, and_true, true_and, and_false, false_and, or_true, true_or, or_false, false_or]; exact c11, frAM_trans fE (scA_AM a2)⟩
          have e5 : gi (wi C 190 2 (bl T L p : Int)) 190 5 = 0 := k2.1.2.2.1
          have e6 : gi (wi (wi C 190 2 (bl T L p : Int)) 190 7 0) 190 6 = -1 := by rw [gi_wi, if_neg (by omega)]; exact k2.1.2.2.2.2.2.2
          have e7 : gi (wi (wi (wi C 190 2 (bl T L p : Int)) 190 7 0) 190 8 (-1)) 190 5 = 0 := by rw [gi_wi, if_neg (by omega), gi_wi, if_neg (by omega)]; exact e5
          rw [e0, c1, q_X12_ask_104, if_pos c2.2.2.1, k1, cI_v, if_pos (knd0.mp z), q_X12_ask_128, e5, e6, q_X12_ask_144, if_pos e7]
          by_cases y : w < 34
          · rw [if_pos y] at hE1 a1 ⊢
            rw [if_pos y] at a1
            rw [if_pos (by omega), q_X12_ask_168, hE1]
            exact a1
          · rw [if_neg y] at hE1 a1 ⊢
            rw [if_neg y] at a1
            rw [if_neg (by omega), q_X12_ask_168, hE1]
            exact a1
        · rw [if_neg z] at hok ⊢
          refine ⟨fun k s e => ?_, (fun w cs e => by cases e)⟩
          injection e with e; injection e with e1 e2
          have hz : ch T L (bl T L p) ≠ -1 := fun y => z (knd0.mpr y)
          generalize hF : wi (wi (wi C 190 2 (bl T L p : Int)) 190 5 1) 190 6 (bl T L p : Int) = F
          have F5 : gi F 190 5 = 1 := by rw [← hF]; simp -implicitDefEqProofs (disch := omega) only [gi_wi, ↓reduceIte, Int.reduceEq, cI_v, cL_v, cV_v, cR_v, wid, wid64, if_pos, if_neg, Nat.add_zero, if_true, if_false, and_self, and_true, true_and, and_false, false_and, or_true, true_or, or_false, false_or]
          have F6 : gi F 190 6 = bl T L p := by rw [← hF]; simp -implicitDefEqProofs (disch := omega) only [gi_wi, ↓reduceIte, Int.reduceEq, cI_v, cL_v, cV_v, cR_v, wid, wid64, if_pos, if_neg, Nat.add_zero, if_true, if_false, and_self, and_true, true_and, and_false, false_and, or_true, true_or, or_false, false_or]
          have hb : gi F 190 5 ≠ 0 := by rw [F5]; omega
          obtain ⟨y1, y2, y3, y4⟩ := fin F hb (by rw [← hF]; simp -implicitDefEqProofs (disch := omega) only [gi_wi, ↓reduceIte, Int.reduceEq, cI_v, cL_v, cV_v, cR_v, wid, wid64, if_pos, if_neg, Nat.add_zero, if_true, if_false, and_self, and_true, true_and, and_false, false_and, or_true, true_or, or_false, false_or]; exact c11) (by rw [← hF]; exact frAM_wi _ _ (by omega) (frAM_wi _ _ (by omega) fC'))
          refine ⟨_, ?_, by rw [y1, F5]; exact e1, by rw [y2, F6]; exact e2, y3, y4⟩
          rw [e0, c1, q_X12_ask_104, if_pos c2.2.2.1, k1, cI_v, if_neg hz, s_failM (d + 60) _ _ _ k2.1.2.2.1, cV_v, k2.2, hF]
          exact ask_bad d (m + 19) _ vU F hb
    have hok : ∀ G : GR, (if w < 35 then testG T L (factG T L 6) else sumG T L (partG T L true 6)) (stp T L 0) true = G → ∀ w' cs, (match G with
  | .error e => .error e
  | .ok (cs, p, t) => if knd T L p t = 0 then .ok (w, cs) else .error (1, (bl T L p : Int)) : Except (Int × Int) (Nat × List Int)) = .ok (w', cs) → (32 ≤ w' ∧ w' ≤ 37) ∧ cs.length ≤ 1600 ∧ wfL true cs [] ∧ (w' < 35 → wfL true (cs ++ [21]) []) := by
      intro G hG w' cs e
      refine qs_ok tx ?_
      unfold qsG
      rw [← hw, if_neg c, hG]
      exact e
    by_cases z : w < 35
    · rw [if_pos z]
      obtain ⟨s1, s2⟩ := s_qTest (d + 52) tx B b2 g100 g102 g103 g104 (by omega)
      refine core _ ⟨fun k s e => ?_, fun cs p t e => ?_⟩ (hok _ (by rw [if_pos z]))
      · obtain ⟨C, c1, c2, c3, c4, c5⟩ := s1 k s e
        refine ⟨C, fu + 193, by have := fu_ge; omega, ?_, c2, c3, c4, c5⟩
        rw [q_X12_ask_69, b1, cI_v, if_pos b2.2.2.1, if_pos (by omega), c1, cV_v]
        all_goals rfl
      · obtain ⟨C, c1, c2, c3, c4, c5⟩ := s2 cs p t e
        refine ⟨C, fu + 193, by have := fu_ge; omega, ?_, c2, c3, c4, c5⟩
        rw [q_X12_ask_69, b1, cI_v, if_pos b2.2.2.1, if_pos (by omega), c1, cV_v]
        all_goals rfl
    · rw [if_neg z]
      obtain ⟨s1, s2⟩ := s_qSums (d + 54) tx 0 0 0 B b2 g100 g102 g103 (fun h => by omega) (by omega) (by omega)
      refine core _ ⟨fun k s e => ?_, fun cs p t e => ?_⟩ (hok _ (by rw [if_neg z]))
      · obtain ⟨C, c1, c2, c3, c4, c5, _⟩ := s1 k s e
        refine ⟨C, fu + 192, by have := fu_ge; omega, ?_, c2, c3, c4, frV_Jq c5⟩
        rw [q_X12_ask_69, b1, cI_v, if_pos b2.2.2.1, if_neg (by omega), q_X12_ask_93, if_pos b2.2.2.1, c1, cV_v]
        all_goals rfl
      · obtain ⟨C, c1, c2, c3, c4, c5, c6, c7⟩ := s2 cs p t e
        refine ⟨C, fu + 192, by have := fu_ge; omega, ?_, c2, by rw [c3, Nat.zero_add], fun i hi => by have := c4 i hi; rw [Nat.zero_add] at this; exact this, frV_Jq c7⟩
        rw [q_X12_ask_69, b1, cI_v, if_pos b2.2.2.1, if_neg (by omega), q_X12_ask_93, if_pos b2.2.2.1, c1, cV_v]
        all_goals rfl
theorem c_ask (d n : Nat) (hn : n ≤ 2000) (A : AH) (r : REL n A) : CP (d + 62) n 136 290 [] A := by
  have r0 := r
  have g := REL_g r
  have mk := REL_mok r
  obtain ⟨p1, p2, p3, p4, p5, p6, p7, p8, p9, p10, p11, p12, p13⟩ := r
  obtain ⟨t1, t2, t3⟩ := p5
  obtain ⟨L, hL⟩ : ∃ L : Nat, gi A 40 1 = (L : Int) := ⟨(gi A 40 1).toNat, by omega⟩
  have hL2 : L ≤ 1600 := by omega
  obtain ⟨T, hT⟩ : ∃ T : Nat → Int, T = fun j => gi A 41 j := ⟨_, rfl⟩
  have tT : ∀ j, T j = gi A 41 j := fun j => by rw [hT]
  have tx : TX T L := ⟨hL2, fun j hj => by rw [tT]; exact (t3 j hj).2⟩
  have eT : (fun j => gi (wi A 40 1 0) 41 j) = T := by
    rw [hT]; funext j; rw [gi_wi, if_neg (by omega)]
  obtain ⟨td, wd⟩ := p12
  have h48 := p3.1
  have take : runF (d + 61) 144 [vR 20 40 0] A = some (some (vI (L : Int)), wi A 40 1 0) := by
    rw [r_X11_takeTape, q_X11_takeTape_0, q_X11_takeTape_10, hL]
  have hr1 : HR (wi A 40 1 0) (gr A 40 5) (hv A) := HR_fr (A := A) (fun a j z => by rw [gi_wi, if_neg (by omega)]) (fun a j z => rfl) rfl p3
  have told := s_isToldC (d + 60) (gr A 40 5) (wi A 40 1 0) (hv A) hr1
  have g405 : gr (wi A 40 1 0) 40 5 = gr A 40 5 := rfl
  rcases td with ⟨t53, tse⟩ | ⟨t53, tse⟩
  · rw [decide_eq_true (by omega), bI_t] at told
    obtain ⟨B, b1, b2, b3, b4, b5, b6, b7⟩ := s_rbegin (d + 58) (wi A 40 1 0) (L := L) wd.1 (by rw [eT]; exact tx)
    rw [eT] at b2
    obtain ⟨i1, i2⟩ := s_qread (d + 1) tx B b2 b3 b4
    have e0 : ∀ R, (cI (runF (d + 61) 79 [vR 17 186 0] B) fun r7 A6 =>
    if r7 = 0 then
      some (some (vL (-1000000000000000)), A6)
    else
    cL (runF (d + 61) 81 [vR 17 186 0, vR 13 (gr A6 40 5) 0, vR 19 68 0] A6) fun r9 A8 =>
    some (some (vL r9), A8)) = R → runF (d + 62) 136 [vR 20 40 0] A = R := by
      intro R hR
      rw [r_X11_ask, q_X11_ask_0, take, cI_v, g405, if_neg (by omega), told, cI_v, if_neg (by omega), b1, cV_v]
      exact hR
    have gB : ∀ a j, a ≠ 42 → ¬ (a = 40 ∧ j = 1) → gi B a j = gi A a j := fun a j q1 q2 => by rw [b5 a j q1, gi_wi, if_neg q2]
    have B40 : gi B 40 1 = 0 := by rw [b5 40 1 (by omega), gi_wi, if_pos ⟨rfl, rfl⟩]
    have rB : ∀ a j, a ≠ 42 → gr B a j = gr A a j := fun a j q => b6 a j q
    cases hG : qsG T L with
    | error y =>
      obtain ⟨k, s⟩ := y
      obtain ⟨C, c1, c2, c3, c4⟩ := i1 k s hG
      have gC : ∀ a j, a ≠ 42 → a ≠ 44 → a ≠ 45 → ¬ (a = 40 ∧ j = 1) → gi C a j = gi A a j := fun a j q1 q2 q3 q4 => by rw [c4.1 a j q1 q2 q3]; exact gB a j q1 q4
      have runC : runF (d + 62) 136 [vR 20 40 0] A = some (some (vL (-1000000000000000)), C) := e0 _ (by rw [c1, cI_v, if_pos rfl])
      obtain ⟨u1, _⟩ := s_askM d tx C (by rw [gC 190 53 (by omega) (by omega) (by omega) (by omega), t53]; omega) (by rw [gC 190 1 (by omega) (by omega) (by omega) (by omega), t1]; exact hL) (fun j hj => by rw [gC 191 j (by omega) (by omega) (by omega) (by omega), tT]; exact (t3 j hj).1) (WC_fr (A := A) (fun a j q => gC a j (by omega) (by omega) (by omega) (by omega)) wd.2)
      obtain ⟨E, x1, x2, x3, x4, x5⟩ := u1 k s hG
      refine ⟨vL (-1000000000000000), C, E, runC, x1, REL_ask r0 (fun a j q => ?_) (fun a j q1 q2 q3 => ?_) ?_ x4 ?_ ?_⟩
      · have w0 : ¬ xq0 a j := fun y => q (Or.inl y)
        have ws : ¬ scr a j := fun y => q (Or.inr y)
        unfold xq0 at w0
        unfold scr at ws
        rw [x5.1 a j (by omega) (by omega) (by omega) (by omega)]
        exact gC a j (by omega) (by omega) (by omega) (by omega)
      · rw [x5.2.1, c4.2.1 a j q1 q3]; exact rB a j q1
      · rw [x5.2.2, c4.2.2, b7]; rfl
      · rw [x5.1 40 1 (by omega) (by omega) (by omega) (by omega), c4.1 40 1 (by omega) (by omega) (by omega)]; exact B40
      · rw [x2, x3, x5.1 42 11 (by omega) (by omega) (by omega) (by omega), x5.1 42 12 (by omega) (by omega) (by omega) (by omega)]
        exact ⟨c2.symm, c3.symm⟩
    | ok y =>
      obtain ⟨w, cs⟩ := y
      obtain ⟨o1, o2, o3, o4⟩ := qs_ok tx hG
      obtain ⟨C, c1, c2, c3, c4, c5, c6, c7⟩ := i2 w cs hG
      have gC : ∀ a j, a ≠ 42 → a ≠ 44 → a ≠ 45 → ¬ (a = 40 ∧ j = 1) → gi C a j = gi A a j := fun a j q1 q2 q3 q4 => by rw [c7.1 a j q1 q2 q3]; exact gB a j q1 q4
      have rC : ∀ a j, a ≠ 42 → a ≠ 186 → gr C a j = gr A a j := fun a j q1 q2 => by rw [c7.2.1 a j q1 q2]; exact rB a j q1
      have lC : C.2.2 = A.2.2 := by rw [c7.2.2, b7]; rfl
      have hrC : HR C (gr A 40 5) (hv A) := HR_fr (fun a j z => gC a j (by omega) (by omega) (by omega) (by omega)) (fun a j z => rC a j (by omega) (by omega)) lC p3
      have srC : SR C 68 (hv A) (nv A) := SR_fr (fun a j z1 z2 => gC a j (by omega) (by omega) (by omega) (by omega)) p2.1
      obtain ⟨F, f1, f2⟩ := s_answerC (d + 55) w cs C hrC srC g ⟨p2.2.2.2.2.1.1, p2.2.2.2.2.1.2⟩ o1 o2 o3 c4 c5 c6
      have runC : runF (d + 62) 136 [vR 20 40 0] A = some (some (vL (ansG (qvF (hv A) (nv A) cs) (sit (hv A) (nv A)) w 16 0 (if w < 34 then -1 else 0) true)), F) := e0 _ (by rw [c1, cI_v, if_neg (by omega), rC 40 5 (by omega) (by omega), f1, cL_v])
      have gF : ∀ a j, ¬ scr a j → a ≠ 42 → a ≠ 44 → a ≠ 45 → ¬ (a = 40 ∧ j = 1) → gi F a j = gi A a j := fun a j q0 q1 q2 q3 q4 => by rw [f2.1 a j q0]; exact gC a j q1 q2 q3 q4
      have sn : ∀ a j, a = 190 ∧ (j = 53 ∨ j = 1 ∨ j = 65) ∨ (191 ≤ a ∧ a ≤ 233) ∨ (244 ≤ a ∧ a ≤ 266) ∨ a = 237 → ¬ scr a j := fun a j q => by unfold scr; omega
      have eh : hv F = hv A := hv_ex (fun a j q => by have := hz_qx q; exact gF a j (sn a j (by omega)) (by omega) (by omega) (by omega) (by omega))
      have en : nv F = nv A := by funext j; exact gF 237 j (sn _ _ (by omega)) (by omega) (by omega) (by omega) (by omega)
      obtain ⟨_, u2⟩ := s_askM d tx F (by rw [gF 190 53 (sn _ _ (by omega)) (by omega) (by omega) (by omega) (by omega), t53]; omega) (by rw [gF 190 1 (sn _ _ (by omega)) (by omega) (by omega) (by omega) (by omega), t1]; exact hL) (fun j hj => by rw [gF 191 j (sn _ _ (by omega)) (by omega) (by omega) (by omega) (by omega), tT]; exact (t3 j hj).1) (WC_fr (A := A) (fun a j q => gF a j (sn _ _ (by omega)) (by omega) (by omega) (by omega) (by omega)) wd.2)
      have mkF : mok F := by
        unfold mok at mk ⊢
        rw [eh, en]; exact mk
      obtain ⟨E, x1, x2, x3, x4, x5⟩ := u2 w cs hG mkF (by rw [gF 190 65 (sn _ _ (by omega)) (by omega) (by omega) (by omega) (by omega)]; exact p4) (by rw [eh, en]; exact g.2.2.2.1.2.2)
      rw [eh, en] at x1
      refine ⟨_, F, E, runC, x1, REL_ask r0 (fun a j q => ?_) (fun a j q1 q2 q3 => ?_) ?_ x4 ?_ ?_⟩
      · have w0 : ¬ xq0 a j := fun y => q (Or.inl y)
        have ws : ¬ scr a j := fun y => q (Or.inr y)
        have ws' := ws
        unfold xq0 at w0
        unfold scr at ws'
        rw [x5.1 a j (by omega) (by omega) (by omega) (by omega)]
        exact gF a j ws (by omega) (by omega) (by omega) (by omega)
      · rw [x5.2.1, f2.2.1 a j q2]; exact rC a j q1 q3
      · rw [x5.2.2, f2.2.2]; exact lC
      · rw [x5.1 40 1 (by omega) (by omega) (by omega) (by omega), f2.1 40 1 (by unfold scr; omega), c7.1 40 1 (by omega) (by omega) (by omega)]; exact B40
      · rw [x2, x3, x5.1 42 11 (by omega) (by omega) (by omega) (by omega), x5.1 42 12 (by omega) (by omega) (by omega) (by omega), f2.1 42 11 (by unfold scr; omega), f2.1 42 12 (by unfold scr; omega), c2, c3]
        exact ⟨rfl, rfl⟩
  · rw [decide_eq_false (by omega), bI_f] at told
    have runC : runF (d + 62) 136 [vR 20 40 0] A = some (some (vL (-1000000000000000)), wi A 40 1 0) := by
      rw [r_X11_ask, q_X11_ask_0, take, cI_v, g405, if_neg (by omega), told, cI_v, if_pos rfl]
    have runM : runF (d + 62) 290 [vR 21 190 0] (wi A 40 1 0) = some (some (vL (-1000000000000000)), wi (wi A 40 1 0) 190 1 0) := by
      have e53 : gi (wi A 40 1 0) 190 53 = gi A 190 53 := by simp -implicitDefEqProofs (disch := omega) only [gi_wi, ↓reduceIte, Int.reduceEq, cI_v, cL_v, cV_v, cR_v, wid, wid64, if_pos, if_neg, Nat.add_zero, if_true, if_false, and_self, and_true, true_and, and_false, false_and, or_true, true_or, or_false, false_or]
      rw [r_X12_ask, q_X12_ask_0, e53, if_pos t53, q_X12_ask_12]
    refine ⟨_, _, _, runC, runM, REL_ask r0 (fun a j q => ?_) (fun a j _ _ _ => rfl) rfl (by simp -implicitDefEqProofs (disch := omega) only [gi_wi, ↓reduceIte, Int.reduceEq, cI_v, cL_v, cV_v, cR_v, wid, wid64, if_pos, if_neg, Nat.add_zero, if_true, if_false, and_self, and_true, true_and, and_false, false_and, or_true, true_or, or_false, false_or]) (by simp -implicitDefEqProofs (disch := omega) only [gi_wi, ↓reduceIte, Int.reduceEq, cI_v, cL_v, cV_v, cR_v, wid, wid64, if_pos, if_neg, Nat.add_zero, if_true, if_false, and_self, and_true, true_and, and_false, false_and, or_true, true_or, or_false, false_or]) (by simp -implicitDefEqProofs (disch := omega) only [gi_wi, ↓reduceIte, Int.reduceEq, cI_v, cL_v, cV_v, cR_v, wid, wid64, if_pos, if_neg, Nat.add_zero, if_true, if_false, and_self, and_true, true_and, and_false, false_and, or_true, true_or, or_false, false_or]; exact p6)⟩
    have w0 : ¬ xq0 a j := fun y => q (Or.inl y)
    unfold xq0 at w0
    rw [gi_wi, if_neg (by omega), gi_wi, if_neg (by omega)]
