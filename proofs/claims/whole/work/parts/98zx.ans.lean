/-! a question answered, on both sides -/
noncomputable def qvF (H : Nat → Nat → Int) (row : Nat → Int) (cs : List Int) (x : Int) : Int := headF (evL (fctF H row (row 0) (row 2) (-1) x) (besB H row x) cs [])
noncomputable def qjF (w : Nat) (f v x : Int) (nb : Bool) : Int := if w = 32 then (if v ≠ 0 ∧ f = -1 then x else f) else if w = 33 then (if v ≠ 0 then x else f) else if w = 36 then (if nb = true then v else max f v) else if w = 37 then (if nb = true then v else min f v) else f + v
noncomputable def ansG (V : Int → Int) (S : Int → Bool) (w : Nat) : Nat → Int → Int → Bool → Int
  | 0, _, f, _ => f
  | m + 1, k, f, nb => if S k = true then ansG V S w m (k + 1) (qjF w f (V k) k nb) false else ansG V S w m (k + 1) f nb
theorem qj_bd {w : Nat} {f v x k : Int} {nb : Bool} (h0 : 0 ≤ k) (hf : -(1000000 * k) - 16 ≤ f ∧ f ≤ 1000000 * k + 16) (hv : -1000000 ≤ v ∧ v ≤ 1000000) (hx : 0 ≤ x ∧ x ≤ 15) : -(1000000 * (k + 1)) - 16 ≤ qjF w f v x nb ∧ qjF w f v x nb ≤ 1000000 * (k + 1) + 16 := by
  unfold qjF
  by_cases c1 : w = 32
  · rw [if_pos c1]
    by_cases z : v ≠ 0 ∧ f = -1
    · rw [if_pos z]; omega
    · rw [if_neg z]; omega
  · rw [if_neg c1]
    by_cases c2 : w = 33
    · rw [if_pos c2]
      by_cases z : v ≠ 0
      · rw [if_pos z]; omega
      · rw [if_neg z]; omega
    · rw [if_neg c2]
      by_cases c3 : w = 36
      · rw [if_pos c3]
        by_cases z : nb = true
        · rw [if_pos z]; omega
        · rw [if_neg z]; omega
      · rw [if_neg c3]
        by_cases c4 : w = 37
        · rw [if_pos c4]
          by_cases z : nb = true
          · rw [if_pos z]; omega
          · rw [if_neg z]; omega
        · rw [if_neg c4]; omega
set_option maxRecDepth 100000 in
theorem s_runQ (d : Nat) (x : Int) (cs : List Int) (A : AH) {h s : Nat} {H : Nat → Nat → Int} {row : Nat → Int} {m a q : Int} (b : BS A h s H row m a q) (g : gok H row) (hx : sit H row x = true) (ha1 : -1 ≤ a) (ha2 : a < nPo H) (hm1 : 0 ≤ m) (hm2 : m ≤ 2000) (hf : ∀ i : Int, 0 ≤ i → i < 10 → gi A 181 i.toNat = fctF H row m a q x i) (h45 : ∀ i, i < cs.length → gi A 45 i = clsC (cs.getD i 0)) (hL : cs.length ≤ 1600) (hw : wfL true cs []) : ∃ A', runF (d + 4) 11 [vR 10 180 0, vR 30 45 1600, vI ((cs.length : Nat) : Int)] A = some (some (vI (headF (evL (fctF H row m a q x) (besB H row x) cs []))), A') ∧ frC A A' := by
  have g' := g
  obtain ⟨hc, hh, hs, hr, hd⟩ := g'
  have hn := sit_num hc hx
  have fb : ∀ i, 0 ≤ i → i < 10 → -1000000 ≤ fctF H row m a q x i ∧ fctF H row m a q x i ≤ 1000000 := fun i _ _ => fct_bd hc hh hr hm1 hm2 ha1 ha2 hn i
  have hcc : ∀ i : Nat, i < cs.length → (fun k : Int => clsC (cs.getD k.toNat 0)) (0 + (i : Int)) = clsC (cs.getD i 0) := fun i hi => by
    show clsC (cs.getD ((0 : Int) + (i : Int)).toNat 0) = _
    rw [show ((0 : Int) + (i : Int)).toNat = i by omega]
  obtain ⟨A', e1, e2⟩ := l_run (d + 1) 45 1600 (Or.inr rfl) (fctF H row m a q x) (besB H row x) fb (fun k => clsC (cs.getD k.toNat 0)) ((cs.length : Nat) : Int) (wi A 180 11 0) (by omega) (by omega) (fun k k1 k2 => by simp -implicitDefEqProofs (disch := omega) only [gi_wi, ↓reduceIte, Int.reduceEq, cI_v, cL_v, cV_v, cR_v, wid, wid64, if_pos, if_neg, Nat.add_zero, if_true, if_false, and_self, and_true, true_and, and_false, false_and, or_true, true_or, or_false, false_or]; exact h45 k.toNat (by omega)) (fun i i1 i2 => by simp -implicitDefEqProofs (disch := omega) only [gi_wi, ↓reduceIte, Int.reduceEq, cI_v, cL_v, cV_v, cR_v, wid, wid64, if_pos, if_neg, Nat.add_zero, if_true, if_false, and_self, and_true, true_and, and_false, false_and, or_true, true_or, or_false, false_or]; exact hf i i1 i2) (fun C y f => isBeside_C (d + 1) y C (BS_fr (frC_frB (frC_trans (frC_wi (a := 180) (k := 11) 0 (by omega) (frC_refl A)) f)) b) g hx (by rw [f.1 181 6 (by omega) (by omega)]; simp -implicitDefEqProofs (disch := omega) only [gi_wi, ↓reduceIte, Int.reduceEq, cI_v, cL_v, cV_v, cR_v, wid, wid64, if_pos, if_neg, Nat.add_zero, if_true, if_false, and_self, and_true, true_and, and_false, false_and, or_true, true_or, or_false, false_or]; exact hf 6 (by omega) (by omega))) cs.length (fu + 199) 0 [] [] (wi A 180 11 0) vU vU (by omega) (by omega) (wfL_s cs _ 0 [] hcc hw) trivial trivial (by simp -implicitDefEqProofs (disch := omega) only [gi_wi, ↓reduceIte, Int.reduceEq, cI_v, cL_v, cV_v, cR_v, wid, wid64, if_pos, if_neg, Nat.add_zero, if_true, if_false, and_self, and_true, true_and, and_false, false_and, or_true, true_or, or_false, false_or]; rfl) (by simp) (frC_refl _) (by have := fu_ge; omega)
  refine ⟨A', ?_, frC_trans (frC_wi (a := 180) (k := 11) 0 (by omega) (frC_refl A)) e2⟩
  rw [evL_C (F := fctF H row m a q x) (B := besB H row x) (c := fun k => clsC (cs.getD k.toNat 0)) cs 0 [] hcc] at e1
  rw [r_X0_run, q_X0_run_0 _ _ _ _ _ _ _ (by omega)]
  exact e1
set_option maxRecDepth 100000 in
theorem s_joinC (d : Nat) (w : Nat) (f v x : Int) (A : AH) (h3 : gr A 186 3 = w) (hw : 32 ≤ w ∧ w ≤ 37) (hf : -20000000 ≤ f ∧ f ≤ 20000000) (hv : -1000000 ≤ v ∧ v ≤ 1000000) : runF (d + 2) 82 [vR 17 186 0, vL f, vI v, vI x] A = some (some (vL (qjF w f v x false)), A) := by
  have le : (lcp f (-1) = 0) ↔ f = -1 := Iff.of_eq (lcp_eq _ _)
  rw [r_X7_join, q_X7_join_0, h3]
  unfold qjF
  have hw' : w = 32 ∨ w = 33 ∨ w = 36 ∨ w = 37 ∨ (w ≠ 32 ∧ w ≠ 33 ∧ w ≠ 36 ∧ w ≠ 37) := by omega
  rcases hw' with z | z | z | z | z
  · rw [if_pos z, if_pos z]
    by_cases y : v = 0
    · rw [if_pos y, q_X7_join_28, if_neg (fun q => q.1 y)]
    · rw [if_neg y]
      by_cases y2 : f = -1
      · rw [if_pos (le.mpr y2), if_pos ⟨y, y2⟩]
      · rw [if_neg (fun q => y2 (le.mp q)), q_X7_join_28, if_neg (fun q => y2 q.2)]
  · have n32 : ¬ w = 32 := by omega
    rw [if_neg n32, if_neg n32, if_pos z, if_pos z]
    by_cases y : v = 0
    · rw [if_pos y, if_neg (fun q => q y)]
    · rw [if_neg y, if_pos y]
  · have n32 : ¬ w = 32 := by omega
    have n33 : ¬ w = 33 := by omega
    rw [if_neg n32, if_neg n32, if_neg n33, if_neg n33, if_pos z, if_pos z, s_maxL, cL_v, if_neg (show ¬ (false = true) by simp)]
  · have n32 : ¬ w = 32 := by omega
    have n33 : ¬ w = 33 := by omega
    have n36 : ¬ w = 36 := by omega
    rw [if_neg n32, if_neg n32, if_neg n33, if_neg n33, if_neg n36, if_neg n36, if_pos z, if_pos z, s_minL, cL_v, if_neg (show ¬ (false = true) by simp)]
  · rw [if_neg z.1, if_neg z.1, if_neg z.2.1, if_neg z.2.1, if_neg z.2.2.1, if_neg z.2.2.1, if_neg z.2.2.2, if_neg z.2.2.2, q_X7_join_86, wid64 (by omega) (by omega)]
set_option maxRecDepth 100000 in
theorem l_ansC (d : Nat) (w : Nat) (cs : List Int) {h : Nat} {H : Nat → Nat → Int} {row : Nat → Int} (h0 : h ≠ 0) (g : gok H row) (hm : 0 ≤ row 0 ∧ row 0 ≤ 999) (hw : 32 ≤ w ∧ w ≤ 37) (hL : cs.length ≤ 1600) (hwf : wfL true cs []) : ∀ (m n : Nat) (k f : Int) (nb : Bool) (A : AH) (u7 : AV), 0 ≤ k → k + m = 16 → (-(1000000 * k) - 16 ≤ f ∧ f ≤ 1000000 * k + 16) → BS A h 68 H row (row 0) (row 2) (-1) → gr A 186 3 = w → gi A 44 4 = ((cs.length : Nat) : Int) → (∀ i, i < cs.length → gi A 45 i = clsC (cs.getD i 0)) → 10 * m + 10 ≤ n → ∃ A', go true 1 (runF (d + 5)) (runN (d + 5)) pb_X7_answer n 43 [vR 17 186 0, vR 13 h 0, vR 19 68 0, vL f, vS, vI (bI nb), vI k, u7] [] A = some (some (vL (ansG (qvF H row cs) (sit H row) w m k f nb)), A') ∧ frB A A' := by
  intro m
  have ha := g.2.2.2.1.2.2
  induction m with
  | zero =>
    intro n k f nb A u7 k0 k1 hf b h3 h44 h45 hn
    obtain ⟨n, rfl⟩ : ∃ e, n = e + 10 := ⟨n - 10, by omega⟩
    refine ⟨A, ?_, frB_refl A⟩
    rw [q_X7_answer_43 _ _ _ _ _ _ _ _ _ _ h0 (by omega), if_neg (by omega)]
    rfl
  | succ m ih =>
    intro n k f nb A u7 k0 k1 hf b h3 h44 h45 hn
    obtain ⟨n, rfl⟩ : ∃ e, n = e + 10 := ⟨n - 10, by omega⟩
    have nx : ∀ (A1 : AH) (e : Nat) (f1 x5 : Int) (u : AV), go true 1 (runF (d + 5)) (runN (d + 5)) pb_X7_answer (e + 1) 135 [vR 17 186 0, vR 13 h 0, vR 19 68 0, vL f1, vS, vI x5, vI k, u] [] A1 = go true 1 (runF (d + 5)) (runN (d + 5)) pb_X7_answer e 43 [vR 17 186 0, vR 13 h 0, vR 19 68 0, vL f1, vS, vI x5, vI (k + 1), u] [] A1 := fun A1 e f1 x5 u => by
      rw [q_X7_answer_135 _ _ _ _ _ _ _ _ _ _ h0 (by omega), wid (by omega) (by omega)]
      all_goals rfl
    unfold ansG
    by_cases c : sit H row k = true
    · rw [if_pos c]
      obtain ⟨A3, u1, u2, u3⟩ := s_regard (d + 2) k A b g c ha.1 ha.2
      have b3 := BS_fr u3 b
      have e44 : gi A3 44 4 = ((cs.length : Nat) : Int) := (u3.1 44 4 (by omega) (by omega) (by omega)).trans h44
      obtain ⟨A4, v1, v2⟩ := s_runQ (d + 1) k cs A3 b3 g c ha.1 ha.2 hm.1 (by omega) u2 (fun i hi => (u3.1 45 i (by omega) (by omega) (by omega)).trans (h45 i hi)) hL hwf
      have fb4 : frB A A4 := frB_trans u3 (frC_frB v2)
      have g4 : gr A4 186 3 = w := (fb4.2.1 186 3).trans h3
      have hn' := sit_num g.1 c
      have vb : -1000000 ≤ qvF H row cs k ∧ qvF H row cs k ≤ 1000000 := evL_bd (fun i _ _ => fct_bd g.1 g.2.1 g.2.2.2.1 hm.1 (by omega) ha.1 ha.2 hn' i) hwf
      have ev : headF (evL (fctF H row (row 0) (row 2) (-1) k) (besB H row k) cs []) = qvF H row cs k := rfl
      rw [ev] at v1
      have pre : ∀ R, (if bI nb = 0 then
        go true 1 (runF (d + 5)) (runN (d + 5)) pb_X7_answer (n + 9) 122 [vR 17 186 0, vR 13 h 0, vR 19 68 0, vL f, vS, vI (bI nb), vI k, vI (qvF H row cs k)] [] A4
      else
      if w = 36 then
        go true 1 (runF (d + 5)) (runN (d + 5)) pb_X7_answer (n + 9) 116 [vR 17 186 0, vR 13 h 0, vR 19 68 0, vL f, vS, vI (bI nb), vI k, vI (qvF H row cs k)] [] A4
      else
      if w = 37 then
        go true 1 (runF (d + 5)) (runN (d + 5)) pb_X7_answer (n + 9) 116 [vR 17 186 0, vR 13 h 0, vR 19 68 0, vL f, vS, vI (bI nb), vI k, vI (qvF H row cs k)] [] A4
      else
      go true 1 (runF (d + 5)) (runN (d + 5)) pb_X7_answer (n + 9) 122 [vR 17 186 0, vR 13 h 0, vR 19 68 0, vL f, vS, vI (bI nb), vI k, vI (qvF H row cs k)] [] A4) = R → go true 1 (runF (d + 5)) (runN (d + 5)) pb_X7_answer (n + 10) 43 [vR 17 186 0, vR 13 h 0, vR 19 68 0, vL f, vS, vI (bI nb), vI k, u7] [] A = R := by
        intro R hR
        rw [q_X7_answer_43 _ _ _ _ _ _ _ _ _ _ h0 (by omega), if_pos (by omega), s_isThere (d + 4) 68 k A H row g.1 g.2.2.2.2 b.2.2.2.1, cI_v, c, bI_t, if_neg (by omega), u1, cV_v, e44, v1, cI_v, g4]
        exact hR
      obtain ⟨A', e1, e2⟩ := ih (n + 6) (k + 1) (qjF w f (qvF H row cs k) k nb) false A4 (vI (qvF H row cs k)) (by omega) (by omega) (qj_bd k0 hf vb ⟨by omega, by omega⟩) (BS_fr fb4 b) g4 ((fb4.1 44 4 (by omega) (by omega) (by omega)).trans h44) (fun i hi => (fb4.1 45 i (by omega) (by omega) (by omega)).trans (h45 i hi)) (by omega)
      refine ⟨A', pre _ ?_, frB_trans fb4 e2⟩
      rw [bI_f] at e1
      have j122 : qjF w f (qvF H row cs k) k nb = qjF w f (qvF H row cs k) k false → go true 1 (runF (d + 5)) (runN (d + 5)) pb_X7_answer (n + 9) 122 [vR 17 186 0, vR 13 h 0, vR 19 68 0, vL f, vS, vI (bI nb), vI k, vI (qvF H row cs k)] [] A4 = some (some (vL (ansG (qvF H row cs) (sit H row) w m (k + 1) (qjF w f (qvF H row cs k) k nb) false)), A') := fun q => by
        rw [q_X7_answer_122 _ _ _ _ _ _ _ _ _ _ h0 (by omega), s_joinC (d + 3) w f _ k A4 g4 hw (by omega) vb, cL_v, ← q, q_X7_answer_131 _ _ _ _ _ _ _ _ _ _ _ h0 (by omega), nx]
        exact e1
      have j116 : qjF w f (qvF H row cs k) k nb = qvF H row cs k → go true 1 (runF (d + 5)) (runN (d + 5)) pb_X7_answer (n + 9) 116 [vR 17 186 0, vR 13 h 0, vR 19 68 0, vL f, vS, vI (bI nb), vI k, vI (qvF H row cs k)] [] A4 = some (some (vL (ansG (qvF H row cs) (sit H row) w m (k + 1) (qjF w f (qvF H row cs k) k nb) false)), A') := fun q => by
        rw [q_X7_answer_116 _ _ _ _ _ _ _ _ _ _ h0 (by omega), q_X7_answer_131 _ _ _ _ _ _ _ _ _ _ _ h0 (by omega), nx]
        rw [q] at e1 ⊢
        exact e1
      cases nb with
      | false => rw [bI_f, if_pos rfl]; exact j122 rfl
      | true =>
        rw [bI_t, if_neg (by omega)]
        by_cases z : w = 36
        · rw [if_pos z]
          refine j116 ?_
          unfold qjF
          rw [if_neg (by omega), if_neg (by omega), if_pos z, if_pos rfl]
        · rw [if_neg z]
          by_cases z2 : w = 37
          · rw [if_pos z2]
            refine j116 ?_
            unfold qjF
            rw [if_neg (by omega), if_neg (by omega), if_neg z, if_pos z2, if_pos rfl]
          · rw [if_neg z2]
            refine j122 ?_
            unfold qjF
            rw [if_neg z, if_neg z2, if_neg z, if_neg z2]
    · rw [if_neg c]
      have c' : sit H row k = false := by simpa using c
      obtain ⟨A', e1, e2⟩ := ih (n + 8) (k + 1) f nb A u7 (by omega) (by omega) (by omega) b h3 h44 h45 (by omega)
      refine ⟨A', ?_, e2⟩
      rw [q_X7_answer_43 _ _ _ _ _ _ _ _ _ _ h0 (by omega), if_pos (by omega), s_isThere (d + 4) 68 k A H row g.1 g.2.2.2.2 b.2.2.2.1, cI_v, c', bI_f, if_pos rfl, nx]
      exact e1
set_option maxRecDepth 100000 in
theorem s_answerC (d : Nat) (w : Nat) (cs : List Int) (A : AH) {h : Nat} {H : Nat → Nat → Int} {row : Nat → Int} (b6 : HR A h H) (b7 : SR A 68 H row) (g : gok H row) (hm : 0 ≤ row 0 ∧ row 0 ≤ 999) (hw : 32 ≤ w ∧ w ≤ 37) (hL : cs.length ≤ 1600) (hwf : wfL true cs []) (h3 : gr A 186 3 = w) (h44 : gi A 44 4 = ((cs.length : Nat) : Int)) (h45 : ∀ i, i < cs.length → gi A 45 i = clsC (cs.getD i 0)) : ∃ A', runF (d + 6) 81 [vR 17 186 0, vR 13 h 0, vR 19 68 0] A = some (some (vL (ansG (qvF H row cs) (sit H row) w 16 0 (if w < 34 then -1 else 0) true)), A') ∧ sc A A' := by
  have h0 : h ≠ 0 := by have := b6.1; omega
  obtain ⟨A1, e1, e2, e3⟩ := s_look (d + 3) h 68 A b6 b7 (by omega)
  obtain ⟨A', a1, a2⟩ := l_ansC d w cs h0 g hm hw hL hwf 16 (fu + 197) 0 (if w < 34 then -1 else 0) true A1 vU (by omega) (by omega) (by
    by_cases z : w < 34
    · rw [if_pos z]; omega
    · rw [if_neg z]; omega) e2.1 ((e3.2.1 186 3 (by omega)).trans h3) ((e3.1 44 4 (by omega)).trans h44) (fun i hi => (e3.1 45 i (by omega)).trans (h45 i hi)) (by have := fu_ge; omega)
  refine ⟨A', ?_, sc_trans (frL_sc e3) (frB_sc a2)⟩
  rw [bI_t] at a1
  rw [r_X7_answer, q_X7_answer_0 _ _ _ _ _ _ h0 (by omega), h3]
  by_cases z1 : w = 32
  · rw [if_pos (show w < 34 by omega)] at a1 ⊢
    rw [if_pos z1, q_X7_answer_20 _ _ _ _ _ _ _ _ _ _ _ h0 (by omega), q_X7_answer_27 _ _ _ _ _ _ _ _ _ _ _ _ h0 (by omega), e1, cV_v]
    exact a1
  · rw [if_neg z1]
    by_cases z2 : w = 33
    · rw [if_pos (show w < 34 by omega)] at a1 ⊢
      rw [if_pos z2, q_X7_answer_20 _ _ _ _ _ _ _ _ _ _ _ h0 (by omega), q_X7_answer_27 _ _ _ _ _ _ _ _ _ _ _ _ h0 (by omega), e1, cV_v]
      exact a1
    · rw [if_neg (show ¬ w < 34 by omega)] at a1 ⊢
      rw [if_neg z2, q_X7_answer_27 _ _ _ _ _ _ _ _ _ _ _ _ h0 (by omega), e1, cV_v]
      exact a1
def scA (A B : AH) : Prop := (∀ a j, ¬ (a = 190 ∧ (j = 106 ∨ j = 107 ∨ j = 108)) → a ≠ 269 → gi B a j = gi A a j) ∧ (∀ a j, gr B a j = gr A a j) ∧ B.2.2 = A.2.2
theorem scA_refl (A : AH) : scA A A := ⟨fun _ _ _ _ => rfl, fun _ _ => rfl, rfl⟩
theorem scA_trans {A B C : AH} (f : scA A B) (g : scA B C) : scA A C := ⟨fun a j h1 h2 => (g.1 a j h1 h2).trans (f.1 a j h1 h2), fun a j => (g.2.1 a j).trans (f.2.1 a j), g.2.2.trans f.2.2⟩
theorem scA_sc {A B : AH} (f : scA A B) : sc A B := ⟨fun a j h => f.1 a j (fun y => h (by unfold scr; omega)) (fun y => h (by unfold scr; omega)), fun a j _ => f.2.1 a j, f.2.2⟩
theorem scq_A {A B : AH} (f : scq A B) : scA A B := ⟨fun a j h1 h2 => f.1 a j (by omega) h2, f.2.1, f.2.2⟩
set_option maxRecDepth 100000 in
theorem s_qTakes (d : Nat) (w : Nat) (f v x : Int) (nb : Bool) (A : AH) (h107 : gi A 190 107 = f) (h108 : gi A 190 108 = bI nb) (hw : 32 ≤ w ∧ w ≤ 37) (hf : -20000000 ≤ f ∧ f ≤ 20000000) (hv : -1000000 ≤ v ∧ v ≤ 1000000) (h01 : w < 35 → v = 0 ∨ v = 1) : runF (d + 1) 289 [vR 21 190 0, vI ((w : Int) - 32), vL v, vI x] A = some (none, wi (wi A 190 107 (qjF w f v x nb)) 190 108 0) := by
  have ef : wi A 190 107 f = A := by rw [← h107]; exact wi_id A 190 107
  have le1 : (lcp v 1 = 0) ↔ v = 1 := Iff.of_eq (lcp_eq _ _)
  have le2 : (lcp f (-1) = 0) ↔ f = -1 := Iff.of_eq (lcp_eq _ _)
  have lg : (0 < lcp v f) ↔ f < v := Iff.of_eq (lcp_gt _ _)
  have ll : (lcp v f < 0) ↔ v < f := Iff.of_eq (lcp_lt _ _)
  rw [r_X12_qTakes]
  have hw' : w = 32 ∨ w = 33 ∨ w = 34 ∨ w = 35 ∨ w = 36 ∨ w = 37 := by omega
  rcases hw' with z | z | z | z | z | z
  · rw [show (w : Int) - 32 = 0 by omega]
    unfold qjF
    rw [if_pos z]
    rcases h01 (by omega) with y | y
    · rw [if_neg (fun q => q.1 y), ef, q_X12_qTakes_0, if_pos (by omega), if_neg (fun q => by have := le1.mp q; omega), q_X12_qTakes_15, q_X12_qTakes_16, if_pos rfl, if_pos rfl, q_X12_qTakes_38, if_neg (by omega), q_X12_qTakes_55, if_neg (by omega), q_X12_qTakes_75, if_neg (by omega), q_X12_qTakes_90, if_neg (by omega), q_X12_qTakes_133]
    · rw [q_X12_qTakes_0, if_pos (by omega), if_pos (le1.mpr y), q_X12_qTakes_16, if_pos rfl, if_neg (by omega), h107]
      by_cases y2 : f = -1
      · rw [if_pos (le2.mpr y2), if_pos ⟨by omega, y2⟩, q_X12_qTakes_48, q_X12_qTakes_55, if_neg (by omega), q_X12_qTakes_75, if_neg (by omega), q_X12_qTakes_90, if_neg (by omega), q_X12_qTakes_133]
      · rw [if_neg (fun q => y2 (le2.mp q)), if_neg (fun q => y2 q.2), ef, q_X12_qTakes_38, if_neg (by omega), q_X12_qTakes_55, if_neg (by omega), q_X12_qTakes_75, if_neg (by omega), q_X12_qTakes_90, if_neg (by omega), q_X12_qTakes_133]
  · rw [show (w : Int) - 32 = 1 by omega]
    unfold qjF
    rw [if_neg (by omega), if_pos z]
    rcases h01 (by omega) with y | y
    · rw [if_neg (fun q => q y), ef, q_X12_qTakes_0, if_pos (by omega), if_neg (fun q => by have := le1.mp q; omega), q_X12_qTakes_15, q_X12_qTakes_16, if_neg (by omega), q_X12_qTakes_38, if_pos rfl, if_pos rfl, q_X12_qTakes_55, if_neg (by omega), q_X12_qTakes_75, if_neg (by omega), q_X12_qTakes_90, if_neg (by omega), q_X12_qTakes_133]
    · rw [if_pos (show v ≠ 0 by omega), q_X12_qTakes_0, if_pos (by omega), if_pos (le1.mpr y), q_X12_qTakes_16, if_neg (by omega), q_X12_qTakes_38, if_pos rfl, if_neg (by omega), q_X12_qTakes_48, q_X12_qTakes_55, if_neg (by omega), q_X12_qTakes_75, if_neg (by omega), q_X12_qTakes_90, if_neg (by omega), q_X12_qTakes_133]
  · rw [show (w : Int) - 32 = 2 by omega]
    unfold qjF
    rw [if_neg (by omega), if_neg (by omega), if_neg (by omega), if_neg (by omega)]
    rcases h01 (by omega) with y | y
    · rw [show f + v = f by omega, ef, q_X12_qTakes_0, if_pos (by omega), if_neg (fun q => by have := le1.mp q; omega), q_X12_qTakes_15, q_X12_qTakes_16, if_neg (by omega), q_X12_qTakes_38, if_neg (by omega), q_X12_qTakes_55, if_pos rfl, if_pos rfl, q_X12_qTakes_75, if_neg (by omega), q_X12_qTakes_90, if_neg (by omega), q_X12_qTakes_133]
    · rw [q_X12_qTakes_0, if_pos (by omega), if_pos (le1.mpr y), q_X12_qTakes_16, if_neg (by omega), q_X12_qTakes_38, if_neg (by omega), q_X12_qTakes_55, if_pos rfl, if_neg (by omega), h107, wid64 (by omega) (by omega), show f + v = f + 1 by omega, q_X12_qTakes_75, if_neg (by omega), q_X12_qTakes_90, if_neg (by omega), q_X12_qTakes_133]
  · rw [show (w : Int) - 32 = 3 by omega]
    unfold qjF
    rw [if_neg (by omega), if_neg (by omega), if_neg (by omega), if_neg (by omega)]
    rw [q_X12_qTakes_0, if_neg (by omega), q_X12_qTakes_15, q_X12_qTakes_16, if_neg (by omega), q_X12_qTakes_38, if_neg (by omega), q_X12_qTakes_55, if_neg (by omega), q_X12_qTakes_75, if_pos rfl, h107, wid64 (by omega) (by omega), q_X12_qTakes_90, if_neg (by omega), q_X12_qTakes_133]
  · rw [show (w : Int) - 32 = 4 by omega]
    unfold qjF
    rw [if_neg (by omega), if_neg (by omega), if_pos z]
    rw [q_X12_qTakes_0, if_neg (by omega), q_X12_qTakes_15, q_X12_qTakes_16, if_neg (by omega), q_X12_qTakes_38, if_neg (by omega), q_X12_qTakes_55, if_neg (by omega), q_X12_qTakes_75, if_neg (by omega), q_X12_qTakes_90, if_pos (by omega), h107, h108]
    cases nb with
    | true => rw [bI_t, if_neg (by omega), if_pos rfl, q_X12_qTakes_128, q_X12_qTakes_133]
    | false =>
      rw [bI_f, if_pos rfl, if_pos rfl, if_neg (show ¬ (false = true) by simp)]
      by_cases y : f < v
      · rw [if_pos (lg.mpr y), Int.max_eq_right (by omega), q_X12_qTakes_128, q_X12_qTakes_133]
      · rw [if_neg (fun q => y (lg.mp q)), Int.max_eq_left (by omega), ef, q_X12_qTakes_133]
  · rw [show (w : Int) - 32 = 5 by omega]
    unfold qjF
    rw [if_neg (by omega), if_neg (by omega), if_neg (by omega), if_pos z]
    rw [q_X12_qTakes_0, if_neg (by omega), q_X12_qTakes_15, q_X12_qTakes_16, if_neg (by omega), q_X12_qTakes_38, if_neg (by omega), q_X12_qTakes_55, if_neg (by omega), q_X12_qTakes_75, if_neg (by omega), q_X12_qTakes_90, if_pos (by omega), h107, h108]
    cases nb with
    | true => rw [bI_t, if_neg (by omega), if_pos rfl, q_X12_qTakes_128, q_X12_qTakes_133]
    | false =>
      rw [bI_f, if_pos rfl, if_neg (by omega), if_neg (show ¬ (false = true) by simp)]
      by_cases y : v < f
      · rw [if_pos (ll.mpr y), Int.min_eq_right (by omega), q_X12_qTakes_128, q_X12_qTakes_133]
      · rw [if_neg (fun q => y (ll.mp q)), Int.min_eq_left (by omega), ef, q_X12_qTakes_133]
set_option maxRecDepth 100000 in
theorem l_ansM (d : Nat) (w : Nat) (cs : List Int) (A0 : AH) (hm : mok A0) (q65 : gi A0 190 65 = -1) (ha : -1 ≤ nv A0 2 ∧ nv A0 2 < nPo (hv A0)) (h100 : gi A0 190 100 = ((cs.length : Nat) : Int)) (hL : cs.length ≤ 1600) (hcd : ∀ i, i < cs.length → gi A0 267 i = mcF true (cs.getD i 0)) (hw : 32 ≤ w ∧ w ≤ 37) (hwf : wfL true cs []) (h01 : w < 35 → wfL true (cs ++ [21]) []) : ∀ (m n : Nat) (k f : Int) (nb : Bool) (A : AH), 0 ≤ k → k + m = 16 → (-(1000000 * k) - 16 ≤ f ∧ f ≤ 1000000 * k + 16) → scA A0 A → gi A 190 107 = f → gi A 190 108 = bI nb → 10 * m + 10 ≤ n → ∃ A', go true 1 (runF (d + 6)) (runN (d + 6)) pb_X12_ask n 178 [vR 21 190 0, vI ((w : Int) - 32), vI k] [] A = some (some (vL (ansG (qvF (hv A0) (nv A0) cs) (sit (hv A0) (nv A0)) w m k f nb)), A') ∧ scA A0 A' := by
  intro m
  have hc := hm.1
  induction m with
  | zero =>
    intro n k f nb A k0 k1 hf fr h107 h108 hn
    obtain ⟨n, rfl⟩ : ∃ e, n = e + 10 := ⟨n - 10, by omega⟩
    refine ⟨A, ?_, fr⟩
    rw [q_X12_ask_178, if_neg (by omega), h107]
    rfl
  | succ m ih =>
    intro n k f nb A k0 k1 hf fr h107 h108 hn
    obtain ⟨n, rfl⟩ : ∃ e, n = e + 10 := ⟨n - 10, by omega⟩
    have eh : hv A = hv A0 := sc_hv (scA_sc fr)
    have en : nv A = nv A0 := sc_nv (scA_sc fr)
    have eq : gi A 190 65 = -1 := (sc_q (scA_sc fr)).trans q65
    have nx : ∀ (A1 : AH) (e : Nat), go true 1 (runF (d + 6)) (runN (d + 6)) pb_X12_ask (e + 1) 203 [vR 21 190 0, vI ((w : Int) - 32), vI k] [] A1 = go true 1 (runF (d + 6)) (runN (d + 6)) pb_X12_ask e 178 [vR 21 190 0, vI ((w : Int) - 32), vI (k + 1)] [] A1 := fun A1 e => by
      rw [q_X12_ask_203, wid (by omega) (by omega)]
      all_goals rfl
    unfold ansG
    have ds := s_doesSit (d + 4) k A (by rw [eh]; exact hc)
    rw [eh, en] at ds
    by_cases c : sit (hv A0) (nv A0) k = true
    · rw [if_pos c]
      rw [c, bI_t] at ds
      have hn' := sit_num hc c
      obtain ⟨A1, t1, t2⟩ := s_qTold (d + 1) k cs A ((fr.1 190 100 (by omega) (by omega)).trans h100) hL (fun i hi => (fr.1 267 i (by omega) (by omega)).trans (hcd i hi)) hwf (mok_sc (scA_sc fr) hm) hn' (by rw [eh, en]; exact ha)
      rw [eh, en, eq] at t1
      have ev : headF (evL (fctF (hv A0) (nv A0) (nv A0 0) (nv A0 2) (-1) k) (besB (hv A0) (nv A0) k) cs []) = qvF (hv A0) (nv A0) cs k := rfl
      rw [ev] at t1
      have fb : ∀ i, 0 ≤ i → i < 10 → -1000000 ≤ fctF (hv A0) (nv A0) (nv A0 0) (nv A0 2) (-1) k i ∧ fctF (hv A0) (nv A0) (nv A0 0) (nv A0 2) (-1) k i ≤ 1000000 := fun i _ _ => fct_bd hc hm.2.1 hm.2.2.2.1 hm.2.2.2.2.1 hm.2.2.2.2.2 ha.1 ha.2 hn' i
      have vb : -1000000 ≤ qvF (hv A0) (nv A0) cs k ∧ qvF (hv A0) (nv A0) cs k ≤ 1000000 := evL_bd fb hwf
      have v01 : w < 35 → qvF (hv A0) (nv A0) cs k = 0 ∨ qvF (hv A0) (nv A0) cs k = 1 := fun y => evL_01 fb (h01 y)
      have tk := s_qTakes (d + 5) w f (qvF (hv A0) (nv A0) cs k) k nb A1 ((t2.1 190 107 (by omega) (by omega)).trans h107) ((t2.1 190 108 (by omega) (by omega)).trans h108) hw (by omega) vb v01
      generalize hD : wi (wi A1 190 107 (qjF w f (qvF (hv A0) (nv A0) cs k) k nb)) 190 108 0 = D at tk
      have fD : scA A0 D := scA_trans fr (scA_trans (scq_A t2) (by rw [← hD]; exact ⟨fun a j q1 q2 => by simp -implicitDefEqProofs (disch := omega) only [gi_wi, ↓reduceIte, Int.reduceEq, cI_v, cL_v, cV_v, cR_v, wid, wid64, if_pos, if_neg, Nat.add_zero, if_true, if_false, and_self, and_true, true_and, and_false, false_and, or_true, true_or, or_false, false_or], fun _ _ => rfl, rfl⟩))
      obtain ⟨A', e1, e2⟩ := ih (n + 8) (k + 1) (qjF w f (qvF (hv A0) (nv A0) cs k) k nb) false D (by omega) (by omega) (qj_bd k0 hf vb ⟨by omega, by omega⟩) fD (by rw [← hD]; simp -implicitDefEqProofs (disch := omega) only [gi_wi, ↓reduceIte, Int.reduceEq, cI_v, cL_v, cV_v, cR_v, wid, wid64, if_pos, if_neg, Nat.add_zero, if_true, if_false, and_self, and_true, true_and, and_false, false_and, or_true, true_or, or_false, false_or]) (by rw [← hD]; simp -implicitDefEqProofs (disch := omega) only [gi_wi, bI_f, ↓reduceIte, Int.reduceEq, cI_v, cL_v, cV_v, cR_v, wid, wid64, if_pos, if_neg, Nat.add_zero, if_true, if_false, and_self, and_true, true_and, and_false, false_and, or_true, true_or, or_false, false_or]) (by omega)
      refine ⟨A', ?_, e2⟩
      rw [q_X12_ask_178, if_pos (by omega), ds, cI_v, if_neg (by omega), t1, cL_v, tk, cV_v, nx]
      exact e1
    · rw [if_neg c]
      have c' : sit (hv A0) (nv A0) k = false := by simpa using c
      rw [c', bI_f] at ds
      obtain ⟨A', e1, e2⟩ := ih (n + 8) (k + 1) f nb A (by omega) (by omega) (by omega) fr h107 h108 (by omega)
      refine ⟨A', ?_, e2⟩
      rw [q_X12_ask_178, if_pos (by omega), ds, cI_v, if_pos rfl, nx]
      exact e1
set_option maxRecDepth 100000 in
theorem s_qKind (d : Nat) {T : Nat → Int} {L p : Nat} {t : Bool} (A : AH) (m : MdS A T L p t) : (32 ≤ wrd T L p t → ∃ B, runF (d + 5) 288 [vR 21 190 0] A = some (some (vI ((wrd T L p t : Int) - 32)), B) ∧ MdS B T L (stp T L p) true ∧ frZ A B) ∧ (wrd T L p t < 32 → ∃ B, runF (d + 5) 288 [vR 21 190 0] A = some (some (vI 5), B) ∧ MB A B 1 (bl T L p)) := by
  obtain ⟨k1, k2, k3⟩ := s_lookM 0 A m
  have w37 := wrd_le T L p t
  have t0 := s_takes (d + 1) 244 5 32 A m (by omega) (by decide) (by decide)
  have t1 := s_takes (d + 1) 245 4 33 _ k2.1 (by omega) (by decide) (by decide)
  have t2 := s_takes (d + 1) 246 5 34 _ k2.1 (by omega) (by decide) (by decide)
  have t3 := s_takes (d + 1) 247 5 35 _ k2.1 (by omega) (by decide) (by decide)
  have t4 := s_takes (d + 1) 248 4 36 _ k2.1 (by omega) (by decide) (by decide)
  have t5 := s_asks d 249 5 37 _ k2.1 (by omega) (by decide) (by decide)
  rw [wi_2] at t1 t2 t3 t4
  rw [r_X12_qKind, q_X12_qKind_0]
  by_cases c0 : wrd T L p t = 32
  · obtain ⟨B, b1, b2, b3⟩ := t0.1 c0
    refine ⟨fun _ => ⟨B, ?_, b2, b3⟩, fun y => by omega⟩
    rw [b1, cI_v, if_neg (by omega), q_X12_qKind_76, if_neg (by omega), show (wrd T L p t : Int) - 32 = 0 by omega]
  rw [t0.2 c0, cI_v, if_pos rfl]
  by_cases c1 : wrd T L p t = 33
  · obtain ⟨B, b1, b2, b3⟩ := t1.1 c1
    refine ⟨fun _ => ⟨B, ?_, b2, frZ_trans k3 b3⟩, fun y => by omega⟩
    rw [b1, cI_v, if_neg (by omega), q_X12_qKind_76, if_neg (by omega), show (wrd T L p t : Int) - 32 = 1 by omega]
  rw [t1.2 c1, cI_v, if_pos rfl]
  by_cases c2 : wrd T L p t = 34
  · obtain ⟨B, b1, b2, b3⟩ := t2.1 c2
    refine ⟨fun _ => ⟨B, ?_, b2, frZ_trans k3 b3⟩, fun y => by omega⟩
    rw [b1, cI_v, if_neg (by omega), q_X12_qKind_76, if_neg (by omega), show (wrd T L p t : Int) - 32 = 2 by omega]
  rw [t2.2 c2, cI_v, if_pos rfl]
  by_cases c3 : wrd T L p t = 35
  · obtain ⟨B, b1, b2, b3⟩ := t3.1 c3
    refine ⟨fun _ => ⟨B, ?_, b2, frZ_trans k3 b3⟩, fun y => by omega⟩
    rw [b1, cI_v, if_neg (by omega), q_X12_qKind_76, if_neg (by omega), show (wrd T L p t : Int) - 32 = 3 by omega]
  rw [t3.2 c3, cI_v, if_pos rfl]
  by_cases c4 : wrd T L p t = 36
  · obtain ⟨B, b1, b2, b3⟩ := t4.1 c4
    refine ⟨fun _ => ⟨B, ?_, b2, frZ_trans k3 b3⟩, fun y => by omega⟩
    rw [b1, cI_v, if_neg (by omega), q_X12_qKind_76, if_neg (by omega), show (wrd T L p t : Int) - 32 = 4 by omega]
  rw [t4.2 c4, cI_v, if_pos rfl, q_X12_qKind_75, q_X12_qKind_76, if_pos rfl]
  by_cases c5 : wrd T L p t = 37
  · rw [show tkW T L p t 37 = .ok (stp T L p, true) by unfold tkW; rw [if_pos c5]] at t5
    obtain ⟨B, b1, b2, b3⟩ := t5
    refine ⟨fun _ => ⟨B, ?_, b2, frZ_trans k3 b3⟩, fun y => by omega⟩
    rw [b1, cV_v, show (wrd T L p t : Int) - 32 = 5 by omega]
  · rw [show tkW T L p t 37 = .error (1, bl T L p) by unfold tkW; rw [if_neg c5]] at t5
    obtain ⟨B, b1, b2, b3, b4, b5⟩ := t5
    refine ⟨fun y => by omega, fun _ => ⟨B, ?_, b2, b3, b4, frZ_trans k3 b5⟩⟩
    rw [b1, cV_v]
