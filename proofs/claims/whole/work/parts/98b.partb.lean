/-! the class's grammar: a part of any kind -/
theorem wf_22 : ∀ w, w < 38 → (wdf 1 w = 7 ↔ w = 22) ∧ clsC (wdf 1 w) = wdf 1 w ∧ (w = 0 ∨ w = 29 ∨ w = 30 ∨ w = 31 → wdf 1 w = -1) := by decide
theorem C_partB (d : Nat) {T : Nat → Int} {L : Nat} {ask : Bool} (tx : TX T L) (o : Nat) (sub : Option (Nat → Bool → GR)) (h0 : sub = none → 6 ≤ o) (h1 : ∀ f, sub = some f → o < 6 ∧ GP L f ∧ GQ T L ask (runF (d + 4) 37 [vR 12 44 0, vI 3, vI ((o + 1 : Nat) : Int)]) (sumG T L f) ∧ GQ T L ask (runF (d + 5) 37 [vR 12 44 0, vI 3, vI ((o + 1 : Nat) : Int)]) (sumG T L f) ∧ GQ T L ask (runF (d + 5) 40 [vR 12 44 0, vI ((o + 1 : Nat) : Int)]) f) : GQ T L ask (runF (d + 6) 40 [vR 12 44 0, vI (o : Int)]) (partB T L ask sub) := by
  intro A p t C r c hC
  have hp := r.1.2.2.2.2.2
  have tL := tx.1
  have sL := stp_L tx hp
  have w37 := wrd_le T L p t
  unfold partB
  have r' : runF (d + 6) 40 [vR 12 44 0, vI (o : Int)] A = _ := r_X2_part (d + 5) (o : Int) A
  by_cases c1 : knd T L p t = 2
  · rw [if_pos c1]
    have k := s_takeNumber (d + 2) 0 9999 A r
    have e0 : ∀ R, (cI (runF (d + 5) 92 [vR 18 42 0, vI 0, vI 9999] A) fun r2 A1 => if r2 = 0 then go true 2 (runF (d + 5)) (runN (d + 5)) pb_X2_part (fu + 198 + 1) 54 [vR 12 44 0, vI (o : Int), vR 22 (gr A 42 7) 0] [] A1 else cI (runF (d + 5) 35 [vR 12 44 0, vI (w32 (100 + (gi A1 42 10)))] A1) fun r4 A3 => if r4 = 0 then go true 2 (runF (d + 5)) (runN (d + 5)) pb_X2_part (fu + 198 + 1) 54 [vR 12 44 0, vI (o : Int), vR 22 (gr A 42 7) 0] [] A3 else some (some (vI 1), A3)) = R → runF (d + 6) 40 [vR 12 44 0, vI (o : Int)] A = R := by
      intro R hR
      rw [r_X2_part, q_X2_part_0, r.2.2.2.1, if_pos c1]
      exact hR
    cases hT : tkN T L p t 0 9999 with
    | error y =>
      obtain ⟨k0, s0⟩ := y
      rw [hT] at k
      obtain ⟨E, x1, x2⟩ := k
      refine ⟨(fun k s q => ?_), (fun cs' p' t' q => by cases q)⟩
      injection q with q; injection q with q1 q2
      subst q1 q2
      refine ⟨E, e0 _ ?_, gq_er (T := T) (L := L) (frH_refl A) x2⟩
      rw [x1, cI_v, if_pos rfl, q_X2_part_54]
    | ok y =>
      obtain ⟨p4, t4⟩ := y
      rw [hT] at k
      obtain ⟨E, x1, x2, x3, x4, _⟩ := k
      have kk := tkN_ok hT
      have z := stp_1 (t := t) (Or.inr (Or.inl c1)) tx
      obtain ⟨D, d1, d2, d3, d4, d5, d6⟩ := s_emit (d + 4) (100 + numV T L p) E C x2 (CS_R x3 c) (by omega)
      refine ⟨(fun k s q => by cases q), (fun cs' p' t' q => ?_)⟩
      injection q with q; injection q with q1 q2; injection q2 with q2 q3
      subst q1 q2 q3
      refine ⟨D, e0 _ ?_, d2, ?_, ?_, ⟨?_, ?_⟩, frH_trans (frR_H x3) d6⟩
      · rw [x1, cI_v, if_neg (by omega), x4, wid (by omega) (by omega), d1, cI_v, if_neg (by omega)]
      · show CS ask D (C ++ [clsC (100 + numV T L p)])
        rw [show clsC (100 + numV T L p) = 100 + numV T L p by unfold clsC; rw [if_neg (by omega)]]; exact d3
      · rw [d4, x3.1 44 2 (by omega)]
        unfold mnU
        by_cases z : gi A 44 2 = 1
        · rw [if_pos (Or.inl z)]; exact z
        · rw [if_neg (by intro y; rcases y with y | y; exact z y; rw [List.mem_singleton] at y; omega)]
          have := c.2.1; omega
      · rw [d5.1, x3.1 42 11 (by omega)]
      · rw [d5.2, x3.1 42 12 (by omega)]
  · rw [if_neg c1]
    have e56 : ∀ R, go true 2 (runF (d + 5)) (runN (d + 5)) pb_X2_part (fu + 197 + 2) 56 [vR 12 44 0, vI (o : Int), vR 22 (wrd T L p t) 0] [] A = R → runF (d + 6) 40 [vR 12 44 0, vI (o : Int)] A = R := by
      intro R hR
      rw [r_X2_part, q_X2_part_0, r.2.2.2.1, if_neg c1, r.2.2.2.2.1]
      exact hR
    obtain ⟨gI1, gI2⟩ := s_goIn (d + 2) o A r
    by_cases c2 : sgn T L p t = 40
    · rw [if_pos c2]
      have hz : ∀ X, go true 2 (runF (d + 5)) (runN (d + 5)) pb_X2_part (fu + 197 + 1) 103 [vR 12 44 0, vI (o : Int), vR 22 (wrd T L p t) 0] [] X = some (some (vI 0), X) := fun X => by rw [q_X2_part_103]
      cases hf : sub with
      | none =>
        refine ⟨(fun k s q => ?_), (fun cs' p' t' q => by cases q)⟩
        injection q with q; injection q with q1 q2
        subst q1 q2
        obtain ⟨B, b1, b2⟩ := gI2 (h0 hf)
        refine ⟨B, e56 _ ?_, b2.1, b2.2.1, frF_H b2.2.2⟩
        rw [q_X2_part_56, s_isSign (d + 4) 40 A r (by decide), cI_v, decide_eq_true c2, bI_t, if_neg (by omega), b1, cI_v, if_pos rfl, hz]
      | some f =>
        obtain ⟨o6, hG, _, hQ, _⟩ := h1 f hf
        obtain ⟨B, b1, b2, b3⟩ := gI1 o6
        rw [tk3 c2 (by decide)] at b2
        have b := sgn_1 c2 (by decide) tx
        obtain ⟨s1, s2⟩ := hQ B (stp T L p) false C b2 (CS_R b3 c) (by omega)
        simp only
        have e1 : ∀ R, (cI (runF (d + 5) 37 [vR 12 44 0, vI 3, vI ((o + 1 : Nat) : Int)] B) fun r6 A5 => if r6 = 0 then go true 2 (runF (d + 5)) (runN (d + 5)) pb_X2_part (fu + 197 + 1) 103 [vR 12 44 0, vI (o : Int), vR 22 (wrd T L p t) 0] [] A5 else cI (runF (d + 5) 90 [vR 18 42 0, vI 41] A5) fun r8 A7 => if r8 = 0 then go true 2 (runF (d + 5)) (runN (d + 5)) pb_X2_part (fu + 197 + 1) 103 [vR 12 44 0, vI (o : Int), vR 22 (wrd T L p t) 0] [] A7 else some (some (vI 1), A7)) = R → runF (d + 6) 40 [vR 12 44 0, vI (o : Int)] A = R := by
          intro R hR
          refine e56 _ ?_
          rw [q_X2_part_56, s_isSign (d + 4) 40 A r (by decide), cI_v, decide_eq_true c2, bI_t, if_neg (by omega), b1, cI_v, if_neg (by omega), wid (by omega) (by omega), show (o : Int) + 1 = ((o + 1 : Nat) : Int) by omega]
          exact hR
        cases hS : sumG T L f (stp T L p) false with
        | error y =>
          obtain ⟨k0, s0⟩ := y
          obtain ⟨D, d1, d2, d3, d4⟩ := s1 k0 s0 hS
          refine ⟨(fun k s q => ?_), (fun cs' p' t' q => by cases q)⟩
          injection q with q; injection q with q1 q2
          subst q1 q2
          refine ⟨D, e1 _ ?_, d2, d3, frH_trans (frR_H b3) d4⟩
          rw [d1, cI_v, if_pos rfl, hz]
        | ok y =>
          obtain ⟨c3, p3, t3⟩ := y
          obtain ⟨D, d1, d2, d3, d4, d5, d6⟩ := s2 c3 p3 t3 hS
          simp only
          have k := s_takeSign (d + 2) 41 D d2 (by decide)
          cases hT : tkS T L p3 t3 41 with
          | error y =>
            obtain ⟨k0, s0⟩ := y
            rw [hT] at k
            obtain ⟨E, x1, x2⟩ := k
            refine ⟨(fun k s q => ?_), (fun cs' p' t' q => by cases q)⟩
            injection q with q; injection q with q1 q2
            subst q1 q2
            refine ⟨E, e1 _ ?_, gq_er (T := T) (L := L) (frH_trans (frR_H b3) d6) x2⟩
            rw [d1, cI_v, if_neg (by omega), x1, cI_v, if_pos rfl, hz]
          | ok y =>
            obtain ⟨p4, t4⟩ := y
            rw [hT] at k
            obtain ⟨E, x1, x2, x3, _⟩ := k
            refine ⟨(fun k s q => by cases q), (fun cs' p' t' q => ?_)⟩
            injection q with q; injection q with q1 q2; injection q2 with q2 q3
            subst q1 q2 q3
            refine ⟨E, e1 _ ?_, x2, CS_R x3 d3, ?_, ⟨?_, ?_⟩, frH_trans (frR_H b3) (frH_trans d6 (frR_H x3))⟩
            · rw [d1, cI_v, if_neg (by omega), x1, cI_v, if_neg (by omega)]
            · rw [x3.1 44 2 (by omega), d4, b3.1 44 2 (by omega)]
            · rw [x3.1 42 11 (by omega), d5.1, b3.1 42 11 (by omega)]
            · rw [x3.1 42 12 (by omega), d5.2, b3.1 42 12 (by omega)]
    · rw [if_neg c2]
      by_cases c3 : wrd T L p t = 29 ∨ wrd T L p t = 30
      · rw [if_pos c3]
        have hz : ∀ X, go true 2 (runF (d + 5)) (runN (d + 5)) pb_X2_part (fu + 195 + 1) 159 [vR 12 44 0, vI (o : Int), vR 22 (wrd T L p t) 0] [] X = some (some (vI 0), X) := fun X => by rw [q_X2_part_159]
        obtain ⟨B, b1, b2, _, b4⟩ := s_stepR (d + 3) A r
        have kn := wrd_k (T := T) (L := L) (p := p) (t := t) (by omega)
        rw [show tk T L p t = true by unfold tk; rw [kn]; decide] at b2
        have b := wrd_1 (T := T) (L := L) (p := p) (t := t) (by omega) tx
        obtain ⟨s1, s2⟩ := s_pair d tx o sub h0 (fun f hf => ⟨(h1 f hf).1, (h1 f hf).2.1, (h1 f hf).2.2.1⟩) B (stp T L p) true C b2 (CS_R b4 c) (by omega)
        have e1 : ∀ R, (cI (runF (d + 5) 41 [vR 12 44 0, vI (o : Int)] B) fun r3 A2 => if r3 = 0 then go true 2 (runF (d + 5)) (runN (d + 5)) pb_X2_part (fu + 195 + 1) 159 [vR 12 44 0, vI (o : Int), vR 22 (wrd T L p t) 0] [] A2 else if wrd T L p t = 29 then go true 2 (runF (d + 5)) (runN (d + 5)) pb_X2_part (fu + 195 + 1) 149 [vR 12 44 0, vI (o : Int), vR 22 (wrd T L p t) 0] [vI 14, vR 12 44 0] A2 else go true 2 (runF (d + 5)) (runN (d + 5)) pb_X2_part (fu + 195 + 0) 149 [vR 12 44 0, vI (o : Int), vR 22 (wrd T L p t) 0] [vI 15, vR 12 44 0] A2) = R → runF (d + 6) 40 [vR 12 44 0, vI (o : Int)] A = R := by
          intro R hR
          refine e56 _ ?_
          rw [q_X2_part_56, s_isSign (d + 4) 40 A r (by decide), cI_v, decide_eq_false c2, bI_f, if_pos rfl]
          have e119 : go true 2 (runF (d + 5)) (runN (d + 5)) pb_X2_part (fu + 195 + 2) 119 [vR 12 44 0, vI (o : Int), vR 22 (wrd T L p t) 0] [] A = R := by
            rw [q_X2_part_119, b1, cV_v]
            exact hR
          by_cases z : wrd T L p t = 29
          · rw [if_pos z]; exact e119
          · rw [if_neg z, if_pos (by omega)]; exact e119
        cases hS : pairB T L sub (stp T L p) true with
        | error y =>
          obtain ⟨k0, s0⟩ := y
          obtain ⟨D, d1, d2, d3, d4⟩ := s1 k0 s0 hS
          refine ⟨(fun k s q => ?_), (fun cs' p' t' q => by cases q)⟩
          injection q with q; injection q with q1 q2
          subst q1 q2
          refine ⟨D, e1 _ ?_, d2, d3, frH_trans (frR_H b4) d4⟩
          rw [d1, cI_v, if_pos rfl, hz]
        | ok y =>
          obtain ⟨c4, p4, t4⟩ := y
          obtain ⟨D, d1, d2, d3, d4, d5, d6⟩ := s2 c4 p4 t4 hS
          have a := GP_pair tx (fun f hf => (h1 f hf).2.1) sL hS
          have lC : (C ++ c4.map clsC).length = C.length + c4.length := by simp
          obtain ⟨E, x1, x2, x3, x4, x5, x6⟩ := s_emit (d + 4) (if wrd T L p t = 29 then 14 else 15) D (C ++ c4.map clsC) d2 d3 (by omega)
          refine ⟨(fun k s q => by cases q), (fun cs' p' t' q => ?_)⟩
          injection q with q; injection q with q1 q2; injection q2 with q2 q3
          subst q1 q2 q3
          have ev : clsC (if wrd T L p t = 29 then 14 else 15) = (if wrd T L p t = 29 then 14 else 15) ∧ (if wrd T L p t = 29 then (14 : Int) else 15) ≠ 7 := by
            by_cases z : wrd T L p t = 29
            · rw [if_pos z]; decide
            · rw [if_neg z]; decide
          refine ⟨E, e1 _ ?_, x2, ?_, ?_, ⟨?_, ?_⟩, frH_trans (frR_H b4) (frH_trans d6 x6)⟩
          · rw [d1, cI_v, if_neg (by omega)]
            by_cases z : wrd T L p t = 29
            · rw [if_pos z] at x1 ⊢
              rw [q_X2_part_149, x1, cI_v, if_neg (by omega)]
            · rw [if_neg z] at x1 ⊢
              rw [show fu + 195 + 0 = fu + 193 + 2 from rfl, q_X2_part_149, x1, cI_v, if_neg (by omega)]
          · rw [List.map_append, ← List.append_assoc]
            show CS ask E (C ++ c4.map clsC ++ [clsC (if wrd T L p t = 29 then 14 else 15)])
            rw [ev.1]; exact x3
          · rw [x4, d4, b4.1 44 2 (by omega), ← mnU_app]
            have := mnU_01 (gi A 44 2) c4
            unfold mnU at this ⊢
            by_cases z : gi A 44 2 = 1 ∨ 7 ∈ c4
            · rw [if_pos z, if_pos (Or.inl rfl)]
            · rw [if_neg z, if_neg]
              intro y
              rcases y with y | y
              · omega
              · rw [List.mem_singleton] at y; exact ev.2 y.symm
          · rw [x5.1, d5.1, b4.1 42 11 (by omega)]
          · rw [x5.2, d5.2, b4.1 42 12 (by omega)]
      · rw [if_neg c3]
        have e161 : ∀ R, go true 2 (runF (d + 5)) (runN (d + 5)) pb_X2_part (fu + 195 + 2) 161 [vR 12 44 0, vI (o : Int), vR 22 (wrd T L p t) 0] [] A = R → runF (d + 6) 40 [vR 12 44 0, vI (o : Int)] A = R := by
          intro R hR
          refine e56 _ ?_
          rw [q_X2_part_56, s_isSign (d + 4) 40 A r (by decide), cI_v, decide_eq_false c2, bI_f, if_pos rfl, if_neg (by omega), if_neg (by omega)]
          exact hR
        by_cases c4 : ask = true ∧ wrd T L p t = 31
        · rw [if_pos c4]
          have hz : ∀ X, go true 2 (runF (d + 5)) (runN (d + 5)) pb_X2_part (fu + 195 + 1) 206 [vR 12 44 0, vI (o : Int), vR 22 (wrd T L p t) 0] [] X = some (some (vI 0), X) := fun X => by rw [q_X2_part_206]
          have e44 : gi A 44 1 ≠ 0 := by rw [c.1, c4.1, bI_t]; omega
          have kn := wrd_k (T := T) (L := L) (p := p) (t := t) (by omega)
          cases hf : sub with
          | none =>
            refine ⟨(fun k s q => ?_), (fun cs' p' t' q => by cases q)⟩
            injection q with q; injection q with q1 q2
            subst q1 q2
            obtain ⟨B, b1, b2⟩ := gI2 (h0 hf)
            refine ⟨B, e161 _ ?_, b2.1, b2.2.1, frF_H b2.2.2⟩
            rw [q_X2_part_161, if_neg e44, if_pos c4.2, b1, cI_v, if_pos rfl, hz]
          | some f =>
            obtain ⟨o6, hG, _, _, hQ⟩ := h1 f hf
            obtain ⟨B, b1, b2, b3⟩ := gI1 o6
            rw [show tk T L p t = true by unfold tk; rw [kn]; decide] at b2
            have b := wrd_1 (T := T) (L := L) (p := p) (t := t) (by omega) tx
            obtain ⟨s1, s2⟩ := hQ B (stp T L p) true C b2 (CS_R b3 c) (by omega)
            simp only
            have e1 : ∀ R, (cI (runF (d + 5) 40 [vR 12 44 0, vI ((o + 1 : Nat) : Int)] B) fun r4 A3 => if r4 = 0 then go true 2 (runF (d + 5)) (runN (d + 5)) pb_X2_part (fu + 195 + 1) 206 [vR 12 44 0, vI (o : Int), vR 22 (wrd T L p t) 0] [] A3 else cI (runF (d + 5) 35 [vR 12 44 0, vI 22] A3) fun r6 A5 => if r6 = 0 then go true 2 (runF (d + 5)) (runN (d + 5)) pb_X2_part (fu + 195 + 1) 206 [vR 12 44 0, vI (o : Int), vR 22 (wrd T L p t) 0] [] A5 else some (some (vI 1), A5)) = R → runF (d + 6) 40 [vR 12 44 0, vI (o : Int)] A = R := by
              intro R hR
              refine e161 _ ?_
              rw [q_X2_part_161, if_neg e44, if_pos c4.2, b1, cI_v, if_neg (by omega), wid (by omega) (by omega), show (o : Int) + 1 = ((o + 1 : Nat) : Int) by omega]
              exact hR
            cases hS : f (stp T L p) true with
            | error y =>
              obtain ⟨k0, s0⟩ := y
              obtain ⟨D, d1, d2, d3, d4⟩ := s1 k0 s0 hS
              refine ⟨(fun k s q => ?_), (fun cs' p' t' q => by cases q)⟩
              injection q with q; injection q with q1 q2
              subst q1 q2
              refine ⟨D, e1 _ ?_, d2, d3, frH_trans (frR_H b3) d4⟩
              rw [d1, cI_v, if_pos rfl, hz]
            | ok y =>
              obtain ⟨c5, p4, t4⟩ := y
              obtain ⟨D, d1, d2, d3, d4, d5, d6⟩ := s2 c5 p4 t4 hS
              have a := hG _ _ _ _ _ sL hS
              have lC : (C ++ c5.map clsC).length = C.length + c5.length := by simp
              obtain ⟨E, x1, x2, x3, x4, x5, x6⟩ := s_emit (d + 4) 22 D (C ++ c5.map clsC) d2 d3 (by omega)
              refine ⟨(fun k s q => by cases q), (fun cs' p' t' q => ?_)⟩
              injection q with q; injection q with q1 q2; injection q2 with q2 q3
              subst q1 q2 q3
              refine ⟨E, e1 _ ?_, x2, ?_, ?_, ⟨?_, ?_⟩, frH_trans (frR_H b3) (frH_trans d6 x6)⟩
              · rw [d1, cI_v, if_neg (by omega), x1, cI_v, if_neg (by omega)]
              · rw [List.map_append, ← List.append_assoc]
                exact x3
              · rw [x4, d4, b3.1 44 2 (by omega), ← mnU_app]
                have := mnU_01 (gi A 44 2) c5
                unfold mnU at this ⊢
                by_cases z : gi A 44 2 = 1 ∨ 7 ∈ c5
                · rw [if_pos z, if_pos (Or.inl rfl)]
                · rw [if_neg z, if_neg]
                  intro y
                  rcases y with y | y
                  · omega
                  · rw [List.mem_singleton] at y; omega
              · rw [x5.1, d5.1, b3.1 42 11 (by omega)]
              · rw [x5.2, d5.2, b3.1 42 12 (by omega)]
        · rw [if_neg c4]
          have e208 : ∀ R, go true 2 (runF (d + 5)) (runN (d + 5)) pb_X2_part (fu + 195 + 1) 208 [vR 12 44 0, vI (o : Int), vR 22 (wrd T L p t) 0] [] A = R → runF (d + 6) 40 [vR 12 44 0, vI (o : Int)] A = R := by
            intro R hR
            refine e161 _ ?_
            rw [q_X2_part_161]
            by_cases z : gi A 44 1 = 0
            · rw [if_pos z]; exact hR
            · rw [if_neg z, if_neg]
              · exact hR
              · intro y
                refine c4 ⟨?_, y⟩
                cases ha : ask with
                | true => rfl
                | false => exact absurd (by rw [c.1, ha]; rfl) z
          obtain ⟨w1, w2, w3⟩ := wf_22 (wrd T L p t) (by omega)
          by_cases c5 : isF ask (wrd T L p t) = true
          · rw [if_pos c5]
            obtain ⟨f0, f1, f2⟩ := of_decide_eq_true c5
            obtain ⟨B, b1, b2, _, b4⟩ := s_stepR (d + 3) (wi A 44 2 (if gi A 44 2 = 1 ∨ wrd T L p t = 22 then 1 else 0)) (RdS_fr (fun j => by rw [gi_wi, if_neg (by omega)]) (fun j => by rw [gi_wi, if_neg (by omega)]) (fun _ => rfl) rfl r)
            have kn := wrd_k f0
            rw [show tk T L p t = true by unfold tk; rw [kn]; decide] at b2
            have b := wrd_1 f0 tx
            have g0 : frH A (wi A 44 2 (if gi A 44 2 = 1 ∨ wrd T L p t = 22 then 1 else 0)) := ⟨fun a j h1 h2 h3 => by rw [gi_wi, if_neg (by omega)], fun _ _ _ => rfl, rfl⟩
            have cW : CS ask (wi A 44 2 (if gi A 44 2 = 1 ∨ wrd T L p t = 22 then 1 else 0)) C := by
              refine ⟨by simp -implicitDefEqProofs (disch := omega) only [gi_wi, ↓reduceIte, Int.reduceEq, cI_v, cL_v, cV_v, cR_v, wid, wid64, if_pos, if_neg, Nat.add_zero, if_true, if_false, and_self, and_true, true_and, and_false, false_and, or_true, true_or, or_false, false_or]; exact c.1, ?_, by simp -implicitDefEqProofs (disch := omega) only [gi_wi, ↓reduceIte, Int.reduceEq, cI_v, cL_v, cV_v, cR_v, wid, wid64, if_pos, if_neg, Nat.add_zero, if_true, if_false, and_self, and_true, true_and, and_false, false_and, or_true, true_or, or_false, false_or]; exact c.2.2.1, fun i hi => by rw [gi_wi, if_neg (by omega)]; exact c.2.2.2 i hi⟩
              rw [gi_wi, if_pos ⟨rfl, rfl⟩]
              by_cases z : gi A 44 2 = 1 ∨ wrd T L p t = 22
              · rw [if_pos z]; omega
              · rw [if_neg z]; omega
            obtain ⟨E, x1, x2, x3, x4, x5, x6⟩ := s_emit (d + 4) (wdf 1 (wrd T L p t)) B C b2 (CS_R b4 cW) (by omega)
            refine ⟨(fun k s q => by cases q), (fun cs' p' t' q => ?_)⟩
            injection q with q; injection q with q1 q2; injection q2 with q2 q3
            subst q1 q2 q3
            refine ⟨E, e208 _ ?_, x2, ?_, ?_, ⟨?_, ?_⟩, frH_trans g0 (frH_trans (frR_H b4) x6)⟩
            · have e272 : ∀ n v, (v = 0 ∨ v = 1) → v = (if gi A 44 2 = 1 ∨ wrd T L p t = 22 then (1 : Int) else 0) → go true 2 (runF (d + 5)) (runN (d + 5)) pb_X2_part (n + 1) 272 [vR 12 44 0, vI (o : Int), vR 22 (wrd T L p t) 0] [vI v, vR 12 44 0] A = some (some (vI 1), E) := by
                intro n v hv ev
                rw [q_X2_part_272, if_pos hv, ev, b1, cV_v, if_neg f0, x1, cI_v, if_pos (Or.inr rfl)]
              have e252 : ∀ n, go true 2 (runF (d + 5)) (runN (d + 5)) pb_X2_part (n + 4) 252 [vR 12 44 0, vI (o : Int), vR 22 (wrd T L p t) 0] [] A = some (some (vI 1), E) := by
                intro n
                rw [q_X2_part_252]
                by_cases z : gi A 44 2 = 0
                · rw [if_pos z]
                  by_cases z2 : wrd T L p t = 22
                  · rw [if_pos z2, q_X2_part_267]
                    exact e272 _ 1 (Or.inr rfl) (by rw [if_pos (Or.inr z2)])
                  · rw [if_neg z2]
                    exact e272 _ 0 (Or.inl rfl) (by rw [if_neg (by omega)])
                · rw [if_neg z, q_X2_part_267]
                  exact e272 _ 1 (Or.inr rfl) (by rw [if_pos (Or.inl (by have := c.2.1; omega))])
              rw [q_X2_part_208, if_neg f0, if_neg f0, if_neg f1]
              by_cases z : gi A 44 1 = 0
              · have ha : ask = false := by
                  cases ha : ask with
                  | false => rfl
                  | true => rw [c.1, ha, bI_t] at z; omega
                rw [if_pos z, if_neg f0, if_pos (by rcases f2 with y | y; rw [ha] at y; cases y; exact y)]
                exact e252 _
              · rw [if_neg z]
                exact e252 _
            · show CS ask E (C ++ [clsC (wdf 1 (wrd T L p t))])
              rw [w2]; exact x3
            · rw [x4, b4.1 44 2 (by omega), gi_wi, if_pos ⟨rfl, rfl⟩]
              unfold mnU
              by_cases z : gi A 44 2 = 1
              · rw [if_pos (Or.inl z), if_pos (Or.inl z)]
              · by_cases z2 : wrd T L p t = 22
                · rw [if_pos (Or.inr z2), if_pos (Or.inr (by rw [List.mem_singleton, w1.mpr z2]))]
                · rw [if_neg (by omega), if_neg]
                  intro y
                  rcases y with y | y
                  · exact z y
                  · rw [List.mem_singleton] at y; exact z2 (w1.mp y.symm)
            · rw [x5.1, b4.1 42 11 (by omega)]; simp -implicitDefEqProofs (disch := omega) only [gi_wi, ↓reduceIte, Int.reduceEq, cI_v, cL_v, cV_v, cR_v, wid, wid64, if_pos, if_neg, Nat.add_zero, if_true, if_false, and_self, and_true, true_and, and_false, false_and, or_true, true_or, or_false, false_or]
            · rw [x5.2, b4.1 42 12 (by omega)]; simp -implicitDefEqProofs (disch := omega) only [gi_wi, ↓reduceIte, Int.reduceEq, cI_v, cL_v, cV_v, cR_v, wid, wid64, if_pos, if_neg, Nat.add_zero, if_true, if_false, and_self, and_true, true_and, and_false, false_and, or_true, true_or, or_false, false_or]
          · rw [if_neg c5]
            refine ⟨(fun k s q => ?_), (fun cs' p' t' q => by cases q)⟩
            injection q with q; injection q with q1 q2
            subst q1 q2
            refine ⟨_, e208 _ ?_, (FL_f A 1 _).1, (FL_f A 1 _).2.1, frF_H (FL_f A 1 (bl T L p)).2.2⟩
            have e236 : ∀ n, go true 2 (runF (d + 5)) (runN (d + 5)) pb_X2_part (n + 1) 236 [vR 12 44 0, vI (o : Int), vR 22 (wrd T L p t) 0] [] A = some (some (vI 0), wi (wi A 42 11 1) 42 12 (bl T L p)) := fun n => by
              rw [q_X2_part_236, s_failC, cI_v, if_pos (Or.inl rfl), r.2.1]
            rw [q_X2_part_208]
            by_cases f0 : wrd T L p t = 0
            · rw [if_pos f0]; exact e236 _
            · rw [if_neg f0, if_neg f0]
              by_cases f1 : wdf 1 (wrd T L p t) = -1
              · rw [if_pos f1]; exact e236 _
              · rw [if_neg f1]
                have na : ¬ (ask = true ∨ wdf 1 (wrd T L p t) < 8) := fun y => c5 (decide_eq_true ⟨f0, f1, y⟩)
                have ha : ask = false := by
                  cases ha : ask with
                  | false => rfl
                  | true => exact absurd (Or.inl ha) na
                rw [if_pos (by rw [c.1, ha]; rfl), if_neg f0, if_neg (fun y => na (Or.inr y))]
                exact e236 _
theorem C_part {T : Nat → Int} {L : Nat} {ask : Bool} (tx : TX T L) : ∀ (r : Nat), r ≤ 6 → ∀ D, 6 * r + 6 ≤ D → GQ T L ask (runF D 40 [vR 12 44 0, vI ((6 - r : Nat) : Int)]) (partG T L ask r)
  | 0, _, D, hD => by
    obtain ⟨d, rfl⟩ : ∃ d, D = d + 6 := ⟨D - 6, by omega⟩
    exact C_partB d tx 6 none (fun _ => Nat.le_refl _) (fun f h => by cases h)
  | r + 1, hr, D, hD => by
    obtain ⟨d, rfl⟩ : ∃ d, D = d + 6 := ⟨D - 6, by omega⟩
    have ih := C_part tx r (by omega) (ask := ask)
    have eo : 6 - (r + 1) + 1 = 6 - r := by omega
    refine C_partB d tx (6 - (r + 1)) (some (partG T L ask r)) (fun h => by cases h) (fun f h => ?_)
    injection h with h
    subst h
    rw [eo]
    obtain ⟨e, rfl⟩ : ∃ e, d = e + 6 := ⟨d - 6, by omega⟩
    exact ⟨by omega, GP_partG tx ask r, C_sum (e + 6) tx _ (GP_partG tx ask r) (ih (e + 7) (by omega)), C_sum (e + 7) tx _ (GP_partG tx ask r) (ih (e + 8) (by omega)), ih (e + 11) (by omega)⟩
