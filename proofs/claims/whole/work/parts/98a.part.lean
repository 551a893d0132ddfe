/-! the class's grammar: parts -/
theorem gq_er {T : Nat → Int} {L : Nat} {A B C : AH} {k s : Int} (f : frH A B) (h : FL B C k s) : gi C 42 11 = k ∧ gi C 42 12 = s ∧ frH A C := ⟨h.1, h.2.1, frH_trans f (frF_H h.2.2)⟩
set_option maxRecDepth 100000 in
theorem s_pair (d : Nat) {T : Nat → Int} {L : Nat} {ask : Bool} (tx : TX T L) (o : Nat) (sub : Option (Nat → Bool → GR)) (h0 : sub = none → 6 ≤ o) (h1 : ∀ f, sub = some f → o < 6 ∧ GP L f ∧ GQ T L ask (runF (d + 4) 37 [vR 12 44 0, vI 3, vI ((o + 1 : Nat) : Int)]) (sumG T L f)) : GQ T L ask (runF (d + 5) 41 [vR 12 44 0, vI (o : Int)]) (pairB T L sub) := by
  intro A p t C r c hC
  have hp := r.1.2.2.2.2.2
  have tL := tx.1
  have sL := stp_L tx hp
  unfold pairB
  by_cases c4 : sgn T L p t = 40
  · rw [if_pos c4]
    have e0 : ∀ R, go true 2 (runF (d + 4)) (runN (d + 4)) pb_X2_pair (fu + 197 + 2) 28 [vR 12 44 0, vI (o : Int)] [] A = R → runF (d + 5) 41 [vR 12 44 0, vI (o : Int)] A = R := by
      intro R hR
      rw [r_X2_pair, q_X2_pair_0, s_isSign (d + 3) 40 A r (by decide), cI_v, decide_eq_true c4, bI_t, if_neg (by omega)]
      exact hR
    obtain ⟨g1, g2⟩ := s_goIn (d + 1) o A r
    cases hf : sub with
    | none =>
      refine ⟨(fun k s q => ?_), (fun cs' p' t' q => by cases q)⟩
      injection q with q; injection q with q1 q2
      subst q1 q2
      obtain ⟨B, b1, b2⟩ := g2 (h0 hf)
      refine ⟨B, e0 _ ?_, b2.1, b2.2.1, frF_H b2.2.2⟩
      rw [q_X2_pair_28, b1, cI_v, if_pos rfl, q_X2_pair_86]
    | some f =>
      obtain ⟨o6, hG, hQ⟩ := h1 f hf
      obtain ⟨B, b1, b2, b3⟩ := g1 o6
      rw [tk3 c4 (by decide)] at b2
      have b := sgn_1 c4 (by decide) tx
      obtain ⟨s1, s2⟩ := hQ B (stp T L p) false C b2 (CS_R b3 c) (by omega)
      simp only
      have e1 : ∀ R, (cI (runF (d + 4) 37 [vR 12 44 0, vI 3, vI ((o + 1 : Nat) : Int)] B) fun r4 A3 => if r4 = 0 then go true 2 (runF (d + 4)) (runN (d + 4)) pb_X2_pair (fu + 197 + 1) 86 [vR 12 44 0, vI (o : Int)] [] A3 else cI (runF (d + 4) 90 [vR 18 42 0, vI 44] A3) fun r6 A5 => if r6 = 0 then go true 2 (runF (d + 4)) (runN (d + 4)) pb_X2_pair (fu + 197 + 1) 86 [vR 12 44 0, vI (o : Int)] [] A5 else cI (runF (d + 4) 37 [vR 12 44 0, vI 3, vI ((o + 1 : Nat) : Int)] A5) fun r8 A7 => if r8 = 0 then go true 2 (runF (d + 4)) (runN (d + 4)) pb_X2_pair (fu + 197 + 1) 86 [vR 12 44 0, vI (o : Int)] [] A7 else cI (runF (d + 4) 90 [vR 18 42 0, vI 41] A7) fun r10 A9 => if r10 = 0 then go true 2 (runF (d + 4)) (runN (d + 4)) pb_X2_pair (fu + 197 + 1) 86 [vR 12 44 0, vI (o : Int)] [] A9 else some (some (vI 1), A9)) = R → runF (d + 5) 41 [vR 12 44 0, vI (o : Int)] A = R := by
        intro R hR
        refine e0 _ ?_
        rw [q_X2_pair_28, b1, cI_v, if_neg (by omega), wid (by omega) (by omega), show (o : Int) + 1 = ((o + 1 : Nat) : Int) by omega]
        exact hR
      have hz86 : ∀ X, go true 2 (runF (d + 4)) (runN (d + 4)) pb_X2_pair (fu + 197 + 1) 86 [vR 12 44 0, vI (o : Int)] [] X = some (some (vI 0), X) := fun X => by rw [q_X2_pair_86]
      cases hS : sumG T L f (stp T L p) false with
      | error y =>
        obtain ⟨k0, s0⟩ := y
        obtain ⟨D, d1, d2, d3, d4⟩ := s1 k0 s0 hS
        refine ⟨(fun k s q => ?_), (fun cs' p' t' q => by cases q)⟩
        injection q with q; injection q with q1 q2
        subst q1 q2
        refine ⟨D, e1 _ ?_, d2, d3, frH_trans (frR_H b3) d4⟩
        rw [d1, cI_v, if_pos rfl, hz86]
      | ok y =>
        obtain ⟨c3, p3, t3⟩ := y
        obtain ⟨D, d1, d2, d3, d4, d5, d6⟩ := s2 c3 p3 t3 hS
        have a := GP_sum tx hG _ _ _ _ _ sL hS
        simp only
        have k := s_takeSign (d + 1) 44 D d2 (by decide)
        cases hT : tkS T L p3 t3 44 with
        | error y =>
          obtain ⟨k0, s0⟩ := y
          rw [hT] at k
          obtain ⟨E, x1, x2⟩ := k
          refine ⟨(fun k s q => ?_), (fun cs' p' t' q => by cases q)⟩
          injection q with q; injection q with q1 q2
          subst q1 q2
          refine ⟨E, e1 _ ?_, gq_er (T := T) (L := L) (frH_trans (frR_H b3) d6) x2⟩
          rw [d1, cI_v, if_neg (by omega), x1, cI_v, if_pos rfl, hz86]
        | ok y =>
          obtain ⟨p4, t4⟩ := y
          rw [hT] at k
          obtain ⟨E, x1, x2, x3, _⟩ := k
          have kk := tkS_ok hT
          have z2 := stp_L tx a.2.2
          have z := sgn_1 kk.1 (by decide) tx
          have lC : (C ++ c3.map clsC).length = C.length + c3.length := by simp
          obtain ⟨u1, u2⟩ := hQ E p4 t4 (C ++ c3.map clsC) x2 (CS_R x3 d3) (by omega)
          simp only
          cases hS2 : sumG T L f p4 t4 with
          | error y =>
            obtain ⟨k0, s0⟩ := y
            obtain ⟨F, v1, v2, v3, v4⟩ := u1 k0 s0 hS2
            refine ⟨(fun k s q => ?_), (fun cs' p' t' q => by cases q)⟩
            injection q with q; injection q with q1 q2
            subst q1 q2
            refine ⟨F, e1 _ ?_, v2, v3, frH_trans (frR_H b3) (frH_trans d6 (frH_trans (frR_H x3) v4))⟩
            rw [d1, cI_v, if_neg (by omega), x1, cI_v, if_neg (by omega), v1, cI_v, if_pos rfl, hz86]
          | ok y =>
            obtain ⟨c5, p5, t5⟩ := y
            obtain ⟨F, v1, v2, v3, v4, v5, v6⟩ := u2 c5 p5 t5 hS2
            simp only
            have k2 := s_takeSign (d + 1) 41 F v2 (by decide)
            have fF : frH A F := frH_trans (frR_H b3) (frH_trans d6 (frH_trans (frR_H x3) v6))
            cases hT2 : tkS T L p5 t5 41 with
            | error y =>
              obtain ⟨k0, s0⟩ := y
              rw [hT2] at k2
              obtain ⟨G, y1, y2⟩ := k2
              refine ⟨(fun k s q => ?_), (fun cs' p' t' q => by cases q)⟩
              injection q with q; injection q with q1 q2
              subst q1 q2
              refine ⟨G, e1 _ ?_, gq_er (T := T) (L := L) fF y2⟩
              rw [d1, cI_v, if_neg (by omega), x1, cI_v, if_neg (by omega), v1, cI_v, if_neg (by omega), y1, cI_v, if_pos rfl, hz86]
            | ok y =>
              obtain ⟨p6, t6⟩ := y
              rw [hT2] at k2
              obtain ⟨G, y1, y2, y3, _⟩ := k2
              refine ⟨(fun k s q => by cases q), (fun cs' p' t' q => ?_)⟩
              injection q with q; injection q with q1 q2; injection q2 with q2 q3
              subst q1 q2 q3
              refine ⟨G, e1 _ ?_, y2, ?_, ?_, ⟨?_, ?_⟩, frH_trans fF (frR_H y3)⟩
              · rw [d1, cI_v, if_neg (by omega), x1, cI_v, if_neg (by omega), v1, cI_v, if_neg (by omega), y1, cI_v, if_neg (by omega)]
              · rw [List.map_append, ← List.append_assoc]; exact CS_R y3 v3
              · rw [y3.1 44 2 (by omega), v4, x3.1 44 2 (by omega), d4, b3.1 44 2 (by omega), mnU_app]
              · rw [y3.1 42 11 (by omega), v5.1, x3.1 42 11 (by omega), d5.1, b3.1 42 11 (by omega)]
              · rw [y3.1 42 12 (by omega), v5.2, x3.1 42 12 (by omega), d5.2, b3.1 42 12 (by omega)]
  · rw [if_neg c4]
    refine ⟨(fun k s q => ?_), (fun cs' p' t' q => by cases q)⟩
    injection q with q; injection q with q1 q2
    subst q1 q2
    refine ⟨_, ?_, (FL_f A 1 _).1, (FL_f A 1 _).2.1, frF_H (FL_f A 1 (bl T L p)).2.2⟩
    rw [r_X2_pair, q_X2_pair_0, s_isSign (d + 3) 40 A r (by decide), cI_v, decide_eq_false c4, bI_f, if_pos rfl, s_failC, cI_v, if_pos (Or.inl rfl), r.2.1]
