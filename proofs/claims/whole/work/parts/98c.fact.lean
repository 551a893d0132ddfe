/-! tests: the grammar, and the class's walk of it -/
def opT (T : Nat → Int) (L p : Nat) (t : Bool) : Int := if sgn T L p t = 60 then 16 else if sgn T L p t = 62 then 17 else if sgn T L p t = 61 then 18 else -1
def testG (T : Nat → Int) (L : Nat) (fact : Nat → Bool → GR) : Nat → Bool → GR := chainG T L (chainG T L fact 1) 0
def factB (T : Nat → Int) (L : Nat) (part : Nat → Bool → GR) (sub : Option (Nat → Bool → GR)) (p : Nat) (t : Bool) : GR :=
  if wrd T L p t = 27 then (match sub with
    | none => .error (4, bl T L p)
    | some f => match f (stp T L p) true with
      | .error e => .error e
      | .ok (cs, p1, t1) => .ok (cs ++ [21], p1, t1))
  else if sgn T L p t = 91 then (match sub with
    | none => .error (4, bl T L p)
    | some f => match testG T L f (stp T L p) false with
      | .error e => .error e
      | .ok (cs, p1, t1) => match tkS T L p1 t1 93 with
        | .error e => .error e
        | .ok (p2, t2) => .ok (cs, p2, t2))
  else if wrd T L p t = 28 then .ok ([23], stp T L p, true)
  else match sumG T L part p t with
    | .error e => .error e
    | .ok (c1, p1, t1) => if opT T L p1 t1 = -1 then .error (1, bl T L p1) else match sumG T L part (stp T L p1) false with
      | .error e => .error e
      | .ok (c2, p2, t2) => .ok (c1 ++ c2 ++ [opT T L p1 t1], p2, t2)
def factG (T : Nat → Int) (L : Nat) : Nat → Nat → Bool → GR
  | 0 => factB T L (partG T L true 0) none
  | r + 1 => factB T L (partG T L true (r + 1)) (some (factG T L r))
theorem opT_s {T : Nat → Int} {L p : Nat} {t : Bool} (h : opT T L p t ≠ -1) : ∃ c, 0 ≤ c ∧ sgn T L p t = c ∧ clsC (opT T L p t) = opT T L p t ∧ opT T L p t ≠ 7 := by
  unfold opT at h ⊢
  by_cases c1 : sgn T L p t = 60
  · rw [if_pos c1]; exact ⟨60, by decide, c1, by decide, by decide⟩
  · rw [if_neg c1] at h ⊢
    by_cases c2 : sgn T L p t = 62
    · rw [if_pos c2]; exact ⟨62, by decide, c2, by decide, by decide⟩
    · rw [if_neg c2] at h ⊢
      by_cases c3 : sgn T L p t = 61
      · rw [if_pos c3]; exact ⟨61, by decide, c3, by decide, by decide⟩
      · rw [if_neg c3] at h; exact absurd rfl h
theorem GP_test {T : Nat → Int} {L : Nat} (tx : TX T L) {sub : Nat → Bool → GR} (hs : GP L sub) : GP L (testG T L sub) := GP_chain tx (GP_chain tx hs 1) 0
theorem GP_fact {T : Nat → Int} {L : Nat} (tx : TX T L) {part : Nat → Bool → GR} (hG : GP L part) {sub : Option (Nat → Bool → GR)} (hs : ∀ f, sub = some f → GP L f) : GP L (factB T L part sub) := by
  intro p t cs p' t' hp e
  unfold factB at e
  have sL := stp_L tx hp
  by_cases c1 : wrd T L p t = 27
  · rw [if_pos c1] at e
    cases hf : sub with
    | none => rw [hf] at e; cases e
    | some f =>
      rw [hf] at e
      simp only at e
      cases hS : f (stp T L p) true with
      | error x => rw [hS] at e; cases e
      | ok x =>
        obtain ⟨c3', p3, t3⟩ := x
        rw [hS] at e
        injection e with e; injection e with e1 e2; injection e2 with e2 e3
        have a := hs f hf _ _ _ _ _ sL hS
        have b := wrd_1 (T := T) (L := L) (p := p) (t := t) (by omega) tx
        subst e1 e2
        refine ⟨by simp, ?_, by omega⟩
        simp only [List.length_append, List.length_cons, List.length_nil]
        omega
  · rw [if_neg c1] at e
    by_cases c2 : sgn T L p t = 91
    · rw [if_pos c2] at e
      cases hf : sub with
      | none => rw [hf] at e; cases e
      | some f =>
        rw [hf] at e
        simp only at e
        cases hS : testG T L f (stp T L p) false with
        | error x => rw [hS] at e; cases e
        | ok x =>
          obtain ⟨c3, p3, t3⟩ := x
          rw [hS] at e
          simp only at e
          cases hT : tkS T L p3 t3 93 with
          | error x => rw [hT] at e; cases e
          | ok x =>
            obtain ⟨p4, t4⟩ := x
            rw [hT] at e
            injection e with e; injection e with e1 e2; injection e2 with e2 e3
            have a := GP_test tx (hs f hf) _ _ _ _ _ sL hS
            have b := sgn_1 c2 (by decide) tx
            have k := tkS_ok hT
            have z := sgn_1 k.1 (by decide) tx
            have z2 := stp_L tx a.2.2
            subst e1 e2
            exact ⟨a.1, by omega, by omega⟩
    · rw [if_neg c2] at e
      by_cases c3 : wrd T L p t = 28
      · rw [if_pos c3] at e
        injection e with e; injection e with e1 e2; injection e2 with e2 e3
        have b := wrd_1 (T := T) (L := L) (p := p) (t := t) (by omega) tx
        subst e1 e2
        exact ⟨by simp, by simp; omega, by omega⟩
      · rw [if_neg c3] at e
        cases hS : sumG T L part p t with
        | error x => rw [hS] at e; cases e
        | ok x =>
          obtain ⟨c5, p5, t5⟩ := x
          rw [hS] at e
          simp only at e
          have a := GP_sum tx hG _ _ _ _ _ hp hS
          by_cases c6 : opT T L p5 t5 = -1
          · rw [if_pos c6] at e; cases e
          · rw [if_neg c6] at e
            obtain ⟨c, hc, hcs, _⟩ := opT_s c6
            have b := sgn_1 hcs hc tx
            have sL5 := stp_L tx a.2.2
            cases hS2 : sumG T L part (stp T L p5) false with
            | error x => rw [hS2] at e; cases e
            | ok x =>
              obtain ⟨c7, p7, t7⟩ := x
              rw [hS2] at e
              injection e with e; injection e with e1 e2; injection e2 with e2 e3
              have a2 := GP_sum tx hG _ _ _ _ _ sL5 hS2
              subst e1 e2
              refine ⟨by simp; omega, ?_, by omega⟩
              simp only [List.length_append, List.length_cons, List.length_nil]
              omega
theorem GP_factG {T : Nat → Int} {L : Nat} (tx : TX T L) : ∀ r, GP L (factG T L r)
  | 0 => GP_fact tx (GP_partG tx true 0) (fun f h => by cases h)
  | r + 1 => GP_fact tx (GP_partG tx true (r + 1)) (fun f h => by injection h with h; rw [← h]; exact GP_factG tx r)
theorem mnU_1 {m : Int} {cs : List Int} {v : Int} (hm : m = 0 ∨ m = 1) (hv : v ≠ 7) : mnU m (cs ++ [v]) = mnU m cs := by
  rw [← mnU_app]
  have := mnU_01 m cs
  unfold mnU at this ⊢
  by_cases z : m = 1 ∨ 7 ∈ cs
  · rw [if_pos z, if_pos (Or.inl rfl)]
  · rw [if_neg z, if_neg]
    intro y
    rcases y with y | y
    · omega
    · rw [List.mem_singleton] at y; exact hv y.symm
theorem C_two (d : Nat) {T : Nat → Int} {L : Nat} {ask : Bool} (x : Int) {sub : Nat → Bool → GR} (hs : GQ T L ask (runF (d + 1) 39 [vR 12 44 0, vI x]) sub) : GQ T L ask (runF (d + 2) 37 [vR 12 44 0, vI 2, vI x]) sub := by
  intro A p t C r c hC
  obtain ⟨s1, s2⟩ := hs A p t C r c hC
  have e0 : runF (d + 2) 37 [vR 12 44 0, vI 2, vI x] A = cI (runF (d + 1) 39 [vR 12 44 0, vI x] A) fun r4 A3 => if r4 = 0 ∨ r4 = 1 then some (some (vI r4), A3) else none := by
    rw [r_X2_chain, q_X2_chain_0, if_pos rfl]
  refine ⟨fun k s q => ?_, fun cs' p' t' q => ?_⟩
  · obtain ⟨B, b1, b2⟩ := s1 k s q
    exact ⟨B, by rw [e0, b1, cI_v, if_pos (Or.inl rfl)], b2⟩
  · obtain ⟨B, b1, b2⟩ := s2 cs' p' t' q
    exact ⟨B, by rw [e0, b1, cI_v, if_pos (Or.inr rfl)], b2⟩
theorem C_test (d : Nat) {T : Nat → Int} {L : Nat} {ask : Bool} (tx : TX T L) (x : Int) {sub : Nat → Bool → GR} (hG : GP L sub) (hs : GQ T L ask (runF (d + 1) 39 [vR 12 44 0, vI x]) sub) : GQ T L ask (runF (d + 4) 37 [vR 12 44 0, vI 0, vI x]) (testG T L sub) := C_chain (d + 1) tx 0 x (by omega) (GP_chain tx hG 1) (C_chain d tx 1 x (by omega) hG (C_two d x hs))
theorem C_factB (d : Nat) {T : Nat → Int} {L : Nat} {ask : Bool} (tx : TX T L) (o : Nat) {part : Nat → Bool → GR} (hGp : GP L part) (hP : GQ T L ask (runF (d + 5) 37 [vR 12 44 0, vI 3, vI (o : Int)]) (sumG T L part)) (sub : Option (Nat → Bool → GR)) (h0 : sub = none → 6 ≤ o) (h1 : ∀ f, sub = some f → o < 6 ∧ GP L f ∧ GQ T L ask (runF (d + 5) 37 [vR 12 44 0, vI 0, vI ((o + 1 : Nat) : Int)]) (testG T L f) ∧ GQ T L ask (runF (d + 5) 39 [vR 12 44 0, vI ((o + 1 : Nat) : Int)]) f) : GQ T L ask (runF (d + 6) 39 [vR 12 44 0, vI (o : Int)]) (factB T L part sub) := by
  intro A p t C r c hC
  have hp := r.1.2.2.2.2.2
  have tL := tx.1
  have sL := stp_L tx hp
  unfold factB
  obtain ⟨gI1, gI2⟩ := s_goIn (d + 2) o A r
  by_cases c1 : wrd T L p t = 27
  · rw [if_pos c1]
    have hz : ∀ X, go true 2 (runF (d + 5)) (runN (d + 5)) pb_X2_fact (fu + 198 + 1) 44 [vR 12 44 0, vI (o : Int), vU] [] X = some (some (vI 0), X) := fun X => by rw [q_X2_fact_44]
    have kn := wrd_k (T := T) (L := L) (p := p) (t := t) (by omega)
    have e0 : ∀ R, (cI (runF (d + 5) 36 [vR 12 44 0, vI (o : Int)] A) fun r2 A1 => if r2 = 0 then go true 2 (runF (d + 5)) (runN (d + 5)) pb_X2_fact (fu + 198 + 1) 44 [vR 12 44 0, vI (o : Int), vU] [] A1 else cI (runF (d + 5) 39 [vR 12 44 0, vI (w32 ((o : Int) + 1))] A1) fun r4 A3 => if r4 = 0 then go true 2 (runF (d + 5)) (runN (d + 5)) pb_X2_fact (fu + 198 + 1) 44 [vR 12 44 0, vI (o : Int), vU] [] A3 else cI (runF (d + 5) 35 [vR 12 44 0, vI 21] A3) fun r6 A5 => if r6 = 0 then go true 2 (runF (d + 5)) (runN (d + 5)) pb_X2_fact (fu + 198 + 1) 44 [vR 12 44 0, vI (o : Int), vU] [] A5 else some (some (vI 1), A5)) = R → runF (d + 6) 39 [vR 12 44 0, vI (o : Int)] A = R := by
      intro R hR
      rw [r_X2_fact, q_X2_fact_0, r.2.2.2.2.1, if_pos c1]
      exact hR
    cases hf : sub with
    | none =>
      refine ⟨(fun k s q => ?_), (fun cs' p' t' q => by cases q)⟩
      injection q with q; injection q with q1 q2
      subst q1 q2
      obtain ⟨B, b1, b2⟩ := gI2 (h0 hf)
      refine ⟨B, e0 _ ?_, b2.1, b2.2.1, frF_H b2.2.2⟩
      rw [b1, cI_v, if_pos rfl, hz]
    | some f =>
      obtain ⟨o6, hG, _, hQ⟩ := h1 f hf
      obtain ⟨B, b1, b2, b3⟩ := gI1 o6
      rw [show tk T L p t = true by unfold tk; rw [kn]; decide] at b2
      have b := wrd_1 (T := T) (L := L) (p := p) (t := t) (by omega) tx
      obtain ⟨s1, s2⟩ := hQ B (stp T L p) true C b2 (CS_R b3 c) (by omega)
      have eo : w32 ((o : Int) + 1) = ((o + 1 : Nat) : Int) := by rw [wid (by omega) (by omega)]; omega
      rw [eo] at e0
      simp only
      cases hS : f (stp T L p) true with
      | error y =>
        obtain ⟨k0, s0⟩ := y
        obtain ⟨D, d1, d2, d3, d4⟩ := s1 k0 s0 hS
        refine ⟨(fun k s q => ?_), (fun cs' p' t' q => by cases q)⟩
        injection q with q; injection q with q1 q2
        subst q1 q2
        refine ⟨D, e0 _ ?_, d2, d3, frH_trans (frR_H b3) d4⟩
        rw [b1, cI_v, if_neg (by omega), d1, cI_v, if_pos rfl, hz]
      | ok y =>
        obtain ⟨c5, p4, t4⟩ := y
        obtain ⟨D, d1, d2, d3, d4, d5, d6⟩ := s2 c5 p4 t4 hS
        have a := hG _ _ _ _ _ sL hS
        have lC : (C ++ c5.map clsC).length = C.length + c5.length := by simp
        obtain ⟨E, x1, x2, x3, x4, x5, x6⟩ := s_emit (d + 4) 21 D (C ++ c5.map clsC) d2 d3 (by omega)
        refine ⟨(fun k s q => by cases q), (fun cs' p' t' q => ?_)⟩
        injection q with q; injection q with q1 q2; injection q2 with q2 q3
        subst q1 q2 q3
        refine ⟨E, e0 _ ?_, x2, ?_, ?_, ⟨?_, ?_⟩, frH_trans (frR_H b3) (frH_trans d6 x6)⟩
        · rw [b1, cI_v, if_neg (by omega), d1, cI_v, if_neg (by omega), x1, cI_v, if_neg (by omega)]
        · rw [List.map_append, ← List.append_assoc]
          exact x3
        · rw [x4, d4, b3.1 44 2 (by omega), mnU_1 c.2.1 (by decide)]
        · rw [x5.1, d5.1, b3.1 42 11 (by omega)]
        · rw [x5.2, d5.2, b3.1 42 12 (by omega)]
  · rw [if_neg c1]
    have e46 : ∀ R, go true 2 (runF (d + 5)) (runN (d + 5)) pb_X2_fact (fu + 197 + 2) 46 [vR 12 44 0, vI (o : Int), vU] [] A = R → runF (d + 6) 39 [vR 12 44 0, vI (o : Int)] A = R := by
      intro R hR
      rw [r_X2_fact, q_X2_fact_0, r.2.2.2.2.1, if_neg c1]
      exact hR
    by_cases c2 : sgn T L p t = 91
    · rw [if_pos c2]
      have hz : ∀ X, go true 2 (runF (d + 5)) (runN (d + 5)) pb_X2_fact (fu + 197 + 1) 93 [vR 12 44 0, vI (o : Int), vU] [] X = some (some (vI 0), X) := fun X => by rw [q_X2_fact_93]
      cases hf : sub with
      | none =>
        refine ⟨(fun k s q => ?_), (fun cs' p' t' q => by cases q)⟩
        injection q with q; injection q with q1 q2
        subst q1 q2
        obtain ⟨B, b1, b2⟩ := gI2 (h0 hf)
        refine ⟨B, e46 _ ?_, b2.1, b2.2.1, frF_H b2.2.2⟩
        rw [q_X2_fact_46, s_isSign (d + 4) 91 A r (by decide), cI_v, decide_eq_true c2, bI_t, if_neg (by omega), b1, cI_v, if_pos rfl, hz]
      | some f =>
        obtain ⟨o6, hG, hQ, _⟩ := h1 f hf
        obtain ⟨B, b1, b2, b3⟩ := gI1 o6
        rw [tk3 c2 (by decide)] at b2
        have b := sgn_1 c2 (by decide) tx
        obtain ⟨s1, s2⟩ := hQ B (stp T L p) false C b2 (CS_R b3 c) (by omega)
        simp only
        have e1 : ∀ R, (cI (runF (d + 5) 37 [vR 12 44 0, vI 0, vI ((o + 1 : Nat) : Int)] B) fun r6 A5 => if r6 = 0 then go true 2 (runF (d + 5)) (runN (d + 5)) pb_X2_fact (fu + 197 + 1) 93 [vR 12 44 0, vI (o : Int), vU] [] A5 else cI (runF (d + 5) 90 [vR 18 42 0, vI 93] A5) fun r8 A7 => if r8 = 0 then go true 2 (runF (d + 5)) (runN (d + 5)) pb_X2_fact (fu + 197 + 1) 93 [vR 12 44 0, vI (o : Int), vU] [] A7 else some (some (vI 1), A7)) = R → runF (d + 6) 39 [vR 12 44 0, vI (o : Int)] A = R := by
          intro R hR
          refine e46 _ ?_
          rw [q_X2_fact_46, s_isSign (d + 4) 91 A r (by decide), cI_v, decide_eq_true c2, bI_t, if_neg (by omega), b1, cI_v, if_neg (by omega), wid (by omega) (by omega), show (o : Int) + 1 = ((o + 1 : Nat) : Int) by omega]
          exact hR
        cases hS : testG T L f (stp T L p) false with
        | error y =>
          obtain ⟨k0, s0⟩ := y
          obtain ⟨D, d1, d2, d3, d4⟩ := s1 k0 s0 hS
          refine ⟨(fun k s q => ?_), (fun cs' p' t' q => by cases q)⟩
          injection q with q; injection q with q1 q2
          subst q1 q2
          refine ⟨D, e1 _ ?_, d2, d3, frH_trans (frR_H b3) d4⟩
          rw [d1, cI_v, if_pos rfl, hz]
        | ok y =>
          obtain ⟨c3, p3, t3⟩ := y
          obtain ⟨D, d1, d2, d3, d4, d5, d6⟩ := s2 c3 p3 t3 hS
          simp only
          have k := s_takeSign (d + 2) 93 D d2 (by decide)
          cases hT : tkS T L p3 t3 93 with
          | error y =>
            obtain ⟨k0, s0⟩ := y
            rw [hT] at k
            obtain ⟨E, x1, x2⟩ := k
            refine ⟨(fun k s q => ?_), (fun cs' p' t' q => by cases q)⟩
            injection q with q; injection q with q1 q2
            subst q1 q2
            refine ⟨E, e1 _ ?_, gq_er (T := T) (L := L) (frH_trans (frR_H b3) d6) x2⟩
            rw [d1, cI_v, if_neg (by omega), x1, cI_v, if_pos rfl, hz]
          | ok y =>
            obtain ⟨p4, t4⟩ := y
            rw [hT] at k
            obtain ⟨E, x1, x2, x3, _⟩ := k
            refine ⟨(fun k s q => by cases q), (fun cs' p' t' q => ?_)⟩
            injection q with q; injection q with q1 q2; injection q2 with q2 q3
            subst q1 q2 q3
            refine ⟨E, e1 _ ?_, x2, CS_R x3 d3, ?_, ⟨?_, ?_⟩, frH_trans (frR_H b3) (frH_trans d6 (frR_H x3))⟩
            · rw [d1, cI_v, if_neg (by omega), x1, cI_v, if_neg (by omega)]
            · rw [x3.1 44 2 (by omega), d4, b3.1 44 2 (by omega)]
            · rw [x3.1 42 11 (by omega), d5.1, b3.1 42 11 (by omega)]
            · rw [x3.1 42 12 (by omega), d5.2, b3.1 42 12 (by omega)]
    · rw [if_neg c2]
      by_cases c3 : wrd T L p t = 28
      · rw [if_pos c3]
        obtain ⟨B, b1, b2, _, b4⟩ := s_stepR (d + 3) A r
        have kn := wrd_k (T := T) (L := L) (p := p) (t := t) (by omega)
        rw [show tk T L p t = true by unfold tk; rw [kn]; decide] at b2
        have b := wrd_1 (T := T) (L := L) (p := p) (t := t) (by omega) tx
        obtain ⟨E, x1, x2, x3, x4, x5, x6⟩ := s_emit (d + 4) 101 B C b2 (CS_R b4 c) (by omega)
        refine ⟨(fun k s q => by cases q), (fun cs' p' t' q => ?_)⟩
        injection q with q; injection q with q1 q2; injection q2 with q2 q3
        subst q1 q2 q3
        refine ⟨E, e46 _ ?_, x2, x3, ?_, ⟨?_, ?_⟩, frH_trans (frR_H b4) x6⟩
        · rw [q_X2_fact_46, s_isSign (d + 4) 91 A r (by decide), cI_v, decide_eq_false c2, bI_f, if_pos rfl, r.2.2.2.2.1, if_pos c3, b1, cV_v, x1, cI_v, if_pos (Or.inr rfl)]
        · rw [x4, b4.1 44 2 (by omega), ← List.nil_append [(23 : Int)], mnU_1 c.2.1 (by decide), mnU_nil c.2.1]
        · rw [x5.1, b4.1 42 11 (by omega)]
        · rw [x5.2, b4.1 42 12 (by omega)]
      · rw [if_neg c3]
        obtain ⟨s1, s2⟩ := hP A p t C r c hC
        have e122 : ∀ R, go true 2 (runF (d + 5)) (runN (d + 5)) pb_X2_fact (fu + 192 + 5) 122 [vR 12 44 0, vI (o : Int), vU] [] A = R → runF (d + 6) 39 [vR 12 44 0, vI (o : Int)] A = R := by
          intro R hR
          refine e46 _ ?_
          rw [q_X2_fact_46, s_isSign (d + 4) 91 A r (by decide), cI_v, decide_eq_false c2, bI_f, if_pos rfl, r.2.2.2.2.1, if_neg c3]
          exact hR
        cases hS : sumG T L part p t with
        | error y =>
          obtain ⟨k0, s0⟩ := y
          obtain ⟨D, d1, d2, d3, d4⟩ := s1 k0 s0 hS
          refine ⟨(fun k s q => ?_), (fun cs' p' t' q => by cases q)⟩
          injection q with q; injection q with q1 q2
          subst q1 q2
          refine ⟨D, e122 _ ?_, d2, d3, d4⟩
          rw [q_X2_fact_122, d1, cI_v, if_pos rfl]
        | ok y =>
          obtain ⟨c5, p5, t5⟩ := y
          obtain ⟨D, d1, d2, d3, d4, d5, d6⟩ := s2 c5 p5 t5 hS
          have a := GP_sum tx hGp _ _ _ _ _ hp hS
          simp only
          have e185 : ∃ n, ∀ R, go true 2 (runF (d + 5)) (runN (d + 5)) pb_X2_fact (n + 4) 185 [vR 12 44 0, vI (o : Int), vU] [vI (opT T L p5 t5)] D = R → runF (d + 6) 39 [vR 12 44 0, vI (o : Int)] A = R := by
            have hq := q_X2_fact_122 (runF (d + 5)) (runN (d + 5)) (fu + 192) (o : Int) vU A
            rw [d1, cI_v, if_neg (by omega), s_isSign (d + 4) 60 D d2 (by decide), cI_v] at hq
            unfold opT
            by_cases z1 : sgn T L p5 t5 = 60
            · rw [decide_eq_true z1, bI_t, if_neg (by omega)] at hq
              rw [if_pos z1]
              exact ⟨fu + 191, fun R hR => e122 R (hq.trans hR)⟩
            · rw [decide_eq_false z1, bI_f, if_pos rfl, s_isSign (d + 4) 62 D d2 (by decide), cI_v] at hq
              rw [if_neg z1]
              by_cases z2 : sgn T L p5 t5 = 62
              · rw [decide_eq_true z2, bI_t, if_neg (by omega)] at hq
                rw [if_pos z2]
                exact ⟨fu + 190, fun R hR => e122 R (hq.trans hR)⟩
              · rw [decide_eq_false z2, bI_f, if_pos rfl, s_isSign (d + 4) 61 D d2 (by decide), cI_v] at hq
                rw [if_neg z2]
                by_cases z3 : sgn T L p5 t5 = 61
                · rw [decide_eq_true z3, bI_t, if_neg (by omega)] at hq
                  rw [if_pos z3]
                  exact ⟨fu + 189, fun R hR => e122 R (hq.trans hR)⟩
                · rw [decide_eq_false z3, bI_f, if_pos rfl] at hq
                  rw [if_neg z3]
                  exact ⟨fu + 188, fun R hR => e122 R (hq.trans hR)⟩
          obtain ⟨n, e185⟩ := e185
          by_cases c6 : opT T L p5 t5 = -1
          · rw [if_pos c6]
            refine ⟨(fun k s q => ?_), (fun cs' p' t' q => by cases q)⟩
            injection q with q; injection q with q1 q2
            subst q1 q2
            refine ⟨_, e185 _ ?_, (FL_f D 1 _).1, (FL_f D 1 _).2.1, frH_trans d6 (frF_H (FL_f D 1 (bl T L p5)).2.2)⟩
            rw [q_X2_fact_185, if_pos c6, s_failC, cI_v, if_pos (Or.inl rfl), d2.2.1]
          · rw [if_neg c6]
            obtain ⟨cc, hc, hcs, o1, o2⟩ := opT_s c6
            obtain ⟨B, b1, b2, _, b4⟩ := s_stepR (d + 3) D d2
            rw [tk3 hcs hc] at b2
            have b := sgn_1 hcs hc tx
            have sL5 := stp_L tx a.2.2
            have lC : (C ++ c5.map clsC).length = C.length + c5.length := by simp
            obtain ⟨u1, u2⟩ := hP B (stp T L p5) false (C ++ c5.map clsC) b2 (CS_R b4 d3) (by omega)
            cases hS2 : sumG T L part (stp T L p5) false with
            | error y =>
              obtain ⟨k0, s0⟩ := y
              obtain ⟨F, v1, v2, v3, v4⟩ := u1 k0 s0 hS2
              refine ⟨(fun k s q => ?_), (fun cs' p' t' q => by cases q)⟩
              injection q with q; injection q with q1 q2
              subst q1 q2
              refine ⟨F, e185 _ ?_, v2, v3, frH_trans d6 (frH_trans (frR_H b4) v4)⟩
              rw [q_X2_fact_185, if_neg c6, b1, cV_v, v1, cI_v, if_pos rfl, q_X2_fact_235]
            | ok y =>
              obtain ⟨c7, p7, t7⟩ := y
              obtain ⟨F, v1, v2, v3, v4, v5, v6⟩ := u2 c7 p7 t7 hS2
              have a2 := GP_sum tx hGp _ _ _ _ _ sL5 hS2
              have lC2 : (C ++ c5.map clsC ++ c7.map clsC).length = C.length + c5.length + c7.length := by simp; omega
              obtain ⟨E, x1, x2, x3, x4, x5, x6⟩ := s_emit (d + 4) (opT T L p5 t5) F (C ++ c5.map clsC ++ c7.map clsC) v2 v3 (by omega)
              refine ⟨(fun k s q => by cases q), (fun cs' p' t' q => ?_)⟩
              injection q with q; injection q with q1 q2; injection q2 with q2 q3
              subst q1 q2 q3
              refine ⟨E, e185 _ ?_, x2, ?_, ?_, ⟨?_, ?_⟩, frH_trans d6 (frH_trans (frR_H b4) (frH_trans v6 x6))⟩
              · rw [q_X2_fact_185, if_neg c6, b1, cV_v, v1, cI_v, if_neg (by omega), x1, cI_v, if_neg (by omega)]
              · have ec : C ++ c5.map clsC ++ c7.map clsC ++ [opT T L p5 t5] = C ++ (c5 ++ c7 ++ [opT T L p5 t5]).map clsC := by
                  simp only [List.map_append, List.map_cons, List.map_nil, o1, List.append_assoc]
                rw [← ec]; exact x3
              · rw [x4, v4, b4.1 44 2 (by omega), d4, mnU_app, mnU_1 c.2.1 o2]
              · rw [x5.1, v5.1, b4.1 42 11 (by omega), d5.1]
              · rw [x5.2, v5.2, b4.1 42 12 (by omega), d5.2]
theorem C_fact {T : Nat → Int} {L : Nat} (tx : TX T L) : ∀ (r : Nat), r ≤ 6 → ∀ D, 6 * r + 12 ≤ D → GQ T L true (runF D 39 [vR 12 44 0, vI ((6 - r : Nat) : Int)]) (factG T L r)
  | 0, _, D, hD => by
    obtain ⟨d, rfl⟩ : ∃ d, D = d + 6 := ⟨D - 6, by omega⟩
    exact C_factB d tx 6 (GP_partG tx true 0) (C_sum (d + 1) tx _ (GP_partG tx true 0) (C_part tx 0 (by omega) (d + 2) (by omega))) none (fun _ => Nat.le_refl _) (fun f h => by cases h)
  | r + 1, hr, D, hD => by
    obtain ⟨d, rfl⟩ : ∃ d, D = d + 6 := ⟨D - 6, by omega⟩
    have ih := C_fact tx r (by omega)
    have eo : 6 - (r + 1) + 1 = 6 - r := by omega
    refine C_factB d tx (6 - (r + 1)) (GP_partG tx true (r + 1)) (C_sum (d + 1) tx _ (GP_partG tx true (r + 1)) (C_part tx (r + 1) (by omega) (d + 2) (by omega))) (some (factG T L r)) (fun h => by cases h) (fun f h => ?_)
    injection h with h
    subst h
    rw [eo]
    exact ⟨by omega, GP_factG tx r, C_test (d + 1) tx _ (GP_factG tx r) (ih (d + 2) (by omega)), ih (d + 5) (by omega)⟩
